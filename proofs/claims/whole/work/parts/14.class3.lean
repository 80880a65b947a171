/-! THE CLASS: playing -/
/-- what a work v puts, done for client c, with an age: the first k registers -/
def apR (c : Nat) (v : Nat → Int32) (age : Int32) : Nat → sg → sg
  | 0, σ => σ
  | k + 1, σ => if v (10 + k) = 0 then apR c v age k σ else up2 (up2 (apR c v age k σ) (20 + c) k (v (14 + k))) (24 + c) k age
theorem apR_off {c : Nat} {v : Nat → Int32} {age : Int32} {i : Nat} (h1 : i ≠ 20 + c) (h2 : i ≠ 24 + c) : ∀ (k : Nat) (σ : sg), apR c v age k σ i = σ i
  | 0, σ => rfl
  | k + 1, σ => by
    unfold apR
    split
    · exact apR_off h1 h2 k σ
    · rw [up2_n h2, up2_n h1]; exact apR_off h1 h2 k σ
set_option maxHeartbeats 4000000 in
set_option maxRecDepth 10000 in
theorem ct_apply {G : mt_G} {μ φ : mu_M} {ad : Nat → Nat} {g : dg} {σ : sg} {δ : dg} (hC : Cx G μ φ ad g σ δ) {c w : Nat} {v : Nat → Int32} {age : Int32} (hc : c < 4) (hw : FW G φ w v) :
    CT G M_Client_apply [.ref (ad (16 + c)), .ref w, .int age] μ
      (fun x μ' => x = some (.int (if am (fun k => v (2 + k)) (fun k => v (6 + k)) (σ (24 + c)) = true then 1 else 0)) ∧ Cx G μ' φ ad g (if am (fun k => v (2 + k)) (fun k => v (6 + k)) (σ (24 + c)) = true then apR c v age 4 σ else σ) δ) (fun _ _ => False) := by
  have hR := hC.R
  obtain ⟨a0, a1, a2, a3, f0, f1, f2, f3, w0, w1, w2, w3, w4, wf⟩ := hw
  have ham : am f0 f1 (σ (24 + c)) = am (fun k => v (2 + k)) (fun k => v (6 + k)) (σ (24 + c)) := by
    rw [Bool.eq_iff_iff, am_iff, am_iff]
    constructor
    · intro h k hk; have := h k hk; rw [(wf k hk).1, (wf k hk).2.1] at this; exact this
    · intro h k hk; rw [(wf k hk).1, (wf k hk).2.1]; exact h k hk
  rw [← ham]
  refine CT.of (by decide) rfl (Nat.le_of_ble_eq_true rfl) ?_
  refine wp_aload_n d_Client_apply_0 rfl rfl ?_
  refine wp_aload_n d_Client_apply_1 rfl rfl ?_
  refine wx_callV d_Client_apply_2 cv_Client_44 cd_Client_agesMatch ⟨by decide, by decide⟩ (ct_agesMatch G μ _ 0 _ w a0 a1 _ _ _ _ _ _ _ f0 f1 _ (hR.cli hc) (hR.age hc) (hC.at w0) (hC.at w1) (hC.at w2)) (by exact hR.cli hc) rfl rfl (Nat.le_of_ble_eq_true rfl) (Nat.le_of_ble_eq_true rfl) (Nat.le_of_ble_eq_true rfl) (fun E1 μ1 hq => WX.out rfl (no_hd _) (Nat.le_of_ble_eq_true rfl) (Nat.le_of_ble_eq_true rfl) ?_) (fun v1 μ1 hq => ?_)
  · exact hq.elim
  · obtain ⟨rfl, rfl⟩ := hq
    refine wp_if_ne (tgt := 10) d_Client_apply_5 (by decide) (fun c5 => ?_) (fun c5 => ?_)
    · have hm : am f0 f1 (σ (24 + c)) = true := by
        by_cases hm : am f0 f1 (σ (24 + c)) = true
        · exact hm
        · rw [if_neg hm] at c5; exact absurd rfl c5
      rw [hm]
      refine wp_iconst (v := 0) d_Client_apply_10 (by decide) ?_
      refine wp_istore_n d_Client_apply_11 rfl (by decide) ?_
      have loop : ∀ (n i : Nat) (μ1 : mu_M), i + n = 4 → Cx G μ1 φ ad g (apR c v age i σ) δ → WP G M_Client_apply (EC G M_Client_apply (fun x μ' => x = some (.int (if true = true then 1 else 0)) ∧ Cx G μ' φ ad g (if true = true then apR c v age 4 σ else σ) δ) (fun _ _ => False)) [(0, .ref (ad (16 + c))), (1, .ref w), (2, .int age), (3, .int (nI i))] 12 [] μ1 0 0 := by
        intro n
        induction n with
        | zero =>
          intro i μ1 hi hC1
          obtain rfl : i = 4 := by omega
          refine wp_iload_n d_Client_apply_12 rfl rfl ?_
          refine wp_iconst (v := 4) d_Client_apply_13 (by decide) ?_
          refine wp_icmp_ge (tgt := 51) d_Client_apply_14 (by decide) (fun c14 => ?_) (fun c14 => ?_)
          · refine wp_iconst (v := 1) d_Client_apply_51 (by decide) ?_
            exact wp_zret d_Client_apply_52 rfl rfl (by decide) (by decide) ⟨rfl, hC1⟩
          · exact absurd (by decide) c14
        | succ n ih =>
          intro i μ1 hi hC1
          have hR1 := hC1.R
          refine wp_iload_n d_Client_apply_12 rfl rfl ?_
          refine wp_iconst (v := 4) d_Client_apply_13 (by decide) ?_
          refine wp_icmp_ge (tgt := 51) d_Client_apply_14 (by decide) (fun c14 => ?_) (fun c14 => ?_)
          · exact absurd ((nI_leI (a := 4) (by omega) (by omega)).mp c14) (by omega)
          refine wp_aload_n d_Client_apply_17 rfl rfl ?_
          refine wp_get d_Client_apply_18 fl_Client_48 (by first | exact hR1.cli hc | exact hC1.at w0 | exact hC1.at w3 | exact hC1.at w4 | exact hR1.val hc | exact hR1.age hc) (by rfl) ?_
          refine wp_iload_n d_Client_apply_21 rfl rfl ?_
          refine wp_zald d_Client_apply_22 (by first | exact hR1.cli hc | exact hC1.at w0 | exact hC1.at w3 | exact hC1.at w4 | exact hR1.val hc | exact hR1.age hc) (by rfl) (by omega) (by omega) ?_
          refine wp_if_eq (tgt := 45) d_Client_apply_23 (by decide) (fun c23 => ?_) (fun c23 => ?_)
          · refine wp_iinc d_Client_apply_45 rfl rfl (by decide) ?_
            refine wp_goto (tgt := 12) d_Client_apply_48 (by decide) ?_
            refine WP.loc [(0, .ref (ad (16 + c))), (1, .ref w), (2, .int age), (3, .int (nI (i + 1)))] (by rw [← nI_1 i]; rfl) (ih (i + 1) μ1 (by omega) ?_)
            rw [apR, if_pos (by rw [← (wf i (by omega)).2.2.1]; exact c23)]
            exact hC1
          · refine wp_aload_n d_Client_apply_26 rfl rfl ?_
            refine wp_get d_Client_apply_27 fl_Client_9 (by first | exact hR1.cli hc | exact hC1.at w0 | exact hC1.at w3 | exact hC1.at w4 | exact hR1.val hc | exact hR1.age hc) (by rfl) ?_
            refine wp_iload_n d_Client_apply_30 rfl rfl ?_
            refine wp_aload_n d_Client_apply_31 rfl rfl ?_
            refine wp_get d_Client_apply_32 fl_Client_51 (by first | exact hR1.cli hc | exact hC1.at w0 | exact hC1.at w3 | exact hC1.at w4 | exact hR1.val hc | exact hR1.age hc) (by rfl) ?_
            refine wp_iload_n d_Client_apply_35 rfl rfl ?_
            refine wp_iald d_Client_apply_36 (by first | exact hR1.cli hc | exact hC1.at w0 | exact hC1.at w3 | exact hC1.at w4 | exact hR1.val hc | exact hR1.age hc) (by rfl) (by omega) (by omega) ?_
            refine wp_iast d_Client_apply_37 (by first | exact hR1.cli hc | exact hC1.at w0 | exact hC1.at w3 | exact hC1.at w4 | exact hR1.val hc | exact hR1.age hc) (by exact hC1.B (by omega)) (by rfl) (by omega) (by omega) ?_
            have hC2 := hC1.reg (by omega) (hR1.pInt (i := 20 + c) (k := i) (x := f3 i) (by omega) (Or.inl (by omega))) (hC1.z.up (by omega))
            have hR2 := hC2.R
            refine wp_aload_n d_Client_apply_38 rfl rfl ?_
            refine wp_get d_Client_apply_39 fl_Client_15 (by first | exact hR2.cli hc | exact hR2.age hc) (by rfl) ?_
            refine wp_iload_n d_Client_apply_42 rfl rfl ?_
            refine wp_iload_n d_Client_apply_43 rfl rfl ?_
            refine wp_iast d_Client_apply_44 (by first | exact hR2.cli hc | exact hR2.age hc) (by exact hC1.B (by omega)) (by rfl) (by omega) (by omega) ?_
            refine wp_iinc d_Client_apply_45 rfl rfl (by decide) ?_
            refine wp_goto (tgt := 12) d_Client_apply_48 (by decide) ?_
            have hC3 := hC2.reg (by omega) (hR2.pInt (i := 24 + c) (k := i) (x := age) (by omega) (Or.inl (by omega))) (hC2.z.up (by omega))
            refine WP.loc [(0, .ref (ad (16 + c))), (1, .ref w), (2, .int age), (3, .int (nI (i + 1)))] (by rw [← nI_1 i]; rfl) (ih (i + 1) _ (by omega) ?_)
            rw [apR, if_neg (by rw [← (wf i (by omega)).2.2.1]; exact c23), ← (wf i (by omega)).2.2.2]
            exact hC3
      exact WP.loc _ rfl (loop 4 0 μ1 rfl hC)
    · have hm : ¬ am f0 f1 (σ (24 + c)) = true := fun hm => by rw [if_pos hm] at c5; exact absurd c5 (by decide)
      refine wp_iconst (v := 0) d_Client_apply_8 (by decide) ?_
      exact wp_zret d_Client_apply_9 rfl rfl (by decide) (by decide) ⟨by rw [if_neg hm], by rw [if_neg hm]; exact hC⟩
/-- playing n more entries from offset p on: code (0; 1 not to be used, 2 nothing, 3 a trim), whether the last took effect, the state -/
def plS (c : Nat) (δ : dg) : Nat → Nat → Int32 → sg → Nat × Int32 × sg
  | 0, _, t, σ => (0, t, σ)
  | n + 1, p, t, σ =>
    if usb σ c (uL (δ (1 + c) (p % 2))) = true then
      (if σ (eR (uL (δ (1 + c) (p % 2))) p) 0 = 0 then (2, t, σ)
       else if σ (eR (uL (δ (1 + c) (p % 2))) p) 0 = 4 then (3, t, σ)
       else if am (fun k => σ (eR (uL (δ (1 + c) (p % 2))) p) (2 + k)) (fun k => σ (eR (uL (δ (1 + c) (p % 2))) p) (6 + k)) (σ (24 + c)) = true
         then plS c δ n (p + 1) 1 (up2 (apR c (σ (eR (uL (δ (1 + c) (p % 2))) p)) (nI (p + 1)) 4 σ) (16 + c) 4 (nI (p + 1)))
         else plS c δ n (p + 1) 0 (up2 σ (16 + c) 4 (nI (p + 1))))
    else (1, t, σ)
set_option maxHeartbeats 4000000 in
set_option maxRecDepth 10000 in
theorem ct_play {G : mt_G} {μ φ : mu_M} {ad : Nat → Nat} {g : dg} {σ : sg} {δ : dg} (hC : Cx G μ φ ad g σ δ) {c p e : Nat} (hc : c < 4) (hp : σ (16 + c) 4 = nI p) (hp6 : p ≤ 60) (he : e ≤ 60) (hd : ∀ ch, ch < 2 → vr (δ (1 + c) ch) = true) :
    CT G M_Log_play [.ref (ad 0), .ref (ad (16 + c)), .int (nI e)] μ
      (fun x μ' => ∃ t σ', x = some (.int t) ∧ (t = 0 ∨ t = 1) ∧ plS c δ (e - p) p 0 σ = (0, t, σ') ∧ Cx G μ' φ ad g σ' δ)
      (fun E μ' => ∃ k t σ', plS c δ (e - p) p 0 σ = (k, t, σ') ∧ Cx G μ' φ ad g σ' δ ∧ ((k = 1 ∧ E = ISE) ∨ (k = 2 ∧ E = IOE) ∨ (k = 3 ∧ E = NSE))) := by
  have hR := hC.R
  refine CT.of (by decide) rfl (Nat.le_of_ble_eq_true rfl) ?_
  refine wp_iconst (v := 0) d_Log_play_0 (by decide) ?_
  refine wp_istore_n d_Log_play_1 rfl (by decide) ?_
  refine wp_aload_n d_Log_play_2 rfl rfl ?_
  refine wp_get d_Log_play_3 fl_Log_172 (by exact hR.cli hc) (by rfl) ?_
  rw [hp]
  refine wp_istore d_Log_play_6 (by decide) ?_
  have loop : ∀ (n i : Nat) (t : Int32) (σ1 : sg) (μ1 : mu_M), i = p ∨ i ≤ e → i + n = p + (e - p) → p ≤ i → (t = 0 ∨ t = 1) → Cx G μ1 φ ad g σ1 δ → plS c δ n i t σ1 = plS c δ (e - p) p 0 σ →
      WP G M_Log_play (EC G M_Log_play (fun x μ' => ∃ t σ', x = some (.int t) ∧ (t = 0 ∨ t = 1) ∧ plS c δ (e - p) p 0 σ = (0, t, σ') ∧ Cx G μ' φ ad g σ' δ) (fun E μ' => ∃ k t σ', plS c δ (e - p) p 0 σ = (k, t, σ') ∧ Cx G μ' φ ad g σ' δ ∧ ((k = 1 ∧ E = ISE) ∨ (k = 2 ∧ E = IOE) ∨ (k = 3 ∧ E = NSE))))
        [(0, .ref (ad 0)), (1, .ref (ad (16 + c))), (2, .int (nI e)), (3, .int t), (4, .int (nI i))] 8 [] μ1 (2 * (i - p)) (12 * (i - p)) := by
    intro n
    induction n with
    | zero =>
      intro i t σ1 μ1 h1 h2 h3 ht hC1 hw
      refine wp_iload d_Log_play_8 rfl ?_
      refine wp_iload_n d_Log_play_10 rfl rfl ?_
      refine wp_icmp_ge (tgt := 47) d_Log_play_11 (by decide) (fun c11 => ?_) (fun c11 => ?_)
      · refine wp_iload_n d_Log_play_47 rfl rfl ?_
        exact wp_zret d_Log_play_48 rfl (by rcases ht with rfl | rfl <;> rfl) (by show 2 * (i - p) ≤ 120; omega) (by show 12 * (i - p) ≤ 720; omega) ⟨t, σ1, rfl, ht, hw.symm, hC1⟩
      · rw [nI_leI (by omega) (by omega)] at c11
        omega
    | succ n ih =>
      intro i t σ1 μ1 h1 h2 h3 ht hC1 hw
      have hR1 := hC1.R
      have hi6 : i < 60 := by omega
      have hvr := hd (i % 2) (by omega)
      have hu := uL_lt hvr
      obtain ⟨w1, he1, hw1⟩ := hC1.ent hu hi6
      refine wp_iload d_Log_play_8 rfl ?_
      refine wp_iload_n d_Log_play_10 rfl rfl ?_
      refine wp_icmp_ge (tgt := 47) d_Log_play_11 (by decide) (fun c11 => ?_) (fun c11 => ?_)
      · exact absurd ((nI_leI (by omega) (by omega)).mp c11) (by omega)
      refine wp_aload_n d_Log_play_14 rfl rfl ?_
      refine wp_aload_n d_Log_play_15 rfl rfl ?_
      refine wp_aload_n d_Log_play_16 rfl rfl ?_
      refine wp_iload d_Log_play_17 rfl ?_
      refine wx_callV d_Log_play_19 cv_Log_86 cd_Log_entryAtEnd ⟨by decide, by decide⟩ (ct_entryAtEnd hC1 hc hi6 hvr) (by exact hR1.log) rfl rfl (Nat.le_of_ble_eq_true rfl) (by first | exact Nat.le_of_ble_eq_true rfl | (dsimp only [mt_R, M_Log_play, M_Log_entryAtEnd, M_Client_apply]; omega)) (by first | exact Nat.le_of_ble_eq_true rfl | (dsimp only [mt_R, M_Log_play, M_Log_entryAtEnd, M_Client_apply]; omega)) (fun E1 μ1 hq => WX.out rfl (no_hd _) (by first | exact Nat.le_of_ble_eq_true rfl | (dsimp only [mt_R, M_Log_play, M_Log_entryAtEnd, M_Client_apply]; omega)) (by first | exact Nat.le_of_ble_eq_true rfl | (dsimp only [mt_R, M_Log_play, M_Log_entryAtEnd, M_Client_apply]; omega)) ?_) (fun v1 μ1 hq => ?_)
      · obtain ⟨rfl, hq⟩ := hq
        rcases hq with ⟨rfl, q1⟩ | ⟨rfl, q1, q2⟩ | ⟨rfl, q1, q2, q3⟩
        · exact ⟨1, t, σ1, by rw [← hw, plS, if_neg (by rw [q1]; decide)], hC1, Or.inl ⟨rfl, rfl⟩⟩
        · exact ⟨2, t, σ1, by rw [← hw, plS, if_pos q1, if_pos q2], hC1, Or.inr (Or.inl ⟨rfl, rfl⟩)⟩
        · exact ⟨3, t, σ1, by rw [← hw, plS, if_pos q1, if_neg q2, if_pos q3], hC1, Or.inr (Or.inr ⟨rfl, rfl⟩)⟩
      · obtain ⟨rfl, rfl, q1, q2, q3⟩ := hq
        refine wp_get d_Log_play_22 fl_Log_253 (by exact he1) (by rfl) ?_
        refine wp_iload d_Log_play_25 rfl ?_
        refine wp_iconst (v := 1) d_Log_play_27 (by decide) ?_
        refine wp_iadd d_Log_play_28 ?_
        rw [nI_1 i]
        refine wx_callV d_Log_play_29 cv_Log_256 cd_Client_apply ⟨by decide, by decide⟩ (ct_apply hC1 hc hw1) (by exact hR1.cli hc) rfl rfl (Nat.le_of_ble_eq_true rfl) (by first | exact Nat.le_of_ble_eq_true rfl | (dsimp only [mt_R, M_Log_play, M_Log_entryAtEnd, M_Client_apply]; omega)) (by first | exact Nat.le_of_ble_eq_true rfl | (dsimp only [mt_R, M_Log_play, M_Log_entryAtEnd, M_Client_apply]; omega)) (fun E1 μ1 hq => WX.out rfl (no_hd _) (by first | exact Nat.le_of_ble_eq_true rfl | (dsimp only [mt_R, M_Log_play, M_Log_entryAtEnd, M_Client_apply]; omega)) (by first | exact Nat.le_of_ble_eq_true rfl | (dsimp only [mt_R, M_Log_play, M_Log_entryAtEnd, M_Client_apply]; omega)) ?_) (fun v1 μ1 hq => ?_)
        · exact hq.elim
        · obtain ⟨rfl, hC2⟩ := hq
          have hR2 := hC2.R
          refine wp_istore_n d_Log_play_32 rfl (by decide) ?_
          refine wp_aload_n d_Log_play_33 rfl rfl ?_
          refine wp_iload d_Log_play_34 rfl ?_
          refine wp_iconst (v := 1) d_Log_play_36 (by decide) ?_
          refine wp_iadd d_Log_play_37 ?_
          rw [nI_1 i]
          refine wp_put d_Log_play_38 fp_Log_172 (by exact hR2.cli hc) (by exact hC2.B (by omega)) (by rfl) (by rfl) (Nat.le_of_ble_eq_true rfl) ?_
          refine wp_iinc d_Log_play_41 rfl rfl (by decide) ?_
          refine wp_goto (tgt := 8) d_Log_play_44 (by decide) ?_
          have hC3 := hC2.reg (by omega) (hR2.pPos (x := nI (i + 1)) hc) (hC2.z.up (by omega))
          refine WP.loc [(0, .ref (ad 0)), (1, .ref (ad (16 + c))), (2, .int (nI e)), (3, .int (if am (fun k => σ1 (eR (uL (δ (1 + c) (i % 2))) i) (2 + k)) (fun k => σ1 (eR (uL (δ (1 + c) (i % 2))) i) (6 + k)) (σ1 (24 + c)) = true then 1 else 0)), (4, .int (nI (i + 1)))] (by rw [← nI_1 i]; rfl) (WP.widen (k := 2 * (i + 1 - p)) (n := 12 * (i + 1 - p)) (by dsimp only [mt_R, M_Log_play, M_Log_entryAtEnd, M_Client_apply]; omega) (by dsimp only [mt_R, M_Log_play, M_Log_entryAtEnd, M_Client_apply]; omega) (ih (i + 1) _ _ _ (by omega) (by omega) (by omega) ?_ hC3 ?_))
          · split
            · exact Or.inr rfl
            · exact Or.inl rfl
          · rw [← hw, plS, if_pos q1, if_neg q2, if_neg q3]
            split <;> rfl
  exact WP.loc _ rfl (WP.widen (by omega) (by omega) (loop _ p 0 σ μ (Or.inl rfl) rfl (by omega) (Or.inl rfl) hC rfl))
