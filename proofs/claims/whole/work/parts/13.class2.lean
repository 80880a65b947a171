/-! THE CLASS: trimming, playing -/
theorem nI_m1 {n : Nat} (h : 1 ≤ n) : nI n - 1 = nI (n - 1) := by
  obtain ⟨k, rfl⟩ : ∃ k, n = k + 1 := ⟨n - 1, by omega⟩
  exact nI_pred k
/-- the unit at a row's end -/
def uL (d : Nat) : Nat := un d (ln d - 1)
theorem uL_lt {d : Nat} (h : vr d = true) : uL d < 6 := vr_un h (by have := ln_pos d; omega)
set_option maxHeartbeats 1000000 in
set_option maxRecDepth 10000 in
theorem ct_entryAtEnd {G : mt_G} {μ φ : mu_M} {ad : Nat → Nat} {g : dg} {σ : sg} {δ : dg} (hC : Cx G μ φ ad g σ δ) {c o : Nat} (hc : c < 4) (ho : o < 60) (hd : vr (δ (1 + c) (o % 2)) = true) :
    CT G M_Log_entryAtEnd [.ref (ad 0), .ref (ad (16 + c)), .int (nI o)] μ
      (fun v μ' => v = some (.ref (g (10 + uL (δ (1 + c) (o % 2))) o)) ∧ μ' = μ ∧ usb σ c (uL (δ (1 + c) (o % 2))) = true ∧ ¬ σ (eR (uL (δ (1 + c) (o % 2))) o) 0 = 0 ∧ ¬ σ (eR (uL (δ (1 + c) (o % 2))) o) 0 = 4)
      (fun E μ' => μ' = μ ∧ ((E = ISE ∧ usb σ c (uL (δ (1 + c) (o % 2))) = false) ∨ (E = IOE ∧ usb σ c (uL (δ (1 + c) (o % 2))) = true ∧ σ (eR (uL (δ (1 + c) (o % 2))) o) 0 = 0) ∨ (E = NSE ∧ usb σ c (uL (δ (1 + c) (o % 2))) = true ∧ ¬ σ (eR (uL (δ (1 + c) (o % 2))) o) 0 = 0 ∧ σ (eR (uL (δ (1 + c) (o % 2))) o) 0 = 4))) := by
  obtain ⟨a0, a1, rw, f, hk0, hrw, hrφ, hf⟩ := hC.rowφ hc o
  generalize δ (1 + c) (o % 2) = d at hd hrφ hf ⊢
  have hR := hC.R
  have hln := ln_pos d
  have hu := uL_lt hd
  obtain ⟨w1, he1, -⟩ := hC.ent hu ho
  refine CT.of (by decide) rfl (Nat.le_of_ble_eq_true rfl) ?_
  refine wp_aload_n d_Log_entryAtEnd_0 rfl rfl ?_
  refine wp_get d_Log_entryAtEnd_1 fl_Log_80 (by first | exact hR.cli hc | exact hC.at hk0 | exact hC.at hrφ | exact hR.unit hu | exact hR.cells hu | exact he1) (by rfl) ?_
  refine wp_iload_n d_Log_entryAtEnd_4 rfl rfl ?_
  refine wx_callV d_Log_entryAtEnd_5 cv_Log_83 cd_Layout_chainOf ⟨by decide, by decide⟩ (ct_chainOf G μ _ a0 a1 o _ (by omega) (hC.at hk0)) (by first | exact hR.cli hc | exact hC.at hk0 | exact hC.at hrφ | exact hR.unit hu | exact hR.cells hu | exact he1) rfl rfl (Nat.le_of_ble_eq_true rfl) (Nat.le_of_ble_eq_true rfl) (Nat.le_of_ble_eq_true rfl) (fun E1 μ1 hq => WX.out rfl (no_hd _) (Nat.le_of_ble_eq_true rfl) (Nat.le_of_ble_eq_true rfl) ?_) (fun v1 μ1 hq => ?_)
  · exact hq.elim
  · obtain ⟨rfl, rfl⟩ := hq
    rw [hrw]
    refine wp_astore_n d_Log_entryAtEnd_8 rfl (by decide) ?_
    refine wp_aload_n d_Log_entryAtEnd_9 rfl rfl ?_
    refine wp_aload_n d_Log_entryAtEnd_10 rfl rfl ?_
    refine wp_aload_n d_Log_entryAtEnd_11 rfl rfl ?_
    refine wp_aload_n d_Log_entryAtEnd_12 rfl rfl ?_
    refine wp_alen d_Log_entryAtEnd_13 (by exact (rfl : (TYS G.2.2.1)[0]? = some (G.2.2.1 0, .int))) (by first | exact hR.cli hc | exact hC.at hk0 | exact hC.at hrφ | exact hR.unit hu | exact hR.cells hu | exact he1) ?_
    refine wp_iconst (v := 1) d_Log_entryAtEnd_14 (by decide) ?_
    refine wp_isub d_Log_entryAtEnd_15 ?_
    refine wp_iald d_Log_entryAtEnd_16 (by first | exact hR.cli hc | exact hC.at hk0 | exact hC.at hrφ | exact hR.unit hu | exact hR.cells hu | exact he1) (by exact nI_m1 hln.1) (by omega) (by omega) ?_
    rw [hf _ (by omega)]
    refine wx_callV d_Log_entryAtEnd_17 cv_Log_103 cd_Log_use ⟨by decide, by decide⟩ (ct_use hC hc hu) (by exact hR.log) rfl rfl (Nat.le_of_ble_eq_true rfl) (Nat.le_of_ble_eq_true rfl) (Nat.le_of_ble_eq_true rfl) (fun E1 μ1 hq => WX.out rfl (no_hd _) (Nat.le_of_ble_eq_true rfl) (Nat.le_of_ble_eq_true rfl) ?_) (fun v1 μ1 hq => ?_)
    · exact ⟨hq.2.1, Or.inl ⟨hq.1, hq.2.2⟩⟩
    · obtain ⟨rfl, rfl, hub⟩ := hq
      refine wp_get d_Log_entryAtEnd_20 fl_Log_111 (by first | exact hR.cli hc | exact hC.at hk0 | exact hC.at hrφ | exact hR.unit hu | exact hR.cells hu | exact he1) (by rfl) ?_
      refine wp_iload_n d_Log_entryAtEnd_23 rfl rfl ?_
      refine wp_aald d_Log_entryAtEnd_24 (t := 5) (C := "SharedLog$Entry") rfl (by first | exact hR.cli hc | exact hC.at hk0 | exact hC.at hrφ | exact hR.unit hu | exact hR.cells hu | exact he1) (by rfl) (by exact ho) (by omega) (by rfl) ?_
      refine wp_astore d_Log_entryAtEnd_25 (by decide) ?_
      refine wp_aload d_Log_entryAtEnd_27 rfl ?_
      refine wp_get d_Log_entryAtEnd_29 fl_Log_90 (by first | exact hR.cli hc | exact hC.at hk0 | exact hC.at hrφ | exact hR.unit hu | exact hR.cells hu | exact he1) (by rfl) ?_
      refine wp_if_ne (tgt := 45) d_Log_entryAtEnd_32 (by decide) (fun c32 => ?_) (fun c32 => ?_)
      · refine wp_aload d_Log_entryAtEnd_45 rfl ?_
        refine wp_get d_Log_entryAtEnd_47 fl_Log_90 (by first | exact hR.cli hc | exact hC.at hk0 | exact hC.at hrφ | exact hR.unit hu | exact hR.cells hu | exact he1) (by rfl) ?_
        refine wp_iconst (v := 4) d_Log_entryAtEnd_50 (by decide) ?_
        refine wp_icmp_ne (tgt := 64) d_Log_entryAtEnd_51 (by decide) (fun c51 => ?_) (fun c51 => ?_)
        · refine wp_aload d_Log_entryAtEnd_64 rfl ?_
          exact wp_aret d_Log_entryAtEnd_66 rfl (Or.inl ⟨_, rfl⟩) (Nat.le_of_ble_eq_true rfl) (Nat.le_of_ble_eq_true rfl) ⟨rfl, rfl, hub, c32, c51⟩
        · exact wp_nse rfl rfl (no_hd _) d_Log_entryAtEnd_54 d_Log_entryAtEnd_57 d_Log_entryAtEnd_58 d_Log_entryAtEnd_60 d_Log_entryAtEnd_63 (Nat.le_of_ble_eq_true rfl) (Nat.le_of_ble_eq_true rfl) (Nat.le_of_ble_eq_true rfl) (Nat.le_of_ble_eq_true rfl) ⟨rfl, Or.inr (Or.inr ⟨rfl, hub, c32, c51⟩)⟩
      · exact wp_throw th_Log_238_247 rfl (no_hd _) d_Log_entryAtEnd_35 d_Log_entryAtEnd_38 d_Log_entryAtEnd_39 d_Log_entryAtEnd_41 d_Log_entryAtEnd_44 (Nat.le_of_ble_eq_true rfl) (Nat.le_of_ble_eq_true rfl) (Nat.le_of_ble_eq_true rfl) (Nat.le_of_ble_eq_true rfl) ⟨rfl, Or.inr (Or.inl ⟨rfl, hub, c32⟩)⟩
/-- trimming at one offset: code, how many had none, the state -/
def t1S (c o d : Nat) : Nat → Nat → Nat → sg → Nat × Nat × sg
  | 0, _, k, σ => (0, k, σ)
  | n + 1, i, k, σ => if usb σ c (un d i) = true then (if σ (eR (un d i) o) 0 = 4 then t1S c o d n (i + 1) k σ else t1S c o d n (i + 1) (k + 1) (va_up σ (eR (un d i) o) vTrim)) else (1, k, σ)
set_option maxHeartbeats 4000000 in
set_option maxRecDepth 10000 in
theorem ct_trimOne {G : mt_G} {μ φ : mu_M} {ad : Nat → Nat} {g : dg} {σ : sg} {δ : dg} (hC : Cx G μ φ ad g σ δ) {c o : Nat} (hc : c < 4) (ho : o < 60) (hd : vr (δ (1 + c) (o % 2)) = true) :
    CT G M_Log_trimOne [.ref (ad 0), .ref (ad (16 + c)), .int (nI o)] μ
      (fun w μ' => ∃ g' σ' k, w = some (.int (nI k)) ∧ k ≤ 3 ∧ t1S c o (δ (1 + c) (o % 2)) (ln (δ (1 + c) (o % 2))) 0 0 σ = (0, k, σ') ∧ Cx G μ' φ ad g' σ' δ)
      (fun E μ' => ∃ g' σ' k, E = ISE ∧ t1S c o (δ (1 + c) (o % 2)) (ln (δ (1 + c) (o % 2))) 0 0 σ = (1, k, σ') ∧ Cx G μ' φ ad g' σ' δ) := by
  obtain ⟨a0, a1, rw, f, hk0, hrw, hrφ, hf⟩ := hC.rowφ hc o
  generalize δ (1 + c) (o % 2) = d at hd hrφ hf ⊢
  have hR := hC.R
  have hln := ln_pos d
  refine CT.of (by decide) rfl (Nat.le_of_ble_eq_true rfl) ?_
  refine wp_aload_n d_Log_trimOne_0 rfl rfl ?_
  refine wp_get d_Log_trimOne_1 fl_Log_80 (by first | exact hR.cli hc | exact hC.at hk0) (by rfl) ?_
  refine wp_iload_n d_Log_trimOne_4 rfl rfl ?_
  refine wx_callV d_Log_trimOne_5 cv_Log_83 cd_Layout_chainOf ⟨by decide, by decide⟩ (ct_chainOf G μ _ a0 a1 o _ (by omega) (hC.at hk0)) (by first | exact hR.cli hc | exact hC.at hk0) rfl rfl (Nat.le_of_ble_eq_true rfl) (Nat.le_of_ble_eq_true rfl) (Nat.le_of_ble_eq_true rfl) (fun E1 μ1 hq => WX.out rfl (no_hd _) (Nat.le_of_ble_eq_true rfl) (Nat.le_of_ble_eq_true rfl) ?_) (fun v1 μ1 hq => ?_)
  · exact hq.elim
  · obtain ⟨rfl, rfl⟩ := hq
    rw [hrw]
    refine wp_astore_n d_Log_trimOne_8 rfl (by decide) ?_
    refine wp_iconst (v := 0) d_Log_trimOne_9 (by decide) ?_
    refine wp_istore d_Log_trimOne_10 (by decide) ?_
    refine wp_iconst (v := 0) d_Log_trimOne_12 (by decide) ?_
    refine wp_istore d_Log_trimOne_13 (by decide) ?_
    have loop : ∀ (n i k : Nat) (σ1 : sg) (g1 : dg) (μ1 : mu_M), i + n = ln d → k ≤ i → Cx G μ1 φ ad g1 σ1 δ → t1S c o d n i k σ1 = t1S c o d (ln d) 0 0 σ →
        WP G M_Log_trimOne (EC G M_Log_trimOne (fun w μ' => ∃ g' σ' k, w = some (.int (nI k)) ∧ k ≤ 3 ∧ t1S c o d (ln d) 0 0 σ = (0, k, σ') ∧ Cx G μ' φ ad g' σ' δ) (fun E μ' => ∃ g' σ' k, E = ISE ∧ t1S c o d (ln d) 0 0 σ = (1, k, σ') ∧ Cx G μ' φ ad g' σ' δ))
          [(0, .ref (ad 0)), (1, .ref (ad (16 + c))), (2, .int (nI o)), (3, .ref rw), (4, .int (nI k)), (5, .int (nI i))] 15 [] μ1 i (6 * i) := by
      intro n
      induction n with
      | zero =>
        intro i k σ1 g1 μ1 hi hki hC1 hw
        refine wp_iload d_Log_trimOne_15 rfl ?_
        refine wp_aload_n d_Log_trimOne_17 rfl rfl ?_
        refine wp_alen d_Log_trimOne_18 (by exact (rfl : (TYS G.2.2.1)[0]? = some (G.2.2.1 0, .int))) (by exact hC1.at hrφ) ?_
        refine wp_icmp_ge (tgt := 67) d_Log_trimOne_19 (by decide) (fun c19 => ?_) (fun c19 => ?_)
        · refine wp_iload d_Log_trimOne_67 rfl ?_
          exact wp_iret d_Log_trimOne_69 rfl (by show i ≤ 3; omega) (by show 6 * i ≤ 18; omega) ⟨g1, σ1, k, rfl, by omega, hw.symm, hC1⟩
        · rw [nI_leI (by omega) (by omega)] at c19
          omega
      | succ n ih =>
        intro i k σ1 g1 μ1 hi hki hC1 hw
        have hR1 := hC1.R
        have hil : i < ln d := by omega
        have hu : un d i < 6 := vr_un hd hil
        obtain ⟨w1, he1, -⟩ := hC1.ent hu ho
        refine wp_iload d_Log_trimOne_15 rfl ?_
        refine wp_aload_n d_Log_trimOne_17 rfl rfl ?_
        refine wp_alen d_Log_trimOne_18 (by exact (rfl : (TYS G.2.2.1)[0]? = some (G.2.2.1 0, .int))) (by exact hC1.at hrφ) ?_
        refine wp_icmp_ge (tgt := 67) d_Log_trimOne_19 (by decide) (fun c19 => ?_) (fun c19 => ?_)
        · exact absurd ((nI_leI (by omega) (by omega)).mp c19) (by omega)
        refine wp_aload_n d_Log_trimOne_22 rfl rfl ?_
        refine wp_aload_n d_Log_trimOne_23 rfl rfl ?_
        refine wp_aload_n d_Log_trimOne_24 rfl rfl ?_
        refine wp_iload d_Log_trimOne_25 rfl ?_
        refine wp_iald d_Log_trimOne_27 (by exact hC1.at hrφ) (by rfl) (by exact hil) (by omega) ?_
        rw [hf i hil]
        refine wx_callV d_Log_trimOne_28 cv_Log_103 cd_Log_use ⟨by decide, by decide⟩ (ct_use hC1 hc hu) (by exact hR1.log) rfl rfl (Nat.le_of_ble_eq_true rfl) (by first | exact Nat.le_of_ble_eq_true rfl | (dsimp only [mt_R, M_Log_trimOne, M_Log_use, M_Layout_chainOf]; omega)) (by first | exact Nat.le_of_ble_eq_true rfl | (dsimp only [mt_R, M_Log_trimOne, M_Log_use, M_Layout_chainOf]; omega)) (fun E1 μ1 hq => WX.out rfl (no_hd _) (by first | exact Nat.le_of_ble_eq_true rfl | (dsimp only [mt_R, M_Log_trimOne, M_Log_use, M_Layout_chainOf]; omega)) (by first | exact Nat.le_of_ble_eq_true rfl | (dsimp only [mt_R, M_Log_trimOne, M_Log_use, M_Layout_chainOf]; omega)) ?_) (fun v1 μ1 hq => ?_)
        · obtain ⟨rfl, rfl, hub⟩ := hq
          exact ⟨g1, σ1, k, rfl, by rw [← hw, t1S, if_neg (by rw [hub]; decide)], hC1⟩
        · obtain ⟨rfl, rfl, hub⟩ := hq
          refine wp_astore d_Log_trimOne_31 (by decide) ?_
          refine wp_aload d_Log_trimOne_33 rfl ?_
          refine wp_get d_Log_trimOne_35 fl_Log_111 (by first | exact hR1.unit hu | exact hR1.cells hu | exact he1 | exact hR1.log) (by rfl) ?_
          refine wp_iload_n d_Log_trimOne_38 rfl rfl ?_
          refine wp_aald d_Log_trimOne_39 (t := 5) (C := "SharedLog$Entry") rfl (by first | exact hR1.unit hu | exact hR1.cells hu | exact he1 | exact hR1.log) (by rfl) (by exact ho) (by omega) (by rfl) ?_
          refine wp_get d_Log_trimOne_40 fl_Log_90 (by first | exact hR1.unit hu | exact hR1.cells hu | exact he1 | exact hR1.log) (by rfl) ?_
          refine wp_iconst (v := 4) d_Log_trimOne_43 (by decide) ?_
          refine wp_icmp_eq (tgt := 61) d_Log_trimOne_44 (by decide) (fun c44 => ?_) (fun c44 => ?_)
          · refine wp_iinc d_Log_trimOne_61 rfl rfl (by decide) ?_
            refine wp_goto (tgt := 15) d_Log_trimOne_64 (by decide) ?_
            refine WP.loc [(0, .ref (ad 0)), (1, .ref (ad (16 + c))), (2, .int (nI o)), (3, .ref rw), (4, .int (nI k)), (5, .int (nI (i + 1)))] ?_ (WP.widen (k := i + 1) (n := 6 * (i + 1)) (by dsimp only [mt_R, M_Log_trimOne, M_Log_use, M_Layout_chainOf]; omega) (by dsimp only [mt_R, M_Log_trimOne, M_Log_use, M_Layout_chainOf]; omega) (ih (i + 1) k _ _ _ (by omega) (by omega) hC1 ?_))
            · rw [← nI_1 i]; rfl
            · rw [← hw, t1S, if_pos hub, if_pos c44]
          · refine wp_aload d_Log_trimOne_47 rfl ?_
            refine wp_get d_Log_trimOne_49 fl_Log_111 (by first | exact hR1.unit hu | exact hR1.cells hu | exact he1 | exact hR1.log) (by rfl) ?_
            refine wp_iload_n d_Log_trimOne_52 rfl rfl ?_
            refine wp_aload_n d_Log_trimOne_53 rfl rfl ?_
            refine wp_get d_Log_trimOne_54 fl_Log_43 (by first | exact hR1.unit hu | exact hR1.cells hu | exact he1 | exact hR1.log) (by rfl) ?_
            obtain ⟨w2, hE2, -⟩ := hC1.2.2.2.2.2.1
            refine wp_aast d_Log_trimOne_57 (t := 5) (ci := 2) (r := ("SharedLog$Entry", F_Entry, 3)) rfl rfl (hR1.cells hu) (hC1.B (by omega)) (hC1.at hE2) rfl ho (by omega) ?_
            refine wp_iinc d_Log_trimOne_58 rfl rfl (by decide) ?_
            refine wp_iinc d_Log_trimOne_61 rfl rfl (by decide) ?_
            refine wp_goto (tgt := 15) d_Log_trimOne_64 (by decide) ?_
            have hC2 := hC1.cell hu ho (hR1.pCell (k := o) (x := g1 0 5) hu) (hC1.z.up (by omega)) hC1.2.2.2.2.2.1
            refine WP.loc [(0, .ref (ad 0)), (1, .ref (ad (16 + c))), (2, .int (nI o)), (3, .ref rw), (4, .int (nI (k + 1))), (5, .int (nI (i + 1)))] ?_ (WP.widen (k := i + 1) (n := 6 * (i + 1)) (by dsimp only [mt_R, M_Log_trimOne, M_Log_use, M_Layout_chainOf]; omega) (by dsimp only [mt_R, M_Log_trimOne, M_Log_use, M_Layout_chainOf]; omega) (ih (i + 1) (k + 1) _ _ _ (by omega) (by omega) hC2 ?_))
            · rw [← nI_1 i, ← nI_1 k]; rfl
            · rw [← hw, t1S, if_pos hub, if_neg c44]
    exact WP.loc _ rfl (loop _ 0 0 σ g μ1 (by omega) (by omega) hC rfl)
/-- the ages of what was read are the same still -/
def am (f0 f1 ag : Nat → Int32) : Bool := (List.range 4).all (fun k => decide (f0 k = 0) || decide (f1 k = ag k))
theorem am_iff {f0 f1 ag : Nat → Int32} : am f0 f1 ag = true ↔ ∀ k, k < 4 → f0 k = 0 ∨ f1 k = ag k := by
  simp only [am, List.all_eq_true, List.mem_range, Bool.or_eq_true, decide_eq_true_eq]
set_option maxHeartbeats 4000000 in
set_option maxRecDepth 10000 in
theorem ct_agesMatch (G : mt_G) (μ : mu_M) (ca va aa w a0 a1 : Nat) (y0 y2 y3 y4 y5 x2 x3 : Value) (f0 f1 ag : Nat → Int32) (hc : μ ca = some (.inr (6, [y0, .ref aa, y2, y3, y4, y5]))) (ha : μ aa = some (.inl (G.2.2.1 0, 4, .inl ag))) (hw : μ w = some (.inr (5, [.ref a0, .ref a1, x2, x3]))) (h0 : μ a0 = some (.inl (G.2.2.1 1, 4, .inl f0))) (h1 : μ a1 = some (.inl (G.2.2.1 0, 4, .inl f1))) :
    CT G M_Client_agesMatch [.ref ca, .ref w] μ (fun v μ' => v = some (.int (if am f0 f1 ag = true then 1 else 0)) ∧ μ' = μ) (fun _ _ => False) := by
  refine CT.of (by decide) rfl (Nat.le_of_ble_eq_true rfl) ?_
  refine wp_iconst (v := 0) d_Client_agesMatch_0 (by decide) ?_
  refine wp_istore_n d_Client_agesMatch_1 rfl (by decide) ?_
  have loop : ∀ (n i : Nat), i + n = 4 → (∀ k, k < i → f0 k = 0 ∨ f1 k = ag k) → WP G M_Client_agesMatch (EC G M_Client_agesMatch (fun v μ' => v = some (.int (if am f0 f1 ag = true then 1 else 0)) ∧ μ' = μ) (fun _ _ => False)) [(0, .ref ca), (1, .ref w), (2, .int (nI i))] 2 [] μ 0 0 := by
    intro n
    induction n with
    | zero =>
      intro i hi hk
      obtain rfl : i = 4 := by omega
      refine wp_iload_n d_Client_agesMatch_2 rfl rfl ?_
      refine wp_iconst (v := 4) d_Client_agesMatch_3 (by decide) ?_
      refine wp_icmp_ge (tgt := 39) d_Client_agesMatch_4 (by decide) (fun c4 => ?_) (fun c4 => ?_)
      · refine wp_iconst (v := 1) d_Client_agesMatch_39 (by decide) ?_
        exact wp_zret d_Client_agesMatch_40 rfl rfl (by decide) (by decide) ⟨by rw [if_pos (am_iff.mpr hk)], rfl⟩
      · exact absurd (by decide) c4
    | succ n ih =>
      intro i hi hk
      refine wp_iload_n d_Client_agesMatch_2 rfl rfl ?_
      refine wp_iconst (v := 4) d_Client_agesMatch_3 (by decide) ?_
      refine wp_icmp_ge (tgt := 39) d_Client_agesMatch_4 (by decide) (fun c4 => ?_) (fun c4 => ?_)
      · exact absurd ((nI_leI (a := 4) (by omega) (by omega)).mp c4) (by omega)
      refine wp_aload_n d_Client_agesMatch_7 rfl rfl ?_
      refine wp_get d_Client_agesMatch_8 fl_Client_37 (by first | exact hc | exact ha | exact hw | exact h0 | exact h1) (by rfl) ?_
      refine wp_iload_n d_Client_agesMatch_11 rfl rfl ?_
      refine wp_zald d_Client_agesMatch_12 (by first | exact hc | exact ha | exact hw | exact h0 | exact h1) (by rfl) (by omega) (by omega) ?_
      have next : (f0 i = 0 ∨ f1 i = ag i) → WP G M_Client_agesMatch (EC G M_Client_agesMatch (fun v μ' => v = some (.int (if am f0 f1 ag = true then 1 else 0)) ∧ μ' = μ) (fun _ _ => False)) [(0, .ref ca), (1, .ref w), (2, .int (nI i))] 33 [] μ 0 0 := by
        intro hz
        refine wp_iinc d_Client_agesMatch_33 rfl rfl (by decide) ?_
        refine wp_goto (tgt := 2) d_Client_agesMatch_36 (by decide) ?_
        refine WP.loc [(0, .ref ca), (1, .ref w), (2, .int (nI (i + 1)))] (by rw [← nI_1 i]; rfl) (ih (i + 1) (by omega) (fun k hk1 => ?_))
        rcases Nat.lt_or_ge k i with q | q
        · exact hk k q
        · rw [show k = i by omega]; exact hz
      refine wp_if_eq (tgt := 33) d_Client_agesMatch_13 (by decide) (fun c13 => ?_) (fun c13 => ?_)
      · exact next (Or.inl c13)
      · refine wp_aload_n d_Client_agesMatch_16 rfl rfl ?_
        refine wp_get d_Client_agesMatch_17 fl_Client_41 (by first | exact hc | exact ha | exact hw | exact h0 | exact h1) (by rfl) ?_
        refine wp_iload_n d_Client_agesMatch_20 rfl rfl ?_
        refine wp_iald d_Client_agesMatch_21 (by first | exact hc | exact ha | exact hw | exact h0 | exact h1) (by rfl) (by omega) (by omega) ?_
        refine wp_aload_n d_Client_agesMatch_22 rfl rfl ?_
        refine wp_get d_Client_agesMatch_23 fl_Client_15 (by first | exact hc | exact ha | exact hw | exact h0 | exact h1) (by rfl) ?_
        refine wp_iload_n d_Client_agesMatch_26 rfl rfl ?_
        refine wp_iald d_Client_agesMatch_27 (by first | exact hc | exact ha | exact hw | exact h0 | exact h1) (by rfl) (by omega) (by omega) ?_
        refine wp_icmp_eq (tgt := 33) d_Client_agesMatch_28 (by decide) (fun c28 => ?_) (fun c28 => ?_)
        · exact next (Or.inr c28)
        · refine wp_iconst (v := 0) d_Client_agesMatch_31 (by decide) ?_
          refine wp_zret d_Client_agesMatch_32 rfl rfl (by decide) (by decide) ⟨?_, rfl⟩
          rw [if_neg]
          intro hz
          rcases am_iff.mp hz i (by omega) with q | q
          · exact c13 q
          · exact c28 q
  exact WP.loc _ rfl (loop 4 0 rfl (fun _ h => absurd h (Nat.not_lt_zero _)))
