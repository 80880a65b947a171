/-! THE CLASS'S FACE: transactions -/
theorem Rp.ne {G : mt_G} {μ : mu_M} {ad : Nat → Nat} {r : sg} {g : dg} (h : Rp G μ ad r g) {i j : Nat} (hi : i < 48) (hj : j < 48) (hij : i ≠ j) : ad i ≠ ad j := fun e => hij (h.2.1 i j hi hj e)
/-- how many of the first n are set -/
def pcN (f : Nat → Int32) : Nat → Nat
  | 0 => 0
  | k + 1 => if f k = 0 then pcN f k else pcN f k + 1
theorem pcN_le (f : Nat → Int32) : ∀ n, pcN f n ≤ n
  | 0 => Nat.le_refl 0
  | n + 1 => by
    have := pcN_le f n
    unfold pcN
    split <;> omega
set_option maxHeartbeats 4000000 in
set_option maxRecDepth 10000 in
theorem ct_putCount (G : mt_G) (μ : mu_M) (w a2 : Nat) (x0 x1 x3 : Value) (f2 : Nat → Int32) (hw : μ w = some (.inr (5, [x0, x1, .ref a2, x3]))) (h2 : μ a2 = some (.inl (G.2.2.1 1, 4, .inl f2))) :
    CT G M_Work_putCount [.ref w] μ (fun v μ' => v = some (.int (nI (pcN f2 4))) ∧ μ' = μ) (fun _ _ => False) := by
  refine CT.of (by decide) rfl (Nat.le_of_ble_eq_true rfl) ?_
  refine wp_iconst (v := 0) d_Work_putCount_0 (by decide) ?_
  refine wp_istore_n d_Work_putCount_1 rfl (by decide) ?_
  refine wp_iconst (v := 0) d_Work_putCount_2 (by decide) ?_
  refine wp_istore_n d_Work_putCount_3 rfl (by decide) ?_
  have loop : ∀ (n i : Nat), i + n = 4 → WP G M_Work_putCount (EC G M_Work_putCount (fun v μ' => v = some (.int (nI (pcN f2 4))) ∧ μ' = μ) (fun _ _ => False)) [(0, .ref w), (1, .int (nI (pcN f2 i))), (2, .int (nI i))] 4 [] μ 0 0 := by
    intro n
    induction n with
    | zero =>
      intro i hi
      obtain rfl : i = 4 := by omega
      refine wp_iload_n d_Work_putCount_4 rfl rfl ?_
      refine wp_iconst (v := 4) d_Work_putCount_5 (by decide) ?_
      refine wp_icmp_ge (tgt := 27) d_Work_putCount_6 (by decide) (fun c6 => ?_) (fun c6 => ?_)
      · refine wp_iload_n d_Work_putCount_27 rfl rfl ?_
        exact wp_iret d_Work_putCount_28 rfl (by decide) (by decide) ⟨rfl, rfl⟩
      · exact absurd (by decide) c6
    | succ n ih =>
      intro i hi
      refine wp_iload_n d_Work_putCount_4 rfl rfl ?_
      refine wp_iconst (v := 4) d_Work_putCount_5 (by decide) ?_
      refine wp_icmp_ge (tgt := 27) d_Work_putCount_6 (by decide) (fun c6 => ?_) (fun c6 => ?_)
      · exact absurd ((nI_leI (a := 4) (by omega) (by omega)).mp c6) (by omega)
      refine wp_aload_n d_Work_putCount_9 rfl rfl ?_
      refine wp_get d_Work_putCount_10 fl_Work_19 (by first | exact hw | exact h2) (by rfl) ?_
      refine wp_iload_n d_Work_putCount_13 rfl rfl ?_
      refine wp_zald d_Work_putCount_14 (by first | exact hw | exact h2) (by rfl) (by omega) (by omega) ?_
      refine wp_if_eq (tgt := 21) d_Work_putCount_15 (by decide) (fun c15 => ?_) (fun c15 => ?_)
      · refine wp_iinc d_Work_putCount_21 rfl rfl (by decide) ?_
        refine wp_goto (tgt := 4) d_Work_putCount_24 (by decide) ?_
        refine WP.loc [(0, .ref w), (1, .int (nI (pcN f2 (i + 1)))), (2, .int (nI (i + 1)))] ?_ (ih (i + 1) (by omega))
        rw [← nI_1 i, pcN, if_pos c15]; rfl
      · refine wp_iinc d_Work_putCount_18 rfl rfl (by decide) ?_
        refine wp_iinc d_Work_putCount_21 rfl rfl (by decide) ?_
        refine wp_goto (tgt := 4) d_Work_putCount_24 (by decide) ?_
        refine WP.loc [(0, .ref w), (1, .int (nI (pcN f2 (i + 1)))), (2, .int (nI (i + 1)))] ?_ (ih (i + 1) (by omega))
        rw [← nI_1 i, pcN, if_neg c15, ← nI_1 (pcN f2 i)]; rfl
  exact WP.loc _ rfl (loop 4 0 rfl)
def clS (c : Nat) : Nat → sg → sg
  | 0, σ => σ
  | k + 1, σ => up2 (up2 (clS c k σ) (32 + c) k 0) (40 + c) k 0
section Pub2
variable {G : mt_G} {μ φ : mu_M} {ad : Nat → Nat} {g : dg} {σ : sg} {δ : dg}
set_option maxHeartbeats 4000000 in
set_option maxRecDepth 10000 in
theorem ct_clear (hC : Cx G μ φ ad g σ δ) {c : Nat} (hc : c < 4) : CT G M_Work_clear [.ref (ad (28 + c))] μ (fun v μ' => v = none ∧ Cx G μ' φ ad g (clS c 4 σ) δ) (fun _ _ => False) := by
  refine CT.of (by decide) rfl (Nat.le_of_ble_eq_true rfl) ?_
  refine wp_iconst (v := 0) d_Work_clear_0 (by decide) ?_
  refine wp_istore_n d_Work_clear_1 rfl (by decide) ?_
  have loop : ∀ (n i : Nat) (μ1 : mu_M), i + n = 4 → Cx G μ1 φ ad g (clS c i σ) δ → WP G M_Work_clear (EC G M_Work_clear (fun v μ' => v = none ∧ Cx G μ' φ ad g (clS c 4 σ) δ) (fun _ _ => False)) [(0, .ref (ad (28 + c))), (1, .int (nI i))] 2 [] μ1 0 0 := by
    intro n
    induction n with
    | zero =>
      intro i μ1 hi hC1
      obtain rfl : i = 4 := by omega
      refine wp_iload_n d_Work_clear_2 rfl rfl ?_
      refine wp_iconst (v := 4) d_Work_clear_3 (by decide) ?_
      refine wp_icmp_ge (tgt := 27) d_Work_clear_4 (by decide) (fun c4 => ?_) (fun c4 => ?_)
      · exact wp_vret d_Work_clear_27 rfl (by decide) (by decide) ⟨rfl, hC1⟩
      · exact absurd (by decide) c4
    | succ n ih =>
      intro i μ1 hi hC1
      have hR1 := hC1.R
      refine wp_iload_n d_Work_clear_2 rfl rfl ?_
      refine wp_iconst (v := 4) d_Work_clear_3 (by decide) ?_
      refine wp_icmp_ge (tgt := 27) d_Work_clear_4 (by decide) (fun c4 => ?_) (fun c4 => ?_)
      · exact absurd ((nI_leI (a := 4) (by omega) (by omega)).mp c4) (by omega)
      refine wp_aload_n d_Work_clear_7 rfl rfl ?_
      refine wp_get d_Work_clear_8 fl_Work_9 (by first | exact hR1.tx hc | exact hR1.tr hc) (by rfl) ?_
      refine wp_iload_n d_Work_clear_11 rfl rfl ?_
      refine wp_iconst (v := 0) d_Work_clear_12 (by decide) ?_
      refine wp_zast d_Work_clear_13 (by first | exact hR1.tx hc | exact hR1.tr hc) (by exact hC1.B (by omega)) (by rfl) (by omega) (by omega) (by rfl) ?_
      have hC2 := hC1.reg (by omega) (hR1.pBool (i := 32 + c) (k := i) (x := 0) (Or.inl (by omega))) (hC1.z.up (by omega))
      have hR2 := hC2.R
      refine wp_aload_n d_Work_clear_14 rfl rfl ?_
      refine wp_get d_Work_clear_15 fl_Work_19 (by first | exact hR2.tx hc | exact hR2.tp hc) (by rfl) ?_
      refine wp_iload_n d_Work_clear_18 rfl rfl ?_
      refine wp_iconst (v := 0) d_Work_clear_19 (by decide) ?_
      refine wp_zast d_Work_clear_20 (by first | exact hR2.tx hc | exact hR2.tp hc) (by exact hC1.B (by omega)) (by rfl) (by omega) (by omega) (by rfl) ?_
      refine wp_iinc d_Work_clear_21 rfl rfl (by decide) ?_
      refine wp_goto (tgt := 2) d_Work_clear_24 (by decide) ?_
      have hC3 := hC2.reg (by omega) (hR2.pBool (i := 40 + c) (k := i) (x := 0) (Or.inr (by omega))) (hC2.z.up (by omega))
      exact WP.loc [(0, .ref (ad (28 + c))), (1, .int (nI (i + 1)))] (by rw [← nI_1 i]; rfl) (ih (i + 1) _ (by omega) hC3)
  exact WP.loc _ rfl (loop 4 0 μ rfl hC)
def S_begin (x : Int32) (σ : sg) (δ : dg) : RS := match ar x 4 with
  | some c => if σ (16 + c) 3 = 0 then (0, σ (16 + c) 4, clS c 4 (up2 σ (16 + c) 3 1), δ) else (2, 0, σ, δ)
  | none => (1, 0, σ, δ)
theorem clS_off {c i : Nat} (h1 : i ≠ 32 + c) (h2 : i ≠ 40 + c) : ∀ (k : Nat) (σ : sg), clS c k σ i = σ i
  | 0, σ => rfl
  | k + 1, σ => by
    unfold clS
    rw [up2_n h2, up2_n h1]; exact clS_off h1 h2 k σ
set_option maxHeartbeats 1000000 in
set_option maxRecDepth 10000 in
theorem ct_begin (hC : Cx G μ φ ad g σ δ) (x : Int32) : CT G M_Log_begin [.ref (ad 0), .int x] μ (PostC G φ ad (S_begin x σ δ)) (PxC G φ ad ex2 (S_begin x σ δ)) := by
  have hR := hC.R
  refine CT.of (by decide) rfl (Nat.le_of_ble_eq_true rfl) ?_
  refine wp_iload_n d_Log_begin_0 rfl rfl ?_
  refine wp_iconst (v := 3) d_Log_begin_1 (by decide) ?_
  refine wx_callS d_Log_begin_2 cs_Log_65 cd_Log_requireWithin ⟨by decide, by decide⟩ (ct_requireWithin G μ x 3) rfl rfl (Nat.le_of_ble_eq_true rfl) (Nat.le_of_ble_eq_true rfl) (Nat.le_of_ble_eq_true rfl) (fun E1 μ1 hq => WX.out rfl (no_hd _) (Nat.le_of_ble_eq_true rfl) (Nat.le_of_ble_eq_true rfl) ?_) (fun v1 μ1 hq => ?_)
  · obtain ⟨rfl, rfl, hx⟩ := hq
    rw [S_begin, ar_no (n := 3) rfl (by omega) hx]
    exact ⟨Nat.one_ne_zero, rfl, g, φ, hC, sub.rf φ⟩
  · obtain ⟨rfl, rfl, h1, h2⟩ := hq
    obtain ⟨c, hc, rfl⟩ := ar_ok (n := 3) rfl (by omega) h1 h2
    rw [S_begin, ar_nI hc (by omega)]
    refine wp_aload_n d_Log_begin_5 rfl rfl ?_
    refine wp_get d_Log_begin_6 fl_Log_17 (by first | exact hR.log | exact hR.car | exact hR.cli hc) (by rfl) ?_
    refine wp_iload_n d_Log_begin_9 rfl rfl ?_
    refine wp_aald d_Log_begin_10 (t := 4) (C := "SharedLog$Client") rfl (by first | exact hR.log | exact hR.car | exact hR.cli hc) (by rfl) (by exact hc) (by omega) (by rfl) ?_
    refine wp_astore_n d_Log_begin_11 rfl (by decide) ?_
    refine wp_aload_n d_Log_begin_12 rfl rfl ?_
    refine wp_get d_Log_begin_13 fl_Log_179 (by first | exact hR.log | exact hR.car | exact hR.cli hc) (by rfl) ?_
    refine wp_if_eq (tgt := 29) d_Log_begin_16 (by decide) (fun c16 => ?_) (fun c16 => ?_)
    · refine wp_aload_n d_Log_begin_29 rfl rfl ?_
      refine wp_iconst (v := 1) d_Log_begin_30 (by decide) ?_
      refine wp_put d_Log_begin_31 fp_Log_179 (by first | exact hR.log | exact hR.car | exact hR.cli hc) (by exact hC.B (by omega)) (by rfl) (by rfl) (Nat.le_of_ble_eq_true rfl) ?_
      have hC2 := hC.reg (by omega) (hR.pTxn (x := 1) hc) (hC.z.up (by omega))
      have hR2 := hC2.R
      refine wp_aload_n d_Log_begin_34 rfl rfl ?_
      refine wp_get d_Log_begin_35 fl_Log_187 (by exact hR2.cli hc) (by rfl) ?_
      refine wx_callV d_Log_begin_38 cv_Log_191 cd_Work_clear ⟨by decide, by decide⟩ (ct_clear hC2 hc) (by exact hR2.tx hc) rfl rfl (Nat.le_of_ble_eq_true rfl) (Nat.le_of_ble_eq_true rfl) (Nat.le_of_ble_eq_true rfl) (fun E1 μ1 hq => WX.out rfl (no_hd _) (Nat.le_of_ble_eq_true rfl) (Nat.le_of_ble_eq_true rfl) ?_) (fun v1 μ1 hq => ?_)
      · exact hq.elim
      · obtain ⟨rfl, hC3⟩ := hq
        have hR3 := hC3.R
        refine wp_aload_n d_Log_begin_41 rfl rfl ?_
        refine wp_get d_Log_begin_42 fl_Log_172 (by exact hR3.cli hc) (by rfl) ?_
        refine wp_iret d_Log_begin_45 rfl (by decide) (by decide) ?_
        show PostC G φ ad (if σ (16 + c) 3 = 0 then _ else _) _ _
        rw [if_pos c16]
        refine ⟨rfl, ?_, g, φ, hC3, sub.rf φ⟩
        rw [clS_off (by omega) (by omega), up2_s, va_up_ne _ _ (by decide)]
    · have hpx : PxC G φ ad ex2 (if σ (16 + c) 3 = 0 then (0, σ (16 + c) 4, clS c 4 (up2 σ (16 + c) 3 1), δ) else (2, 0, σ, δ)) ISE μ1 := by
        rw [if_neg c16]
        exact ⟨by show 2 ≠ 0; decide, rfl, g, φ, hC, sub.rf φ⟩
      exact wp_throw th_Log_182_184 rfl (no_hd _) d_Log_begin_19 d_Log_begin_22 d_Log_begin_23 d_Log_begin_25 d_Log_begin_28 (Nat.le_of_ble_eq_true rfl) (Nat.le_of_ble_eq_true rfl) (Nat.le_of_ble_eq_true rfl) (Nat.le_of_ble_eq_true rfl) hpx
def S_see (x y : Int32) (σ : sg) (δ : dg) : RS := match ar x 4, ar y 4 with
  | some c, some k => if σ (16 + c) 3 = 0 then (2, 0, σ, δ) else if σ (40 + c) k = 0 then (0, σ (20 + c) k, (if σ (32 + c) k = 0 then up2 (up2 σ (32 + c) k 1) (36 + c) k (σ (24 + c) k) else σ), δ) else (0, σ (44 + c) k, σ, δ)
  | _, _ => (1, 0, σ, δ)
set_option maxHeartbeats 1000000 in
set_option maxRecDepth 10000 in
theorem ct_see (hC : Cx G μ φ ad g σ δ) (x y : Int32) : CT G M_Log_see [.ref (ad 0), .int x, .int y] μ (PostC G φ ad (S_see x y σ δ)) (PxC G φ ad ex2 (S_see x y σ δ)) := by
  have hR := hC.R
  refine CT.of (by decide) rfl (Nat.le_of_ble_eq_true rfl) ?_
  refine wp_iload_n d_Log_see_0 rfl rfl ?_
  refine wp_iconst (v := 3) d_Log_see_1 (by decide) ?_
  refine wx_callS d_Log_see_2 cs_Log_65 cd_Log_requireWithin ⟨by decide, by decide⟩ (ct_requireWithin G μ x 3) rfl rfl (Nat.le_of_ble_eq_true rfl) (Nat.le_of_ble_eq_true rfl) (Nat.le_of_ble_eq_true rfl) (fun E1 μ1 hq => WX.out rfl (no_hd _) (Nat.le_of_ble_eq_true rfl) (Nat.le_of_ble_eq_true rfl) ?_) (fun v1 μ1 hq => ?_)
  · obtain ⟨rfl, rfl, hx⟩ := hq
    rw [S_see, ar_no (n := 3) rfl (by omega) hx]
    exact ⟨Nat.one_ne_zero, rfl, g, φ, hC, sub.rf φ⟩
  · obtain ⟨rfl, rfl, h1, h2⟩ := hq
    obtain ⟨c, hc, rfl⟩ := ar_ok (n := 3) rfl (by omega) h1 h2
    refine wp_iload_n d_Log_see_5 rfl rfl ?_
    refine wp_iconst (v := 3) d_Log_see_6 (by decide) ?_
    refine wx_callS d_Log_see_7 cs_Log_65 cd_Log_requireWithin ⟨by decide, by decide⟩ (ct_requireWithin G μ1 y 3) rfl rfl (Nat.le_of_ble_eq_true rfl) (Nat.le_of_ble_eq_true rfl) (Nat.le_of_ble_eq_true rfl) (fun E1 μ1 hq => WX.out rfl (no_hd _) (Nat.le_of_ble_eq_true rfl) (Nat.le_of_ble_eq_true rfl) ?_) (fun v1 μ1 hq => ?_)
    · obtain ⟨rfl, rfl, hx⟩ := hq
      rw [S_see, ar_nI hc (by omega), ar_no (n := 3) rfl (by omega) hx]
      exact ⟨Nat.one_ne_zero, rfl, g, φ, hC, sub.rf φ⟩
    · obtain ⟨rfl, rfl, h1, h2⟩ := hq
      obtain ⟨k, hk, rfl⟩ := ar_ok (n := 3) rfl (by omega) h1 h2
      have hS : S_see (nI c) (nI k) σ δ = if σ (16 + c) 3 = 0 then (2, 0, σ, δ) else if σ (40 + c) k = 0 then (0, σ (20 + c) k, (if σ (32 + c) k = 0 then up2 (up2 σ (32 + c) k 1) (36 + c) k (σ (24 + c) k) else σ), δ) else (0, σ (44 + c) k, σ, δ) := by
        rw [S_see, ar_nI hc (by omega), ar_nI hk (by omega)]
      refine wp_aload_n d_Log_see_10 rfl rfl ?_
      refine wp_get d_Log_see_11 fl_Log_17 (by first | exact hR.log | exact hR.car | exact hR.cli hc | exact hR.tx hc | exact hR.tp hc | exact hR.tv hc | exact hR.age hc) (by rfl) ?_
      refine wp_iload_n d_Log_see_14 rfl rfl ?_
      refine wp_aald d_Log_see_15 (t := 4) (C := "SharedLog$Client") rfl (by first | exact hR.log | exact hR.car | exact hR.cli hc | exact hR.tx hc | exact hR.tp hc | exact hR.tv hc | exact hR.age hc) (by rfl) (by assumption) (by omega) (by rfl) ?_
      refine wp_astore_n d_Log_see_16 rfl (by decide) ?_
      refine wp_aload_n d_Log_see_17 rfl rfl ?_
      refine wx_callS d_Log_see_18 cs_Log_194 cd_Log_requireTransaction ⟨by decide, by decide⟩ (ct_requireTransaction hC hc) rfl rfl (Nat.le_of_ble_eq_true rfl) (Nat.le_of_ble_eq_true rfl) (Nat.le_of_ble_eq_true rfl) (fun E1 μ1 hq => WX.out rfl (no_hd _) (Nat.le_of_ble_eq_true rfl) (Nat.le_of_ble_eq_true rfl) ?_) (fun v1 μ1 hq => ?_)
      · obtain ⟨rfl, rfl, ht⟩ := hq
        rw [hS, if_pos ht]
        exact ⟨by show 2 ≠ 0; decide, rfl, g, φ, hC, sub.rf φ⟩
      · obtain ⟨rfl, rfl, ht⟩ := hq
        rw [hS, if_neg ht]
        refine wp_aload_n d_Log_see_21 rfl rfl ?_
        refine wp_get d_Log_see_22 fl_Log_187 (by first | exact hR.log | exact hR.car | exact hR.cli hc | exact hR.tx hc | exact hR.tp hc | exact hR.tv hc | exact hR.age hc) (by rfl) ?_
        refine wp_astore d_Log_see_25 (by decide) ?_
        refine wp_aload d_Log_see_27 rfl ?_
        refine wp_get d_Log_see_29 fl_Log_197 (by first | exact hR.log | exact hR.car | exact hR.cli hc | exact hR.tx hc | exact hR.tp hc | exact hR.tv hc | exact hR.age hc) (by rfl) ?_
        refine wp_iload_n d_Log_see_32 rfl rfl ?_
        refine wp_zald d_Log_see_33 (by first | exact hR.log | exact hR.car | exact hR.cli hc | exact hR.tx hc | exact hR.tp hc | exact hR.tv hc | exact hR.age hc) (by rfl) (by assumption) (by omega) ?_
        refine wp_if_eq (tgt := 45) d_Log_see_34 (by decide) (fun c34 => ?_) (fun c34 => ?_)
        · rw [if_pos c34]
          refine wp_aload d_Log_see_45 rfl ?_
          refine wp_iload_n d_Log_see_47 rfl rfl ?_
          refine wp_aload_n d_Log_see_48 rfl rfl ?_
          refine wp_get d_Log_see_49 fl_Log_202 (by first | exact hR.log | exact hR.car | exact hR.cli hc | exact hR.tx hc | exact hR.tp hc | exact hR.tv hc | exact hR.age hc) (by rfl) ?_
          refine wp_iload_n d_Log_see_52 rfl rfl ?_
          refine wp_iald d_Log_see_53 (by first | exact hR.log | exact hR.car | exact hR.cli hc | exact hR.tx hc | exact hR.tp hc | exact hR.tv hc | exact hR.age hc) (by rfl) (by assumption) (by omega) ?_
          refine wx_callV d_Log_see_54 cv_Log_205 cd_Work_noteRead ⟨by decide, by decide⟩ (ct_noteRead G μ1 _ _ _ k _ _ _ _ _ hk (hR.tx hc) (hR.tr hc) (hR.ta hc) (hR.ne (by omega) (by omega) (by omega)) (hR.ne (by omega) (by omega) (by omega)) (hC.B (by omega)) (hC.B (by omega))) (by exact hR.tx hc) rfl rfl (Nat.le_of_ble_eq_true rfl) (Nat.le_of_ble_eq_true rfl) (Nat.le_of_ble_eq_true rfl) (fun E1 μ1 hq => WX.out rfl (no_hd _) (Nat.le_of_ble_eq_true rfl) (Nat.le_of_ble_eq_true rfl) ?_) (fun v1 μ1 hq => ?_)
          · exact hq.elim
          · obtain ⟨rfl, hq⟩ := hq
            have hC2 : Cx G μ1 φ ad g (if σ (32 + c) k = 0 then up2 (up2 σ (32 + c) k 1) (36 + c) k (σ (24 + c) k) else σ) δ := by
              subst hq
              split
              · have hC3 := hC.reg (by omega) (hR.pBool (i := 32 + c) (k := k) (x := 1) (Or.inl (by omega))) (hC.z.up (by omega))
                have e : up2 σ (32 + c) k 1 (36 + c) = σ (36 + c) := up2_n (by omega)
                have h9 := hC3.R.pInt (i := 36 + c) (k := k) (x := σ (24 + c) k) (by omega) (Or.inr (Or.inl (by omega)))
                rw [e] at h9
                exact hC3.reg (by omega) h9 (hC3.z.up (by omega))
              · exact hC
            have hR2 := hC2.R
            have e : (if σ (32 + c) k = 0 then up2 (up2 σ (32 + c) k 1) (36 + c) k (σ (24 + c) k) else σ) (20 + c) = σ (20 + c) := by
              split
              · rw [up2_n (by omega), up2_n (by omega)]
              · rfl
            have hv := hR2.val hc
            rw [e] at hv
            refine wp_aload_n d_Log_see_57 rfl rfl ?_
            refine wp_get d_Log_see_58 fl_Log_175 (by first | exact hR2.cli hc | exact hv) (by rfl) ?_
            refine wp_iload_n d_Log_see_61 rfl rfl ?_
            refine wp_iald d_Log_see_62 (by first | exact hR2.cli hc | exact hv) (by rfl) (by assumption) (by omega) ?_
            exact wp_iret d_Log_see_63 rfl (by decide) (by decide) ⟨rfl, rfl, g, φ, hC2, sub.rf φ⟩
        · rw [if_neg c34]
          refine wp_aload d_Log_see_37 rfl ?_
          refine wp_get d_Log_see_39 fl_Log_201 (by first | exact hR.tx hc | exact hR.tv hc) (by rfl) ?_
          refine wp_iload_n d_Log_see_42 rfl rfl ?_
          refine wp_iald d_Log_see_43 (by first | exact hR.tx hc | exact hR.tv hc) (by rfl) (by assumption) (by omega) ?_
          exact wp_iret d_Log_see_44 rfl (by decide) (by decide) ⟨rfl, rfl, g, φ, hC, sub.rf φ⟩
def S_put (x y v : Int32) (σ : sg) (δ : dg) : RS := match ar x 4, ar y 4 with
  | some c, some k => if σ (16 + c) 3 = 0 then (2, 0, σ, δ) else (0, nI (pcN (va_up (σ (40 + c)) k 1) 4), up2 (up2 σ (40 + c) k 1) (44 + c) k v, δ)
  | _, _ => (1, 0, σ, δ)
set_option maxHeartbeats 1000000 in
set_option maxRecDepth 10000 in
theorem ct_put (hC : Cx G μ φ ad g σ δ) (x y v : Int32) : CT G M_Log_put [.ref (ad 0), .int x, .int y, .int v] μ (PostC G φ ad (S_put x y v σ δ)) (PxC G φ ad ex2 (S_put x y v σ δ)) := by
  have hR := hC.R
  refine CT.of (by decide) rfl (Nat.le_of_ble_eq_true rfl) ?_
  refine wp_iload_n d_Log_put_0 rfl rfl ?_
  refine wp_iconst (v := 3) d_Log_put_1 (by decide) ?_
  refine wx_callS d_Log_put_2 cs_Log_65 cd_Log_requireWithin ⟨by decide, by decide⟩ (ct_requireWithin G μ x 3) rfl rfl (Nat.le_of_ble_eq_true rfl) (Nat.le_of_ble_eq_true rfl) (Nat.le_of_ble_eq_true rfl) (fun E1 μ1 hq => WX.out rfl (no_hd _) (Nat.le_of_ble_eq_true rfl) (Nat.le_of_ble_eq_true rfl) ?_) (fun v1 μ1 hq => ?_)
  · obtain ⟨rfl, rfl, hx⟩ := hq
    rw [S_put, ar_no (n := 3) rfl (by omega) hx]
    exact ⟨Nat.one_ne_zero, rfl, g, φ, hC, sub.rf φ⟩
  · obtain ⟨rfl, rfl, h1, h2⟩ := hq
    obtain ⟨c, hc, rfl⟩ := ar_ok (n := 3) rfl (by omega) h1 h2
    refine wp_iload_n d_Log_put_5 rfl rfl ?_
    refine wp_iconst (v := 3) d_Log_put_6 (by decide) ?_
    refine wx_callS d_Log_put_7 cs_Log_65 cd_Log_requireWithin ⟨by decide, by decide⟩ (ct_requireWithin G μ1 y 3) rfl rfl (Nat.le_of_ble_eq_true rfl) (Nat.le_of_ble_eq_true rfl) (Nat.le_of_ble_eq_true rfl) (fun E1 μ1 hq => WX.out rfl (no_hd _) (Nat.le_of_ble_eq_true rfl) (Nat.le_of_ble_eq_true rfl) ?_) (fun v1 μ1 hq => ?_)
    · obtain ⟨rfl, rfl, hx⟩ := hq
      rw [S_put, ar_nI hc (by omega), ar_no (n := 3) rfl (by omega) hx]
      exact ⟨Nat.one_ne_zero, rfl, g, φ, hC, sub.rf φ⟩
    · obtain ⟨rfl, rfl, h1, h2⟩ := hq
      obtain ⟨k, hk, rfl⟩ := ar_ok (n := 3) rfl (by omega) h1 h2
      have hS : S_put (nI c) (nI k) v σ δ = if σ (16 + c) 3 = 0 then (2, 0, σ, δ) else (0, nI (pcN (va_up (σ (40 + c)) k 1) 4), up2 (up2 σ (40 + c) k 1) (44 + c) k v, δ) := by
        rw [S_put, ar_nI hc (by omega), ar_nI hk (by omega)]
      refine wp_aload_n d_Log_put_10 rfl rfl ?_
      refine wp_get d_Log_put_11 fl_Log_17 (by first | exact hR.log | exact hR.car | exact hR.cli hc) (by rfl) ?_
      refine wp_iload_n d_Log_put_14 rfl rfl ?_
      refine wp_aald d_Log_put_15 (t := 4) (C := "SharedLog$Client") rfl (by first | exact hR.log | exact hR.car | exact hR.cli hc) (by rfl) (by assumption) (by omega) (by rfl) ?_
      refine wp_astore d_Log_put_16 (by decide) ?_
      refine wp_aload d_Log_put_18 rfl ?_
      refine wx_callS d_Log_put_20 cs_Log_194 cd_Log_requireTransaction ⟨by decide, by decide⟩ (ct_requireTransaction hC hc) rfl rfl (Nat.le_of_ble_eq_true rfl) (Nat.le_of_ble_eq_true rfl) (Nat.le_of_ble_eq_true rfl) (fun E1 μ1 hq => WX.out rfl (no_hd _) (Nat.le_of_ble_eq_true rfl) (Nat.le_of_ble_eq_true rfl) ?_) (fun v1 μ1 hq => ?_)
      · obtain ⟨rfl, rfl, ht⟩ := hq
        rw [hS, if_pos ht]
        exact ⟨by show 2 ≠ 0; decide, rfl, g, φ, hC, sub.rf φ⟩
      · obtain ⟨rfl, rfl, ht⟩ := hq
        rw [hS, if_neg ht]
        refine wp_aload d_Log_put_23 rfl ?_
        refine wp_get d_Log_put_25 fl_Log_187 (by first | exact hR.log | exact hR.car | exact hR.cli hc) (by rfl) ?_
        refine wp_iload_n d_Log_put_28 rfl rfl ?_
        refine wp_iload_n d_Log_put_29 rfl rfl ?_
        refine wx_callV d_Log_put_30 cv_Log_73 cd_Work_setPut ⟨by decide, by decide⟩ (ct_setPut G μ1 _ _ _ k _ _ _ _ _ hk (hR.tx hc) (hR.tp hc) (hR.tv hc) (hR.ne (by omega) (by omega) (by omega)) (hR.ne (by omega) (by omega) (by omega)) (hC.B (by omega)) (hC.B (by omega))) (by exact hR.tx hc) rfl rfl (Nat.le_of_ble_eq_true rfl) (Nat.le_of_ble_eq_true rfl) (Nat.le_of_ble_eq_true rfl) (fun E1 μ1 hq => WX.out rfl (no_hd _) (Nat.le_of_ble_eq_true rfl) (Nat.le_of_ble_eq_true rfl) ?_) (fun v1 μ1 hq => ?_)
        · exact hq.elim
        · obtain ⟨rfl, rfl⟩ := hq
          have hC3 := hC.reg (by omega) (hR.pBool (i := 40 + c) (k := k) (x := 1) (Or.inr (by omega))) (hC.z.up (by omega))
          have e : up2 σ (40 + c) k 1 (44 + c) = σ (44 + c) := up2_n (by omega)
          have h9 := hC3.R.pInt (i := 44 + c) (k := k) (x := v) (by omega) (Or.inr (Or.inr (by omega)))
          rw [e] at h9
          have hC4 := hC3.reg (by omega) h9 (hC3.z.up (by omega))
          have hR4 := hC4.R
          have e2 : up2 (up2 σ (40 + c) k 1) (44 + c) k v (40 + c) = va_up (σ (40 + c)) k 1 := by rw [up2_n (by omega), up2_s]
          have hp := hR4.tp hc
          rw [e2] at hp
          refine wp_aload d_Log_put_33 rfl ?_
          refine wp_get d_Log_put_35 fl_Log_187 (by exact hR4.cli hc) (by rfl) ?_
          refine wx_callV d_Log_put_38 cv_Log_208 cd_Work_putCount ⟨by decide, by decide⟩ (ct_putCount G _ _ _ _ _ _ _ (hR4.tx hc) hp) (by exact hR4.tx hc) rfl rfl (Nat.le_of_ble_eq_true rfl) (Nat.le_of_ble_eq_true rfl) (Nat.le_of_ble_eq_true rfl) (fun E1 μ1 hq => WX.out rfl (no_hd _) (Nat.le_of_ble_eq_true rfl) (Nat.le_of_ble_eq_true rfl) ?_) (fun v1 μ1 hq => ?_)
          · exact hq.elim
          · obtain ⟨rfl, rfl⟩ := hq
            exact wp_iret d_Log_put_41 rfl (by decide) (by decide) ⟨rfl, rfl, g, φ, hC4, sub.rf φ⟩
def S_drop (x : Int32) (σ : sg) (δ : dg) : RS := match ar x 4 with
  | some c => if σ (16 + c) 3 = 0 then (0, -1, σ, δ) else (0, nI (pcN (σ (40 + c)) 4), up2 σ (16 + c) 3 0, δ)
  | none => (1, 0, σ, δ)
set_option maxHeartbeats 1000000 in
set_option maxRecDepth 10000 in
theorem ct_drop (hC : Cx G μ φ ad g σ δ) (x : Int32) : CT G M_Log_drop [.ref (ad 0), .int x] μ (PostC G φ ad (S_drop x σ δ)) (PxC G φ ad ex1 (S_drop x σ δ)) := by
  have hR := hC.R
  refine CT.of (by decide) rfl (Nat.le_of_ble_eq_true rfl) ?_
  refine wp_iload_n d_Log_drop_0 rfl rfl ?_
  refine wp_iconst (v := 3) d_Log_drop_1 (by decide) ?_
  refine wx_callS d_Log_drop_2 cs_Log_65 cd_Log_requireWithin ⟨by decide, by decide⟩ (ct_requireWithin G μ x 3) rfl rfl (Nat.le_of_ble_eq_true rfl) (Nat.le_of_ble_eq_true rfl) (Nat.le_of_ble_eq_true rfl) (fun E1 μ1 hq => WX.out rfl (no_hd _) (Nat.le_of_ble_eq_true rfl) (Nat.le_of_ble_eq_true rfl) ?_) (fun v1 μ1 hq => ?_)
  · obtain ⟨rfl, rfl, hx⟩ := hq
    rw [S_drop, ar_no (n := 3) rfl (by omega) hx]
    exact ⟨Nat.one_ne_zero, rfl, g, φ, hC, sub.rf φ⟩
  · obtain ⟨rfl, rfl, h1, h2⟩ := hq
    obtain ⟨c, hc, rfl⟩ := ar_ok (n := 3) rfl (by omega) h1 h2
    have hS : S_drop (nI c) σ δ = if σ (16 + c) 3 = 0 then (0, -1, σ, δ) else (0, nI (pcN (σ (40 + c)) 4), up2 σ (16 + c) 3 0, δ) := by
      rw [S_drop, ar_nI hc (by omega)]
    rw [hS]
    refine wp_aload_n d_Log_drop_5 rfl rfl ?_
    refine wp_get d_Log_drop_6 fl_Log_17 (by first | exact hR.log | exact hR.car | exact hR.cli hc) (by rfl) ?_
    refine wp_iload_n d_Log_drop_9 rfl rfl ?_
    refine wp_aald d_Log_drop_10 (t := 4) (C := "SharedLog$Client") rfl (by first | exact hR.log | exact hR.car | exact hR.cli hc) (by rfl) (by exact hc) (by omega) (by rfl) ?_
    refine wp_astore_n d_Log_drop_11 rfl (by decide) ?_
    refine wp_aload_n d_Log_drop_12 rfl rfl ?_
    refine wp_get d_Log_drop_13 fl_Log_179 (by first | exact hR.log | exact hR.car | exact hR.cli hc) (by rfl) ?_
    refine wp_if_ne (tgt := 21) d_Log_drop_16 (by decide) (fun c16 => ?_) (fun c16 => ?_)
    · rw [if_neg c16]
      refine wp_aload_n d_Log_drop_21 rfl rfl ?_
      refine wp_iconst (v := 0) d_Log_drop_22 (by decide) ?_
      refine wp_put d_Log_drop_23 fp_Log_179 (by first | exact hR.log | exact hR.car | exact hR.cli hc) (by exact hC.B (by omega)) (by rfl) (by rfl) (Nat.le_of_ble_eq_true rfl) ?_
      have hC2 := hC.reg (by omega) (hR.pTxn (x := 0) hc) (hC.z.up (by omega))
      have hR2 := hC2.R
      have hp := hR2.tp hc
      rw [up2_n (by omega)] at hp
      refine wp_aload_n d_Log_drop_26 rfl rfl ?_
      refine wp_get d_Log_drop_27 fl_Log_187 (by exact hR2.cli hc) (by rfl) ?_
      refine wx_callV d_Log_drop_30 cv_Log_208 cd_Work_putCount ⟨by decide, by decide⟩ (ct_putCount G _ _ _ _ _ _ _ (hR2.tx hc) hp) (by exact hR2.tx hc) rfl rfl (Nat.le_of_ble_eq_true rfl) (Nat.le_of_ble_eq_true rfl) (Nat.le_of_ble_eq_true rfl) (fun E1 μ1 hq => WX.out rfl (no_hd _) (Nat.le_of_ble_eq_true rfl) (Nat.le_of_ble_eq_true rfl) ?_) (fun v1 μ1 hq => ?_)
      · exact hq.elim
      · obtain ⟨rfl, rfl⟩ := hq
        exact wp_iret d_Log_drop_33 rfl (by decide) (by decide) ⟨rfl, rfl, g, φ, hC2, sub.rf φ⟩
    · rw [if_pos c16]
      refine wp_iconst (v := (-1)) d_Log_drop_19 (by decide) ?_
      exact wp_iret d_Log_drop_20 rfl (by decide) (by decide) ⟨rfl, rfl, g, φ, hC, sub.rf φ⟩
end Pub2
