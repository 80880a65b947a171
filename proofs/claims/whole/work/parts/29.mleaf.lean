/-! THE REFERENCE'S SMALL METHODS -/
theorem ix4 (c k : Nat) : (4 : Int32) * nI c + nI k = nI (4 * c + k) := by rw [show (4 : Int32) = nI 4 from rfl, pk_mul, nI_add]
theorem ix2 (c : Nat) : (2 : Int32) * nI c = nI (2 * c) := by rw [show (2 : Int32) = nI 2 from rfl, pk_mul]
theorem ix21 (c : Nat) : (2 : Int32) * nI c + 1 = nI (2 * c + 1) := by rw [ix2, nI_1]
theorem ix4a (c : Nat) : (4 : Int32) * nI c = nI (4 * c) := by rw [show (4 : Int32) = nI 4 from rfl, pk_mul]
theorem ixc0 : (0 : Int32) = nI 0 := rfl
theorem ixc1 : (1 : Int32) = nI 1 := rfl
theorem ixc360 : (360 : Int32) = nI 360 := rfl
theorem ix60 (u o : Nat) : (60 : Int32) * nI u + nI o = nI (60 * u + o) := by rw [show (60 : Int32) = nI 60 from rfl, pk_mul, nI_add]
theorem nI_rem2 {r : Nat} (h : r < 2 ^ 31) : nI r - nI r / 2 * 2 = nI (r % 2) := pk_rem (d := 2) h (by decide) (by decide)
theorem mk_lt (f : Nat → Int32) : mk f < 16 := by
  unfold mk
  repeat' split
  all_goals omega
theorem mk_congr {f g : Nat → Int32} (h : ∀ k, k < 4 → f k = g k) : mk f = mk g := by
  unfold mk
  rw [h 0 (by omega), h 1 (by omega), h 2 (by omega), h 3 (by omega)]
set_option maxRecDepth 100000 in
theorem bit0 : ∀ n, n < 16 → ∀ k, k < 4 → ((nI n >>> (nI k &&& 31)) &&& 1 = nI (n / 2 ^ k % 2)) := by decide +kernel
theorem mk_bit (f : Nat → Int32) {k : Nat} (hk : k < 4) : (mk f / 2 ^ k % 2 = 0 ↔ f k = 0) ∧ mk f / 2 ^ k % 2 ≤ 1 := by
  refine ⟨?_, by omega⟩
  unfold mk
  by_cases h0 : f 0 = 0 <;> by_cases h1 : f 1 = 0 <;> by_cases h2 : f 2 = 0 <;> by_cases h3 : f 3 = 0 <;> simp only [h0, h1, h2, h3, if_true, if_false] <;> rcases (show k = 0 ∨ k = 1 ∨ k = 2 ∨ k = 3 by omega) with rfl | rfl | rfl | rfl <;> simp [h0, h1, h2, h3]
theorem mk_b (f : Nat → Int32) {k : Nat} (hk : k < 4) : ((nI (mk f) >>> (nI k &&& 31)) &&& 1 = 0 ↔ f k = 0) := by
  rw [bit0 _ (mk_lt f) k hk]
  obtain ⟨h1, h2⟩ := mk_bit f hk
  rw [← h1, show (0 : Int32) = nI 0 from rfl, nI_eq (by omega) (by omega)]
section MLeaf
variable {G : mt_G} {μ0 μ : mu_M} {ma : Nat → Nat} {τ σ : sg} {δ : dg}
set_option maxHeartbeats 1000000 in
theorem cm_thrown (hM : Mx G μ0 μ ma τ) : CT G M_Model_thrown [.ref (ma 0)] μ (fun v μ' => v = some (.int (τ 0 0)) ∧ μ' = μ) (fun _ _ => False) := by
  refine CT.of (by decide) rfl (Nat.le_of_ble_eq_true rfl) ?_
  refine wp_aload_n d_Model_thrown_0 rfl rfl ?_
  refine wp_get d_Model_thrown_1 fl_Model_82 hM.obj (by rfl) ?_
  exact wp_iret d_Model_thrown_4 rfl (by decide) (by decide) ⟨rfl, rfl⟩
set_option maxHeartbeats 1000000 in
theorem cm_fail (hM : Mx G μ0 μ ma τ) (x : Int32) : CT G M_Model_fail [.ref (ma 0), .int x] μ (fun v μ' => v = some (.int 0) ∧ Mx G μ0 μ' ma (up2 τ 0 0 x)) (fun _ _ => False) := by
  refine CT.of (by decide) rfl (Nat.le_of_ble_eq_true rfl) ?_
  refine wp_aload_n d_Model_fail_0 rfl rfl ?_
  refine wp_iload_n d_Model_fail_1 rfl rfl ?_
  refine wm_put0 hM d_Model_fail_2 fp_Model_82 (fun μ1 hM => ?_)
  refine wp_iconst (v := 0) d_Model_fail_5 (by decide) ?_
  exact wp_iret d_Model_fail_6 rfl (by decide) (by decide) ⟨rfl, hM⟩
set_option maxHeartbeats 1000000 in
theorem cm_out (G : mt_G) (μ : mu_M) (a : Nat) (x y : Int32) : CT G M_Model_out [.ref a, .int x, .int y] μ (fun v μ' => v = some (.int (if x < 0 ∨ y ≤ x then 1 else 0)) ∧ μ' = μ) (fun _ _ => False) := by
  refine CT.of (by decide) rfl (Nat.le_of_ble_eq_true rfl) ?_
  refine wp_iload_n d_Model_out_0 rfl rfl ?_
  refine wp_if_lt (tgt := 9) d_Model_out_1 (by decide) (fun c1 => ?_) (fun c1 => ?_)
  · rw [if_pos (Or.inl c1)]
    refine wp_iconst (v := 1) d_Model_out_9 (by decide) ?_
    refine wp_goto (tgt := 14) d_Model_out_10 (by decide) ?_
    exact wp_zret d_Model_out_14 rfl rfl (by decide) (by decide) ⟨rfl, rfl⟩
  · refine wp_iload_n d_Model_out_4 rfl rfl ?_
    refine wp_iload_n d_Model_out_5 rfl rfl ?_
    refine wp_icmp_lt (tgt := 13) d_Model_out_6 (by decide) (fun c6 => ?_) (fun c6 => ?_)
    · rw [if_neg (fun z => z.elim c1 (fun w => Int32.not_lt.mpr w c6))]
      refine wp_iconst (v := 0) d_Model_out_13 (by decide) ?_
      exact wp_zret d_Model_out_14 rfl rfl (by decide) (by decide) ⟨rfl, rfl⟩
    · rw [if_pos (Or.inr (Int32.not_lt.mp c6))]
      refine wp_iconst (v := 1) d_Model_out_9 (by decide) ?_
      refine wp_goto (tgt := 14) d_Model_out_10 (by decide) ?_
      exact wp_zret d_Model_out_14 rfl rfl (by decide) (by decide) ⟨rfl, rfl⟩
set_option maxHeartbeats 1000000 in
theorem cm_learnNow (hM : Mx G μ0 μ ma τ) {c : Nat} (hc : c < 4) : CT G M_Model_learnNow [.ref (ma 0), .int (nI c)] μ (fun v μ' => v = none ∧ Mx G μ0 μ' ma (up2 (up2 (up2 τ 11 c (τ 0 1)) 12 (2 * c) (τ 10 0)) 12 (2 * c + 1) (τ 10 1))) (fun _ _ => False) := by
  refine CT.of (by decide) rfl (Nat.le_of_ble_eq_true rfl) ?_
  refine wp_aload_n d_Model_learnNow_0 rfl rfl ?_
  refine wp_get d_Model_learnNow_1 fl_Model_48 hM.obj (by rfl) ?_
  refine wp_iload_n d_Model_learnNow_4 rfl rfl ?_
  refine wp_aload_n d_Model_learnNow_5 rfl rfl ?_
  refine wp_get d_Model_learnNow_6 fl_Model_38 hM.obj (by rfl) ?_
  refine wm_ast (i := 11) (n := 4) hM (by decide) (by decide) rfl rfl d_Model_learnNow_9 (by first | with_reducible exact ixc0 | with_reducible exact ixc1 | with_reducible exact ixc360 | with_reducible rfl | with_reducible exact ix4 _ _ | with_reducible exact ix21 _ | with_reducible exact ix2 _ | with_reducible exact ix4a _ | assumption) (by omega) (fun μ1 hM => ?_)
  refine wp_aload_n d_Model_learnNow_10 rfl rfl ?_
  refine wp_get d_Model_learnNow_11 fl_Model_51 hM.obj (by rfl) ?_
  refine wp_iconst (v := 2) d_Model_learnNow_14 (by decide) ?_
  refine wp_iload_n d_Model_learnNow_15 rfl rfl ?_
  refine wp_imul d_Model_learnNow_16 ?_
  refine wp_aload_n d_Model_learnNow_17 rfl rfl ?_
  refine wp_get d_Model_learnNow_18 fl_Model_42 hM.obj (by rfl) ?_
  refine wp_iconst (v := 0) d_Model_learnNow_21 (by decide) ?_
  refine wm_ald (i := 10) (n := 2) hM (by decide) (by decide) rfl rfl d_Model_learnNow_22 (by first | with_reducible exact ixc0 | with_reducible exact ixc1 | with_reducible exact ixc360 | with_reducible rfl | with_reducible exact ix4 _ _ | with_reducible exact ix21 _ | with_reducible exact ix2 _ | with_reducible exact ix4a _ | assumption) (by omega) ?_
  refine wm_ast (i := 12) (n := 8) hM (by decide) (by decide) rfl rfl d_Model_learnNow_23 (by first | with_reducible exact ixc0 | with_reducible exact ixc1 | with_reducible exact ixc360 | with_reducible rfl | with_reducible exact ix4 _ _ | with_reducible exact ix21 _ | with_reducible exact ix2 _ | with_reducible exact ix4a _ | assumption) (by omega) (fun μ1 hM => ?_)
  refine wp_aload_n d_Model_learnNow_24 rfl rfl ?_
  refine wp_get d_Model_learnNow_25 fl_Model_51 hM.obj (by rfl) ?_
  refine wp_iconst (v := 2) d_Model_learnNow_28 (by decide) ?_
  refine wp_iload_n d_Model_learnNow_29 rfl rfl ?_
  refine wp_imul d_Model_learnNow_30 ?_
  refine wp_iconst (v := 1) d_Model_learnNow_31 (by decide) ?_
  refine wp_iadd d_Model_learnNow_32 ?_
  refine wp_aload_n d_Model_learnNow_33 rfl rfl ?_
  refine wp_get d_Model_learnNow_34 fl_Model_42 hM.obj (by rfl) ?_
  refine wp_iconst (v := 1) d_Model_learnNow_37 (by decide) ?_
  refine wm_ald (i := 10) (n := 2) hM (by decide) (by decide) rfl rfl d_Model_learnNow_38 (by first | with_reducible exact ixc0 | with_reducible exact ixc1 | with_reducible exact ixc360 | with_reducible rfl | with_reducible exact ix4 _ _ | with_reducible exact ix21 _ | with_reducible exact ix2 _ | with_reducible exact ix4a _ | assumption) (by omega) ?_
  refine wm_ast (i := 12) (n := 8) hM (by decide) (by decide) rfl rfl d_Model_learnNow_39 (by first | with_reducible exact ixc0 | with_reducible exact ixc1 | with_reducible exact ixc360 | with_reducible rfl | with_reducible exact ix4 _ _ | with_reducible exact ix21 _ | with_reducible exact ix2 _ | with_reducible exact ix4a _ | assumption) (by omega) (fun μ1 hM => ?_)
  exact wp_vret d_Model_learnNow_40 rfl (by decide) (by decide) ⟨rfl, hM⟩
set_option maxHeartbeats 1000000 in
theorem cm_length (G : mt_G) (μ : mu_M) (a : Nat) {d : Nat} (hd : d < 2 ^ 31) : CT G M_Model_length [.ref a, .int (nI d)] μ (fun v μ' => v = some (.int (nI (ln d))) ∧ μ' = μ) (fun _ _ => False) := by
  refine CT.of (by decide) rfl (Nat.le_of_ble_eq_true rfl) ?_
  refine wp_iload_n d_Model_length_0 rfl rfl ?_
  refine wp_bipush (v := 99) d_Model_length_1 (by decide) ?_
  refine wp_icmp_le (tgt := 10) d_Model_length_3 (by decide) (fun c3 => ?_) (fun c3 => ?_)
  · have h1 := (nI_leI (b := 99) hd (by decide)).mp c3
    refine wp_iload_n d_Model_length_10 rfl rfl ?_
    refine wp_bipush (v := 9) d_Model_length_11 (by decide) ?_
    refine wp_icmp_le (tgt := 20) d_Model_length_13 (by decide) (fun c13 => ?_) (fun c13 => ?_)
    · have h2 := (nI_leI (b := 9) hd (by decide)).mp c13
      rw [ln, if_neg (by omega), if_neg (by omega)]
      refine wp_iconst (v := 1) d_Model_length_20 (by decide) ?_
      exact wp_iret d_Model_length_21 rfl (by decide) (by decide) ⟨rfl, rfl⟩
    · have h2 : ¬ d ≤ 9 := fun z => c13 ((nI_leI (b := 9) hd (by decide)).mpr z)
      rw [ln, if_neg (by omega), if_pos (by omega)]
      refine wp_iconst (v := 2) d_Model_length_16 (by decide) ?_
      refine wp_goto (tgt := 21) d_Model_length_17 (by decide) ?_
      exact wp_iret d_Model_length_21 rfl (by decide) (by decide) ⟨rfl, rfl⟩
  · have h1 : ¬ d ≤ 99 := fun z => c3 ((nI_leI (b := 99) hd (by decide)).mpr z)
    rw [ln, if_pos (by omega)]
    refine wp_iconst (v := 3) d_Model_length_6 (by decide) ?_
    refine wp_goto (tgt := 21) d_Model_length_7 (by decide) ?_
    exact wp_iret d_Model_length_21 rfl (by decide) (by decide) ⟨rfl, rfl⟩
/-- the digit of place i -/
def dg1 (d i : Nat) : Nat := d / 10 ^ (ln d - 1 - i) % 10
set_option maxHeartbeats 4000000 in
theorem cm_unit0 (hM : Mx G μ0 μ ma τ) {d i : Nat} (hd : d < 2 ^ 31) (hi : i < ln d) : CT G M_Model_unit [.ref (ma 0), .int (nI d), .int (nI i)] μ (fun v μ' => v = some (.int (nI (dg1 d i) - 1)) ∧ μ' = μ) (fun _ _ => False) := by
  refine CT.of (by decide) rfl (Nat.le_of_ble_eq_true rfl) ?_
  have hl := ln_pos d
  refine wp_iload_n d_Model_unit_0 rfl rfl ?_
  refine wp_istore_n d_Model_unit_1 rfl (by decide) ?_
  refine wp_aload_n d_Model_unit_2 rfl rfl ?_
  refine wp_iload_n d_Model_unit_3 rfl rfl ?_
  refine wx_callV d_Model_unit_4 cv_Model_85 cd_Model_length ⟨by decide, by decide⟩ (cm_length G μ (ma 0) hd) hM.obj rfl rfl (Nat.le_of_ble_eq_true rfl) (Nat.le_of_ble_eq_true rfl) (Nat.le_of_ble_eq_true rfl) (fun E1 μ1 hq => hq.elim) (fun v1 μ1 hq => ?_)
  obtain ⟨rfl, rfl⟩ := hq
  refine wp_iconst (v := 1) d_Model_unit_7 (by decide) ?_
  refine wp_isub d_Model_unit_8 ?_
  refine wp_istore d_Model_unit_9 (by decide) ?_
  have loop : ∀ (n m : Nat), m + n = ln d - 1 - i → WP G M_Model_unit (EC G M_Model_unit (fun v μ' => v = some (.int (nI (dg1 d i) - 1)) ∧ μ' = μ1) (fun _ _ => False)) [(0, .ref (ma 0)), (1, .int (nI d)), (2, .int (nI i)), (3, .int (nI (d / 10 ^ m))), (4, .int (nI (ln d - 1 - m)))] 11 [] μ1 0 0 := by
    intro n
    induction n with
    | zero =>
      intro m hm
      have hle : d / 10 ^ m ≤ d := Nat.div_le_self _ _
      refine wp_iload d_Model_unit_11 rfl ?_
      refine wp_iload_n d_Model_unit_13 rfl rfl ?_
      refine wp_icmp_le (tgt := 28) d_Model_unit_14 (by decide) (fun c14 => ?_) (fun c14 => ?_)
      · refine wp_iload_n d_Model_unit_28 rfl rfl ?_
        refine wp_bipush (v := 10) d_Model_unit_29 (by decide) ?_
        refine wp_irem d_Model_unit_31 (by decide) ?_
        refine wp_iconst (v := 1) d_Model_unit_32 (by decide) ?_
        refine wp_isub d_Model_unit_33 ?_
        refine wp_iret d_Model_unit_34 rfl (by decide) (by decide) ⟨?_, rfl⟩
        rw [nI_rem10 (by omega), dg1, ← hm, Nat.add_zero]
      · exact absurd ((nI_leI (by omega) (by omega)).mpr (by omega)) c14
    | succ n ih =>
      intro m hm
      have hle : d / 10 ^ m ≤ d := Nat.div_le_self _ _
      refine wp_iload d_Model_unit_11 rfl ?_
      refine wp_iload_n d_Model_unit_13 rfl rfl ?_
      refine wp_icmp_le (tgt := 28) d_Model_unit_14 (by decide) (fun c14 => ?_) (fun c14 => ?_)
      · exact absurd ((nI_leI (by omega) (by omega)).mp c14) (by omega)
      · refine wp_iload_n d_Model_unit_17 rfl rfl ?_
        refine wp_bipush (v := 10) d_Model_unit_18 (by decide) ?_
        refine wp_idiv d_Model_unit_20 (by decide) ?_
        refine wp_istore_n d_Model_unit_21 rfl (by decide) ?_
        refine wp_iinc d_Model_unit_22 rfl rfl (by decide) ?_
        refine wp_goto (tgt := 11) d_Model_unit_25 (by decide) ?_
        refine WP.loc [(0, .ref (ma 0)), (1, .int (nI d)), (2, .int (nI i)), (3, .int (nI (d / 10 ^ (m + 1)))), (4, .int (nI (ln d - 1 - (m + 1))))] ?_ (ih (m + 1) (by omega))
        rw [show nI (d / 10 ^ (m + 1)) = nI (d / 10 ^ m) / 10 by rw [nI_div10 (by omega), Nat.div_div_eq_div_mul, Nat.pow_succ], show nI (ln d - 1 - (m + 1)) = nI (ln d - 1 - m) + Int32.ofInt (-1) by rw [i32_m1, nI_m1 (by omega)]; rfl]
        rfl
  refine WP.loc [(0, .ref (ma 0)), (1, .int (nI d)), (2, .int (nI i)), (3, .int (nI (d / 10 ^ 0))), (4, .int (nI (ln d - 1 - 0)))] ?_ (WP.widen (Nat.le_of_ble_eq_true rfl) (Nat.le_of_ble_eq_true rfl) (loop (ln d - 1 - i) 0 (by omega)))
  rw [Nat.pow_zero, Nat.div_one, Nat.sub_zero, ← nI_m1 (by omega)]
  rfl
set_option maxRecDepth 100000 in
theorem vr_d1 : ∀ d, d < 667 → vr d = true → ∀ i, i < 3 → i < ln d → dg1 d i = un d i + 1 := by decide +kernel
theorem cm_unit (hM : Mx G μ0 μ ma τ) {d i : Nat} (hd : vr d = true) (hi : i < ln d) : CT G M_Model_unit [.ref (ma 0), .int (nI d), .int (nI i)] μ (fun v μ' => v = some (.int (nI (un d i))) ∧ μ' = μ) (fun _ _ => False) := by
  have h := vr_le hd
  have h2 := cm_unit0 hM (d := d) (i := i) (by omega) hi
  rw [vr_d1 d (by omega) hd i (by have := ln_pos d; omega) hi, nI_pred] at h2
  exact h2
set_option maxHeartbeats 1000000 in
theorem cm_rowFor (hM : Mx G μ0 μ ma τ) (hR : RP τ σ δ) {c o : Nat} (hc : c < 4) (ho : o < 60) : CT G M_Model_rowFor [.ref (ma 0), .int (nI c), .int (nI o)] μ (fun v μ' => v = some (.int (nI (δ (1 + c) (o % 2)))) ∧ μ' = μ) (fun _ _ => False) := by
  refine CT.of (by decide) rfl (Nat.le_of_ble_eq_true rfl) ?_
  have e : (2 : Int32) * nI c + (nI o - nI o / 2 * 2) = nI (2 * c + o % 2) := by rw [ix2, nI_rem2 (by omega), nI_add]
  refine wp_aload_n d_Model_rowFor_0 rfl rfl ?_
  refine wp_get d_Model_rowFor_1 fl_Model_51 hM.obj (by rfl) ?_
  refine wp_iconst (v := 2) d_Model_rowFor_4 (by decide) ?_
  refine wp_iload_n d_Model_rowFor_5 rfl rfl ?_
  refine wp_imul d_Model_rowFor_6 ?_
  refine wp_iload_n d_Model_rowFor_7 rfl rfl ?_
  refine wp_iconst (v := 2) d_Model_rowFor_8 (by decide) ?_
  refine wp_irem d_Model_rowFor_9 (by decide) ?_
  refine wp_iadd d_Model_rowFor_10 ?_
  refine wm_ald (i := 12) (n := 8) hM (by decide) (by decide) rfl rfl d_Model_rowFor_11 (by first | with_reducible exact ixc0 | with_reducible exact ixc1 | with_reducible exact ixc360 | with_reducible rfl | with_reducible exact ix4 _ _ | with_reducible exact ix21 _ | with_reducible exact ix2 _ | with_reducible exact ix4a _ | assumption) (by omega) ?_
  refine wp_iret d_Model_rowFor_12 rfl (by decide) (by decide) ⟨?_, rfl⟩
  rw [hR.kr c (o % 2) hc (by omega)]
set_option maxHeartbeats 1000000 in
theorem cm_usable (hM : Mx G μ0 μ ma τ) (hR : RP τ σ δ) {c u : Nat} (hc : c < 4) (hu : u < 6) : CT G M_Model_usable [.ref (ma 0), .int (nI c), .int (nI u)] μ (fun v μ' => v = some (.int (if usb σ c u = true then 1 else 0)) ∧ μ' = μ) (fun _ _ => False) := by
  refine CT.of (by decide) rfl (Nat.le_of_ble_eq_true rfl) ?_
  have h1 := hR.dn u hu
  have h2 := hR.sl u hu
  have h3 := hR.kn c hc
  refine wp_aload_n d_Model_usable_0 rfl rfl ?_
  refine wp_get d_Model_usable_1 fl_Model_31 hM.obj (by rfl) ?_
  refine wp_iload_n d_Model_usable_4 rfl rfl ?_
  refine wm_zld (i := 8) (n := 6) hM (by decide) (by decide) rfl rfl d_Model_usable_5 (by first | with_reducible exact ixc0 | with_reducible exact ixc1 | with_reducible exact ixc360 | with_reducible rfl | with_reducible exact ix4 _ _ | with_reducible exact ix21 _ | with_reducible exact ix2 _ | with_reducible exact ix4a _ | assumption) (by omega) ?_
  refine wp_if_ne (tgt := 28) d_Model_usable_6 (by decide) (fun c6 => ?_) (fun c6 => ?_)
  · rw [if_neg (fun z => by
      simp only [usb, Bool.and_eq_true, decide_eq_true_eq] at z
      rw [h1, if_neg z.1] at c6; exact c6 rfl)]
    refine wp_iconst (v := 0) d_Model_usable_28 (by decide) ?_
    exact wp_zret d_Model_usable_29 rfl rfl (by decide) (by decide) ⟨rfl, rfl⟩
  · have h4 : ¬ σ (4 + u) 1 = 0 := fun z => by rw [h1, if_pos z] at c6; exact absurd c6 (by decide)
    refine wp_aload_n d_Model_usable_9 rfl rfl ?_
    refine wp_get d_Model_usable_10 fl_Model_35 hM.obj (by rfl) ?_
    refine wp_iload_n d_Model_usable_13 rfl rfl ?_
    refine wm_ald (i := 9) (n := 6) hM (by decide) (by decide) rfl rfl d_Model_usable_14 (by first | with_reducible exact ixc0 | with_reducible exact ixc1 | with_reducible exact ixc360 | with_reducible rfl | with_reducible exact ix4 _ _ | with_reducible exact ix21 _ | with_reducible exact ix2 _ | with_reducible exact ix4a _ | assumption) (by omega) ?_
    refine wp_aload_n d_Model_usable_15 rfl rfl ?_
    refine wp_get d_Model_usable_16 fl_Model_48 hM.obj (by rfl) ?_
    refine wp_iload_n d_Model_usable_19 rfl rfl ?_
    refine wm_ald (i := 11) (n := 4) hM (by decide) (by decide) rfl rfl d_Model_usable_20 (by first | with_reducible exact ixc0 | with_reducible exact ixc1 | with_reducible exact ixc360 | with_reducible rfl | with_reducible exact ix4 _ _ | with_reducible exact ix21 _ | with_reducible exact ix2 _ | with_reducible exact ix4a _ | assumption) (by omega) ?_
    refine wp_icmp_gt (tgt := 28) d_Model_usable_21 (by decide) (fun c21 => ?_) (fun c21 => ?_)
    · rw [if_neg (fun z => by
        simp only [usb, Bool.and_eq_true, decide_eq_true_eq] at z
        rw [h2, h3] at c21
        exact Int32.not_lt.mpr z.2 c21)]
      refine wp_iconst (v := 0) d_Model_usable_28 (by decide) ?_
      exact wp_zret d_Model_usable_29 rfl rfl (by decide) (by decide) ⟨rfl, rfl⟩
    · rw [if_pos (by
        simp only [usb, Bool.and_eq_true, decide_eq_true_eq]
        rw [h2, h3] at c21
        exact ⟨h4, Int32.not_lt.mp c21⟩)]
      refine wp_iconst (v := 1) d_Model_usable_24 (by decide) ?_
      refine wp_goto (tgt := 29) d_Model_usable_25 (by decide) ?_
      exact wp_zret d_Model_usable_29 rfl rfl (by decide) (by decide) ⟨rfl, rfl⟩
set_option maxHeartbeats 1000000 in
theorem cm_cell (G : mt_G) (μ : mu_M) (a u o : Nat) : CT G M_Model_cell [.ref a, .int (nI u), .int (nI o)] μ (fun v μ' => v = some (.int (nI (60 * u + o))) ∧ μ' = μ) (fun _ _ => False) := by
  refine CT.of (by decide) rfl (Nat.le_of_ble_eq_true rfl) ?_
  refine wp_bipush (v := 60) d_Model_cell_0 (by decide) ?_
  refine wp_iload_n d_Model_cell_2 rfl rfl ?_
  refine wp_imul d_Model_cell_3 ?_
  refine wp_iload_n d_Model_cell_4 rfl rfl ?_
  refine wp_iadd d_Model_cell_5 ?_
  refine wp_iret d_Model_cell_6 rfl (by decide) (by decide) ⟨?_, rfl⟩
  rw [ix60]
set_option maxHeartbeats 4000000 in
theorem cm_ones (G : mt_G) (μ : mu_M) (a : Nat) (f : Nat → Int32) : CT G M_Model_ones [.ref a, .int (nI (mk f))] μ (fun v μ' => v = some (.int (nI (pcN f 4))) ∧ μ' = μ) (fun _ _ => False) := by
  refine CT.of (by decide) rfl (Nat.le_of_ble_eq_true rfl) ?_
  refine wp_iconst (v := 0) d_Model_ones_0 (by decide) ?_
  refine wp_istore_n d_Model_ones_1 rfl (by decide) ?_
  refine wp_iconst (v := 0) d_Model_ones_2 (by decide) ?_
  refine wp_istore_n d_Model_ones_3 rfl (by decide) ?_
  have loop : ∀ (n k : Nat), k + n = 4 → WP G M_Model_ones (EC G M_Model_ones (fun v μ' => v = some (.int (nI (pcN f 4))) ∧ μ' = μ) (fun _ _ => False)) [(0, .ref a), (1, .int (nI (mk f))), (2, .int (nI (pcN f k))), (3, .int (nI k))] 4 [] μ 0 0 := by
    intro n
    induction n with
    | zero =>
      intro k hk
      obtain rfl : k = 4 := by omega
      refine wp_iload_n d_Model_ones_4 rfl rfl ?_
      refine wp_iconst (v := 4) d_Model_ones_5 (by decide) ?_
      refine wp_icmp_ge (tgt := 23) d_Model_ones_6 (by decide) (fun c6 => ?_) (fun c6 => ?_)
      · refine wp_iload_n d_Model_ones_23 rfl rfl ?_
        exact wp_iret d_Model_ones_24 rfl (by decide) (by decide) ⟨rfl, rfl⟩
      · exact absurd (by decide) c6
    | succ n ih =>
      intro k hk
      refine wp_iload_n d_Model_ones_4 rfl rfl ?_
      refine wp_iconst (v := 4) d_Model_ones_5 (by decide) ?_
      refine wp_icmp_ge (tgt := 23) d_Model_ones_6 (by decide) (fun c6 => ?_) (fun c6 => ?_)
      · exact absurd ((nI_leI (a := 4) (by omega) (by omega)).mp c6) (by omega)
      · refine wp_iload_n d_Model_ones_9 rfl rfl ?_
        refine wp_iload_n d_Model_ones_10 rfl rfl ?_
        refine wp_iload_n d_Model_ones_11 rfl rfl ?_
        refine wp_ishr d_Model_ones_12 ?_
        refine wp_iconst (v := 1) d_Model_ones_13 (by decide) ?_
        refine wp_iand d_Model_ones_14 ?_
        refine wp_iadd d_Model_ones_15 ?_
        refine wp_istore_n d_Model_ones_16 rfl (by decide) ?_
        refine wp_iinc d_Model_ones_17 rfl rfl (by decide) ?_
        refine wp_goto (tgt := 4) d_Model_ones_20 (by decide) ?_
        refine WP.loc [(0, .ref a), (1, .int (nI (mk f))), (2, .int (nI (pcN f (k + 1)))), (3, .int (nI (k + 1)))] ?_ (ih (k + 1) (by omega))
        have e : nI (pcN f (k + 1)) = nI (pcN f k) + (nI (mk f) >>> (nI k &&& 31) &&& 1) := by
          have hb := mk_bit f (k := k) (by omega)
          rw [bit0 _ (mk_lt f) k (by omega), nI_add, pcN]
          by_cases h0 : f k = 0
          · rw [if_pos h0, hb.1.mpr h0]; rfl
          · rw [if_neg h0, show mk f / 2 ^ k % 2 = 1 from Nat.le_antisymm hb.2 (Nat.pos_of_ne_zero (fun z => h0 (hb.1.mp z)))]
        rw [e, ← nI_1 k]
        rfl
  exact WP.loc [(0, .ref a), (1, .int (nI (mk f))), (2, .int (nI (pcN f 0))), (3, .int (nI 0))] rfl (loop 4 0 rfl)
set_option maxHeartbeats 1000000 in
theorem cm_noToken (hM : Mx G μ0 μ ma τ) (hR : RP τ σ δ) {c : Nat} (hc : c < 4) : CT G M_Model_noToken [.ref (ma 0), .int (nI c)] μ (fun v μ' => v = some (.int (if ntk σ c = true then 1 else 0)) ∧ μ' = μ) (fun _ _ => False) := by
  refine CT.of (by decide) rfl (Nat.le_of_ble_eq_true rfl) ?_
  have h1 := hR.ls
  have h2 := hR.sq
  have h3 := hR.kn c hc
  refine wp_aload_n d_Model_noToken_0 rfl rfl ?_
  refine wp_get d_Model_noToken_1 fl_Model_107 hM.obj (by rfl) ?_
  refine wp_if_ne (tgt := 20) d_Model_noToken_4 (by decide) (fun c4 => ?_) (fun c4 => ?_)
  · rw [if_pos (by
      simp only [ntk, Bool.or_eq_true, decide_eq_true_eq]
      rw [h1] at c4; exact Or.inl c4)]
    refine wp_iconst (v := 1) d_Model_noToken_20 (by decide) ?_
    refine wp_goto (tgt := 25) d_Model_noToken_21 (by decide) ?_
    exact wp_zret d_Model_noToken_25 rfl rfl (by decide) (by decide) ⟨rfl, rfl⟩
  · rw [h1] at c4
    refine wp_aload_n d_Model_noToken_7 rfl rfl ?_
    refine wp_get d_Model_noToken_8 fl_Model_45 hM.obj (by rfl) ?_
    refine wp_aload_n d_Model_noToken_11 rfl rfl ?_
    refine wp_get d_Model_noToken_12 fl_Model_48 hM.obj (by rfl) ?_
    refine wp_iload_n d_Model_noToken_15 rfl rfl ?_
    refine wm_ald (i := 11) (n := 4) hM (by decide) (by decide) rfl rfl d_Model_noToken_16 (by first | with_reducible exact ixc0 | with_reducible exact ixc1 | with_reducible exact ixc360 | with_reducible rfl | with_reducible exact ix4 _ _ | with_reducible exact ix21 _ | with_reducible exact ix2 _ | with_reducible exact ix4a _ | assumption) (by omega) ?_
    refine wp_icmp_eq (tgt := 24) d_Model_noToken_17 (by decide) (fun c17 => ?_) (fun c17 => ?_)
    · rw [h2, h3] at c17
      rw [if_neg (fun z => by
        simp only [ntk, Bool.or_eq_true, decide_eq_true_eq] at z
        rcases z with z | z
        · exact z c4
        · exact z c17)]
      refine wp_iconst (v := 0) d_Model_noToken_24 (by decide) ?_
      exact wp_zret d_Model_noToken_25 rfl rfl (by decide) (by decide) ⟨rfl, rfl⟩
    · rw [h2, h3] at c17
      rw [if_pos (by
        simp only [ntk, Bool.or_eq_true, decide_eq_true_eq]
        exact Or.inr c17)]
      refine wp_iconst (v := 1) d_Model_noToken_20 (by decide) ?_
      refine wp_goto (tgt := 25) d_Model_noToken_21 (by decide) ?_
      exact wp_zret d_Model_noToken_25 rfl rfl (by decide) (by decide) ⟨rfl, rfl⟩
end MLeaf
