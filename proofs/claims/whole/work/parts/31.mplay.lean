/-! THE REFERENCE: ages, writing, playing -/
def amN (f0 f1 ag : Nat → Int32) (k : Nat) : Bool := (List.range k).all (fun k => decide (f0 k = 0) || decide (f1 k = ag k))
theorem amN_s (f0 f1 ag : Nat → Int32) (k : Nat) : amN f0 f1 ag (k + 1) = (amN f0 f1 ag k && (decide (f0 k = 0) || decide (f1 k = ag k))) := by
  simp [amN, List.range_succ]
theorem am_congr {f0 f1 ag g0 g1 bg : Nat → Int32} (h : ∀ k, k < 4 → f0 k = g0 k ∧ f1 k = g1 k ∧ ag k = bg k) : am f0 f1 ag = am g0 g1 bg := by
  rw [Bool.eq_iff_iff, am_iff, am_iff]
  refine ⟨fun q k hk => ?_, fun q k hk => ?_⟩
  · obtain ⟨a, b, c⟩ := h k hk
    rw [← a, ← b, ← c]; exact q k hk
  · obtain ⟨a, b, c⟩ := h k hk
    rw [a, b, c]; exact q k hk
theorem apR_put {c k : Nat} (hk : k < 4) (x age : Int32) (σ : sg) : apR c (vPut k x) age 4 σ = up2 (up2 σ (20 + c) k x) (24 + c) k age := by
  rcases (show k = 0 ∨ k = 1 ∨ k = 2 ∨ k = 3 by omega) with rfl | rfl | rfl | rfl <;> simp [apR, vPut]
theorem apR_junk (c : Nat) (age : Int32) (σ : sg) : apR c vJunk age 4 σ = σ := by
  simp [apR, vJunk]
theorem vPut_0 (k : Nat) (x : Int32) : vPut k x 0 = 1 := rfl
theorem am_put {k : Nat} (x : Int32) (f ag : Nat → Int32) : am (fun j => vPut k x (2 + j)) f ag = true := by
  rw [am_iff]
  intro j hj
  refine Or.inl ?_
  show vPut k x (2 + j) = 0
  unfold vPut
  rw [if_neg (by omega), if_neg (by omega), if_neg (by omega), if_neg (by omega)]
theorem am_junk (f ag : Nat → Int32) : am (fun j => vJunk (2 + j)) f ag = true := by
  rw [am_iff]
  intro j hj
  exact Or.inl (if_neg (by omega))
section MPlay
variable {G : mt_G} {μ0 μ : mu_M} {ma : Nat → Nat} {τ σ : sg} {δ : dg}
set_option maxHeartbeats 4000000 in
theorem cm_sameAges (hM : Mx G μ0 μ ma τ) {c j i : Nat} (hc : c < 4) (f : Nat → Int32) (h0 : 0 < i) (hi : i < 21) (ht : tyM i = 0) (hj : 4 * j + 4 ≤ lnM i) : CT G M_Model_sameAges [.ref (ma 0), .int (nI c), .int (nI (mk f)), .ref (ma i), .int (nI (4 * j))] μ (fun v μ' => v = some (.int (if am f (fun k => τ i (4 * j + k)) (fun k => τ 15 (4 * c + k)) = true then 1 else 0)) ∧ μ' = μ) (fun _ _ => False) := by
  refine CT.of (by decide) rfl (Nat.le_of_ble_eq_true rfl) ?_
  have loop : ∀ (n k : Nat), k + n = 4 → WP G M_Model_sameAges (EC G M_Model_sameAges (fun v μ' => v = some (.int (if am f (fun k => τ i (4 * j + k)) (fun k => τ 15 (4 * c + k)) = true then 1 else 0)) ∧ μ' = μ) (fun _ _ => False)) [(0, .ref (ma 0)), (1, .int (nI c)), (2, .int (nI (mk f))), (3, .ref (ma i)), (4, .int (nI (4 * j))), (5, .int (if amN f (fun k => τ i (4 * j + k)) (fun k => τ 15 (4 * c + k)) k = true then 1 else 0)), (6, .int (nI k))] 6 [] μ 0 0 := by
    intro n
    induction n with
    | zero =>
      intro k hk
      obtain rfl : k = 4 := by omega
      refine wp_iload d_Model_sameAges_6 rfl ?_
      refine wp_iconst (v := 4) d_Model_sameAges_8 (by decide) ?_
      refine wp_icmp_ge (tgt := 58) d_Model_sameAges_9 (by decide) (fun c9 => ?_) (fun c9 => ?_)
      · refine wp_iload d_Model_sameAges_58 rfl ?_
        refine wp_zret d_Model_sameAges_60 rfl ?_ (by decide) (by decide) ⟨rfl, rfl⟩
        split <;> rfl
      · exact absurd (by decide) c9
    | succ n ih =>
      intro k hk
      refine wp_iload d_Model_sameAges_6 rfl ?_
      refine wp_iconst (v := 4) d_Model_sameAges_8 (by decide) ?_
      refine wp_icmp_ge (tgt := 58) d_Model_sameAges_9 (by decide) (fun c9 => ?_) (fun c9 => ?_)
      · exact absurd ((nI_leI (a := 4) (by omega) (by omega)).mp c9) (by omega)
      have fin : ∀ b : Bool, amN f (fun k => τ i (4 * j + k)) (fun k => τ 15 (4 * c + k)) (k + 1) = (amN f (fun k => τ i (4 * j + k)) (fun k => τ 15 (4 * c + k)) k && b) → WP G M_Model_sameAges (EC G M_Model_sameAges (fun v μ' => v = some (.int (if am f (fun k => τ i (4 * j + k)) (fun k => τ 15 (4 * c + k)) = true then 1 else 0)) ∧ μ' = μ) (fun _ _ => False)) [(0, .ref (ma 0)), (1, .int (nI c)), (2, .int (nI (mk f))), (3, .ref (ma i)), (4, .int (nI (4 * j))), (5, .int (if amN f (fun k => τ i (4 * j + k)) (fun k => τ 15 (4 * c + k)) k = true then 1 else 0)), (6, .int (nI k))] 49 [.int (if b = true then 1 else 0), .int (if amN f (fun k => τ i (4 * j + k)) (fun k => τ 15 (4 * c + k)) k = true then 1 else 0)] μ 0 0 := by
        intro b hb
        have e : ((if amN f (fun k => τ i (4 * j + k)) (fun k => τ 15 (4 * c + k)) k = true then (1 : Int32) else 0) &&& (if b = true then 1 else 0)) = if amN f (fun k => τ i (4 * j + k)) (fun k => τ 15 (4 * c + k)) (k + 1) = true then 1 else 0 := by
          rw [hb]
          cases amN f (fun k => τ i (4 * j + k)) (fun k => τ 15 (4 * c + k)) k <;> cases b <;> rfl
        refine wp_iand d_Model_sameAges_49 ?_
        refine wp_istore d_Model_sameAges_50 (by decide) ?_
        refine wp_iinc d_Model_sameAges_52 rfl rfl (by decide) ?_
        refine wp_goto (tgt := 6) d_Model_sameAges_55 (by decide) ?_
        refine WP.loc [(0, .ref (ma 0)), (1, .int (nI c)), (2, .int (nI (mk f))), (3, .ref (ma i)), (4, .int (nI (4 * j))), (5, .int (if amN f (fun k => τ i (4 * j + k)) (fun k => τ 15 (4 * c + k)) (k + 1) = true then 1 else 0)), (6, .int (nI (k + 1)))] ?_ (ih (k + 1) (by omega))
        rw [← e, ← nI_1 k]; rfl
      refine wp_iload d_Model_sameAges_12 rfl ?_
      refine wp_iload_n d_Model_sameAges_14 rfl rfl ?_
      refine wp_iload d_Model_sameAges_15 rfl ?_
      refine wp_ishr d_Model_sameAges_17 ?_
      refine wp_iconst (v := 1) d_Model_sameAges_18 (by decide) ?_
      refine wp_iand d_Model_sameAges_19 ?_
      refine wp_if_eq (tgt := 44) d_Model_sameAges_20 (by decide) (fun c20 => ?_) (fun c20 => ?_)
      · have hz := (mk_b f (k := k) (by omega)).mp c20
        refine wp_iconst (v := 1) d_Model_sameAges_44 (by decide) ?_
        refine wp_goto (tgt := 49) d_Model_sameAges_45 (by decide) ?_
        exact fin true (by rw [amN_s, decide_eq_true hz, Bool.true_or])
      · have hz : ¬ f k = 0 := fun z => c20 ((mk_b f (k := k) (by omega)).mpr z)
        refine wp_aload_n d_Model_sameAges_23 rfl rfl ?_
        refine wp_get d_Model_sameAges_24 fl_Model_60 hM.obj (by rfl) ?_
        refine wp_iconst (v := 4) d_Model_sameAges_27 (by decide) ?_
        refine wp_iload_n d_Model_sameAges_28 rfl rfl ?_
        refine wp_imul d_Model_sameAges_29 ?_
        refine wp_iload d_Model_sameAges_30 rfl ?_
        refine wp_iadd d_Model_sameAges_32 ?_
        refine wm_ald (i := 15) (n := 16) hM (by decide) (by decide) rfl rfl d_Model_sameAges_33 (by first | with_reducible exact ixc0 | with_reducible exact ixc1 | with_reducible exact ixc360 | with_reducible rfl | with_reducible exact ix4 _ _ | with_reducible exact ix21 _ | with_reducible exact ix2 _ | with_reducible exact ix4a _ | assumption) (by omega) ?_
        refine wp_aload_n d_Model_sameAges_34 rfl rfl ?_
        refine wp_iload d_Model_sameAges_35 rfl ?_
        refine wp_iload d_Model_sameAges_37 rfl ?_
        refine wp_iadd d_Model_sameAges_39 ?_
        refine wm_ald (i := i) (n := lnM i) hM h0 hi ht rfl d_Model_sameAges_40 (nI_add _ _) (by omega) ?_
        refine wp_icmp_ne (tgt := 48) d_Model_sameAges_41 (by decide) (fun c41 => ?_) (fun c41 => ?_)
        · refine wp_iconst (v := 0) d_Model_sameAges_48 (by decide) ?_
          exact fin false (by rw [amN_s, decide_eq_false hz, decide_eq_false (fun z => c41 z.symm), Bool.false_or])
        · refine wp_iconst (v := 1) d_Model_sameAges_44 (by decide) ?_
          refine wp_goto (tgt := 49) d_Model_sameAges_45 (by decide) ?_
          exact fin true (by rw [amN_s, decide_eq_true c41.symm, Bool.or_true])
  refine wp_iconst (v := 1) d_Model_sameAges_0 (by decide) ?_
  refine wp_istore d_Model_sameAges_1 (by decide) ?_
  refine wp_iconst (v := 0) d_Model_sameAges_3 (by decide) ?_
  refine wp_istore d_Model_sameAges_4 (by decide) ?_
  exact WP.loc [(0, .ref (ma 0)), (1, .int (nI c)), (2, .int (nI (mk f))), (3, .ref (ma i)), (4, .int (nI (4 * j))), (5, .int (if amN f (fun k => τ i (4 * j + k)) (fun k => τ 15 (4 * c + k)) 0 = true then 1 else 0)), (6, .int (nI 0))] rfl (loop 4 0 rfl)
set_option maxHeartbeats 1000000 in
theorem cm_place (hM : Mx G μ0 μ ma τ) {c k : Nat} (hc : c < 4) (hk : k < 4) (x : Int32) : CT G M_Model_place [.ref (ma 0), .int (nI c), .int (nI k), .int x] μ (fun v μ' => v = none ∧ Mx G μ0 μ' ma (up2 (up2 τ 14 (4 * c + k) x) 15 (4 * c + k) (τ 13 c + 1))) (fun _ _ => False) := by
  refine CT.of (by decide) rfl (Nat.le_of_ble_eq_true rfl) ?_
  refine wp_aload_n d_Model_place_0 rfl rfl ?_
  refine wp_get d_Model_place_1 fl_Model_57 hM.obj (by rfl) ?_
  refine wp_iconst (v := 4) d_Model_place_4 (by decide) ?_
  refine wp_iload_n d_Model_place_5 rfl rfl ?_
  refine wp_imul d_Model_place_6 ?_
  refine wp_iload_n d_Model_place_7 rfl rfl ?_
  refine wp_iadd d_Model_place_8 ?_
  refine wp_iload_n d_Model_place_9 rfl rfl ?_
  refine wm_ast (i := 14) (n := 16) hM (by decide) (by decide) rfl rfl d_Model_place_10 (by first | with_reducible exact ixc0 | with_reducible exact ixc1 | with_reducible exact ixc360 | with_reducible rfl | with_reducible exact ix4 _ _ | with_reducible exact ix21 _ | with_reducible exact ix2 _ | with_reducible exact ix4a _ | assumption) (by omega) (fun μ1 hM => ?_)
  refine wp_aload_n d_Model_place_11 rfl rfl ?_
  refine wp_get d_Model_place_12 fl_Model_60 hM.obj (by rfl) ?_
  refine wp_iconst (v := 4) d_Model_place_15 (by decide) ?_
  refine wp_iload_n d_Model_place_16 rfl rfl ?_
  refine wp_imul d_Model_place_17 ?_
  refine wp_iload_n d_Model_place_18 rfl rfl ?_
  refine wp_iadd d_Model_place_19 ?_
  refine wp_aload_n d_Model_place_20 rfl rfl ?_
  refine wp_get d_Model_place_21 fl_Model_54 hM.obj (by rfl) ?_
  refine wp_iload_n d_Model_place_24 rfl rfl ?_
  refine wm_ald (i := 13) (n := 4) hM (by decide) (by decide) rfl rfl d_Model_place_25 (by first | with_reducible exact ixc0 | with_reducible exact ixc1 | with_reducible exact ixc360 | with_reducible rfl | with_reducible exact ix4 _ _ | with_reducible exact ix21 _ | with_reducible exact ix2 _ | with_reducible exact ix4a _ | assumption) (by omega) ?_
  refine wp_iconst (v := 1) d_Model_place_26 (by decide) ?_
  refine wp_iadd d_Model_place_27 ?_
  refine wm_ast (i := 15) (n := 16) hM (by decide) (by decide) rfl rfl d_Model_place_28 (by first | with_reducible exact ixc0 | with_reducible exact ixc1 | with_reducible exact ixc360 | with_reducible rfl | with_reducible exact ix4 _ _ | with_reducible exact ix21 _ | with_reducible exact ix2 _ | with_reducible exact ix4a _ | assumption) (by omega) (fun μ1 hM => ?_)
  exact wp_vret d_Model_place_29 rfl (by decide) (by decide) ⟨rfl, hM⟩
def PW (G : mt_G) (μ0 : mu_M) (ma : Nat → Nat) (τ : sg) (δ : dg) (r : Nat × sg) : Option Value → mu_M → Prop := fun x μ' => ∃ τ', x = some (.int (nI r.1)) ∧ Mx G μ0 μ' ma τ' ∧ RP τ' r.2 δ ∧ τ' 0 = τ 0
set_option maxHeartbeats 4000000 in
set_option maxRecDepth 10000 in
theorem cm_write (hM : Mx G μ0 μ ma τ) (hR : RP τ σ δ) {c o m : Nat} {v : Nat → Int32} (hc : c < 4) (ho : o < 60) (hm : m ≤ 3) (hE : Ent τ 360 v) (hb : vB v) : CT G M_Model_write [.ref (ma 0), .int (nI c), .int (nI o), .int (nI m)] μ (PW G μ0 ma τ δ (wrS c o v (δ (1 + c) (o % 2)) (min (ln (δ (1 + c) (o % 2))) m) 0 σ)) (fun _ _ => False) := by
  refine CT.of (by decide) rfl (Nat.le_of_ble_eq_true rfl) ?_
  have hd := hR.p1 (1 + c) (o % 2) (by omega) (by omega)
  refine wp_aload_n d_Model_write_0 rfl rfl ?_
  refine wp_iload_n d_Model_write_1 rfl rfl ?_
  refine wp_iload_n d_Model_write_2 rfl rfl ?_
  refine wx_callV d_Model_write_3 cv_Model_89 cd_Model_rowFor ⟨by decide, by decide⟩ (cm_rowFor hM hR hc ho) hM.obj rfl rfl (Nat.le_of_ble_eq_true rfl) (Nat.le_of_ble_eq_true rfl) (Nat.le_of_ble_eq_true rfl) (fun E1 μ1 hq => hq.elim) (fun v1 μ1 hq => ?_)
  obtain ⟨rfl, rfl⟩ := hq
  generalize δ (1 + c) (o % 2) = d at hd
  have hl := ln_pos d
  have hv := vr_le hd
  refine wp_istore d_Model_write_6 (by decide) ?_
  refine wp_iconst (v := 0) d_Model_write_8 (by decide) ?_
  refine wp_istore d_Model_write_9 (by decide) ?_
  have loop : ∀ (n i : Nat) (τ1 σ1 : sg) (μ1 : mu_M), i + n = min (ln d) m → Mx G μ0 μ1 ma τ1 → RP τ1 σ1 δ → Ent τ1 360 v → τ1 0 = τ 0 → WP G M_Model_write (EC G M_Model_write (PW G μ0 ma τ δ (wrS c o v d n i σ1)) (fun _ _ => False)) [(0, .ref (ma 0)), (1, .int (nI c)), (2, .int (nI o)), (3, .int (nI m)), (4, .int (nI d)), (5, .int (nI i))] 11 [] μ1 0 0 := by
    intro n
    induction n with
    | zero =>
      intro i τ1 σ1 μ1 hi hM hR hE h0
      refine wp_iload d_Model_write_11 rfl ?_
      refine wp_aload_n d_Model_write_13 rfl rfl ?_
      refine wp_iload d_Model_write_14 rfl ?_
      refine wx_callV d_Model_write_16 cv_Model_85 cd_Model_length ⟨by decide, by decide⟩ (cm_length G μ1 (ma 0) (d := d) (by omega)) hM.obj rfl rfl (Nat.le_of_ble_eq_true rfl) (Nat.le_of_ble_eq_true rfl) (Nat.le_of_ble_eq_true rfl) (fun E1 μ1 hq => hq.elim) (fun v1 μ1 hq => ?_)
      obtain ⟨rfl, rfl⟩ := hq
      refine wp_icmp_ge (tgt := 87) d_Model_write_19 (by decide) (fun c19 => ?_) (fun c19 => ?_)
      · refine wp_iconst (v := 0) d_Model_write_87 (by decide) ?_
        exact wp_iret d_Model_write_88 rfl (by decide) (by decide) ⟨τ1, rfl, hM, hR, h0⟩
      · refine wp_iload d_Model_write_22 rfl ?_
        refine wp_iload_n d_Model_write_24 rfl rfl ?_
        refine wp_icmp_ge (tgt := 87) d_Model_write_25 (by decide) (fun c25 => ?_) (fun c25 => ?_)
        · refine wp_iconst (v := 0) d_Model_write_87 (by decide) ?_
          exact wp_iret d_Model_write_88 rfl (by decide) (by decide) ⟨τ1, rfl, hM, hR, h0⟩
        · exact absurd ((nI_leI (by omega) (by omega)).mpr (by have : ¬ ln d ≤ i := fun z => c19 ((nI_leI (by omega) (by omega)).mpr z); omega)) c25
    | succ n ih =>
      intro i τ1 σ1 μ1 hi hM hR hE h0
      refine wp_iload d_Model_write_11 rfl ?_
      refine wp_aload_n d_Model_write_13 rfl rfl ?_
      refine wp_iload d_Model_write_14 rfl ?_
      refine wx_callV d_Model_write_16 cv_Model_85 cd_Model_length ⟨by decide, by decide⟩ (cm_length G μ1 (ma 0) (d := d) (by omega)) hM.obj rfl rfl (Nat.le_of_ble_eq_true rfl) (Nat.le_of_ble_eq_true rfl) (Nat.le_of_ble_eq_true rfl) (fun E1 μ1 hq => hq.elim) (fun v1 μ1 hq => ?_)
      obtain ⟨rfl, rfl⟩ := hq
      refine wp_icmp_ge (tgt := 87) d_Model_write_19 (by decide) (fun c19 => ?_) (fun c19 => ?_)
      · exact absurd ((nI_leI (by omega) (by omega)).mp c19) (by omega)
      refine wp_iload d_Model_write_22 rfl ?_
      refine wp_iload_n d_Model_write_24 rfl rfl ?_
      refine wp_icmp_ge (tgt := 87) d_Model_write_25 (by decide) (fun c25 => ?_) (fun c25 => ?_)
      · exact absurd ((nI_leI (by omega) (by omega)).mp c25) (by omega)
      have hi2 : i < ln d := by omega
      have hu := vr_un hd hi2
      refine wp_aload_n d_Model_write_28 rfl rfl ?_
      refine wp_iload d_Model_write_29 rfl ?_
      refine wp_iload d_Model_write_31 rfl ?_
      refine wx_callV d_Model_write_33 cv_Model_93 cd_Model_unit ⟨by decide, by decide⟩ (cm_unit hM hd hi2) hM.obj rfl rfl (Nat.le_of_ble_eq_true rfl) (Nat.le_of_ble_eq_true rfl) (Nat.le_of_ble_eq_true rfl) (fun E1 μ1 hq => hq.elim) (fun v1 μ1 hq => ?_)
      obtain ⟨rfl, rfl⟩ := hq
      refine wp_istore d_Model_write_36 (by decide) ?_
      refine wp_aload_n d_Model_write_38 rfl rfl ?_
      refine wp_iload_n d_Model_write_39 rfl rfl ?_
      refine wp_iload d_Model_write_40 rfl ?_
      refine wx_callV d_Model_write_42 cv_Model_96 cd_Model_usable ⟨by decide, by decide⟩ (cm_usable hM hR hc hu) hM.obj rfl rfl (Nat.le_of_ble_eq_true rfl) (Nat.le_of_ble_eq_true rfl) (Nat.le_of_ble_eq_true rfl) (fun E1 μ1 hq => hq.elim) (fun v1 μ1 hq => ?_)
      obtain ⟨rfl, rfl⟩ := hq
      refine wp_if_ne (tgt := 50) d_Model_write_45 (by decide) (fun c45 => ?_) (fun c45 => ?_)
      · have hus : usb σ1 c (un d i) = true := by
          cases h : usb σ1 c (un d i)
          · rw [if_neg (by rw [h]; decide)] at c45; exact absurd rfl c45
          · rfl
        refine wp_aload_n d_Model_write_50 rfl rfl ?_
        refine wp_get d_Model_write_51 fl_Model_7 hM.obj (by rfl) ?_
        refine wp_aload_n d_Model_write_54 rfl rfl ?_
        refine wp_iload d_Model_write_55 rfl ?_
        refine wp_iload_n d_Model_write_57 rfl rfl ?_
        refine wx_callV d_Model_write_58 cv_Model_100 cd_Model_cell ⟨by decide, by decide⟩ (cm_cell G μ1 (ma 0) (un d i) o) hM.obj rfl rfl (Nat.le_of_ble_eq_true rfl) (Nat.le_of_ble_eq_true rfl) (Nat.le_of_ble_eq_true rfl) (fun E1 μ1 hq => hq.elim) (fun v1 μ1 hq => ?_)
        obtain ⟨rfl, rfl⟩ := hq
        refine wm_ald (i := 1) (n := 361) hM (by decide) (by decide) rfl rfl d_Model_write_61 (by first | with_reducible exact ixc0 | with_reducible exact ixc1 | with_reducible exact ixc360 | with_reducible rfl | with_reducible exact ix4 _ _ | with_reducible exact ix21 _ | with_reducible exact ix2 _ | with_reducible exact ix4a _ | assumption) (by omega) ?_
        have hk := (hR.en (un d i) o hu ho).kd
        refine wp_if_eq (tgt := 67) d_Model_write_62 (by decide) (fun c62 => ?_) (fun c62 => ?_)
        · rw [hk] at c62
          rw [wrS, if_pos hus, if_pos c62]
          refine wp_aload_n d_Model_write_67 rfl rfl ?_
          refine wp_sipush (v := 360) d_Model_write_68 (by decide) ?_
          refine wp_aload_n d_Model_write_71 rfl rfl ?_
          refine wp_iload d_Model_write_72 rfl ?_
          refine wp_iload_n d_Model_write_74 rfl rfl ?_
          refine wx_callV d_Model_write_75 cv_Model_100 cd_Model_cell ⟨by decide, by decide⟩ (cm_cell G μ1 (ma 0) (un d i) o) hM.obj rfl rfl (Nat.le_of_ble_eq_true rfl) (Nat.le_of_ble_eq_true rfl) (Nat.le_of_ble_eq_true rfl) (fun E1 μ1 hq => hq.elim) (fun v1 μ1 hq => ?_)
          obtain ⟨rfl, rfl⟩ := hq
          refine wx_callV d_Model_write_78 cv_Model_103 cd_Model_copy ⟨by decide, by decide⟩ (cm_copy hM (fr := 360) (to := 60 * un d i + o) (by omega) (by omega)) hM.obj rfl rfl (Nat.le_of_ble_eq_true rfl) (Nat.le_of_ble_eq_true rfl) (Nat.le_of_ble_eq_true rfl) (fun E1 μ2 hq => hq.elim) (fun v1 μ2 hq => ?_)
          obtain ⟨rfl, τ2, hM, hCP⟩ := hq
          refine wp_iinc d_Model_write_81 rfl rfl (by decide) ?_
          refine wp_goto (tgt := 11) d_Model_write_84 (by decide) ?_
          refine WP.loc [(0, .ref (ma 0)), (1, .int (nI c)), (2, .int (nI o)), (3, .int (nI m)), (4, .int (nI d)), (5, .int (nI (i + 1)))] (by rw [← nI_1 i]; rfl) (ih (i + 1) τ2 _ _ (by omega) hM (hR.copy hu ho hCP hE hb) (hCP.off (by omega) (by omega) hE) ?_)
          rw [hCP.1 0 (Or.inl rfl), h0]
        · rw [hk] at c62
          rw [wrS, if_pos hus, if_neg c62]
          refine wp_iconst (v := 2) d_Model_write_65 (by decide) ?_
          exact wp_iret d_Model_write_66 rfl (by decide) (by decide) ⟨τ1, rfl, hM, hR, h0⟩
      · have hus : ¬ usb σ1 c (un d i) = true := fun z => by rw [if_pos z] at c45; exact absurd c45 (by decide)
        rw [wrS, if_neg hus]
        refine wp_iconst (v := 1) d_Model_write_48 (by decide) ?_
        exact wp_iret d_Model_write_49 rfl (by decide) (by decide) ⟨τ1, rfl, hM, hR, h0⟩
  refine WP.loc [(0, .ref (ma 0)), (1, .int (nI c)), (2, .int (nI o)), (3, .int (nI m)), (4, .int (nI d)), (5, .int (nI 0))] rfl (WP.widen (Nat.le_of_ble_eq_true rfl) (Nat.le_of_ble_eq_true rfl) (loop _ 0 τ σ _ (Nat.zero_add _) hM hR hE rfl))
/-- what playing gives: the code, the state; and the mark, where an entry was played and the last one is of kind 2 (K) -/
def PP (G : mt_G) (μ0 : mu_M) (ma : Nat → Nat) (τ : sg) (δ : dg) (K : Prop) (b : Bool) (r : Nat × Int32 × sg) : Option Value → mu_M → Prop := fun x μ' => ∃ τ', x = some (.int (nI r.1)) ∧ Mx G μ0 μ' ma τ' ∧ RP τ' r.2.2 δ ∧ τ' 0 0 = τ 0 0 ∧ (r.1 = 0 → (b = false → τ' 0 5 = τ 0 5) ∧ (b = true → K → τ' 0 5 = r.2.1))
set_option maxHeartbeats 8000000 in
set_option maxRecDepth 10000 in
theorem cm_play (hM : Mx G μ0 μ ma τ) (hR : RP τ σ δ) {c p e : Nat} (t : Int32) (hc : c < 4) (hp : σ (16 + c) 4 = nI p) (hp6 : p ≤ 60) (he : e ≤ 60) : CT G M_Model_play [.ref (ma 0), .int (nI c), .int (nI e)] μ (PP G μ0 ma τ δ (σ (eR (uL (δ (1 + c) ((e - 1) % 2))) (e - 1)) 0 = 2) (decide (p < e)) (plS c δ (e - p) p t σ)) (fun _ _ => False) := by
  refine CT.of (by decide) rfl (Nat.le_of_ble_eq_true rfl) ?_
  generalize hK : (σ (eR (uL (δ (1 + c) ((e - 1) % 2))) (e - 1)) 0 = 2) = K
  have loop : ∀ (n p : Nat) (t : Int32) (τ1 σ1 : sg) (μ1 : mu_M) (Q : Option Value → mu_M → Prop), n = e - p → p ≤ 60 → Mx G μ0 μ1 ma τ1 → RP τ1 σ1 δ → σ1 (16 + c) 4 = nI p → (∀ i, 100 ≤ i → i < 460 → σ1 i = σ i) → (∀ x μ', PP G μ0 ma τ1 δ K (decide (p < e)) (plS c δ n p t σ1) x μ' → Q x μ') → WP G M_Model_play (EC G M_Model_play Q (fun _ _ => False)) [(0, .ref (ma 0)), (1, .int (nI c)), (2, .int (nI e))] 0 [] μ1 0 0 := by
    intro n
    induction n with
    | zero =>
      intro p t τ1 σ1 μ1 Q hn hp6 hM hR hp hrow hQ
      have hpo := (hR.po c hc).trans hp
      refine wp_aload_n d_Model_play_0 rfl rfl ?_
      refine wp_get d_Model_play_1 fl_Model_54 hM.obj (by rfl) ?_
      refine wp_iload_n d_Model_play_4 rfl rfl ?_
      refine wm_ald (i := 13) (n := 4) hM (by decide) (by decide) rfl rfl d_Model_play_5 (by first | with_reducible exact ixc0 | with_reducible exact ixc1 | with_reducible exact ixc360 | with_reducible rfl | with_reducible exact ix4 _ _ | with_reducible exact ix21 _ | with_reducible exact ix2 _ | with_reducible exact ix4a _ | assumption) (by omega) ?_
      refine wp_iload_n d_Model_play_6 rfl rfl ?_
      refine wp_icmp_ge (tgt := 185) d_Model_play_7 (by decide) (fun c7 => ?_) (fun c7 => ?_)
      · refine wp_iconst (v := 0) d_Model_play_185 (by decide) ?_
        exact wp_iret d_Model_play_186 rfl (by decide) (by decide) (hQ _ _ ⟨τ1, rfl, hM, hR, rfl, fun _ => ⟨fun _ => rfl, fun z => absurd (of_decide_eq_true z) (by omega)⟩⟩)
      · rw [hpo] at c7
        exact absurd ((nI_leI (by omega) (by omega)).mpr (by omega)) c7
    | succ n ih =>
      intro p t τ1 σ1 μ1 Q hn hp6 hM hR hp hrow hQ
      have hpo := (hR.po c hc).trans hp
      have hpe : p < e := by omega
      have hd := hR.p1 (1 + c) (p % 2) (by omega) (by omega)
      have hu := uL_lt hd
      refine wp_aload_n d_Model_play_0 rfl rfl ?_
      refine wp_get d_Model_play_1 fl_Model_54 hM.obj (by rfl) ?_
      refine wp_iload_n d_Model_play_4 rfl rfl ?_
      refine wm_ald (i := 13) (n := 4) hM (by decide) (by decide) rfl rfl d_Model_play_5 (by first | with_reducible exact ixc0 | with_reducible exact ixc1 | with_reducible exact ixc360 | with_reducible rfl | with_reducible exact ix4 _ _ | with_reducible exact ix21 _ | with_reducible exact ix2 _ | with_reducible exact ix4a _ | assumption) (by omega) ?_
      refine wp_iload_n d_Model_play_6 rfl rfl ?_
      refine wp_icmp_ge (tgt := 185) d_Model_play_7 (by decide) (fun c7 => ?_) (fun c7 => ?_)
      · rw [hpo] at c7
        exact absurd ((nI_leI (by omega) (by omega)).mp c7) (by omega)
      refine wp_aload_n d_Model_play_10 rfl rfl ?_
      refine wp_iload_n d_Model_play_11 rfl rfl ?_
      refine wp_aload_n d_Model_play_12 rfl rfl ?_
      refine wp_get d_Model_play_13 fl_Model_54 hM.obj (by rfl) ?_
      refine wp_iload_n d_Model_play_16 rfl rfl ?_
      refine wm_ald (i := 13) (n := 4) hM (by decide) (by decide) rfl rfl d_Model_play_17 (by first | with_reducible exact ixc0 | with_reducible exact ixc1 | with_reducible exact ixc360 | with_reducible rfl | with_reducible exact ix4 _ _ | with_reducible exact ix21 _ | with_reducible exact ix2 _ | with_reducible exact ix4a _ | assumption) (by omega) ?_
      rw [hpo]
      refine wx_callV d_Model_play_18 cv_Model_128 cd_Model_lastCell ⟨by decide, by decide⟩ (cm_lastCell hM hR hc (o := p) (by omega)) hM.obj rfl rfl (Nat.le_of_ble_eq_true rfl) (Nat.le_of_ble_eq_true rfl) (Nat.le_of_ble_eq_true rfl) (fun E1 μ1 hq => hq.elim) (fun v1 μ1 hq => ?_)
      obtain ⟨rfl, rfl⟩ := hq
      have hen := hR.en (uL (δ (1 + c) (p % 2))) p hu (by omega)
      have hKp : n = 0 → K → σ1 (eR (uL (δ (1 + c) (p % 2))) p) 0 = 2 := fun h0 hk => by
        rw [← hK, show e - 1 = p by omega] at hk
        rw [hrow _ (by unfold eR; omega) (by unfold eR; omega)]; exact hk
      by_cases hus : usb σ1 c (uL (δ (1 + c) (p % 2))) = true
      · rw [if_pos hus]
        rw [plS, if_pos hus] at hQ
        generalize uL (δ (1 + c) (p % 2)) = u at hus hu hen hKp hQ ⊢
        have tail : ∀ (t2 : Int32) (τ2 σ2 : sg) (μ2 : mu_M), Mx G μ0 μ2 ma τ2 → RP τ2 σ2 δ → τ2 0 0 = τ1 0 0 → τ2 13 c = nI p → (∀ i, 100 ≤ i → i < 460 → σ2 i = σ i) → (σ1 (eR u p) 0 = 2 → τ2 0 5 = t2) → (∀ x μ', PP G μ0 ma τ1 δ K (decide (p < e)) (plS c δ n (p + 1) t2 (up2 σ2 (16 + c) 4 (nI (p + 1)))) x μ' → Q x μ') → WP G M_Model_play (EC G M_Model_play Q (fun _ _ => False)) [(0, .ref (ma 0)), (1, .int (nI c)), (2, .int (nI e))] 172 [] μ2 0 0 := by
          intro t2 τ2 σ2 μ2 hM hR2 h00 h13 hrow2 hk2 hQ2
          have e13 : τ2 13 c + 1 = nI (p + 1) := by rw [h13, nI_1]
          refine wp_aload_n d_Model_play_172 rfl rfl ?_
          refine wp_get d_Model_play_173 fl_Model_54 hM.obj (by rfl) ?_
          refine wp_iload_n d_Model_play_176 rfl rfl ?_
          refine wp_dup2_11 d_Model_play_177 rfl rfl ?_
          refine wm_ald (i := 13) (n := 4) hM (by decide) (by decide) rfl rfl d_Model_play_178 (by first | with_reducible exact ixc0 | with_reducible exact ixc1 | with_reducible exact ixc360 | with_reducible rfl | with_reducible exact ix4 _ _ | with_reducible exact ix21 _ | with_reducible exact ix2 _ | with_reducible exact ix4a _ | assumption) (by omega) ?_
          refine wp_iconst (v := 1) d_Model_play_179 (by decide) ?_
          refine wp_iadd d_Model_play_180 ?_
          refine wm_ast (i := 13) (n := 4) hM (by decide) (by decide) rfl rfl d_Model_play_181 (by first | with_reducible exact ixc0 | with_reducible exact ixc1 | with_reducible exact ixc360 | with_reducible rfl | with_reducible exact ix4 _ _ | with_reducible exact ix21 _ | with_reducible exact ix2 _ | with_reducible exact ix4a _ | assumption) (by omega) (fun μ1 hM => ?_)
          refine wp_goto (tgt := 0) d_Model_play_182 (by decide) ?_
          rw [e13] at hM
          refine WP.loc [(0, .ref (ma 0)), (1, .int (nI c)), (2, .int (nI e))] rfl (ih (p + 1) t2 _ _ _ Q (by omega) (by omega) hM (hR2.pos hc (by omega)) (by rw [up2_s, va_up_self]) (fun i a b => by rw [up2_n (by omega)]; exact hrow2 i a b) (fun x μ' hx => hQ2 x μ' ?_))
          obtain ⟨τ', hx, hM', hR', h00', htk⟩ := hx
          refine ⟨τ', hx, hM', hR', h00'.trans h00, fun z => ⟨fun w => absurd hpe (of_decide_eq_false w), fun _ hk => ?_⟩⟩
          by_cases h9 : p + 1 < e
          · exact (htk z).2 (decide_eq_true h9) hk
          · have n0 : n = 0 := by omega
            have q := (htk z).1 (decide_eq_false h9)
            rw [q, n0]
            exact hk2 (hKp n0 hk)
        refine wp_istore_n d_Model_play_21 rfl (by decide) ?_
        refine wp_iload_n d_Model_play_22 rfl rfl ?_
        refine wp_if_ge (tgt := 28) d_Model_play_23 (by decide) (fun c23 => ?_) (fun c23 => ?_)
        · rcases hen with ⟨h1, h2⟩ | ⟨h1, k, hk, h2, hv⟩ | ⟨h1, h2, h4, h5, -, h6⟩ | ⟨h1, hv⟩ | ⟨h1, h2⟩
          · rw [if_pos h2] at hQ
            refine wp_aload_n d_Model_play_28 rfl rfl ?_
            refine wp_get d_Model_play_29 fl_Model_7 hM.obj (by rfl) ?_
            refine wp_iload_n d_Model_play_32 rfl rfl ?_
            refine wm_ald (i := 1) (n := 361) hM (by decide) (by decide) rfl rfl d_Model_play_33 (by first | with_reducible exact ixc0 | with_reducible exact ixc1 | with_reducible exact ixc360 | with_reducible rfl | with_reducible exact ix4 _ _ | with_reducible exact ix21 _ | with_reducible exact ix2 _ | with_reducible exact ix4a _ | assumption) (by omega) ?_
            refine wp_if_ne (tgt := 39) d_Model_play_34 (by decide) (fun c34 => ?_) (fun c34 => ?_)
            · exact absurd h1 c34
            refine wp_iconst (v := 2) d_Model_play_37 (by decide) ?_
            exact wp_iret d_Model_play_38 rfl (by decide) (by decide) (hQ _ _ ⟨τ1, rfl, hM, hR, rfl, fun z => absurd z (show ¬ 2 = 0 by decide)⟩)
          · rw [hv, if_neg (show ¬ vPut k (τ1 3 (60 * u + p)) 0 = 0 from by rw [vPut_0]; decide), if_neg (show ¬ vPut k (τ1 3 (60 * u + p)) 0 = 4 from by rw [vPut_0]; decide), if_pos (am_put _ _ _), apR_put hk] at hQ
            refine wp_aload_n d_Model_play_28 rfl rfl ?_
            refine wp_get d_Model_play_29 fl_Model_7 hM.obj (by rfl) ?_
            refine wp_iload_n d_Model_play_32 rfl rfl ?_
            refine wm_ald (i := 1) (n := 361) hM (by decide) (by decide) rfl rfl d_Model_play_33 (by first | with_reducible exact ixc0 | with_reducible exact ixc1 | with_reducible exact ixc360 | with_reducible rfl | with_reducible exact ix4 _ _ | with_reducible exact ix21 _ | with_reducible exact ix2 _ | with_reducible exact ix4a _ | assumption) (by omega) ?_
            refine wp_if_ne (tgt := 39) d_Model_play_34 (by decide) (fun c34 => ?_) (fun c34 => ?_)
            · refine wp_aload_n d_Model_play_39 rfl rfl ?_
              refine wp_get d_Model_play_40 fl_Model_7 hM.obj (by rfl) ?_
              refine wp_iload_n d_Model_play_43 rfl rfl ?_
              refine wm_ald (i := 1) (n := 361) hM (by decide) (by decide) rfl rfl d_Model_play_44 (by first | with_reducible exact ixc0 | with_reducible exact ixc1 | with_reducible exact ixc360 | with_reducible rfl | with_reducible exact ix4 _ _ | with_reducible exact ix21 _ | with_reducible exact ix2 _ | with_reducible exact ix4a _ | assumption) (by omega) ?_
              refine wp_iconst (v := 4) d_Model_play_45 (by decide) ?_
              refine wp_icmp_ne (tgt := 51) d_Model_play_46 (by decide) (fun c46 => ?_) (fun c46 => ?_)
              · refine wp_aload_n d_Model_play_51 rfl rfl ?_
                refine wp_aload_n d_Model_play_52 rfl rfl ?_
                refine wp_get d_Model_play_53 fl_Model_7 hM.obj (by rfl) ?_
                refine wp_iload_n d_Model_play_56 rfl rfl ?_
                refine wm_ald (i := 1) (n := 361) hM (by decide) (by decide) rfl rfl d_Model_play_57 (by first | with_reducible exact ixc0 | with_reducible exact ixc1 | with_reducible exact ixc360 | with_reducible rfl | with_reducible exact ix4 _ _ | with_reducible exact ix21 _ | with_reducible exact ix2 _ | with_reducible exact ix4a _ | assumption) (by omega) ?_
                refine wp_iconst (v := 2) d_Model_play_58 (by decide) ?_
                refine wp_icmp_ne (tgt := 87) d_Model_play_59 (by decide) (fun c59 => ?_) (fun c59 => ?_)
                · refine wp_iconst (v := 0) d_Model_play_87 (by decide) ?_
                  refine wm_put5 hM d_Model_play_88 fp_Model_151 (by first | exact Or.inl rfl | exact Or.inr rfl) (fun μ1 hM => ?_)
                  refine wp_aload_n d_Model_play_91 rfl rfl ?_
                  refine wp_get d_Model_play_92 fl_Model_7 hM.obj (by rfl) ?_
                  refine wp_iload_n d_Model_play_95 rfl rfl ?_
                  refine wm_ald (i := 1) (n := 361) hM (by decide) (by decide) rfl rfl d_Model_play_96 (by first | with_reducible exact ixc0 | with_reducible exact ixc1 | with_reducible exact ixc360 | with_reducible rfl | with_reducible exact ix4 _ _ | with_reducible exact ix21 _ | with_reducible exact ix2 _ | with_reducible exact ix4a _ | assumption) (by omega) ?_
                  refine wp_iconst (v := 1) d_Model_play_97 (by decide) ?_
                  refine wp_icmp_ne (tgt := 118) d_Model_play_98 (by decide) (fun c98 => ?_) (fun c98 => ?_)
                  · exact absurd h1 c98
                  · refine wp_aload_n d_Model_play_101 rfl rfl ?_
                    refine wp_iload_n d_Model_play_102 rfl rfl ?_
                    refine wp_aload_n d_Model_play_103 rfl rfl ?_
                    refine wp_get d_Model_play_104 fl_Model_13 hM.obj (by rfl) ?_
                    refine wp_iload_n d_Model_play_107 rfl rfl ?_
                    refine wm_ald (i := 2) (n := 361) hM (by decide) (by decide) rfl rfl d_Model_play_108 (by first | with_reducible exact ixc0 | with_reducible exact ixc1 | with_reducible exact ixc360 | with_reducible rfl | with_reducible exact ix4 _ _ | with_reducible exact ix21 _ | with_reducible exact ix2 _ | with_reducible exact ix4a _ | assumption) (by omega) ?_
                    refine wp_aload_n d_Model_play_109 rfl rfl ?_
                    refine wp_get d_Model_play_110 fl_Model_16 hM.obj (by rfl) ?_
                    refine wp_iload_n d_Model_play_113 rfl rfl ?_
                    refine wm_ald (i := 3) (n := 361) hM (by decide) (by decide) rfl rfl d_Model_play_114 (by first | with_reducible exact ixc0 | with_reducible exact ixc1 | with_reducible exact ixc360 | with_reducible rfl | with_reducible exact ix4 _ _ | with_reducible exact ix21 _ | with_reducible exact ix2 _ | with_reducible exact ix4a _ | assumption) (by omega) ?_
                    rw [show up2 τ1 0 5 0 2 (60 * u + p) = nI k from h2]
                    refine wx_callV d_Model_play_115 cv_Model_154 cd_Model_place ⟨by decide, by decide⟩ (cm_place hM hc hk _) hM.obj rfl rfl (Nat.le_of_ble_eq_true rfl) (Nat.le_of_ble_eq_true rfl) (Nat.le_of_ble_eq_true rfl) (fun E1 μ2 hq => hq.elim) (fun v1 μ2 hq => ?_)
                    obtain ⟨rfl, hM⟩ := hq
                    refine wp_iconst (v := 0) d_Model_play_118 (by decide) ?_
                    refine wp_istore d_Model_play_119 (by decide) ?_
                    refine wp_iload d_Model_play_121 rfl ?_
                    refine wp_iconst (v := 4) d_Model_play_123 (by decide) ?_
                    refine wp_icmp_ge (tgt := 172) d_Model_play_124 (by decide) (fun c124 => ?_) (fun c124 => ?_)
                    · exact absurd c124 (by decide)
                    refine wp_aload_n d_Model_play_127 rfl rfl ?_
                    refine wp_get d_Model_play_128 fl_Model_151 hM.obj (by rfl) ?_
                    refine wp_if_eq (tgt := 172) d_Model_play_131 (by decide) (fun c131 => ?_) (fun c131 => ?_)
                    · refine WP.loc [(0, .ref (ma 0)), (1, .int (nI c)), (2, .int (nI e))] rfl (tail 1 _ _ _ hM ((hR.f5 0).place hc hk _ _) rfl hpo (fun i a b => ?_) (fun z => ?_) ?_)
                      · rw [up2_n (by omega), up2_n (by omega)]; exact hrow i a b
                      · rw [hv, vPut_0] at z; exact absurd z (by decide)
                      · rw [show up2 τ1 0 5 0 13 c + 1 = nI (p + 1) from by rw [← nI_1, ← hpo]; rfl]
                        exact hQ
                    · exact absurd rfl c131
                · exact absurd (c59.symm.trans h1) (by decide)
              · exact absurd (c46.symm.trans h1) (by decide)
            · exact absurd (c34.symm.trans h1) (by decide)
          · rw [h2, if_neg (by decide), if_neg (by decide)] at hQ
            have ham : am (fun k => σ1 (eR u p) (2 + k)) (fun k => τ1 6 (4 * (60 * u + p) + k)) (fun k => τ1 15 (4 * c + k)) = am (fun k => σ1 (eR u p) (2 + k)) (fun k => σ1 (eR u p) (6 + k)) (σ1 (24 + c)) := am_congr (fun k hk => ⟨rfl, (h6 k hk).1, hR.ag c k hc hk⟩)
            refine wp_aload_n d_Model_play_28 rfl rfl ?_
            refine wp_get d_Model_play_29 fl_Model_7 hM.obj (by rfl) ?_
            refine wp_iload_n d_Model_play_32 rfl rfl ?_
            refine wm_ald (i := 1) (n := 361) hM (by decide) (by decide) rfl rfl d_Model_play_33 (by first | with_reducible exact ixc0 | with_reducible exact ixc1 | with_reducible exact ixc360 | with_reducible rfl | with_reducible exact ix4 _ _ | with_reducible exact ix21 _ | with_reducible exact ix2 _ | with_reducible exact ix4a _ | assumption) (by omega) ?_
            refine wp_if_ne (tgt := 39) d_Model_play_34 (by decide) (fun c34 => ?_) (fun c34 => ?_)
            · refine wp_aload_n d_Model_play_39 rfl rfl ?_
              refine wp_get d_Model_play_40 fl_Model_7 hM.obj (by rfl) ?_
              refine wp_iload_n d_Model_play_43 rfl rfl ?_
              refine wm_ald (i := 1) (n := 361) hM (by decide) (by decide) rfl rfl d_Model_play_44 (by first | with_reducible exact ixc0 | with_reducible exact ixc1 | with_reducible exact ixc360 | with_reducible rfl | with_reducible exact ix4 _ _ | with_reducible exact ix21 _ | with_reducible exact ix2 _ | with_reducible exact ix4a _ | assumption) (by omega) ?_
              refine wp_iconst (v := 4) d_Model_play_45 (by decide) ?_
              refine wp_icmp_ne (tgt := 51) d_Model_play_46 (by decide) (fun c46 => ?_) (fun c46 => ?_)
              · refine wp_aload_n d_Model_play_51 rfl rfl ?_
                refine wp_aload_n d_Model_play_52 rfl rfl ?_
                refine wp_get d_Model_play_53 fl_Model_7 hM.obj (by rfl) ?_
                refine wp_iload_n d_Model_play_56 rfl rfl ?_
                refine wm_ald (i := 1) (n := 361) hM (by decide) (by decide) rfl rfl d_Model_play_57 (by first | with_reducible exact ixc0 | with_reducible exact ixc1 | with_reducible exact ixc360 | with_reducible rfl | with_reducible exact ix4 _ _ | with_reducible exact ix21 _ | with_reducible exact ix2 _ | with_reducible exact ix4a _ | assumption) (by omega) ?_
                refine wp_iconst (v := 2) d_Model_play_58 (by decide) ?_
                refine wp_icmp_ne (tgt := 87) d_Model_play_59 (by decide) (fun c59 => ?_) (fun c59 => ?_)
                · exact absurd h1 c59
                · refine wp_aload_n d_Model_play_62 rfl rfl ?_
                  refine wp_iload_n d_Model_play_63 rfl rfl ?_
                  refine wp_aload_n d_Model_play_64 rfl rfl ?_
                  refine wp_get d_Model_play_65 fl_Model_19 hM.obj (by rfl) ?_
                  refine wp_iload_n d_Model_play_68 rfl rfl ?_
                  refine wm_ald (i := 4) (n := 361) hM (by decide) (by decide) rfl rfl d_Model_play_69 (by first | with_reducible exact ixc0 | with_reducible exact ixc1 | with_reducible exact ixc360 | with_reducible rfl | with_reducible exact ix4 _ _ | with_reducible exact ix21 _ | with_reducible exact ix2 _ | with_reducible exact ix4a _ | assumption) (by omega) ?_
                  refine wp_aload_n d_Model_play_70 rfl rfl ?_
                  refine wp_get d_Model_play_71 fl_Model_25 hM.obj (by rfl) ?_
                  refine wp_iconst (v := 4) d_Model_play_74 (by decide) ?_
                  refine wp_iload_n d_Model_play_75 rfl rfl ?_
                  refine wp_imul d_Model_play_76 ?_
                  rw [h4, ix4a]
                  refine wx_callV d_Model_play_77 cv_Model_147 cd_Model_sameAges ⟨by decide, by decide⟩ (cm_sameAges hM hc (fun k => σ1 (eR u p) (2 + k)) (i := 6) (j := 60 * u + p) (by decide) (by decide) rfl (show 4 * (60 * u + p) + 4 ≤ 1444 by omega)) hM.obj rfl rfl (Nat.le_of_ble_eq_true rfl) (Nat.le_of_ble_eq_true rfl) (Nat.le_of_ble_eq_true rfl) (fun E1 μ1 hq => hq.elim) (fun v1 μ1 hq => ?_)
                  obtain ⟨rfl, rfl⟩ := hq
                  rw [ham]
                  by_cases hm : am (fun k => σ1 (eR u p) (2 + k)) (fun k => σ1 (eR u p) (6 + k)) (σ1 (24 + c)) = true
                  · rw [if_pos hm] at hQ ⊢
                    refine wp_if_eq (tgt := 87) d_Model_play_80 (by decide) (fun c80 => ?_) (fun c80 => ?_)
                    · exact absurd c80 (by decide)
                    refine wp_iconst (v := 1) d_Model_play_83 (by decide) ?_
                    refine wp_goto (tgt := 88) d_Model_play_84 (by decide) ?_
                    refine wm_put5 hM d_Model_play_88 fp_Model_151 (by first | exact Or.inl rfl | exact Or.inr rfl) (fun μ1 hM => ?_)
                    refine wp_aload_n d_Model_play_91 rfl rfl ?_
                    refine wp_get d_Model_play_92 fl_Model_7 hM.obj (by rfl) ?_
                    refine wp_iload_n d_Model_play_95 rfl rfl ?_
                    refine wm_ald (i := 1) (n := 361) hM (by decide) (by decide) rfl rfl d_Model_play_96 (by first | with_reducible exact ixc0 | with_reducible exact ixc1 | with_reducible exact ixc360 | with_reducible rfl | with_reducible exact ix4 _ _ | with_reducible exact ix21 _ | with_reducible exact ix2 _ | with_reducible exact ix4a _ | assumption) (by omega) ?_
                    refine wp_iconst (v := 1) d_Model_play_97 (by decide) ?_
                    refine wp_icmp_ne (tgt := 118) d_Model_play_98 (by decide) (fun c98 => ?_) (fun c98 => ?_)
                    · have inner : ∀ (m k : Nat) (τk : sg) (μk : mu_M), k + m = 4 → Mx G μ0 μk ma τk → RP τk (apR c (σ1 (eR u p)) (nI (p + 1)) k σ1) δ → (∀ i, i ≤ 13 → τk i = up2 τ1 0 5 1 i) → WP G M_Model_play (EC G M_Model_play Q (fun _ _ => False)) [(0, .ref (ma 0)), (1, .int (nI c)), (2, .int (nI e)), (3, .int (nI (60 * u + p))), (4, .int (nI k))] 121 [] μk 0 0 := by
                        intro m
                        induction m with
                        | zero =>
                          intro k τk μk hk hM hRk hlow
                          obtain rfl : k = 4 := by omega
                          refine wp_iload d_Model_play_121 rfl ?_
                          refine wp_iconst (v := 4) d_Model_play_123 (by decide) ?_
                          refine wp_icmp_ge (tgt := 172) d_Model_play_124 (by decide) (fun c124 => ?_) (fun c124 => ?_)
                          · refine WP.loc [(0, .ref (ma 0)), (1, .int (nI c)), (2, .int (nI e))] rfl (tail 1 _ _ _ hM hRk (by rw [hlow 0 (by omega)]; rfl) (by rw [hlow 13 (by omega)]; exact hpo) (fun i a b => ?_) (fun _ => by rw [hlow 0 (by omega)]; rfl) hQ)
                            rw [apR_off (by omega) (by omega)]; exact hrow i a b
                          · exact absurd (by decide) c124
                        | succ m ihm =>
                          intro k τk μk hk hM hRk hlow
                          refine wp_iload d_Model_play_121 rfl ?_
                          refine wp_iconst (v := 4) d_Model_play_123 (by decide) ?_
                          refine wp_icmp_ge (tgt := 172) d_Model_play_124 (by decide) (fun c124 => ?_) (fun c124 => ?_)
                          · exact absurd ((nI_leI (a := 4) (by omega) (by omega)).mp c124) (by omega)
                          refine wp_aload_n d_Model_play_127 rfl rfl ?_
                          refine wp_get d_Model_play_128 fl_Model_151 hM.obj (by rfl) ?_
                          refine wp_if_eq (tgt := 172) d_Model_play_131 (by decide) (fun c131 => ?_) (fun c131 => ?_)
                          · rw [hlow 0 (by omega)] at c131
                            exact absurd c131 (show ¬ (1 : Int32) = 0 by decide)
                          refine wp_aload_n d_Model_play_134 rfl rfl ?_
                          refine wp_get d_Model_play_135 fl_Model_22 hM.obj (by rfl) ?_
                          refine wp_iload_n d_Model_play_138 rfl rfl ?_
                          refine wm_ald (i := 5) (n := 361) hM (by decide) (by decide) rfl rfl d_Model_play_139 (by first | with_reducible exact ixc0 | with_reducible exact ixc1 | with_reducible exact ixc360 | with_reducible rfl | with_reducible exact ix4 _ _ | with_reducible exact ix21 _ | with_reducible exact ix2 _ | with_reducible exact ix4a _ | assumption) (by omega) ?_
                          refine wp_iload d_Model_play_140 rfl ?_
                          refine wp_ishr d_Model_play_142 ?_
                          refine wp_iconst (v := 1) d_Model_play_143 (by decide) ?_
                          refine wp_iand d_Model_play_144 ?_
                          have h5k : τk 5 (60 * u + p) = nI (mk (fun k => σ1 (eR u p) (10 + k))) := by rw [hlow 5 (by omega)]; exact h5
                          refine wp_if_eq (tgt := 166) d_Model_play_145 (by decide) (fun c145 => ?_) (fun c145 => ?_)
                          · rw [h5k, mk_b _ (by omega)] at c145
                            refine wp_iinc d_Model_play_166 rfl rfl (by decide) ?_
                            refine wp_goto (tgt := 121) d_Model_play_169 (by decide) ?_
                            refine WP.loc [(0, .ref (ma 0)), (1, .int (nI c)), (2, .int (nI e)), (3, .int (nI (60 * u + p))), (4, .int (nI (k + 1)))] (by rw [← nI_1 k]; rfl) (ihm (k + 1) τk _ (by omega) hM (by rw [apR, if_pos c145]; exact hRk) hlow)
                          · rw [h5k, mk_b _ (by omega)] at c145
                            refine wp_aload_n d_Model_play_148 rfl rfl ?_
                            refine wp_iload_n d_Model_play_149 rfl rfl ?_
                            refine wp_iload d_Model_play_150 rfl ?_
                            refine wp_aload_n d_Model_play_152 rfl rfl ?_
                            refine wp_get d_Model_play_153 fl_Model_28 hM.obj (by rfl) ?_
                            refine wp_iconst (v := 4) d_Model_play_156 (by decide) ?_
                            refine wp_iload_n d_Model_play_157 rfl rfl ?_
                            refine wp_imul d_Model_play_158 ?_
                            refine wp_iload d_Model_play_159 rfl ?_
                            refine wp_iadd d_Model_play_161 ?_
                            refine wm_ald (i := 7) (n := 1444) hM (by decide) (by decide) rfl rfl d_Model_play_162 (by first | with_reducible exact ixc0 | with_reducible exact ixc1 | with_reducible exact ixc360 | with_reducible rfl | with_reducible exact ix4 _ _ | with_reducible exact ix21 _ | with_reducible exact ix2 _ | with_reducible exact ix4a _ | assumption) (by omega) ?_
                            refine wx_callV d_Model_play_163 cv_Model_154 cd_Model_place ⟨by decide, by decide⟩ (cm_place hM hc (k := k) (by omega) _) hM.obj rfl rfl (Nat.le_of_ble_eq_true rfl) (Nat.le_of_ble_eq_true rfl) (Nat.le_of_ble_eq_true rfl) (fun E1 μ2 hq => hq.elim) (fun v1 μ2 hq => ?_)
                            obtain ⟨rfl, hM⟩ := hq
                            refine wp_iinc d_Model_play_166 rfl rfl (by decide) ?_
                            refine wp_goto (tgt := 121) d_Model_play_169 (by decide) ?_
                            refine WP.loc [(0, .ref (ma 0)), (1, .int (nI c)), (2, .int (nI e)), (3, .int (nI (60 * u + p))), (4, .int (nI (k + 1)))] (by rw [← nI_1 k]; rfl) (ihm (k + 1) _ _ (by omega) hM ?_ (fun i hi => ?_))
                            · rw [apR, if_neg c145, show τk 13 c + 1 = nI (p + 1) by rw [hlow 13 (by omega), ← nI_1, ← hpo]; rfl, show τk 7 (4 * (60 * u + p) + k) = σ1 (eR u p) (14 + k) by rw [hlow 7 (by omega)]; exact (h6 k (by omega)).2]
                              exact hRk.place hc (by omega) _ _
                            · rw [up2_n (by omega), up2_n (by omega)]; exact hlow i hi
                      refine wp_iconst (v := 0) d_Model_play_118 (by decide) ?_
                      refine wp_istore d_Model_play_119 (by decide) ?_
                      exact WP.loc [(0, .ref (ma 0)), (1, .int (nI c)), (2, .int (nI e)), (3, .int (nI (60 * u + p))), (4, .int (nI 0))] rfl (inner 4 0 _ _ rfl hM (hR.f5 1) (fun _ _ => rfl))
                    · exact absurd (c98.symm.trans h1) (by decide)
                  · rw [if_neg hm] at hQ ⊢
                    refine wp_if_eq (tgt := 87) d_Model_play_80 (by decide) (fun c80 => ?_) (fun c80 => ?_)
                    · refine wp_iconst (v := 0) d_Model_play_87 (by decide) ?_
                      refine wm_put5 hM d_Model_play_88 fp_Model_151 (by first | exact Or.inl rfl | exact Or.inr rfl) (fun μ1 hM => ?_)
                      refine wp_aload_n d_Model_play_91 rfl rfl ?_
                      refine wp_get d_Model_play_92 fl_Model_7 hM.obj (by rfl) ?_
                      refine wp_iload_n d_Model_play_95 rfl rfl ?_
                      refine wm_ald (i := 1) (n := 361) hM (by decide) (by decide) rfl rfl d_Model_play_96 (by first | with_reducible exact ixc0 | with_reducible exact ixc1 | with_reducible exact ixc360 | with_reducible rfl | with_reducible exact ix4 _ _ | with_reducible exact ix21 _ | with_reducible exact ix2 _ | with_reducible exact ix4a _ | assumption) (by omega) ?_
                      refine wp_iconst (v := 1) d_Model_play_97 (by decide) ?_
                      refine wp_icmp_ne (tgt := 118) d_Model_play_98 (by decide) (fun c98 => ?_) (fun c98 => ?_)
                      · refine wp_iconst (v := 0) d_Model_play_118 (by decide) ?_
                        refine wp_istore d_Model_play_119 (by decide) ?_
                        refine wp_iload d_Model_play_121 rfl ?_
                        refine wp_iconst (v := 4) d_Model_play_123 (by decide) ?_
                        refine wp_icmp_ge (tgt := 172) d_Model_play_124 (by decide) (fun c124 => ?_) (fun c124 => ?_)
                        · exact absurd c124 (by decide)
                        refine wp_aload_n d_Model_play_127 rfl rfl ?_
                        refine wp_get d_Model_play_128 fl_Model_151 hM.obj (by rfl) ?_
                        refine wp_if_eq (tgt := 172) d_Model_play_131 (by decide) (fun c131 => ?_) (fun c131 => ?_)
                        · exact WP.loc [(0, .ref (ma 0)), (1, .int (nI c)), (2, .int (nI e))] rfl (tail 0 _ _ _ hM (hR.f5 0) rfl hpo hrow (fun _ => rfl) hQ)
                        · exact absurd rfl c131
                      · exact absurd (c98.symm.trans h1) (by decide)
                    · exact absurd rfl c80
              · exact absurd (c46.symm.trans h1) (by decide)
            · exact absurd (c34.symm.trans h1) (by decide)
          · rw [hv, if_neg (show ¬ vJunk 0 = 0 by decide), if_neg (show ¬ vJunk 0 = 4 by decide), if_pos (am_junk _ _), apR_junk] at hQ
            refine wp_aload_n d_Model_play_28 rfl rfl ?_
            refine wp_get d_Model_play_29 fl_Model_7 hM.obj (by rfl) ?_
            refine wp_iload_n d_Model_play_32 rfl rfl ?_
            refine wm_ald (i := 1) (n := 361) hM (by decide) (by decide) rfl rfl d_Model_play_33 (by first | with_reducible exact ixc0 | with_reducible exact ixc1 | with_reducible exact ixc360 | with_reducible rfl | with_reducible exact ix4 _ _ | with_reducible exact ix21 _ | with_reducible exact ix2 _ | with_reducible exact ix4a _ | assumption) (by omega) ?_
            refine wp_if_ne (tgt := 39) d_Model_play_34 (by decide) (fun c34 => ?_) (fun c34 => ?_)
            · refine wp_aload_n d_Model_play_39 rfl rfl ?_
              refine wp_get d_Model_play_40 fl_Model_7 hM.obj (by rfl) ?_
              refine wp_iload_n d_Model_play_43 rfl rfl ?_
              refine wm_ald (i := 1) (n := 361) hM (by decide) (by decide) rfl rfl d_Model_play_44 (by first | with_reducible exact ixc0 | with_reducible exact ixc1 | with_reducible exact ixc360 | with_reducible rfl | with_reducible exact ix4 _ _ | with_reducible exact ix21 _ | with_reducible exact ix2 _ | with_reducible exact ix4a _ | assumption) (by omega) ?_
              refine wp_iconst (v := 4) d_Model_play_45 (by decide) ?_
              refine wp_icmp_ne (tgt := 51) d_Model_play_46 (by decide) (fun c46 => ?_) (fun c46 => ?_)
              · refine wp_aload_n d_Model_play_51 rfl rfl ?_
                refine wp_aload_n d_Model_play_52 rfl rfl ?_
                refine wp_get d_Model_play_53 fl_Model_7 hM.obj (by rfl) ?_
                refine wp_iload_n d_Model_play_56 rfl rfl ?_
                refine wm_ald (i := 1) (n := 361) hM (by decide) (by decide) rfl rfl d_Model_play_57 (by first | with_reducible exact ixc0 | with_reducible exact ixc1 | with_reducible exact ixc360 | with_reducible rfl | with_reducible exact ix4 _ _ | with_reducible exact ix21 _ | with_reducible exact ix2 _ | with_reducible exact ix4a _ | assumption) (by omega) ?_
                refine wp_iconst (v := 2) d_Model_play_58 (by decide) ?_
                refine wp_icmp_ne (tgt := 87) d_Model_play_59 (by decide) (fun c59 => ?_) (fun c59 => ?_)
                · refine wp_iconst (v := 0) d_Model_play_87 (by decide) ?_
                  refine wm_put5 hM d_Model_play_88 fp_Model_151 (by first | exact Or.inl rfl | exact Or.inr rfl) (fun μ1 hM => ?_)
                  refine wp_aload_n d_Model_play_91 rfl rfl ?_
                  refine wp_get d_Model_play_92 fl_Model_7 hM.obj (by rfl) ?_
                  refine wp_iload_n d_Model_play_95 rfl rfl ?_
                  refine wm_ald (i := 1) (n := 361) hM (by decide) (by decide) rfl rfl d_Model_play_96 (by first | with_reducible exact ixc0 | with_reducible exact ixc1 | with_reducible exact ixc360 | with_reducible rfl | with_reducible exact ix4 _ _ | with_reducible exact ix21 _ | with_reducible exact ix2 _ | with_reducible exact ix4a _ | assumption) (by omega) ?_
                  refine wp_iconst (v := 1) d_Model_play_97 (by decide) ?_
                  refine wp_icmp_ne (tgt := 118) d_Model_play_98 (by decide) (fun c98 => ?_) (fun c98 => ?_)
                  · refine wp_iconst (v := 0) d_Model_play_118 (by decide) ?_
                    refine wp_istore d_Model_play_119 (by decide) ?_
                    refine wp_iload d_Model_play_121 rfl ?_
                    refine wp_iconst (v := 4) d_Model_play_123 (by decide) ?_
                    refine wp_icmp_ge (tgt := 172) d_Model_play_124 (by decide) (fun c124 => ?_) (fun c124 => ?_)
                    · exact absurd c124 (by decide)
                    refine wp_aload_n d_Model_play_127 rfl rfl ?_
                    refine wp_get d_Model_play_128 fl_Model_151 hM.obj (by rfl) ?_
                    refine wp_if_eq (tgt := 172) d_Model_play_131 (by decide) (fun c131 => ?_) (fun c131 => ?_)
                    · refine WP.loc [(0, .ref (ma 0)), (1, .int (nI c)), (2, .int (nI e))] rfl (tail 1 _ _ _ hM (hR.f5 0) rfl hpo hrow (fun z => ?_) hQ)
                      rw [hv] at z; exact absurd z (by decide)
                    · exact absurd rfl c131
                  · exact absurd (c98.symm.trans h1) (by decide)
                · exact absurd (c59.symm.trans h1) (by decide)
              · exact absurd (c46.symm.trans h1) (by decide)
            · exact absurd (c34.symm.trans h1) (by decide)
          · rw [h2, if_neg (by decide), if_pos rfl] at hQ
            refine wp_aload_n d_Model_play_28 rfl rfl ?_
            refine wp_get d_Model_play_29 fl_Model_7 hM.obj (by rfl) ?_
            refine wp_iload_n d_Model_play_32 rfl rfl ?_
            refine wm_ald (i := 1) (n := 361) hM (by decide) (by decide) rfl rfl d_Model_play_33 (by first | with_reducible exact ixc0 | with_reducible exact ixc1 | with_reducible exact ixc360 | with_reducible rfl | with_reducible exact ix4 _ _ | with_reducible exact ix21 _ | with_reducible exact ix2 _ | with_reducible exact ix4a _ | assumption) (by omega) ?_
            refine wp_if_ne (tgt := 39) d_Model_play_34 (by decide) (fun c34 => ?_) (fun c34 => ?_)
            · refine wp_aload_n d_Model_play_39 rfl rfl ?_
              refine wp_get d_Model_play_40 fl_Model_7 hM.obj (by rfl) ?_
              refine wp_iload_n d_Model_play_43 rfl rfl ?_
              refine wm_ald (i := 1) (n := 361) hM (by decide) (by decide) rfl rfl d_Model_play_44 (by first | with_reducible exact ixc0 | with_reducible exact ixc1 | with_reducible exact ixc360 | with_reducible rfl | with_reducible exact ix4 _ _ | with_reducible exact ix21 _ | with_reducible exact ix2 _ | with_reducible exact ix4a _ | assumption) (by omega) ?_
              refine wp_iconst (v := 4) d_Model_play_45 (by decide) ?_
              refine wp_icmp_ne (tgt := 51) d_Model_play_46 (by decide) (fun c46 => ?_) (fun c46 => ?_)
              · exact absurd h1 c46
              refine wp_iconst (v := 3) d_Model_play_49 (by decide) ?_
              exact wp_iret d_Model_play_50 rfl (by decide) (by decide) (hQ _ _ ⟨τ1, rfl, hM, hR, rfl, fun z => absurd z (show ¬ 3 = 0 by decide)⟩)
            · exact absurd (c34.symm.trans h1) (by decide)
        · exact absurd (nI_pos' (by omega)) c23
      · rw [if_neg hus]
        rw [plS, if_neg hus] at hQ
        refine wp_istore_n d_Model_play_21 rfl (by decide) ?_
        refine wp_iload_n d_Model_play_22 rfl rfl ?_
        refine wp_if_ge (tgt := 28) d_Model_play_23 (by decide) (fun c23 => ?_) (fun c23 => ?_)
        · exact absurd c23 (by decide)
        refine wp_iconst (v := 1) d_Model_play_26 (by decide) ?_
        exact wp_iret d_Model_play_27 rfl (by decide) (by decide) (hQ _ _ ⟨τ1, rfl, hM, hR, rfl, fun z => absurd z (show ¬ 1 = 0 by decide)⟩)
  exact loop _ p t τ σ μ _ rfl hp6 hM hR hp (fun _ _ _ => rfl) (fun _ _ h => h)
end MPlay
