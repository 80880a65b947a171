/-! THE REFERENCE: change -/
def bj (d i : Nat) : Nat → Nat → Bool
  | 0, _ => true
  | n + 1, j => if dg1 d i = dg1 d j then false else bj d i n (j + 1)
def bi (d : Nat) : Nat → Nat → Bool
  | 0, _ => true
  | n + 1, i => if dg1 d i = 0 ∨ 7 ≤ dg1 d i then false else if bj d i i 0 = true then bi d n (i + 1) else false
set_option maxRecDepth 100000 in
theorem bi_vr : ∀ d, d < 667 → 1 ≤ d → bi d (ln d) 0 = vr d := by decide +kernel
set_option maxRecDepth 100000 in
theorem bi_out : ∀ g, g < 10 → ((nI g - 1 < 0 ∨ (6 : Int32) ≤ nI g - 1) ↔ (g = 0 ∨ 7 ≤ g)) := by decide +kernel
set_option maxRecDepth 100000 in
theorem bi_eq : ∀ g, g < 10 → ∀ k, k < 10 → (nI g - 1 = nI k - 1 ↔ g = k) := by decide +kernel
theorem dg1_lt (d i : Nat) : dg1 d i < 10 := Nat.mod_lt _ (by decide)
section MChange
variable {G : mt_G} {μ0 μ : mu_M} {ma : Nat → Nat} {τ σ : sg} {δ : dg}
set_option maxHeartbeats 4000000 in
set_option maxRecDepth 10000 in
theorem cm_badRow (hM : Mx G μ0 μ ma τ) (x : Int32) : CT G M_Model_badRow [.ref (ma 0), .int x] μ (fun v μ' => v = some (.int (if vrI x = true then 0 else 1)) ∧ μ' = μ) (fun _ _ => False) := by
  refine CT.of (by decide) rfl (Nat.le_of_ble_eq_true rfl) ?_
  refine wp_iload_n d_Model_badRow_0 rfl rfl ?_
  refine wp_iconst (v := 1) d_Model_badRow_1 (by decide) ?_
  refine wp_icmp_lt (tgt := 12) d_Model_badRow_2 (by decide) (fun c2 => ?_) (fun c2 => ?_)
  · rw [vrI, if_pos (Or.inl c2), if_neg (by decide)]
    refine wp_iconst (v := 1) d_Model_badRow_12 (by decide) ?_
    exact wp_zret d_Model_badRow_13 rfl rfl (by decide) (by decide) ⟨rfl, rfl⟩
  refine wp_iload_n d_Model_badRow_5 rfl rfl ?_
  refine wp_sipush (v := 666) d_Model_badRow_6 (by decide) ?_
  refine wp_icmp_le (tgt := 14) d_Model_badRow_9 (by decide) (fun c9 => ?_) (fun c9 => ?_)
  · have hx0 : ¬ x < 0 := fun z => c2 (Int32.lt_trans z (by decide))
    obtain ⟨d, hd31, rfl⟩ := nI_of hx0
    have hd1 : 1 ≤ d := by
      have q : ¬ d < 1 := fun z => c2 ((nI_ltI (b := 1) hd31 (by decide)).mpr z)
      omega
    have hd6 : d ≤ 666 := (nI_leI (b := 666) hd31 (by decide)).mp c9
    have hv : vrI (nI d) = bi d (ln d) 0 := by
      rw [vrI, if_neg (fun z => z.elim c2 (fun w => Int32.not_lt.mpr c9 w)), nI_clamp hd31, bi_vr d (by omega) hd1]
    rw [hv]
    have hl := ln_pos d
    refine wp_aload_n d_Model_badRow_14 rfl rfl ?_
    refine wp_iload_n d_Model_badRow_15 rfl rfl ?_
    refine wx_callV d_Model_badRow_16 cv_Model_85 cd_Model_length ⟨by decide, by decide⟩ (cm_length G _ (ma 0) hd31) hM.obj rfl rfl (Nat.le_of_ble_eq_true rfl) (Nat.le_of_ble_eq_true rfl) (Nat.le_of_ble_eq_true rfl) (fun E1 μ1 hq => hq.elim) (fun v1 μ1 hq => ?_)
    obtain ⟨rfl, rfl⟩ := hq
    have outer : ∀ (n i : Nat) (Q : Option Value → mu_M → Prop), i + n = ln d → (∀ x, x = some (.int (if bi d n i = true then 0 else 1)) → Q x μ1) → WP G M_Model_badRow (EC G M_Model_badRow Q (fun _ _ => False)) [(0, .ref (ma 0)), (1, .int (nI d)), (2, .int (nI (ln d))), (3, .int (nI i))] 22 [] μ1 0 0 := by
      intro n
      induction n with
      | zero =>
        intro i Q hi hQ
        refine wp_iload_n d_Model_badRow_22 rfl rfl ?_
        refine wp_iload_n d_Model_badRow_23 rfl rfl ?_
        refine wp_icmp_ge (tgt := 83) d_Model_badRow_24 (by decide) (fun c24 => ?_) (fun c24 => ?_)
        · refine wp_iconst (v := 0) d_Model_badRow_83 (by decide) ?_
          exact wp_zret d_Model_badRow_84 rfl rfl (by decide) (by decide) (hQ _ rfl)
        · exact absurd ((nI_leI (by omega) (by omega)).mpr (by omega)) c24
      | succ n ih =>
        intro i Q hi hQ
        rw [bi] at hQ
        refine wp_iload_n d_Model_badRow_22 rfl rfl ?_
        refine wp_iload_n d_Model_badRow_23 rfl rfl ?_
        refine wp_icmp_ge (tgt := 83) d_Model_badRow_24 (by decide) (fun c24 => ?_) (fun c24 => ?_)
        · exact absurd ((nI_leI (by omega) (by omega)).mp c24) (by omega)
        refine wp_aload_n d_Model_badRow_27 rfl rfl ?_
        refine wp_aload_n d_Model_badRow_28 rfl rfl ?_
        refine wp_iload_n d_Model_badRow_29 rfl rfl ?_
        refine wp_iload_n d_Model_badRow_30 rfl rfl ?_
        refine wx_callV d_Model_badRow_31 cv_Model_93 cd_Model_unit ⟨by decide, by decide⟩ (cm_unit0 hM hd31 (i := i) (by omega)) hM.obj rfl rfl (Nat.le_of_ble_eq_true rfl) (Nat.le_of_ble_eq_true rfl) (Nat.le_of_ble_eq_true rfl) (fun E1 μ1 hq => hq.elim) (fun v1 μ1 hq => ?_)
        obtain ⟨rfl, rfl⟩ := hq
        refine wp_bipush (v := 6) d_Model_badRow_34 (by decide) ?_
        refine wx_callV d_Model_badRow_36 cv_Model_111 cd_Model_out ⟨by decide, by decide⟩ (cm_out G _ (ma 0) (nI (dg1 d i) - 1) 6) hM.obj rfl rfl (Nat.le_of_ble_eq_true rfl) (Nat.le_of_ble_eq_true rfl) (Nat.le_of_ble_eq_true rfl) (fun E1 μ1 hq => hq.elim) (fun v1 μ1 hq => ?_)
        obtain ⟨rfl, rfl⟩ := hq
        by_cases hout : dg1 d i = 0 ∨ 7 ≤ dg1 d i
        · rw [if_pos ((bi_out _ (dg1_lt d i)).mpr hout)]
          rw [if_pos hout] at hQ
          refine wp_if_eq (tgt := 44) d_Model_badRow_39 (by decide) (fun z9 => absurd z9 (by decide)) (fun _ => ?_)
          refine wp_iconst (v := 1) d_Model_badRow_42 (by decide) ?_
          exact wp_zret d_Model_badRow_43 rfl rfl (by decide) (by decide) (hQ _ rfl)
        · rw [if_neg (fun z => hout ((bi_out _ (dg1_lt d i)).mp z))]
          rw [if_neg hout] at hQ
          refine wp_if_eq (tgt := 44) d_Model_badRow_39 (by decide) (fun _ => ?_) (fun z9 => absurd z9 (by decide))
          have inner : ∀ (m j : Nat), j + m = i → (bj d i m j = bj d i i 0) → WP G M_Model_badRow (EC G M_Model_badRow Q (fun _ _ => False)) [(0, .ref (ma 0)), (1, .int (nI d)), (2, .int (nI (ln d))), (3, .int (nI i)), (4, .int (nI j))] 47 [] μ1 0 0 := by
            intro m
            induction m with
            | zero =>
              intro j hj hb
              rw [← hb, bj, if_pos rfl] at hQ
              refine wp_iload d_Model_badRow_47 rfl ?_
              refine wp_iload_n d_Model_badRow_49 rfl rfl ?_
              refine wp_icmp_ge (tgt := 77) d_Model_badRow_50 (by decide) (fun c50 => ?_) (fun c50 => ?_)
              · refine wp_iinc d_Model_badRow_77 rfl rfl (by decide) ?_
                refine wp_goto (tgt := 22) d_Model_badRow_80 (by decide) ?_
                exact WP.loc [(0, .ref (ma 0)), (1, .int (nI d)), (2, .int (nI (ln d))), (3, .int (nI (i + 1)))] (by rw [← nI_1 i]; rfl) (ih (i + 1) Q (by omega) hQ)
              · exact absurd ((nI_leI (by omega) (by omega)).mpr (by omega)) c50
            | succ m ihm =>
              intro j hj hb
              refine wp_iload d_Model_badRow_47 rfl ?_
              refine wp_iload_n d_Model_badRow_49 rfl rfl ?_
              refine wp_icmp_ge (tgt := 77) d_Model_badRow_50 (by decide) (fun c50 => ?_) (fun c50 => ?_)
              · exact absurd ((nI_leI (by omega) (by omega)).mp c50) (by omega)
              refine wp_aload_n d_Model_badRow_53 rfl rfl ?_
              refine wp_iload_n d_Model_badRow_54 rfl rfl ?_
              refine wp_iload_n d_Model_badRow_55 rfl rfl ?_
              refine wx_callV d_Model_badRow_56 cv_Model_93 cd_Model_unit ⟨by decide, by decide⟩ (cm_unit0 hM hd31 (i := i) (by omega)) hM.obj rfl rfl (Nat.le_of_ble_eq_true rfl) (Nat.le_of_ble_eq_true rfl) (Nat.le_of_ble_eq_true rfl) (fun E1 μ1 hq => hq.elim) (fun v1 μ1 hq => ?_)
              obtain ⟨rfl, rfl⟩ := hq
              refine wp_aload_n d_Model_badRow_59 rfl rfl ?_
              refine wp_iload_n d_Model_badRow_60 rfl rfl ?_
              refine wp_iload d_Model_badRow_61 rfl ?_
              refine wx_callV d_Model_badRow_63 cv_Model_93 cd_Model_unit ⟨by decide, by decide⟩ (cm_unit0 hM hd31 (i := j) (by omega)) hM.obj rfl rfl (Nat.le_of_ble_eq_true rfl) (Nat.le_of_ble_eq_true rfl) (Nat.le_of_ble_eq_true rfl) (fun E1 μ1 hq => hq.elim) (fun v1 μ1 hq => ?_)
              obtain ⟨rfl, rfl⟩ := hq
              refine wp_icmp_ne (tgt := 71) d_Model_badRow_66 (by decide) (fun c66 => ?_) (fun c66 => ?_)
              · have hne : ¬ dg1 d i = dg1 d j := fun z => c66 ((bi_eq _ (dg1_lt d i) _ (dg1_lt d j)).mpr z)
                rw [bj, if_neg hne] at hb
                refine wp_iinc d_Model_badRow_71 rfl rfl (by decide) ?_
                refine wp_goto (tgt := 47) d_Model_badRow_74 (by decide) ?_
                exact WP.loc [(0, .ref (ma 0)), (1, .int (nI d)), (2, .int (nI (ln d))), (3, .int (nI i)), (4, .int (nI (j + 1)))] (by rw [← nI_1 j]; rfl) (ihm (j + 1) (by omega) hb)
              · have he : dg1 d i = dg1 d j := (bi_eq _ (dg1_lt d i) _ (dg1_lt d j)).mp c66
                rw [bj, if_pos he] at hb
                rw [← hb, if_neg (show ¬ false = true by decide)] at hQ
                refine wp_iconst (v := 1) d_Model_badRow_69 (by decide) ?_
                exact wp_zret d_Model_badRow_70 rfl rfl (by decide) (by decide) (hQ _ rfl)
          refine wp_iconst (v := 0) d_Model_badRow_44 (by decide) ?_
          refine wp_istore d_Model_badRow_45 (by decide) ?_
          exact WP.loc [(0, .ref (ma 0)), (1, .int (nI d)), (2, .int (nI (ln d))), (3, .int (nI i)), (4, .int (nI 0))] rfl (WP.widen (Nat.le_of_ble_eq_true rfl) (Nat.le_of_ble_eq_true rfl) (inner i 0 (Nat.zero_add _) rfl))
    refine wp_istore_n d_Model_badRow_19 rfl (by decide) ?_
    refine wp_iconst (v := 0) d_Model_badRow_20 (by decide) ?_
    refine wp_istore_n d_Model_badRow_21 rfl (by decide) ?_
    exact WP.loc [(0, .ref (ma 0)), (1, .int (nI d)), (2, .int (nI (ln d))), (3, .int (nI 0))] rfl (WP.widen (Nat.le_of_ble_eq_true rfl) (Nat.le_of_ble_eq_true rfl) (outer (ln d) 0 _ (Nat.zero_add _) (fun x hx => ⟨hx, rfl⟩)))
  · rw [vrI, if_pos (Or.inr (Int32.not_le.mp c9)), if_neg (by decide)]
    refine wp_iconst (v := 1) d_Model_badRow_12 (by decide) ?_
    exact wp_zret d_Model_badRow_13 rfl rfl (by decide) (by decide) ⟨rfl, rfl⟩
set_option maxHeartbeats 4000000 in
theorem cm_upUnits (hM : Mx G μ0 μ ma τ) (hR : RP τ σ δ) {d : Nat} (hd : vr d = true) : CT G M_Model_upUnits [.ref (ma 0), .int (nI d)] μ (fun v μ' => v = some (.int (nI (ucS σ d (ln d)))) ∧ μ' = μ) (fun _ _ => False) := by
  refine CT.of (by decide) rfl (Nat.le_of_ble_eq_true rfl) ?_
  have hl := ln_pos d
  have hv := vr_le hd
  have loop : ∀ (n i : Nat), i + n = ln d → WP G M_Model_upUnits (EC G M_Model_upUnits (fun v μ' => v = some (.int (nI (ucS σ d (ln d)))) ∧ μ' = μ) (fun _ _ => False)) [(0, .ref (ma 0)), (1, .int (nI d)), (2, .int (nI (ucS σ d i))), (3, .int (nI i))] 4 [] μ 0 0 := by
    intro n
    induction n with
    | zero =>
      intro i hi
      obtain rfl : i = ln d := by omega
      refine wp_iload_n d_Model_upUnits_4 rfl rfl ?_
      refine wp_aload_n d_Model_upUnits_5 rfl rfl ?_
      refine wp_iload_n d_Model_upUnits_6 rfl rfl ?_
      refine wx_callV d_Model_upUnits_7 cv_Model_85 cd_Model_length ⟨by decide, by decide⟩ (cm_length G _ (ma 0) (d := d) (by omega)) hM.obj rfl rfl (Nat.le_of_ble_eq_true rfl) (Nat.le_of_ble_eq_true rfl) (Nat.le_of_ble_eq_true rfl) (fun E1 μ1 hq => hq.elim) (fun v1 μ1 hq => ?_)
      obtain ⟨rfl, rfl⟩ := hq
      refine wp_icmp_ge (tgt := 41) d_Model_upUnits_10 (by decide) (fun c10 => ?_) (fun c10 => ?_)
      · refine wp_iload_n d_Model_upUnits_41 rfl rfl ?_
        exact wp_iret d_Model_upUnits_42 rfl (by decide) (by decide) ⟨rfl, rfl⟩
      · exact absurd ((nI_leI (by omega) (by omega)).mpr (by omega)) c10
    | succ n ih =>
      intro i hi
      have hi2 : i < ln d := by omega
      have hu := vr_un hd hi2
      have hdn := hR.dn (un d i) hu
      refine wp_iload_n d_Model_upUnits_4 rfl rfl ?_
      refine wp_aload_n d_Model_upUnits_5 rfl rfl ?_
      refine wp_iload_n d_Model_upUnits_6 rfl rfl ?_
      refine wx_callV d_Model_upUnits_7 cv_Model_85 cd_Model_length ⟨by decide, by decide⟩ (cm_length G _ (ma 0) (d := d) (by omega)) hM.obj rfl rfl (Nat.le_of_ble_eq_true rfl) (Nat.le_of_ble_eq_true rfl) (Nat.le_of_ble_eq_true rfl) (fun E1 μ1 hq => hq.elim) (fun v1 μ1 hq => ?_)
      obtain ⟨rfl, rfl⟩ := hq
      refine wp_icmp_ge (tgt := 41) d_Model_upUnits_10 (by decide) (fun c10 => ?_) (fun c10 => ?_)
      · exact absurd ((nI_leI (by omega) (by omega)).mp c10) (by omega)
      refine wp_iload_n d_Model_upUnits_13 rfl rfl ?_
      refine wp_aload_n d_Model_upUnits_14 rfl rfl ?_
      refine wp_get d_Model_upUnits_15 fl_Model_31 hM.obj (by rfl) ?_
      refine wp_aload_n d_Model_upUnits_18 rfl rfl ?_
      refine wp_iload_n d_Model_upUnits_19 rfl rfl ?_
      refine wp_iload_n d_Model_upUnits_20 rfl rfl ?_
      refine wx_callV d_Model_upUnits_21 cv_Model_93 cd_Model_unit ⟨by decide, by decide⟩ (cm_unit hM hd hi2) hM.obj rfl rfl (Nat.le_of_ble_eq_true rfl) (Nat.le_of_ble_eq_true rfl) (Nat.le_of_ble_eq_true rfl) (fun E1 μ1 hq => hq.elim) (fun v1 μ1 hq => ?_)
      obtain ⟨rfl, rfl⟩ := hq
      refine wm_zld (i := 8) (n := 6) hM (by decide) (by decide) rfl rfl d_Model_upUnits_24 (by first | with_reducible exact ixc0 | with_reducible exact ixc1 | with_reducible exact ixc360 | with_reducible rfl | with_reducible exact ix4 _ _ | with_reducible exact ix21 _ | with_reducible exact ix2 _ | with_reducible exact ix4a _ | assumption) (by omega) ?_
      refine wp_if_eq (tgt := 32) d_Model_upUnits_25 (by decide) (fun c25 => ?_) (fun c25 => ?_)
      · have hz : ¬ σ (4 + un d i) 1 = 0 := fun z => by rw [hdn, if_pos z] at c25; exact absurd c25 (by decide)
        refine wp_iconst (v := 1) d_Model_upUnits_32 (by decide) ?_
        refine wp_iadd d_Model_upUnits_33 ?_
        refine wp_istore_n d_Model_upUnits_34 rfl (by decide) ?_
        refine wp_iinc d_Model_upUnits_35 rfl rfl (by decide) ?_
        refine wp_goto (tgt := 4) d_Model_upUnits_38 (by decide) ?_
        refine WP.loc [(0, .ref (ma 0)), (1, .int (nI d)), (2, .int (nI (ucS σ d (i + 1)))), (3, .int (nI (i + 1)))] ?_ (ih (i + 1) (by omega))
        rw [ucS, if_neg hz, ← nI_1, ← nI_1 i]; rfl
      · have hz : σ (4 + un d i) 1 = 0 := Classical.byContradiction (fun z => by rw [hdn, if_neg z] at c25; exact c25 rfl)
        refine wp_iconst (v := 0) d_Model_upUnits_28 (by decide) ?_
        refine wp_goto (tgt := 33) d_Model_upUnits_29 (by decide) ?_
        refine wp_iadd d_Model_upUnits_33 ?_
        rw [show nI (ucS σ d i) + 0 = nI (ucS σ d i) from by rw [show (0 : Int32) = nI 0 from rfl, nI_add, Nat.add_zero]]
        refine wp_istore_n d_Model_upUnits_34 rfl (by decide) ?_
        refine wp_iinc d_Model_upUnits_35 rfl rfl (by decide) ?_
        refine wp_goto (tgt := 4) d_Model_upUnits_38 (by decide) ?_
        refine WP.loc [(0, .ref (ma 0)), (1, .int (nI d)), (2, .int (nI (ucS σ d (i + 1)))), (3, .int (nI (i + 1)))] ?_ (ih (i + 1) (by omega))
        rw [ucS, if_pos hz, ← nI_1 i]; rfl
  refine wp_iconst (v := 0) d_Model_upUnits_0 (by decide) ?_
  refine wp_istore_n d_Model_upUnits_1 rfl (by decide) ?_
  refine wp_iconst (v := 0) d_Model_upUnits_2 (by decide) ?_
  refine wp_istore_n d_Model_upUnits_3 rfl (by decide) ?_
  exact WP.loc [(0, .ref (ma 0)), (1, .int (nI d)), (2, .int (nI (ucS σ d 0))), (3, .int (nI 0))] rfl (loop (ln d) 0 (Nat.zero_add _))
def PV (G : mt_G) (μ0 : mu_M) (ma : Nat → Nat) (τ : sg) (δ : dg) (σ' : sg) : Option Value → mu_M → Prop := fun x μ' => x = none ∧ ∃ τ', Mx G μ0 μ' ma τ' ∧ RP τ' σ' δ ∧ τ' 0 = τ 0
set_option maxHeartbeats 4000000 in
theorem cm_sealRow (hM : Mx G μ0 μ ma τ) (hR : RP τ σ δ) {d : Nat} (hd : vr d = true) : CT G M_Model_sealRow [.ref (ma 0), .int (nI d)] μ (PV G μ0 ma τ δ (slS d (τ 0 1 + 1) (ln d) σ)) (fun _ _ => False) := by
  refine CT.of (by decide) rfl (Nat.le_of_ble_eq_true rfl) ?_
  have hl := ln_pos d
  have hv := vr_le hd
  have loop : ∀ (n i : Nat) (τ1 : sg) (μ1 : mu_M), i + n = ln d → Mx G μ0 μ1 ma τ1 → RP τ1 (slS d (τ 0 1 + 1) i σ) δ → τ1 0 = τ 0 → WP G M_Model_sealRow (EC G M_Model_sealRow (PV G μ0 ma τ δ (slS d (τ 0 1 + 1) (ln d) σ)) (fun _ _ => False)) [(0, .ref (ma 0)), (1, .int (nI d)), (2, .int (nI i))] 2 [] μ1 0 0 := by
    intro n
    induction n with
    | zero =>
      intro i τ1 μ1 hi hM hR h0
      obtain rfl : i = ln d := by omega
      refine wp_iload_n d_Model_sealRow_2 rfl rfl ?_
      refine wp_aload_n d_Model_sealRow_3 rfl rfl ?_
      refine wp_iload_n d_Model_sealRow_4 rfl rfl ?_
      refine wx_callV d_Model_sealRow_5 cv_Model_85 cd_Model_length ⟨by decide, by decide⟩ (cm_length G _ (ma 0) (d := d) (by omega)) hM.obj rfl rfl (Nat.le_of_ble_eq_true rfl) (Nat.le_of_ble_eq_true rfl) (Nat.le_of_ble_eq_true rfl) (fun E1 μ1 hq => hq.elim) (fun v1 μ1 hq => ?_)
      obtain ⟨rfl, rfl⟩ := hq
      refine wp_icmp_ge (tgt := 48) d_Model_sealRow_8 (by decide) (fun c8 => ?_) (fun c8 => ?_)
      · exact wp_vret d_Model_sealRow_48 rfl (by decide) (by decide) ⟨rfl, τ1, hM, hR, h0⟩
      · exact absurd ((nI_leI (by omega) (by omega)).mpr (by omega)) c8
    | succ n ih =>
      intro i τ1 μ1 hi hM hR h0
      have hi2 : i < ln d := by omega
      have hu := vr_un hd hi2
      have hdn := hR.dn (un d i) hu
      refine wp_iload_n d_Model_sealRow_2 rfl rfl ?_
      refine wp_aload_n d_Model_sealRow_3 rfl rfl ?_
      refine wp_iload_n d_Model_sealRow_4 rfl rfl ?_
      refine wx_callV d_Model_sealRow_5 cv_Model_85 cd_Model_length ⟨by decide, by decide⟩ (cm_length G _ (ma 0) (d := d) (by omega)) hM.obj rfl rfl (Nat.le_of_ble_eq_true rfl) (Nat.le_of_ble_eq_true rfl) (Nat.le_of_ble_eq_true rfl) (fun E1 μ1 hq => hq.elim) (fun v1 μ1 hq => ?_)
      obtain ⟨rfl, rfl⟩ := hq
      refine wp_icmp_ge (tgt := 48) d_Model_sealRow_8 (by decide) (fun c8 => ?_) (fun c8 => ?_)
      · exact absurd ((nI_leI (by omega) (by omega)).mp c8) (by omega)
      refine wp_aload_n d_Model_sealRow_11 rfl rfl ?_
      refine wp_get d_Model_sealRow_12 fl_Model_31 hM.obj (by rfl) ?_
      refine wp_aload_n d_Model_sealRow_15 rfl rfl ?_
      refine wp_iload_n d_Model_sealRow_16 rfl rfl ?_
      refine wp_iload_n d_Model_sealRow_17 rfl rfl ?_
      refine wx_callV d_Model_sealRow_18 cv_Model_93 cd_Model_unit ⟨by decide, by decide⟩ (cm_unit hM hd hi2) hM.obj rfl rfl (Nat.le_of_ble_eq_true rfl) (Nat.le_of_ble_eq_true rfl) (Nat.le_of_ble_eq_true rfl) (fun E1 μ1 hq => hq.elim) (fun v1 μ1 hq => ?_)
      obtain ⟨rfl, rfl⟩ := hq
      refine wm_zld (i := 8) (n := 6) hM (by decide) (by decide) rfl rfl d_Model_sealRow_21 (by first | with_reducible exact ixc0 | with_reducible exact ixc1 | with_reducible exact ixc360 | with_reducible rfl | with_reducible exact ix4 _ _ | with_reducible exact ix21 _ | with_reducible exact ix2 _ | with_reducible exact ix4a _ | assumption) (by omega) ?_
      refine wp_if_ne (tgt := 42) d_Model_sealRow_22 (by decide) (fun c22 => ?_) (fun c22 => ?_)
      · have hz : slS d (τ 0 1 + 1) i σ (4 + un d i) 1 = 0 := Classical.byContradiction (fun z => by rw [hdn, if_neg z] at c22; exact c22 rfl)
        refine wp_iinc d_Model_sealRow_42 rfl rfl (by decide) ?_
        refine wp_goto (tgt := 2) d_Model_sealRow_45 (by decide) ?_
        exact WP.loc [(0, .ref (ma 0)), (1, .int (nI d)), (2, .int (nI (i + 1)))] (by rw [← nI_1 i]; rfl) (ih (i + 1) τ1 _ (by omega) hM (by rw [slS, if_pos hz]; exact hR) h0)
      · have hz : ¬ slS d (τ 0 1 + 1) i σ (4 + un d i) 1 = 0 := fun z => by rw [hdn, if_pos z] at c22; exact absurd c22 (by decide)
        refine wp_aload_n d_Model_sealRow_25 rfl rfl ?_
        refine wp_get d_Model_sealRow_26 fl_Model_35 hM.obj (by rfl) ?_
        refine wp_aload_n d_Model_sealRow_29 rfl rfl ?_
        refine wp_iload_n d_Model_sealRow_30 rfl rfl ?_
        refine wp_iload_n d_Model_sealRow_31 rfl rfl ?_
        refine wx_callV d_Model_sealRow_32 cv_Model_93 cd_Model_unit ⟨by decide, by decide⟩ (cm_unit hM hd hi2) hM.obj rfl rfl (Nat.le_of_ble_eq_true rfl) (Nat.le_of_ble_eq_true rfl) (Nat.le_of_ble_eq_true rfl) (fun E1 μ1 hq => hq.elim) (fun v1 μ1 hq => ?_)
        obtain ⟨rfl, rfl⟩ := hq
        refine wp_aload_n d_Model_sealRow_35 rfl rfl ?_
        refine wp_get d_Model_sealRow_36 fl_Model_38 hM.obj (by rfl) ?_
        refine wp_iconst (v := 1) d_Model_sealRow_39 (by decide) ?_
        refine wp_iadd d_Model_sealRow_40 ?_
        refine wm_ast (i := 9) (n := 6) hM (by decide) (by decide) rfl rfl d_Model_sealRow_41 (by first | with_reducible exact ixc0 | with_reducible exact ixc1 | with_reducible exact ixc360 | with_reducible rfl | with_reducible exact ix4 _ _ | with_reducible exact ix21 _ | with_reducible exact ix2 _ | with_reducible exact ix4a _ | assumption) (by omega) (fun μ1 hM => ?_)
        refine wp_iinc d_Model_sealRow_42 rfl rfl (by decide) ?_
        refine wp_goto (tgt := 2) d_Model_sealRow_45 (by decide) ?_
        rw [h0] at hM
        exact WP.loc [(0, .ref (ma 0)), (1, .int (nI d)), (2, .int (nI (i + 1)))] (by rw [← nI_1 i]; rfl) (ih (i + 1) _ _ (by omega) hM (by rw [slS, if_neg hz]; exact hR.seal hu) (by rw [up2_n (by decide)]; exact h0))
  refine wp_iconst (v := 0) d_Model_sealRow_0 (by decide) ?_
  refine wp_istore_n d_Model_sealRow_1 rfl (by decide) ?_
  exact WP.loc [(0, .ref (ma 0)), (1, .int (nI d)), (2, .int (nI 0))] rfl (loop (ln d) 0 τ μ (Nat.zero_add _) hM hR rfl)
def fhF (σ : sg) (d o n i : Nat) : Nat → Int32 := match fh σ d o n i with
  | some u => σ (eR u o)
  | none => vNone
theorem fhF_0 (σ : sg) (d o : Nat) : fhF σ d o (ln d) 0 = fhV σ d o := rfl
theorem fh_un {σ : sg} {d o : Nat} (hd : vr d = true) : ∀ (n i : Nat), i + n = ln d → ∀ u, fh σ d o n i = some u → u < 6
  | 0, _, _, _, h => by cases h
  | n + 1, i, hi, u, h => by
    rw [fh] at h
    split at h
    · exact fh_un hd n (i + 1) (by omega) u h
    · split at h
      · exact fh_un hd n (i + 1) (by omega) u h
      · cases h
        exact vr_un hd (by omega)
theorem fhF_B {d o : Nat} (hR : RP τ σ δ) (hd : vr d = true) (ho : o < 60) (n i : Nat) (hi : i + n = ln d) : vB (fhF σ d o n i) := by
  unfold fhF
  cases h : fh σ d o n i with
  | none => exact vB_none
  | some u => exact hR.p8 u o (fh_un hd n i hi u h) ho
set_option maxHeartbeats 8000000 in
set_option maxRecDepth 10000 in
theorem cm_merge (hM : Mx G μ0 μ ma τ) (hR : RP τ σ δ) {od d o : Nat} (hod : vr od = true) (hd : vr d = true) (ho : o < 60) : CT G M_Model_merge [.ref (ma 0), .int (nI o), .int (nI od), .int (nI d)] μ (PV G μ0 ma τ δ (mg1 d o (fhV σ od o) (ln d) σ)) (fun _ _ => False) := by
  refine CT.of (by decide) rfl (Nat.le_of_ble_eq_true rfl) ?_
  have hl := ln_pos d
  have hv := vr_le hd
  have hl2 := ln_pos od
  have hv2 := vr_le hod
  have second : ∀ (n i : Nat) (τ1 : sg) (μ1 : mu_M), i + n = ln d → Mx G μ0 μ1 ma τ1 → RP τ1 (mg1 d o (fhV σ od o) i σ) δ → Ent τ1 360 (fhV σ od o) → τ1 0 = τ 0 → WP G M_Model_merge (EC G M_Model_merge (PV G μ0 ma τ δ (mg1 d o (fhV σ od o) (ln d) σ)) (fun _ _ => False)) [(0, .ref (ma 0)), (1, .int (nI o)), (2, .int (nI od)), (3, .int (nI d)), (4, .int (nI i))] 80 [] μ1 0 0 := by
    intro n
    induction n with
    | zero =>
      intro i τ1 μ1 hi hM hR1 hE h0
      obtain rfl : i = ln d := by omega
      refine wp_iload d_Model_merge_80 rfl ?_
      refine wp_aload_n d_Model_merge_82 rfl rfl ?_
      refine wp_iload_n d_Model_merge_83 rfl rfl ?_
      refine wx_callV d_Model_merge_84 cv_Model_85 cd_Model_length ⟨by decide, by decide⟩ (cm_length G _ (ma 0) (d := d) (by omega)) hM.obj rfl rfl (Nat.le_of_ble_eq_true rfl) (Nat.le_of_ble_eq_true rfl) (Nat.le_of_ble_eq_true rfl) (fun E1 μ1 hq => hq.elim) (fun v1 μ1 hq => ?_)
      obtain ⟨rfl, rfl⟩ := hq
      refine wp_icmp_ge (tgt := 115) d_Model_merge_87 (by decide) (fun c87 => ?_) (fun c87 => ?_)
      · exact wp_vret d_Model_merge_115 rfl (by decide) (by decide) ⟨rfl, τ1, hM, hR1, h0⟩
      · exact absurd ((nI_leI (by omega) (by omega)).mpr (by omega)) c87
    | succ n ih =>
      intro i τ1 μ1 hi hM hR1 hE h0
      have hi2 : i < ln d := by omega
      have hu := vr_un hd hi2
      refine wp_iload d_Model_merge_80 rfl ?_
      refine wp_aload_n d_Model_merge_82 rfl rfl ?_
      refine wp_iload_n d_Model_merge_83 rfl rfl ?_
      refine wx_callV d_Model_merge_84 cv_Model_85 cd_Model_length ⟨by decide, by decide⟩ (cm_length G _ (ma 0) (d := d) (by omega)) hM.obj rfl rfl (Nat.le_of_ble_eq_true rfl) (Nat.le_of_ble_eq_true rfl) (Nat.le_of_ble_eq_true rfl) (fun E1 μ1 hq => hq.elim) (fun v1 μ1 hq => ?_)
      obtain ⟨rfl, rfl⟩ := hq
      refine wp_icmp_ge (tgt := 115) d_Model_merge_87 (by decide) (fun c87 => ?_) (fun c87 => ?_)
      · exact absurd ((nI_leI (by omega) (by omega)).mp c87) (by omega)
      refine wp_aload_n d_Model_merge_90 rfl rfl ?_
      refine wp_sipush (v := 360) d_Model_merge_91 (by decide) ?_
      refine wp_aload_n d_Model_merge_94 rfl rfl ?_
      refine wp_aload_n d_Model_merge_95 rfl rfl ?_
      refine wp_iload_n d_Model_merge_96 rfl rfl ?_
      refine wp_iload d_Model_merge_97 rfl ?_
      refine wx_callV d_Model_merge_99 cv_Model_93 cd_Model_unit ⟨by decide, by decide⟩ (cm_unit hM hd hi2) hM.obj rfl rfl (Nat.le_of_ble_eq_true rfl) (Nat.le_of_ble_eq_true rfl) (Nat.le_of_ble_eq_true rfl) (fun E1 μ1 hq => hq.elim) (fun v1 μ1 hq => ?_)
      obtain ⟨rfl, rfl⟩ := hq
      refine wp_iload_n d_Model_merge_102 rfl rfl ?_
      refine wx_callV d_Model_merge_103 cv_Model_100 cd_Model_cell ⟨by decide, by decide⟩ (cm_cell G _ (ma 0) (un d i) o) hM.obj rfl rfl (Nat.le_of_ble_eq_true rfl) (Nat.le_of_ble_eq_true rfl) (Nat.le_of_ble_eq_true rfl) (fun E1 μ1 hq => hq.elim) (fun v1 μ1 hq => ?_)
      obtain ⟨rfl, rfl⟩ := hq
      refine wx_callV d_Model_merge_106 cv_Model_103 cd_Model_copy ⟨by decide, by decide⟩ (cm_copy hM (fr := 360) (to := 60 * un d i + o) (by omega) (by omega)) hM.obj rfl rfl (Nat.le_of_ble_eq_true rfl) (Nat.le_of_ble_eq_true rfl) (Nat.le_of_ble_eq_true rfl) (fun E1 μ2 hq => hq.elim) (fun v1 μ2 hq => ?_)
      obtain ⟨rfl, τ2, hM, hCP⟩ := hq
      refine wp_iinc d_Model_merge_109 rfl rfl (by decide) ?_
      refine wp_goto (tgt := 80) d_Model_merge_112 (by decide) ?_
      exact WP.loc [(0, .ref (ma 0)), (1, .int (nI o)), (2, .int (nI od)), (3, .int (nI d)), (4, .int (nI (i + 1)))] (by rw [← nI_1 i]; rfl) (ih (i + 1) τ2 _ (by omega) hM (hR1.copy hu ho hCP hE (fhF_B hR hod ho _ 0 (Nat.zero_add _))) (hCP.off (by omega) (by omega) hE) (by rw [hCP.1 0 (Or.inl rfl)]; exact h0))
  have first : ∀ (m : Nat) (τ1 : sg) (μ1 : mu_M), m ≤ ln od → Mx G μ0 μ1 ma τ1 → RP τ1 σ δ → Ent τ1 360 (fhF σ od o (ln od - m) m) → τ1 0 = τ 0 → WP G M_Model_merge (EC G M_Model_merge (PV G μ0 ma τ δ (mg1 d o (fhV σ od o) (ln d) σ)) (fun _ _ => False)) [(0, .ref (ma 0)), (1, .int (nI o)), (2, .int (nI od)), (3, .int (nI d)), (4, .int (nI m - 1))] 18 [] μ1 0 0 := by
    intro m
    induction m with
    | zero =>
      intro τ1 μ1 hm hM hR1 hE h0
      refine wp_iload d_Model_merge_18 rfl ?_
      refine wp_if_lt (tgt := 77) d_Model_merge_20 (by decide) (fun c20 => ?_) (fun c20 => ?_)
      · refine wp_iconst (v := 0) d_Model_merge_77 (by decide) ?_
        refine wp_istore d_Model_merge_78 (by decide) ?_
        exact WP.loc [(0, .ref (ma 0)), (1, .int (nI o)), (2, .int (nI od)), (3, .int (nI d)), (4, .int (nI 0))] rfl (second (ln d) 0 τ1 _ (Nat.zero_add _) hM hR1 hE h0)
      · exact absurd (by decide) c20
    | succ i ih =>
      intro τ1 μ1 hm hM hR1 hE h0
      have hi2 : i < ln od := by omega
      have hu := vr_un hod hi2
      have hen := hR1.en (un od i) o hu ho
      have hdn := hR1.dn (un od i) hu
      have hfh : fh σ od o (ln od - i) i = if σ (4 + un od i) 1 = 0 then fh σ od o (ln od - (i + 1)) (i + 1) else if σ (eR (un od i) o) 0 = 0 then fh σ od o (ln od - (i + 1)) (i + 1) else some (un od i) := by
        rw [show ln od - i = (ln od - (i + 1)) + 1 by omega, fh]
      rw [nI_pred]
      refine wp_iload d_Model_merge_18 rfl ?_
      refine wp_if_lt (tgt := 77) d_Model_merge_20 (by decide) (fun c20 => ?_) (fun c20 => ?_)
      · exact absurd c20 (nI_pos (by omega))
      refine wp_aload_n d_Model_merge_23 rfl rfl ?_
      refine wp_aload_n d_Model_merge_24 rfl rfl ?_
      refine wp_iload_n d_Model_merge_25 rfl rfl ?_
      refine wp_iload d_Model_merge_26 rfl ?_
      refine wx_callV d_Model_merge_28 cv_Model_93 cd_Model_unit ⟨by decide, by decide⟩ (cm_unit hM hod hi2) hM.obj rfl rfl (Nat.le_of_ble_eq_true rfl) (Nat.le_of_ble_eq_true rfl) (Nat.le_of_ble_eq_true rfl) (fun E1 μ1 hq => hq.elim) (fun v1 μ1 hq => ?_)
      obtain ⟨rfl, rfl⟩ := hq
      refine wp_iload_n d_Model_merge_31 rfl rfl ?_
      refine wx_callV d_Model_merge_32 cv_Model_100 cd_Model_cell ⟨by decide, by decide⟩ (cm_cell G _ (ma 0) (un od i) o) hM.obj rfl rfl (Nat.le_of_ble_eq_true rfl) (Nat.le_of_ble_eq_true rfl) (Nat.le_of_ble_eq_true rfl) (fun E1 μ1 hq => hq.elim) (fun v1 μ1 hq => ?_)
      obtain ⟨rfl, rfl⟩ := hq
      refine wp_istore d_Model_merge_35 (by decide) ?_
      refine wp_aload_n d_Model_merge_37 rfl rfl ?_
      refine wp_get d_Model_merge_38 fl_Model_31 hM.obj (by rfl) ?_
      refine wp_aload_n d_Model_merge_41 rfl rfl ?_
      refine wp_iload_n d_Model_merge_42 rfl rfl ?_
      refine wp_iload d_Model_merge_43 rfl ?_
      refine wx_callV d_Model_merge_45 cv_Model_93 cd_Model_unit ⟨by decide, by decide⟩ (cm_unit hM hod hi2) hM.obj rfl rfl (Nat.le_of_ble_eq_true rfl) (Nat.le_of_ble_eq_true rfl) (Nat.le_of_ble_eq_true rfl) (fun E1 μ1 hq => hq.elim) (fun v1 μ1 hq => ?_)
      obtain ⟨rfl, rfl⟩ := hq
      refine wm_zld (i := 8) (n := 6) hM (by decide) (by decide) rfl rfl d_Model_merge_48 (by first | with_reducible exact ixc0 | with_reducible exact ixc1 | with_reducible exact ixc360 | with_reducible rfl | with_reducible exact ix4 _ _ | with_reducible exact ix21 _ | with_reducible exact ix2 _ | with_reducible exact ix4a _ | assumption) (by omega) ?_
      refine wp_if_ne (tgt := 71) d_Model_merge_49 (by decide) (fun c49 => ?_) (fun c49 => ?_)
      · have hz : σ (4 + un od i) 1 = 0 := Classical.byContradiction (fun z => by rw [hdn, if_neg z] at c49; exact c49 rfl)
        rw [if_pos hz] at hfh
        refine wp_iinc d_Model_merge_71 rfl rfl (by decide) ?_
        refine wp_goto (tgt := 18) d_Model_merge_74 (by decide) ?_
        exact WP.loc [(0, .ref (ma 0)), (1, .int (nI o)), (2, .int (nI od)), (3, .int (nI d)), (4, .int (nI i - 1))] (by rw [← i32_m1]; rfl) (ih τ1 _ (by omega) hM hR1 (by unfold fhF; rw [hfh]; exact hE) h0)
      · have hz : ¬ σ (4 + un od i) 1 = 0 := fun z => by rw [hdn, if_pos z] at c49; exact absurd c49 (by decide)
        rw [if_neg hz] at hfh
        refine wp_aload_n d_Model_merge_52 rfl rfl ?_
        refine wp_get d_Model_merge_53 fl_Model_7 hM.obj (by rfl) ?_
        refine wp_iload d_Model_merge_56 rfl ?_
        refine wm_ald (i := 1) (n := 361) hM (by decide) (by decide) rfl rfl d_Model_merge_58 (by first | with_reducible exact ixc0 | with_reducible exact ixc1 | with_reducible exact ixc360 | with_reducible rfl | with_reducible exact ix4 _ _ | with_reducible exact ix21 _ | with_reducible exact ix2 _ | with_reducible exact ix4a _ | assumption) (by omega) ?_
        refine wp_if_eq (tgt := 71) d_Model_merge_59 (by decide) (fun c59 => ?_) (fun c59 => ?_)
        · rw [hen.kd] at c59
          rw [if_pos c59] at hfh
          refine wp_iinc d_Model_merge_71 rfl rfl (by decide) ?_
          refine wp_goto (tgt := 18) d_Model_merge_74 (by decide) ?_
          exact WP.loc [(0, .ref (ma 0)), (1, .int (nI o)), (2, .int (nI od)), (3, .int (nI d)), (4, .int (nI i - 1))] (by rw [← i32_m1]; rfl) (ih τ1 _ (by omega) hM hR1 (by unfold fhF; rw [hfh]; exact hE) h0)
        · rw [hen.kd] at c59
          rw [if_neg c59] at hfh
          refine wp_aload_n d_Model_merge_62 rfl rfl ?_
          refine wp_iload d_Model_merge_63 rfl ?_
          refine wp_sipush (v := 360) d_Model_merge_65 (by decide) ?_
          refine wx_callV d_Model_merge_68 cv_Model_103 cd_Model_copy ⟨by decide, by decide⟩ (cm_copy hM (fr := 60 * un od i + o) (to := 360) (by omega) (by omega)) hM.obj rfl rfl (Nat.le_of_ble_eq_true rfl) (Nat.le_of_ble_eq_true rfl) (Nat.le_of_ble_eq_true rfl) (fun E1 μ2 hq => hq.elim) (fun v1 μ2 hq => ?_)
          obtain ⟨rfl, τ2, hM, hCP⟩ := hq
          refine wp_iinc d_Model_merge_71 rfl rfl (by decide) ?_
          refine wp_goto (tgt := 18) d_Model_merge_74 (by decide) ?_
          exact WP.loc [(0, .ref (ma 0)), (1, .int (nI o)), (2, .int (nI od)), (3, .int (nI d)), (4, .int (nI i - 1))] (by rw [← i32_m1]; rfl) (ih τ2 _ (by omega) hM (hR1.scr hCP) (by unfold fhF; rw [hfh]; exact hCP.ent (by omega) hen) (by rw [hCP.1 0 (Or.inl rfl)]; exact h0))
  refine wp_aload_n d_Model_merge_0 rfl rfl ?_
  refine wp_get d_Model_merge_1 fl_Model_7 hM.obj (by rfl) ?_
  refine wp_sipush (v := 360) d_Model_merge_4 (by decide) ?_
  refine wp_iconst (v := 0) d_Model_merge_7 (by decide) ?_
  refine wm_ast (i := 1) (n := 361) hM (by decide) (by decide) rfl rfl d_Model_merge_8 (by first | with_reducible exact ixc0 | with_reducible exact ixc1 | with_reducible exact ixc360 | with_reducible rfl | with_reducible exact ix4 _ _ | with_reducible exact ix21 _ | with_reducible exact ix2 _ | with_reducible exact ix4a _ | assumption) (by omega) (fun μ1 hM => ?_)
  refine wp_aload_n d_Model_merge_9 rfl rfl ?_
  refine wp_iload_n d_Model_merge_10 rfl rfl ?_
  refine wx_callV d_Model_merge_11 cv_Model_85 cd_Model_length ⟨by decide, by decide⟩ (cm_length G _ (ma 0) (d := od) (by omega)) hM.obj rfl rfl (Nat.le_of_ble_eq_true rfl) (Nat.le_of_ble_eq_true rfl) (Nat.le_of_ble_eq_true rfl) (fun E1 μ1 hq => hq.elim) (fun v1 μ1 hq => ?_)
  obtain ⟨rfl, rfl⟩ := hq
  refine wp_iconst (v := 1) d_Model_merge_14 (by decide) ?_
  refine wp_isub d_Model_merge_15 ?_
  refine wp_istore d_Model_merge_16 (by decide) ?_
  have hR1 : RP (up2 τ 1 360 0) σ δ := by
    refine hR.low (fun i hi => up2_n (by omega)) (fun i j a b hj => ?_) (fun j hj => ⟨rfl, rfl⟩)
    by_cases e : i = 1
    · rw [e, up2_s, va_up_ne _ _ (by omega)]
    · rw [up2_n e]
  refine WP.loc [(0, .ref (ma 0)), (1, .int (nI o)), (2, .int (nI od)), (3, .int (nI d)), (4, .int (nI (ln od) - 1))] rfl (WP.widen (Nat.le_of_ble_eq_true rfl) (Nat.le_of_ble_eq_true rfl) (first (ln od) _ _ (Nat.le_refl _) hM hR1 ?_ rfl))
  rw [Nat.sub_self]
  exact Or.inl ⟨rfl, rfl⟩
end MChange
