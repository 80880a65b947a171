/-! THE REFERENCE'S PUBLIC METHODS, first -/
section MPub
variable {G : mt_G} {μ0 μ : mu_M} {ma : Nat → Nat} {τ σ : sg} {δ : dg}
set_option maxHeartbeats 4000000 in
set_option maxRecDepth 10000 in
theorem cm_learn (hM : Mx G μ0 μ ma τ) (hR : RP τ σ δ) (x : Int32) : CT G M_Model_learn [.ref (ma 0), .int x] μ (PM G μ0 ma (S_learn x σ δ)) (fun _ _ => False) := by
  refine CT.of (by decide) rfl (Nat.le_of_ble_eq_true rfl) ?_
  refine wp_aload_n d_Model_learn_0 rfl rfl ?_
  refine wp_iconst (v := 0) d_Model_learn_1 (by decide) ?_
  refine wm_put0 hM d_Model_learn_2 fp_Model_82 (fun μ1 hM => ?_)
  refine wp_aload_n d_Model_learn_5 rfl rfl ?_
  refine wp_iload_n d_Model_learn_6 rfl rfl ?_
  refine wp_iconst (v := 4) d_Model_learn_7 (by decide) ?_
  have hR := hR.f0 0
  have h00 : up2 τ 0 0 0 0 0 = 0 := rfl
  generalize up2 τ 0 0 0 = τ at hM hR h00
  refine wx_callV d_Model_learn_8 cv_Model_111 cd_Model_out ⟨by decide, by decide⟩ (cm_out G _ (ma 0) x 4) hM.obj rfl rfl (Nat.le_of_ble_eq_true rfl) (Nat.le_of_ble_eq_true rfl) (Nat.le_of_ble_eq_true rfl) (fun E1 μ1 hq => hq.elim) (fun v1 μ1 hq => ?_)
  obtain ⟨rfl, rfl⟩ := hq
  rcases ar_c (x := x) (y := 4) (n := 4) rfl (by decide) with ⟨c, hc, rfl, ha, h⟩ | ⟨ha, h⟩
  · rw [S_learn, ha, if_neg h]
    dsimp only
    refine wp_if_eq (tgt := 20) d_Model_learn_11 (by decide) (fun _ => ?_) (fun z9 => absurd z9 (by decide))
    refine wp_aload_n d_Model_learn_20 rfl rfl ?_
    refine wp_iload_n d_Model_learn_21 rfl rfl ?_
    refine wx_callV d_Model_learn_22 cv_Model_78 cd_Model_learnNow ⟨by decide, by decide⟩ (cm_learnNow hM hc) hM.obj rfl rfl (Nat.le_of_ble_eq_true rfl) (Nat.le_of_ble_eq_true rfl) (Nat.le_of_ble_eq_true rfl) (fun E1 μ2 hq => hq.elim) (fun v1 μ2 hq => ?_)
    obtain ⟨rfl, hM⟩ := hq
    refine wp_aload_n d_Model_learn_25 rfl rfl ?_
    refine wp_get d_Model_learn_26 fl_Model_38 hM.obj (by rfl) ?_
    exact wp_iret d_Model_learn_29 rfl (by decide) (by decide) ⟨_, _, rfl, hM, hR.learn hc, h00, fun _ => hR.ep⟩
  · rw [S_learn, ha, if_pos h]
    dsimp only
    refine wp_if_eq (tgt := 20) d_Model_learn_11 (by decide) (fun z9 => absurd z9 (by decide)) (fun _ => ?_)
    refine wp_aload_n d_Model_learn_14 rfl rfl ?_
    refine wp_iconst (v := 1) d_Model_learn_15 (by decide) ?_
    refine wx_callV d_Model_learn_16 cv_Model_114 cd_Model_fail ⟨by decide, by decide⟩ (cm_fail hM _) hM.obj rfl rfl (Nat.le_of_ble_eq_true rfl) (Nat.le_of_ble_eq_true rfl) (Nat.le_of_ble_eq_true rfl) (fun E1 μ9 hq => hq.elim) (fun v1 μ9 hq => ?_)
    obtain ⟨rfl, hM⟩ := hq
    exact wp_iret d_Model_learn_19 rfl (by decide) (by decide) ⟨_, 0, rfl, hM, hR.f0 _, rfl, fun z9 => absurd z9 (show ¬ 1 = 0 by decide)⟩
set_option maxHeartbeats 4000000 in
set_option maxRecDepth 10000 in
theorem cm_up (hM : Mx G μ0 μ ma τ) (hR : RP τ σ δ) (x on : Int32) (hon : on = 0 ∨ on = 1) : CT G M_Model_up [.ref (ma 0), .int x, .int on] μ (PM G μ0 ma (S_up x on σ δ)) (fun _ _ => False) := by
  refine CT.of (by decide) rfl (Nat.le_of_ble_eq_true rfl) ?_
  refine wp_aload_n d_Model_up_0 rfl rfl ?_
  refine wp_iconst (v := 0) d_Model_up_1 (by decide) ?_
  refine wm_put0 hM d_Model_up_2 fp_Model_82 (fun μ1 hM => ?_)
  refine wp_aload_n d_Model_up_5 rfl rfl ?_
  refine wp_iload_n d_Model_up_6 rfl rfl ?_
  refine wp_bipush (v := 6) d_Model_up_7 (by decide) ?_
  have hR := hR.f0 0
  have h00 : up2 τ 0 0 0 0 0 = 0 := rfl
  generalize up2 τ 0 0 0 = τ at hM hR h00
  refine wx_callV d_Model_up_9 cv_Model_111 cd_Model_out ⟨by decide, by decide⟩ (cm_out G _ (ma 0) x 6) hM.obj rfl rfl (Nat.le_of_ble_eq_true rfl) (Nat.le_of_ble_eq_true rfl) (Nat.le_of_ble_eq_true rfl) (fun E1 μ1 hq => hq.elim) (fun v1 μ1 hq => ?_)
  obtain ⟨rfl, rfl⟩ := hq
  rcases ar_c (x := x) (y := 6) (n := 6) rfl (by decide) with ⟨u, hu, rfl, ha, h⟩ | ⟨ha, h⟩
  · rw [S_up, ha, if_neg h]
    dsimp only
    refine wp_if_eq (tgt := 21) d_Model_up_12 (by decide) (fun _ => ?_) (fun z9 => absurd z9 (by decide))
    refine wp_aload_n d_Model_up_21 rfl rfl ?_
    refine wp_get d_Model_up_22 fl_Model_31 hM.obj (by rfl) ?_
    refine wp_iload_n d_Model_up_25 rfl rfl ?_
    refine wp_iload_n d_Model_up_26 rfl rfl ?_
    refine wp_if_ne (tgt := 34) d_Model_up_27 (by decide) (fun c27 => ?_) (fun c27 => ?_)
    · have h1 : on = 1 := hon.resolve_left c27
      refine wp_iconst (v := 0) d_Model_up_34 (by decide) ?_
      refine wm_zst (i := 8) (n := 6) hM (by decide) (by decide) rfl rfl d_Model_up_35 (by first | with_reducible exact ixc0 | with_reducible exact ixc1 | with_reducible exact ixc360 | with_reducible rfl | with_reducible exact ix4 _ _ | with_reducible exact ix21 _ | with_reducible exact ix2 _ | with_reducible exact ix4a _ | assumption) (by omega) (by rfl) (fun μ1 hM => ?_)
      refine wp_aload_n d_Model_up_36 rfl rfl ?_
      refine wp_get d_Model_up_37 fl_Model_35 hM.obj (by rfl) ?_
      refine wp_iload_n d_Model_up_40 rfl rfl ?_
      refine wm_ald (i := 9) (n := 6) hM (by decide) (by decide) rfl rfl d_Model_up_41 (by first | with_reducible exact ixc0 | with_reducible exact ixc1 | with_reducible exact ixc360 | with_reducible rfl | with_reducible exact ix4 _ _ | with_reducible exact ix21 _ | with_reducible exact ix2 _ | with_reducible exact ix4a _ | assumption) (by omega) ?_
      exact wp_iret d_Model_up_42 rfl (by decide) (by decide) ⟨_, _, rfl, hM, hR.dnu hu hon (by rw [if_neg c27]), h00, fun _ => hR.sl u hu⟩
    · refine wp_iconst (v := 1) d_Model_up_30 (by decide) ?_
      refine wp_goto (tgt := 35) d_Model_up_31 (by decide) ?_
      refine wm_zst (i := 8) (n := 6) hM (by decide) (by decide) rfl rfl d_Model_up_35 (by first | with_reducible exact ixc0 | with_reducible exact ixc1 | with_reducible exact ixc360 | with_reducible rfl | with_reducible exact ix4 _ _ | with_reducible exact ix21 _ | with_reducible exact ix2 _ | with_reducible exact ix4a _ | assumption) (by omega) (by rfl) (fun μ1 hM => ?_)
      refine wp_aload_n d_Model_up_36 rfl rfl ?_
      refine wp_get d_Model_up_37 fl_Model_35 hM.obj (by rfl) ?_
      refine wp_iload_n d_Model_up_40 rfl rfl ?_
      refine wm_ald (i := 9) (n := 6) hM (by decide) (by decide) rfl rfl d_Model_up_41 (by first | with_reducible exact ixc0 | with_reducible exact ixc1 | with_reducible exact ixc360 | with_reducible rfl | with_reducible exact ix4 _ _ | with_reducible exact ix21 _ | with_reducible exact ix2 _ | with_reducible exact ix4a _ | assumption) (by omega) ?_
      exact wp_iret d_Model_up_42 rfl (by decide) (by decide) ⟨_, _, rfl, hM, hR.dnu hu hon (by rw [if_pos c27]), h00, fun _ => hR.sl u hu⟩
  · rw [S_up, ha, if_pos h]
    dsimp only
    refine wp_if_eq (tgt := 21) d_Model_up_12 (by decide) (fun z9 => absurd z9 (by decide)) (fun _ => ?_)
    refine wp_aload_n d_Model_up_15 rfl rfl ?_
    refine wp_iconst (v := 1) d_Model_up_16 (by decide) ?_
    refine wx_callV d_Model_up_17 cv_Model_114 cd_Model_fail ⟨by decide, by decide⟩ (cm_fail hM _) hM.obj rfl rfl (Nat.le_of_ble_eq_true rfl) (Nat.le_of_ble_eq_true rfl) (Nat.le_of_ble_eq_true rfl) (fun E1 μ9 hq => hq.elim) (fun v1 μ9 hq => ?_)
    obtain ⟨rfl, hM⟩ := hq
    exact wp_iret d_Model_up_20 rfl (by decide) (by decide) ⟨_, 0, rfl, hM, hR.f0 _, rfl, fun z9 => absurd z9 (show ¬ 1 = 0 by decide)⟩
set_option maxHeartbeats 4000000 in
set_option maxRecDepth 10000 in
theorem cm_lose (hM : Mx G μ0 μ ma τ) (hR : RP τ σ δ) : CT G M_Model_lose [.ref (ma 0)] μ (PM G μ0 ma (S_lose σ δ)) (fun _ _ => False) := by
  refine CT.of (by decide) rfl (Nat.le_of_ble_eq_true rfl) ?_
  refine wp_aload_n d_Model_lose_0 rfl rfl ?_
  refine wp_iconst (v := 0) d_Model_lose_1 (by decide) ?_
  refine wm_put0 hM d_Model_lose_2 fp_Model_82 (fun μ1 hM => ?_)
  refine wp_aload_n d_Model_lose_5 rfl rfl ?_
  refine wp_iconst (v := 1) d_Model_lose_6 (by decide) ?_
  refine wm_put3 hM d_Model_lose_7 fp_Model_107 (by first | exact Or.inl rfl | exact Or.inr rfl) (fun μ1 hM => ?_)
  refine wp_aload_n d_Model_lose_10 rfl rfl ?_
  refine wp_get d_Model_lose_11 fl_Model_121 hM.obj (by rfl) ?_
  exact wp_iret d_Model_lose_14 rfl (by decide) (by decide) ⟨_, _, rfl, hM, (hR.f0 0).lost (Or.inr rfl), rfl, fun _ => hR.nx⟩
set_option maxHeartbeats 4000000 in
set_option maxRecDepth 10000 in
theorem cm_get (hM : Mx G μ0 μ ma τ) (hR : RP τ σ δ) (x y : Int32) : CT G M_Model_get [.ref (ma 0), .int x, .int y] μ (PM G μ0 ma (S_get x y σ δ)) (fun _ _ => False) := by
  refine CT.of (by decide) rfl (Nat.le_of_ble_eq_true rfl) ?_
  refine wp_aload_n d_Model_get_0 rfl rfl ?_
  refine wp_iconst (v := 0) d_Model_get_1 (by decide) ?_
  refine wm_put0 hM d_Model_get_2 fp_Model_82 (fun μ1 hM => ?_)
  refine wp_aload_n d_Model_get_5 rfl rfl ?_
  refine wp_iload_n d_Model_get_6 rfl rfl ?_
  refine wp_iconst (v := 4) d_Model_get_7 (by decide) ?_
  have hR := hR.f0 0
  have h00 : up2 τ 0 0 0 0 0 = 0 := rfl
  generalize up2 τ 0 0 0 = τ at hM hR h00
  refine wx_callV d_Model_get_8 cv_Model_111 cd_Model_out ⟨by decide, by decide⟩ (cm_out G _ (ma 0) x 4) hM.obj rfl rfl (Nat.le_of_ble_eq_true rfl) (Nat.le_of_ble_eq_true rfl) (Nat.le_of_ble_eq_true rfl) (fun E1 μ1 hq => hq.elim) (fun v1 μ1 hq => ?_)
  obtain ⟨rfl, rfl⟩ := hq
  rcases ar_c (x := x) (y := 4) (n := 4) rfl (by decide) with ⟨c, hc, rfl, ha, h⟩ | ⟨ha, h⟩
  · rw [if_neg h]
    refine wp_if_ne (tgt := 23) d_Model_get_11 (by decide) (fun z9 => absurd z9 (by decide)) (fun _ => ?_)
    refine wp_aload_n d_Model_get_14 rfl rfl ?_
    refine wp_iload_n d_Model_get_15 rfl rfl ?_
    refine wp_iconst (v := 4) d_Model_get_16 (by decide) ?_
    refine wx_callV d_Model_get_17 cv_Model_111 cd_Model_out ⟨by decide, by decide⟩ (cm_out G _ (ma 0) y 4) hM.obj rfl rfl (Nat.le_of_ble_eq_true rfl) (Nat.le_of_ble_eq_true rfl) (Nat.le_of_ble_eq_true rfl) (fun E1 μ1 hq => hq.elim) (fun v1 μ1 hq => ?_)
    obtain ⟨rfl, rfl⟩ := hq
    rcases ar_c (x := y) (y := 4) (n := 4) rfl (by decide) with ⟨k, hk, rfl, hb, h⟩ | ⟨hb, h⟩
    · rw [S_get, ha, hb, if_neg h]
      dsimp only
      refine wp_if_eq (tgt := 31) d_Model_get_20 (by decide) (fun _ => ?_) (fun z9 => absurd z9 (by decide))
      refine wp_aload_n d_Model_get_31 rfl rfl ?_
      refine wp_get d_Model_get_32 fl_Model_57 hM.obj (by rfl) ?_
      refine wp_iconst (v := 4) d_Model_get_35 (by decide) ?_
      refine wp_iload_n d_Model_get_36 rfl rfl ?_
      refine wp_imul d_Model_get_37 ?_
      refine wp_iload_n d_Model_get_38 rfl rfl ?_
      refine wp_iadd d_Model_get_39 ?_
      refine wm_ald (i := 14) (n := 16) hM (by decide) (by decide) rfl rfl d_Model_get_40 (by first | with_reducible exact ixc0 | with_reducible exact ixc1 | with_reducible exact ixc360 | with_reducible rfl | with_reducible exact ix4 _ _ | with_reducible exact ix21 _ | with_reducible exact ix2 _ | with_reducible exact ix4a _ | assumption) (by omega) ?_
      exact wp_iret d_Model_get_41 rfl (by decide) (by decide) ⟨_, _, rfl, hM, hR, h00, fun _ => hR.nw c k hc hk⟩
    · rw [S_get, ha, hb, if_pos h]
      dsimp only
      refine wp_if_eq (tgt := 31) d_Model_get_20 (by decide) (fun z9 => absurd z9 (by decide)) (fun _ => ?_)
      refine wp_aload_n d_Model_get_23 rfl rfl ?_
      refine wp_iconst (v := 1) d_Model_get_24 (by decide) ?_
      refine wx_callV d_Model_get_25 cv_Model_114 cd_Model_fail ⟨by decide, by decide⟩ (cm_fail hM _) hM.obj rfl rfl (Nat.le_of_ble_eq_true rfl) (Nat.le_of_ble_eq_true rfl) (Nat.le_of_ble_eq_true rfl) (fun E1 μ9 hq => hq.elim) (fun v1 μ9 hq => ?_)
      obtain ⟨rfl, hM⟩ := hq
      refine wp_goto (tgt := 41) d_Model_get_28 (by decide) ?_
      exact wp_iret d_Model_get_41 rfl (by decide) (by decide) ⟨_, 0, rfl, hM, hR.f0 _, rfl, fun z9 => absurd z9 (show ¬ 1 = 0 by decide)⟩
  · rw [S_get, ha, if_pos h]
    dsimp only
    refine wp_if_ne (tgt := 23) d_Model_get_11 (by decide) (fun _ => ?_) (fun z9 => absurd z9 (by decide))
    refine wp_aload_n d_Model_get_23 rfl rfl ?_
    refine wp_iconst (v := 1) d_Model_get_24 (by decide) ?_
    refine wx_callV d_Model_get_25 cv_Model_114 cd_Model_fail ⟨by decide, by decide⟩ (cm_fail hM _) hM.obj rfl rfl (Nat.le_of_ble_eq_true rfl) (Nat.le_of_ble_eq_true rfl) (Nat.le_of_ble_eq_true rfl) (fun E1 μ9 hq => hq.elim) (fun v1 μ9 hq => ?_)
    obtain ⟨rfl, hM⟩ := hq
    refine wp_goto (tgt := 41) d_Model_get_28 (by decide) ?_
    exact wp_iret d_Model_get_41 rfl (by decide) (by decide) ⟨_, 0, rfl, hM, hR.f0 _, rfl, fun z9 => absurd z9 (show ¬ 1 = 0 by decide)⟩
set_option maxHeartbeats 4000000 in
set_option maxRecDepth 10000 in
theorem cm_look (hM : Mx G μ0 μ ma τ) (hR : RP τ σ δ) (x y : Int32) : CT G M_Model_look [.ref (ma 0), .int x, .int y] μ (PM G μ0 ma (S_look x y σ δ)) (fun _ _ => False) := by
  refine CT.of (by decide) rfl (Nat.le_of_ble_eq_true rfl) ?_
  refine wp_aload_n d_Model_look_0 rfl rfl ?_
  refine wp_iconst (v := 0) d_Model_look_1 (by decide) ?_
  refine wm_put0 hM d_Model_look_2 fp_Model_82 (fun μ1 hM => ?_)
  refine wp_aload_n d_Model_look_5 rfl rfl ?_
  refine wp_iload_n d_Model_look_6 rfl rfl ?_
  refine wp_bipush (v := 6) d_Model_look_7 (by decide) ?_
  have hR := hR.f0 0
  have h00 : up2 τ 0 0 0 0 0 = 0 := rfl
  generalize up2 τ 0 0 0 = τ at hM hR h00
  refine wx_callV d_Model_look_9 cv_Model_111 cd_Model_out ⟨by decide, by decide⟩ (cm_out G _ (ma 0) x 6) hM.obj rfl rfl (Nat.le_of_ble_eq_true rfl) (Nat.le_of_ble_eq_true rfl) (Nat.le_of_ble_eq_true rfl) (fun E1 μ1 hq => hq.elim) (fun v1 μ1 hq => ?_)
  obtain ⟨rfl, rfl⟩ := hq
  rcases ar_c (x := x) (y := 6) (n := 6) rfl (by decide) with ⟨u, hu, rfl, ha, h⟩ | ⟨ha, h⟩
  · rw [if_neg h]
    refine wp_if_ne (tgt := 25) d_Model_look_12 (by decide) (fun z9 => absurd z9 (by decide)) (fun _ => ?_)
    refine wp_aload_n d_Model_look_15 rfl rfl ?_
    refine wp_iload_n d_Model_look_16 rfl rfl ?_
    refine wp_bipush (v := 60) d_Model_look_17 (by decide) ?_
    refine wx_callV d_Model_look_19 cv_Model_111 cd_Model_out ⟨by decide, by decide⟩ (cm_out G _ (ma 0) y 60) hM.obj rfl rfl (Nat.le_of_ble_eq_true rfl) (Nat.le_of_ble_eq_true rfl) (Nat.le_of_ble_eq_true rfl) (fun E1 μ1 hq => hq.elim) (fun v1 μ1 hq => ?_)
    obtain ⟨rfl, rfl⟩ := hq
    rcases ar_c (x := y) (y := 60) (n := 60) rfl (by decide) with ⟨o, ho, rfl, hb, h⟩ | ⟨hb, h⟩
    · rw [S_look, ha, hb, if_neg h]
      dsimp only
      refine wp_if_eq (tgt := 33) d_Model_look_22 (by decide) (fun _ => ?_) (fun z9 => absurd z9 (by decide))
      refine wp_aload_n d_Model_look_33 rfl rfl ?_
      refine wp_get d_Model_look_34 fl_Model_7 hM.obj (by rfl) ?_
      refine wp_aload_n d_Model_look_37 rfl rfl ?_
      refine wp_iload_n d_Model_look_38 rfl rfl ?_
      refine wp_iload_n d_Model_look_39 rfl rfl ?_
      refine wx_callV d_Model_look_40 cv_Model_100 cd_Model_cell ⟨by decide, by decide⟩ (cm_cell G _ (ma 0) u o) hM.obj rfl rfl (Nat.le_of_ble_eq_true rfl) (Nat.le_of_ble_eq_true rfl) (Nat.le_of_ble_eq_true rfl) (fun E1 μ1 hq => hq.elim) (fun v1 μ1 hq => ?_)
      obtain ⟨rfl, rfl⟩ := hq
      refine wm_ald (i := 1) (n := 361) hM (by decide) (by decide) rfl rfl d_Model_look_43 (by first | with_reducible exact ixc0 | with_reducible exact ixc1 | with_reducible exact ixc360 | with_reducible rfl | with_reducible exact ix4 _ _ | with_reducible exact ix21 _ | with_reducible exact ix2 _ | with_reducible exact ix4a _ | assumption) (by omega) ?_
      exact wp_iret d_Model_look_44 rfl (by decide) (by decide) ⟨_, _, rfl, hM, hR, h00, fun _ => (hR.en u o hu ho).kd⟩
    · rw [S_look, ha, hb, if_pos h]
      dsimp only
      refine wp_if_eq (tgt := 33) d_Model_look_22 (by decide) (fun z9 => absurd z9 (by decide)) (fun _ => ?_)
      refine wp_aload_n d_Model_look_25 rfl rfl ?_
      refine wp_iconst (v := 1) d_Model_look_26 (by decide) ?_
      refine wx_callV d_Model_look_27 cv_Model_114 cd_Model_fail ⟨by decide, by decide⟩ (cm_fail hM _) hM.obj rfl rfl (Nat.le_of_ble_eq_true rfl) (Nat.le_of_ble_eq_true rfl) (Nat.le_of_ble_eq_true rfl) (fun E1 μ9 hq => hq.elim) (fun v1 μ9 hq => ?_)
      obtain ⟨rfl, hM⟩ := hq
      refine wp_goto (tgt := 44) d_Model_look_30 (by decide) ?_
      exact wp_iret d_Model_look_44 rfl (by decide) (by decide) ⟨_, 0, rfl, hM, hR.f0 _, rfl, fun z9 => absurd z9 (show ¬ 1 = 0 by decide)⟩
  · rw [S_look, ha, if_pos h]
    dsimp only
    refine wp_if_ne (tgt := 25) d_Model_look_12 (by decide) (fun _ => ?_) (fun z9 => absurd z9 (by decide))
    refine wp_aload_n d_Model_look_25 rfl rfl ?_
    refine wp_iconst (v := 1) d_Model_look_26 (by decide) ?_
    refine wx_callV d_Model_look_27 cv_Model_114 cd_Model_fail ⟨by decide, by decide⟩ (cm_fail hM _) hM.obj rfl rfl (Nat.le_of_ble_eq_true rfl) (Nat.le_of_ble_eq_true rfl) (Nat.le_of_ble_eq_true rfl) (fun E1 μ9 hq => hq.elim) (fun v1 μ9 hq => ?_)
    obtain ⟨rfl, hM⟩ := hq
    refine wp_goto (tgt := 44) d_Model_look_30 (by decide) ?_
    exact wp_iret d_Model_look_44 rfl (by decide) (by decide) ⟨_, 0, rfl, hM, hR.f0 _, rfl, fun z9 => absurd z9 (show ¬ 1 = 0 by decide)⟩
set_option maxHeartbeats 4000000 in
set_option maxRecDepth 10000 in
theorem cm_drop (hM : Mx G μ0 μ ma τ) (hR : RP τ σ δ) (x : Int32) : CT G M_Model_drop [.ref (ma 0), .int x] μ (PM G μ0 ma (S_drop x σ δ)) (fun _ _ => False) := by
  refine CT.of (by decide) rfl (Nat.le_of_ble_eq_true rfl) ?_
  refine wp_aload_n d_Model_drop_0 rfl rfl ?_
  refine wp_iconst (v := 0) d_Model_drop_1 (by decide) ?_
  refine wm_put0 hM d_Model_drop_2 fp_Model_82 (fun μ1 hM => ?_)
  refine wp_aload_n d_Model_drop_5 rfl rfl ?_
  refine wp_iload_n d_Model_drop_6 rfl rfl ?_
  refine wp_iconst (v := 4) d_Model_drop_7 (by decide) ?_
  have hR := hR.f0 0
  have h00 : up2 τ 0 0 0 0 0 = 0 := rfl
  generalize up2 τ 0 0 0 = τ at hM hR h00
  refine wx_callV d_Model_drop_8 cv_Model_111 cd_Model_out ⟨by decide, by decide⟩ (cm_out G _ (ma 0) x 4) hM.obj rfl rfl (Nat.le_of_ble_eq_true rfl) (Nat.le_of_ble_eq_true rfl) (Nat.le_of_ble_eq_true rfl) (fun E1 μ1 hq => hq.elim) (fun v1 μ1 hq => ?_)
  obtain ⟨rfl, rfl⟩ := hq
  rcases ar_c (x := x) (y := 4) (n := 4) rfl (by decide) with ⟨c, hc, rfl, ha, h⟩ | ⟨ha, h⟩
  · rw [S_drop, ha, if_neg h]
    dsimp only
    refine wp_if_eq (tgt := 20) d_Model_drop_11 (by decide) (fun _ => ?_) (fun z9 => absurd z9 (by decide))
    have hop := hR.op c hc
    refine wp_aload_n d_Model_drop_20 rfl rfl ?_
    refine wp_get d_Model_drop_21 fl_Model_63 hM.obj (by rfl) ?_
    refine wp_iload_n d_Model_drop_24 rfl rfl ?_
    refine wm_zld (i := 16) (n := 4) hM (by decide) (by decide) rfl rfl d_Model_drop_25 (by first | with_reducible exact ixc0 | with_reducible exact ixc1 | with_reducible exact ixc360 | with_reducible rfl | with_reducible exact ix4 _ _ | with_reducible exact ix21 _ | with_reducible exact ix2 _ | with_reducible exact ix4a _ | assumption) (by omega) ?_
    refine wp_if_ne (tgt := 31) d_Model_drop_26 (by decide) (fun c26 => ?_) (fun c26 => ?_)
    · rw [hop] at c26
      rw [if_neg c26]
      refine wp_aload_n d_Model_drop_31 rfl rfl ?_
      refine wp_get d_Model_drop_32 fl_Model_63 hM.obj (by rfl) ?_
      refine wp_iload_n d_Model_drop_35 rfl rfl ?_
      refine wp_iconst (v := 0) d_Model_drop_36 (by decide) ?_
      refine wm_zst (i := 16) (n := 4) hM (by decide) (by decide) rfl rfl d_Model_drop_37 (by first | with_reducible exact ixc0 | with_reducible exact ixc1 | with_reducible exact ixc360 | with_reducible rfl | with_reducible exact ix4 _ _ | with_reducible exact ix21 _ | with_reducible exact ix2 _ | with_reducible exact ix4a _ | assumption) (by omega) (by rfl) (fun μ1 hM => ?_)
      refine wp_aload_n d_Model_drop_38 rfl rfl ?_
      refine wp_aload_n d_Model_drop_39 rfl rfl ?_
      refine wp_get d_Model_drop_40 fl_Model_72 hM.obj (by rfl) ?_
      refine wp_iload_n d_Model_drop_43 rfl rfl ?_
      refine wm_ald (i := 19) (n := 4) hM (by decide) (by decide) rfl rfl d_Model_drop_44 (by first | with_reducible exact ixc0 | with_reducible exact ixc1 | with_reducible exact ixc360 | with_reducible rfl | with_reducible exact ix4 _ _ | with_reducible exact ix21 _ | with_reducible exact ix2 _ | with_reducible exact ix4a _ | assumption) (by omega) ?_
      rw [show up2 τ 16 c 0 19 c = nI (mk (σ (40 + c))) from hR.gi c hc]
      refine wx_callV d_Model_drop_45 cv_Model_131 cd_Model_ones ⟨by decide, by decide⟩ (cm_ones G _ (ma 0) (σ (40 + c))) hM.obj rfl rfl (Nat.le_of_ble_eq_true rfl) (Nat.le_of_ble_eq_true rfl) (Nat.le_of_ble_eq_true rfl) (fun E1 μ1 hq => hq.elim) (fun v1 μ1 hq => ?_)
      obtain ⟨rfl, rfl⟩ := hq
      exact wp_iret d_Model_drop_48 rfl (by decide) (by decide) ⟨_, _, rfl, hM, hR.opn hc (Or.inl rfl), h00, fun _ => rfl⟩
    · rw [hop] at c26
      rw [if_pos c26]
      refine wp_iconst (v := (-1)) d_Model_drop_29 (by decide) ?_
      exact wp_iret d_Model_drop_30 rfl (by decide) (by decide) ⟨_, _, rfl, hM, hR, h00, fun _ => rfl⟩
  · rw [S_drop, ha, if_pos h]
    dsimp only
    refine wp_if_eq (tgt := 20) d_Model_drop_11 (by decide) (fun z9 => absurd z9 (by decide)) (fun _ => ?_)
    refine wp_aload_n d_Model_drop_14 rfl rfl ?_
    refine wp_iconst (v := 1) d_Model_drop_15 (by decide) ?_
    refine wx_callV d_Model_drop_16 cv_Model_114 cd_Model_fail ⟨by decide, by decide⟩ (cm_fail hM _) hM.obj rfl rfl (Nat.le_of_ble_eq_true rfl) (Nat.le_of_ble_eq_true rfl) (Nat.le_of_ble_eq_true rfl) (fun E1 μ9 hq => hq.elim) (fun v1 μ9 hq => ?_)
    obtain ⟨rfl, hM⟩ := hq
    exact wp_iret d_Model_drop_19 rfl (by decide) (by decide) ⟨_, 0, rfl, hM, hR.f0 _, rfl, fun z9 => absurd z9 (show ¬ 1 = 0 by decide)⟩
set_option maxHeartbeats 4000000 in
set_option maxRecDepth 10000 in
theorem cm_begin (hM : Mx G μ0 μ ma τ) (hR : RP τ σ δ) (x : Int32) : CT G M_Model_begin [.ref (ma 0), .int x] μ (PM G μ0 ma (S_begin x σ δ)) (fun _ _ => False) := by
  refine CT.of (by decide) rfl (Nat.le_of_ble_eq_true rfl) ?_
  refine wp_aload_n d_Model_begin_0 rfl rfl ?_
  refine wp_iconst (v := 0) d_Model_begin_1 (by decide) ?_
  refine wm_put0 hM d_Model_begin_2 fp_Model_82 (fun μ1 hM => ?_)
  refine wp_aload_n d_Model_begin_5 rfl rfl ?_
  refine wp_iload_n d_Model_begin_6 rfl rfl ?_
  refine wp_iconst (v := 4) d_Model_begin_7 (by decide) ?_
  have hR := hR.f0 0
  have h00 : up2 τ 0 0 0 0 0 = 0 := rfl
  generalize up2 τ 0 0 0 = τ at hM hR h00
  refine wx_callV d_Model_begin_8 cv_Model_111 cd_Model_out ⟨by decide, by decide⟩ (cm_out G _ (ma 0) x 4) hM.obj rfl rfl (Nat.le_of_ble_eq_true rfl) (Nat.le_of_ble_eq_true rfl) (Nat.le_of_ble_eq_true rfl) (fun E1 μ1 hq => hq.elim) (fun v1 μ1 hq => ?_)
  obtain ⟨rfl, rfl⟩ := hq
  rcases ar_c (x := x) (y := 4) (n := 4) rfl (by decide) with ⟨c, hc, rfl, ha, h⟩ | ⟨ha, h⟩
  · rw [S_begin, ha, if_neg h]
    dsimp only
    refine wp_if_eq (tgt := 20) d_Model_begin_11 (by decide) (fun _ => ?_) (fun z9 => absurd z9 (by decide))
    have hop := hR.op c hc
    refine wp_aload_n d_Model_begin_20 rfl rfl ?_
    refine wp_get d_Model_begin_21 fl_Model_63 hM.obj (by rfl) ?_
    refine wp_iload_n d_Model_begin_24 rfl rfl ?_
    refine wm_zld (i := 16) (n := 4) hM (by decide) (by decide) rfl rfl d_Model_begin_25 (by first | with_reducible exact ixc0 | with_reducible exact ixc1 | with_reducible exact ixc360 | with_reducible rfl | with_reducible exact ix4 _ _ | with_reducible exact ix21 _ | with_reducible exact ix2 _ | with_reducible exact ix4a _ | assumption) (by omega) ?_
    refine wp_if_eq (tgt := 35) d_Model_begin_26 (by decide) (fun c26 => ?_) (fun c26 => ?_)
    · rw [hop] at c26
      rw [if_pos c26]
      refine wp_aload_n d_Model_begin_35 rfl rfl ?_
      refine wp_get d_Model_begin_36 fl_Model_63 hM.obj (by rfl) ?_
      refine wp_iload_n d_Model_begin_39 rfl rfl ?_
      refine wp_iconst (v := 1) d_Model_begin_40 (by decide) ?_
      refine wm_zst (i := 16) (n := 4) hM (by decide) (by decide) rfl rfl d_Model_begin_41 (by first | with_reducible exact ixc0 | with_reducible exact ixc1 | with_reducible exact ixc360 | with_reducible rfl | with_reducible exact ix4 _ _ | with_reducible exact ix21 _ | with_reducible exact ix2 _ | with_reducible exact ix4a _ | assumption) (by omega) (by rfl) (fun μ1 hM => ?_)
      refine wp_aload_n d_Model_begin_42 rfl rfl ?_
      refine wp_get d_Model_begin_43 fl_Model_66 hM.obj (by rfl) ?_
      refine wp_iload_n d_Model_begin_46 rfl rfl ?_
      refine wp_iconst (v := 0) d_Model_begin_47 (by decide) ?_
      refine wm_ast (i := 17) (n := 4) hM (by decide) (by decide) rfl rfl d_Model_begin_48 (by first | with_reducible exact ixc0 | with_reducible exact ixc1 | with_reducible exact ixc360 | with_reducible rfl | with_reducible exact ix4 _ _ | with_reducible exact ix21 _ | with_reducible exact ix2 _ | with_reducible exact ix4a _ | assumption) (by omega) (fun μ1 hM => ?_)
      refine wp_aload_n d_Model_begin_49 rfl rfl ?_
      refine wp_get d_Model_begin_50 fl_Model_72 hM.obj (by rfl) ?_
      refine wp_iload_n d_Model_begin_53 rfl rfl ?_
      refine wp_iconst (v := 0) d_Model_begin_54 (by decide) ?_
      refine wm_ast (i := 19) (n := 4) hM (by decide) (by decide) rfl rfl d_Model_begin_55 (by first | with_reducible exact ixc0 | with_reducible exact ixc1 | with_reducible exact ixc360 | with_reducible rfl | with_reducible exact ix4 _ _ | with_reducible exact ix21 _ | with_reducible exact ix2 _ | with_reducible exact ix4a _ | assumption) (by omega) (fun μ1 hM => ?_)
      refine wp_aload_n d_Model_begin_56 rfl rfl ?_
      refine wp_get d_Model_begin_57 fl_Model_54 hM.obj (by rfl) ?_
      refine wp_iload_n d_Model_begin_60 rfl rfl ?_
      refine wm_ald (i := 13) (n := 4) hM (by decide) (by decide) rfl rfl d_Model_begin_61 (by first | with_reducible exact ixc0 | with_reducible exact ixc1 | with_reducible exact ixc360 | with_reducible rfl | with_reducible exact ix4 _ _ | with_reducible exact ix21 _ | with_reducible exact ix2 _ | with_reducible exact ix4a _ | assumption) (by omega) ?_
      exact wp_iret d_Model_begin_62 rfl (by decide) (by decide) ⟨_, _, rfl, hM, (hR.opn hc (Or.inr rfl)).clear hc, h00, fun _ => hR.po c hc⟩
    · rw [hop] at c26
      rw [if_neg c26]
      refine wp_aload_n d_Model_begin_29 rfl rfl ?_
      refine wp_iconst (v := 2) d_Model_begin_30 (by decide) ?_
      refine wx_callV d_Model_begin_31 cv_Model_114 cd_Model_fail ⟨by decide, by decide⟩ (cm_fail hM _) hM.obj rfl rfl (Nat.le_of_ble_eq_true rfl) (Nat.le_of_ble_eq_true rfl) (Nat.le_of_ble_eq_true rfl) (fun E1 μ9 hq => hq.elim) (fun v1 μ9 hq => ?_)
      obtain ⟨rfl, hM⟩ := hq
      exact wp_iret d_Model_begin_34 rfl (by decide) (by decide) ⟨_, 0, rfl, hM, hR.f0 _, rfl, fun z9 => absurd z9 (show ¬ 2 = 0 by decide)⟩
  · rw [S_begin, ha, if_pos h]
    dsimp only
    refine wp_if_eq (tgt := 20) d_Model_begin_11 (by decide) (fun z9 => absurd z9 (by decide)) (fun _ => ?_)
    refine wp_aload_n d_Model_begin_14 rfl rfl ?_
    refine wp_iconst (v := 1) d_Model_begin_15 (by decide) ?_
    refine wx_callV d_Model_begin_16 cv_Model_114 cd_Model_fail ⟨by decide, by decide⟩ (cm_fail hM _) hM.obj rfl rfl (Nat.le_of_ble_eq_true rfl) (Nat.le_of_ble_eq_true rfl) (Nat.le_of_ble_eq_true rfl) (fun E1 μ9 hq => hq.elim) (fun v1 μ9 hq => ?_)
    obtain ⟨rfl, hM⟩ := hq
    exact wp_iret d_Model_begin_19 rfl (by decide) (by decide) ⟨_, 0, rfl, hM, hR.f0 _, rfl, fun z9 => absurd z9 (show ¬ 1 = 0 by decide)⟩
set_option maxHeartbeats 4000000 in
set_option maxRecDepth 10000 in
theorem cm_put (hM : Mx G μ0 μ ma τ) (hR : RP τ σ δ) (x y w : Int32) : CT G M_Model_put [.ref (ma 0), .int x, .int y, .int w] μ (PM G μ0 ma (S_put x y w σ δ)) (fun _ _ => False) := by
  refine CT.of (by decide) rfl (Nat.le_of_ble_eq_true rfl) ?_
  refine wp_aload_n d_Model_put_0 rfl rfl ?_
  refine wp_iconst (v := 0) d_Model_put_1 (by decide) ?_
  refine wm_put0 hM d_Model_put_2 fp_Model_82 (fun μ1 hM => ?_)
  refine wp_aload_n d_Model_put_5 rfl rfl ?_
  refine wp_iload_n d_Model_put_6 rfl rfl ?_
  refine wp_iconst (v := 4) d_Model_put_7 (by decide) ?_
  have hR := hR.f0 0
  have h00 : up2 τ 0 0 0 0 0 = 0 := rfl
  generalize up2 τ 0 0 0 = τ at hM hR h00
  refine wx_callV d_Model_put_8 cv_Model_111 cd_Model_out ⟨by decide, by decide⟩ (cm_out G _ (ma 0) x 4) hM.obj rfl rfl (Nat.le_of_ble_eq_true rfl) (Nat.le_of_ble_eq_true rfl) (Nat.le_of_ble_eq_true rfl) (fun E1 μ1 hq => hq.elim) (fun v1 μ1 hq => ?_)
  obtain ⟨rfl, rfl⟩ := hq
  rcases ar_c (x := x) (y := 4) (n := 4) rfl (by decide) with ⟨c, hc, rfl, ha, h⟩ | ⟨ha, h⟩
  · rw [if_neg h]
    refine wp_if_ne (tgt := 23) d_Model_put_11 (by decide) (fun z9 => absurd z9 (by decide)) (fun _ => ?_)
    refine wp_aload_n d_Model_put_14 rfl rfl ?_
    refine wp_iload_n d_Model_put_15 rfl rfl ?_
    refine wp_iconst (v := 4) d_Model_put_16 (by decide) ?_
    refine wx_callV d_Model_put_17 cv_Model_111 cd_Model_out ⟨by decide, by decide⟩ (cm_out G _ (ma 0) y 4) hM.obj rfl rfl (Nat.le_of_ble_eq_true rfl) (Nat.le_of_ble_eq_true rfl) (Nat.le_of_ble_eq_true rfl) (fun E1 μ1 hq => hq.elim) (fun v1 μ1 hq => ?_)
    obtain ⟨rfl, rfl⟩ := hq
    rcases ar_c (x := y) (y := 4) (n := 4) rfl (by decide) with ⟨k, hk, rfl, hb, h⟩ | ⟨hb, h⟩
    · rw [S_put, ha, hb, if_neg h]
      dsimp only
      refine wp_if_eq (tgt := 29) d_Model_put_20 (by decide) (fun _ => ?_) (fun z9 => absurd z9 (by decide))
      have hop := hR.op c hc
      refine wp_aload_n d_Model_put_29 rfl rfl ?_
      refine wp_get d_Model_put_30 fl_Model_63 hM.obj (by rfl) ?_
      refine wp_iload_n d_Model_put_33 rfl rfl ?_
      refine wm_zld (i := 16) (n := 4) hM (by decide) (by decide) rfl rfl d_Model_put_34 (by first | with_reducible exact ixc0 | with_reducible exact ixc1 | with_reducible exact ixc360 | with_reducible rfl | with_reducible exact ix4 _ _ | with_reducible exact ix21 _ | with_reducible exact ix2 _ | with_reducible exact ix4a _ | assumption) (by omega) ?_
      refine wp_if_ne (tgt := 44) d_Model_put_35 (by decide) (fun c35 => ?_) (fun c35 => ?_)
      · rw [hop] at c35
        rw [if_neg c35]
        have e : τ 19 c ||| ((1 : Int32) <<< (nI k &&& 31)) = nI (mk (va_up (σ (40 + c)) k 1)) := by rw [hR.gi c hc, mk_o _ hk]
        refine wp_aload_n d_Model_put_44 rfl rfl ?_
        refine wp_get d_Model_put_45 fl_Model_72 hM.obj (by rfl) ?_
        refine wp_iload_n d_Model_put_48 rfl rfl ?_
        refine wp_dup2_11 d_Model_put_49 rfl rfl ?_
        refine wm_ald (i := 19) (n := 4) hM (by decide) (by decide) rfl rfl d_Model_put_50 (by first | with_reducible exact ixc0 | with_reducible exact ixc1 | with_reducible exact ixc360 | with_reducible rfl | with_reducible exact ix4 _ _ | with_reducible exact ix21 _ | with_reducible exact ix2 _ | with_reducible exact ix4a _ | assumption) (by omega) ?_
        refine wp_iconst (v := 1) d_Model_put_51 (by decide) ?_
        refine wp_iload_n d_Model_put_52 rfl rfl ?_
        refine wp_ishl d_Model_put_53 ?_
        refine wp_ior d_Model_put_54 ?_
        refine wm_ast (i := 19) (n := 4) hM (by decide) (by decide) rfl rfl d_Model_put_55 (by first | with_reducible exact ixc0 | with_reducible exact ixc1 | with_reducible exact ixc360 | with_reducible rfl | with_reducible exact ix4 _ _ | with_reducible exact ix21 _ | with_reducible exact ix2 _ | with_reducible exact ix4a _ | assumption) (by omega) (fun μ1 hM => ?_)
        refine wp_aload_n d_Model_put_56 rfl rfl ?_
        refine wp_get d_Model_put_57 fl_Model_75 hM.obj (by rfl) ?_
        refine wp_iconst (v := 4) d_Model_put_60 (by decide) ?_
        refine wp_iload_n d_Model_put_61 rfl rfl ?_
        refine wp_imul d_Model_put_62 ?_
        refine wp_iload_n d_Model_put_63 rfl rfl ?_
        refine wp_iadd d_Model_put_64 ?_
        refine wp_iload_n d_Model_put_65 rfl rfl ?_
        refine wm_ast (i := 20) (n := 16) hM (by decide) (by decide) rfl rfl d_Model_put_66 (by first | with_reducible exact ixc0 | with_reducible exact ixc1 | with_reducible exact ixc360 | with_reducible rfl | with_reducible exact ix4 _ _ | with_reducible exact ix21 _ | with_reducible exact ix2 _ | with_reducible exact ix4a _ | assumption) (by omega) (fun μ1 hM => ?_)
        rw [e] at hM
        refine wp_aload_n d_Model_put_67 rfl rfl ?_
        refine wp_aload_n d_Model_put_68 rfl rfl ?_
        refine wp_get d_Model_put_69 fl_Model_72 hM.obj (by rfl) ?_
        refine wp_iload_n d_Model_put_72 rfl rfl ?_
        refine wm_ald (i := 19) (n := 4) hM (by decide) (by decide) rfl rfl d_Model_put_73 (by first | with_reducible exact ixc0 | with_reducible exact ixc1 | with_reducible exact ixc360 | with_reducible rfl | with_reducible exact ix4 _ _ | with_reducible exact ix21 _ | with_reducible exact ix2 _ | with_reducible exact ix4a _ | assumption) (by omega) ?_
        rw [show up2 (up2 τ 19 c (nI (mk (va_up (σ (40 + c)) k 1)))) 20 (4 * c + k) w 19 c = nI (mk (va_up (σ (40 + c)) k 1)) from va_up_self _ _ _]
        refine wx_callV d_Model_put_74 cv_Model_131 cd_Model_ones ⟨by decide, by decide⟩ (cm_ones G _ (ma 0) (va_up (σ (40 + c)) k 1)) hM.obj rfl rfl (Nat.le_of_ble_eq_true rfl) (Nat.le_of_ble_eq_true rfl) (Nat.le_of_ble_eq_true rfl) (fun E1 μ1 hq => hq.elim) (fun v1 μ1 hq => ?_)
        obtain ⟨rfl, rfl⟩ := hq
        exact wp_iret d_Model_put_77 rfl (by decide) (by decide) ⟨_, _, rfl, hM, hR.put hc hk w, h00, fun _ => rfl⟩
      · rw [hop] at c35
        rw [if_pos c35]
        refine wp_aload_n d_Model_put_38 rfl rfl ?_
        refine wp_iconst (v := 2) d_Model_put_39 (by decide) ?_
        refine wx_callV d_Model_put_40 cv_Model_114 cd_Model_fail ⟨by decide, by decide⟩ (cm_fail hM _) hM.obj rfl rfl (Nat.le_of_ble_eq_true rfl) (Nat.le_of_ble_eq_true rfl) (Nat.le_of_ble_eq_true rfl) (fun E1 μ9 hq => hq.elim) (fun v1 μ9 hq => ?_)
        obtain ⟨rfl, hM⟩ := hq
        exact wp_iret d_Model_put_43 rfl (by decide) (by decide) ⟨_, 0, rfl, hM, hR.f0 _, rfl, fun z9 => absurd z9 (show ¬ 2 = 0 by decide)⟩
    · rw [S_put, ha, hb, if_pos h]
      dsimp only
      refine wp_if_eq (tgt := 29) d_Model_put_20 (by decide) (fun z9 => absurd z9 (by decide)) (fun _ => ?_)
      refine wp_aload_n d_Model_put_23 rfl rfl ?_
      refine wp_iconst (v := 1) d_Model_put_24 (by decide) ?_
      refine wx_callV d_Model_put_25 cv_Model_114 cd_Model_fail ⟨by decide, by decide⟩ (cm_fail hM _) hM.obj rfl rfl (Nat.le_of_ble_eq_true rfl) (Nat.le_of_ble_eq_true rfl) (Nat.le_of_ble_eq_true rfl) (fun E1 μ9 hq => hq.elim) (fun v1 μ9 hq => ?_)
      obtain ⟨rfl, hM⟩ := hq
      exact wp_iret d_Model_put_28 rfl (by decide) (by decide) ⟨_, 0, rfl, hM, hR.f0 _, rfl, fun z9 => absurd z9 (show ¬ 1 = 0 by decide)⟩
  · rw [S_put, ha, if_pos h]
    dsimp only
    refine wp_if_ne (tgt := 23) d_Model_put_11 (by decide) (fun _ => ?_) (fun z9 => absurd z9 (by decide))
    refine wp_aload_n d_Model_put_23 rfl rfl ?_
    refine wp_iconst (v := 1) d_Model_put_24 (by decide) ?_
    refine wx_callV d_Model_put_25 cv_Model_114 cd_Model_fail ⟨by decide, by decide⟩ (cm_fail hM _) hM.obj rfl rfl (Nat.le_of_ble_eq_true rfl) (Nat.le_of_ble_eq_true rfl) (Nat.le_of_ble_eq_true rfl) (fun E1 μ9 hq => hq.elim) (fun v1 μ9 hq => ?_)
    obtain ⟨rfl, hM⟩ := hq
    exact wp_iret d_Model_put_28 rfl (by decide) (by decide) ⟨_, 0, rfl, hM, hR.f0 _, rfl, fun z9 => absurd z9 (show ¬ 1 = 0 by decide)⟩
set_option maxHeartbeats 4000000 in
set_option maxRecDepth 10000 in
theorem cm_see (hM : Mx G μ0 μ ma τ) (hR : RP τ σ δ) (x y : Int32) : CT G M_Model_see [.ref (ma 0), .int x, .int y] μ (PM G μ0 ma (S_see x y σ δ)) (fun _ _ => False) := by
  refine CT.of (by decide) rfl (Nat.le_of_ble_eq_true rfl) ?_
  refine wp_aload_n d_Model_see_0 rfl rfl ?_
  refine wp_iconst (v := 0) d_Model_see_1 (by decide) ?_
  refine wm_put0 hM d_Model_see_2 fp_Model_82 (fun μ1 hM => ?_)
  refine wp_aload_n d_Model_see_5 rfl rfl ?_
  refine wp_iload_n d_Model_see_6 rfl rfl ?_
  refine wp_iconst (v := 4) d_Model_see_7 (by decide) ?_
  have hR := hR.f0 0
  have h00 : up2 τ 0 0 0 0 0 = 0 := rfl
  generalize up2 τ 0 0 0 = τ at hM hR h00
  refine wx_callV d_Model_see_8 cv_Model_111 cd_Model_out ⟨by decide, by decide⟩ (cm_out G _ (ma 0) x 4) hM.obj rfl rfl (Nat.le_of_ble_eq_true rfl) (Nat.le_of_ble_eq_true rfl) (Nat.le_of_ble_eq_true rfl) (fun E1 μ1 hq => hq.elim) (fun v1 μ1 hq => ?_)
  obtain ⟨rfl, rfl⟩ := hq
  rcases ar_c (x := x) (y := 4) (n := 4) rfl (by decide) with ⟨c, hc, rfl, ha, h⟩ | ⟨ha, h⟩
  · rw [if_neg h]
    refine wp_if_ne (tgt := 23) d_Model_see_11 (by decide) (fun z9 => absurd z9 (by decide)) (fun _ => ?_)
    refine wp_aload_n d_Model_see_14 rfl rfl ?_
    refine wp_iload_n d_Model_see_15 rfl rfl ?_
    refine wp_iconst (v := 4) d_Model_see_16 (by decide) ?_
    refine wx_callV d_Model_see_17 cv_Model_111 cd_Model_out ⟨by decide, by decide⟩ (cm_out G _ (ma 0) y 4) hM.obj rfl rfl (Nat.le_of_ble_eq_true rfl) (Nat.le_of_ble_eq_true rfl) (Nat.le_of_ble_eq_true rfl) (fun E1 μ1 hq => hq.elim) (fun v1 μ1 hq => ?_)
    obtain ⟨rfl, rfl⟩ := hq
    rcases ar_c (x := y) (y := 4) (n := 4) rfl (by decide) with ⟨k, hk, rfl, hb, h⟩ | ⟨hb, h⟩
    · rw [S_see, ha, hb, if_neg h]
      dsimp only
      refine wp_if_eq (tgt := 29) d_Model_see_20 (by decide) (fun _ => ?_) (fun z9 => absurd z9 (by decide))
      have hop := hR.op c hc
      have hgi := hR.gi c hc
      have hse := hR.se c hc
      refine wp_aload_n d_Model_see_29 rfl rfl ?_
      refine wp_get d_Model_see_30 fl_Model_63 hM.obj (by rfl) ?_
      refine wp_iload_n d_Model_see_33 rfl rfl ?_
      refine wm_zld (i := 16) (n := 4) hM (by decide) (by decide) rfl rfl d_Model_see_34 (by first | with_reducible exact ixc0 | with_reducible exact ixc1 | with_reducible exact ixc360 | with_reducible rfl | with_reducible exact ix4 _ _ | with_reducible exact ix21 _ | with_reducible exact ix2 _ | with_reducible exact ix4a _ | assumption) (by omega) ?_
      refine wp_if_ne (tgt := 44) d_Model_see_35 (by decide) (fun c35 => ?_) (fun c35 => ?_)
      · rw [hop] at c35
        rw [if_neg c35]
        refine wp_iconst (v := 4) d_Model_see_44 (by decide) ?_
        refine wp_iload_n d_Model_see_45 rfl rfl ?_
        refine wp_imul d_Model_see_46 ?_
        refine wp_iload_n d_Model_see_47 rfl rfl ?_
        refine wp_iadd d_Model_see_48 ?_
        refine wp_istore_n d_Model_see_49 rfl (by decide) ?_
        refine wp_aload_n d_Model_see_50 rfl rfl ?_
        refine wp_get d_Model_see_51 fl_Model_72 hM.obj (by rfl) ?_
        refine wp_iload_n d_Model_see_54 rfl rfl ?_
        refine wm_ald (i := 19) (n := 4) hM (by decide) (by decide) rfl rfl d_Model_see_55 (by first | with_reducible exact ixc0 | with_reducible exact ixc1 | with_reducible exact ixc360 | with_reducible rfl | with_reducible exact ix4 _ _ | with_reducible exact ix21 _ | with_reducible exact ix2 _ | with_reducible exact ix4a _ | assumption) (by omega) ?_
        refine wp_iload_n d_Model_see_56 rfl rfl ?_
        refine wp_ishr d_Model_see_57 ?_
        refine wp_iconst (v := 1) d_Model_see_58 (by decide) ?_
        refine wp_iand d_Model_see_59 ?_
        refine wp_if_eq (tgt := 70) d_Model_see_60 (by decide) (fun c60 => ?_) (fun c60 => ?_)
        · rw [hgi, mk_b _ hk] at c60
          rw [if_pos c60]
          refine wp_aload_n d_Model_see_70 rfl rfl ?_
          refine wp_get d_Model_see_71 fl_Model_66 hM.obj (by rfl) ?_
          refine wp_iload_n d_Model_see_74 rfl rfl ?_
          refine wm_ald (i := 17) (n := 4) hM (by decide) (by decide) rfl rfl d_Model_see_75 (by first | with_reducible exact ixc0 | with_reducible exact ixc1 | with_reducible exact ixc360 | with_reducible rfl | with_reducible exact ix4 _ _ | with_reducible exact ix21 _ | with_reducible exact ix2 _ | with_reducible exact ix4a _ | assumption) (by omega) ?_
          refine wp_iload_n d_Model_see_76 rfl rfl ?_
          refine wp_ishr d_Model_see_77 ?_
          refine wp_iconst (v := 1) d_Model_see_78 (by decide) ?_
          refine wp_iand d_Model_see_79 ?_
          refine wp_if_ne (tgt := 95) d_Model_see_80 (by decide) (fun c80 => ?_) (fun c80 => ?_)
          · rw [hse, mk_b _ hk] at c80
            rw [if_neg c80]
            have e : τ 17 c ||| ((1 : Int32) <<< (nI k &&& 31)) = τ 17 c := by
              rw [hse, mk_o _ hk, mk_congr (g := σ (32 + c)) (fun j hj => ?_)]
              by_cases ej : j = k
              · rw [ej, va_up_self]; exact ((hR.p7 c k hc hk).1.resolve_left c80).symm
              · rw [va_up_ne _ _ ej]
            refine wp_aload_n d_Model_see_95 rfl rfl ?_
            refine wp_get d_Model_see_96 fl_Model_66 hM.obj (by rfl) ?_
            refine wp_iload_n d_Model_see_99 rfl rfl ?_
            refine wp_dup2_11 d_Model_see_100 rfl rfl ?_
            refine wm_ald (i := 17) (n := 4) hM (by decide) (by decide) rfl rfl d_Model_see_101 (by first | with_reducible exact ixc0 | with_reducible exact ixc1 | with_reducible exact ixc360 | with_reducible rfl | with_reducible exact ix4 _ _ | with_reducible exact ix21 _ | with_reducible exact ix2 _ | with_reducible exact ix4a _ | assumption) (by omega) ?_
            refine wp_iconst (v := 1) d_Model_see_102 (by decide) ?_
            refine wp_iload_n d_Model_see_103 rfl rfl ?_
            refine wp_ishl d_Model_see_104 ?_
            refine wp_ior d_Model_see_105 ?_
            refine wm_ast (i := 17) (n := 4) hM (by decide) (by decide) rfl rfl d_Model_see_106 (by first | with_reducible exact ixc0 | with_reducible exact ixc1 | with_reducible exact ixc360 | with_reducible rfl | with_reducible exact ix4 _ _ | with_reducible exact ix21 _ | with_reducible exact ix2 _ | with_reducible exact ix4a _ | assumption) (by omega) (fun μ1 hM => ?_)
            rw [e, up2_id] at hM
            refine wp_aload_n d_Model_see_107 rfl rfl ?_
            refine wp_get d_Model_see_108 fl_Model_57 hM.obj (by rfl) ?_
            refine wp_iload_n d_Model_see_111 rfl rfl ?_
            refine wm_ald (i := 14) (n := 16) hM (by decide) (by decide) rfl rfl d_Model_see_112 (by first | with_reducible exact ixc0 | with_reducible exact ixc1 | with_reducible exact ixc360 | with_reducible rfl | with_reducible exact ix4 _ _ | with_reducible exact ix21 _ | with_reducible exact ix2 _ | with_reducible exact ix4a _ | assumption) (by omega) ?_
            exact wp_iret d_Model_see_113 rfl (by decide) (by decide) ⟨_, _, rfl, hM, hR, h00, fun _ => hR.nw c k hc hk⟩
          · rw [hse, mk_b _ hk] at c80
            rw [if_pos c80]
            have e : up2 τ 18 (4 * c + k) (τ 15 (4 * c + k)) 17 c ||| ((1 : Int32) <<< (nI k &&& 31)) = nI (mk (va_up (σ (32 + c)) k 1)) := by
              rw [show up2 τ 18 (4 * c + k) (τ 15 (4 * c + k)) 17 c = nI (mk (σ (32 + c))) from hse, mk_o _ hk]
            refine wp_aload_n d_Model_see_83 rfl rfl ?_
            refine wp_get d_Model_see_84 fl_Model_69 hM.obj (by rfl) ?_
            refine wp_iload_n d_Model_see_87 rfl rfl ?_
            refine wp_aload_n d_Model_see_88 rfl rfl ?_
            refine wp_get d_Model_see_89 fl_Model_60 hM.obj (by rfl) ?_
            refine wp_iload_n d_Model_see_92 rfl rfl ?_
            refine wm_ald (i := 15) (n := 16) hM (by decide) (by decide) rfl rfl d_Model_see_93 (by first | with_reducible exact ixc0 | with_reducible exact ixc1 | with_reducible exact ixc360 | with_reducible rfl | with_reducible exact ix4 _ _ | with_reducible exact ix21 _ | with_reducible exact ix2 _ | with_reducible exact ix4a _ | assumption) (by omega) ?_
            refine wm_ast (i := 18) (n := 16) hM (by decide) (by decide) rfl rfl d_Model_see_94 (by first | with_reducible exact ixc0 | with_reducible exact ixc1 | with_reducible exact ixc360 | with_reducible rfl | with_reducible exact ix4 _ _ | with_reducible exact ix21 _ | with_reducible exact ix2 _ | with_reducible exact ix4a _ | assumption) (by omega) (fun μ1 hM => ?_)
            refine wp_aload_n d_Model_see_95 rfl rfl ?_
            refine wp_get d_Model_see_96 fl_Model_66 hM.obj (by rfl) ?_
            refine wp_iload_n d_Model_see_99 rfl rfl ?_
            refine wp_dup2_11 d_Model_see_100 rfl rfl ?_
            refine wm_ald (i := 17) (n := 4) hM (by decide) (by decide) rfl rfl d_Model_see_101 (by first | with_reducible exact ixc0 | with_reducible exact ixc1 | with_reducible exact ixc360 | with_reducible rfl | with_reducible exact ix4 _ _ | with_reducible exact ix21 _ | with_reducible exact ix2 _ | with_reducible exact ix4a _ | assumption) (by omega) ?_
            refine wp_iconst (v := 1) d_Model_see_102 (by decide) ?_
            refine wp_iload_n d_Model_see_103 rfl rfl ?_
            refine wp_ishl d_Model_see_104 ?_
            refine wp_ior d_Model_see_105 ?_
            refine wm_ast (i := 17) (n := 4) hM (by decide) (by decide) rfl rfl d_Model_see_106 (by first | with_reducible exact ixc0 | with_reducible exact ixc1 | with_reducible exact ixc360 | with_reducible rfl | with_reducible exact ix4 _ _ | with_reducible exact ix21 _ | with_reducible exact ix2 _ | with_reducible exact ix4a _ | assumption) (by omega) (fun μ1 hM => ?_)
            rw [e] at hM
            refine wp_aload_n d_Model_see_107 rfl rfl ?_
            refine wp_get d_Model_see_108 fl_Model_57 hM.obj (by rfl) ?_
            refine wp_iload_n d_Model_see_111 rfl rfl ?_
            refine wm_ald (i := 14) (n := 16) hM (by decide) (by decide) rfl rfl d_Model_see_112 (by first | with_reducible exact ixc0 | with_reducible exact ixc1 | with_reducible exact ixc360 | with_reducible rfl | with_reducible exact ix4 _ _ | with_reducible exact ix21 _ | with_reducible exact ix2 _ | with_reducible exact ix4a _ | assumption) (by omega) ?_
            exact wp_iret d_Model_see_113 rfl (by decide) (by decide) ⟨_, _, rfl, hM, hR.see hc hk, h00, fun _ => hR.nw c k hc hk⟩
        · rw [hgi, mk_b _ hk] at c60
          rw [if_neg c60]
          refine wp_aload_n d_Model_see_63 rfl rfl ?_
          refine wp_get d_Model_see_64 fl_Model_75 hM.obj (by rfl) ?_
          refine wp_iload_n d_Model_see_67 rfl rfl ?_
          refine wm_ald (i := 20) (n := 16) hM (by decide) (by decide) rfl rfl d_Model_see_68 (by first | with_reducible exact ixc0 | with_reducible exact ixc1 | with_reducible exact ixc360 | with_reducible rfl | with_reducible exact ix4 _ _ | with_reducible exact ix21 _ | with_reducible exact ix2 _ | with_reducible exact ix4a _ | assumption) (by omega) ?_
          exact wp_iret d_Model_see_69 rfl (by decide) (by decide) ⟨_, _, rfl, hM, hR, h00, fun _ => hR.gv c k hc hk⟩
      · rw [hop] at c35
        rw [if_pos c35]
        refine wp_aload_n d_Model_see_38 rfl rfl ?_
        refine wp_iconst (v := 2) d_Model_see_39 (by decide) ?_
        refine wx_callV d_Model_see_40 cv_Model_114 cd_Model_fail ⟨by decide, by decide⟩ (cm_fail hM _) hM.obj rfl rfl (Nat.le_of_ble_eq_true rfl) (Nat.le_of_ble_eq_true rfl) (Nat.le_of_ble_eq_true rfl) (fun E1 μ9 hq => hq.elim) (fun v1 μ9 hq => ?_)
        obtain ⟨rfl, hM⟩ := hq
        exact wp_iret d_Model_see_43 rfl (by decide) (by decide) ⟨_, 0, rfl, hM, hR.f0 _, rfl, fun z9 => absurd z9 (show ¬ 2 = 0 by decide)⟩
    · rw [S_see, ha, hb, if_pos h]
      dsimp only
      refine wp_if_eq (tgt := 29) d_Model_see_20 (by decide) (fun z9 => absurd z9 (by decide)) (fun _ => ?_)
      refine wp_aload_n d_Model_see_23 rfl rfl ?_
      refine wp_iconst (v := 1) d_Model_see_24 (by decide) ?_
      refine wx_callV d_Model_see_25 cv_Model_114 cd_Model_fail ⟨by decide, by decide⟩ (cm_fail hM _) hM.obj rfl rfl (Nat.le_of_ble_eq_true rfl) (Nat.le_of_ble_eq_true rfl) (Nat.le_of_ble_eq_true rfl) (fun E1 μ9 hq => hq.elim) (fun v1 μ9 hq => ?_)
      obtain ⟨rfl, hM⟩ := hq
      exact wp_iret d_Model_see_28 rfl (by decide) (by decide) ⟨_, 0, rfl, hM, hR.f0 _, rfl, fun z9 => absurd z9 (show ¬ 1 = 0 by decide)⟩
  · rw [S_see, ha, if_pos h]
    dsimp only
    refine wp_if_ne (tgt := 23) d_Model_see_11 (by decide) (fun _ => ?_) (fun z9 => absurd z9 (by decide))
    refine wp_aload_n d_Model_see_23 rfl rfl ?_
    refine wp_iconst (v := 1) d_Model_see_24 (by decide) ?_
    refine wx_callV d_Model_see_25 cv_Model_114 cd_Model_fail ⟨by decide, by decide⟩ (cm_fail hM _) hM.obj rfl rfl (Nat.le_of_ble_eq_true rfl) (Nat.le_of_ble_eq_true rfl) (Nat.le_of_ble_eq_true rfl) (fun E1 μ9 hq => hq.elim) (fun v1 μ9 hq => ?_)
    obtain ⟨rfl, hM⟩ := hq
    exact wp_iret d_Model_see_28 rfl (by decide) (by decide) ⟨_, 0, rfl, hM, hR.f0 _, rfl, fun z9 => absurd z9 (show ¬ 1 = 0 by decide)⟩
set_option maxHeartbeats 4000000 in
set_option maxRecDepth 10000 in
theorem cm_client (hM : Mx G μ0 μ ma τ) (hR : RP τ σ δ) (x y : Int32) : CT G M_Model_client [.ref (ma 0), .int x, .int y] μ (PM G μ0 ma (S_client x y σ δ)) (fun _ _ => False) := by
  refine CT.of (by decide) rfl (Nat.le_of_ble_eq_true rfl) ?_
  refine wp_aload_n d_Model_client_0 rfl rfl ?_
  refine wp_iconst (v := 0) d_Model_client_1 (by decide) ?_
  refine wm_put0 hM d_Model_client_2 fp_Model_82 (fun μ1 hM => ?_)
  refine wp_aload_n d_Model_client_5 rfl rfl ?_
  refine wp_iload_n d_Model_client_6 rfl rfl ?_
  refine wp_iconst (v := 4) d_Model_client_7 (by decide) ?_
  have hR := hR.f0 0
  have h00 : up2 τ 0 0 0 0 0 = 0 := rfl
  generalize up2 τ 0 0 0 = τ at hM hR h00
  refine wx_callV d_Model_client_8 cv_Model_111 cd_Model_out ⟨by decide, by decide⟩ (cm_out G _ (ma 0) x 4) hM.obj rfl rfl (Nat.le_of_ble_eq_true rfl) (Nat.le_of_ble_eq_true rfl) (Nat.le_of_ble_eq_true rfl) (fun E1 μ1 hq => hq.elim) (fun v1 μ1 hq => ?_)
  obtain ⟨rfl, rfl⟩ := hq
  rcases ar_c (x := x) (y := 4) (n := 4) rfl (by decide) with ⟨c, hc, rfl, ha, h⟩ | ⟨ha, h⟩
  · rw [if_neg h]
    refine wp_if_ne (tgt := 24) d_Model_client_11 (by decide) (fun z9 => absurd z9 (by decide)) (fun _ => ?_)
    refine wp_aload_n d_Model_client_14 rfl rfl ?_
    refine wp_iload_n d_Model_client_15 rfl rfl ?_
    refine wp_bipush (v := 9) d_Model_client_16 (by decide) ?_
    refine wx_callV d_Model_client_18 cv_Model_111 cd_Model_out ⟨by decide, by decide⟩ (cm_out G _ (ma 0) y 9) hM.obj rfl rfl (Nat.le_of_ble_eq_true rfl) (Nat.le_of_ble_eq_true rfl) (Nat.le_of_ble_eq_true rfl) (fun E1 μ1 hq => hq.elim) (fun v1 μ1 hq => ?_)
    obtain ⟨rfl, rfl⟩ := hq
    rcases ar_c (x := y) (y := 9) (n := 9) rfl (by decide) with ⟨w, hw, rfl, hb, h⟩ | ⟨hb, h⟩
    · rw [S_client, ha, hb, if_neg h]
      dsimp only
      refine wp_if_eq (tgt := 30) d_Model_client_21 (by decide) (fun _ => ?_) (fun z9 => absurd z9 (by decide))
      have e2 : 2 ≤ w → w < 6 → (4 : Int32) * nI c + nI w - 2 = nI (4 * c + (w - 2)) := fun a b => by rw [ix4, show (2 : Int32) = nI 2 from rfl, pk_sub (by omega), show 4 * c + w - 2 = 4 * c + (w - 2) by omega]
      have e6 : 6 ≤ w → w < 8 → (2 : Int32) * nI c + nI w - 6 = nI (2 * c + (w - 6)) := fun a b => by rw [ix2, nI_add, show (6 : Int32) = nI 6 from rfl, pk_sub (by omega), show 2 * c + w - 6 = 2 * c + (w - 6) by omega]
      unfold ciS
      refine wp_iload_n d_Model_client_30 rfl rfl ?_
      refine wp_if_ne (tgt := 41) d_Model_client_31 (by decide) (fun c31 => ?_) (fun c31 => ?_)
      · have w0 : w ≠ 0 := fun z => c31 (by rw [z]; rfl)
        rw [if_neg w0]
        refine wp_iload_n d_Model_client_41 rfl rfl ?_
        refine wp_iconst (v := 1) d_Model_client_42 (by decide) ?_
        refine wp_icmp_ne (tgt := 53) d_Model_client_43 (by decide) (fun c43 => ?_) (fun c43 => ?_)
        · have w1 : w ≠ 1 := fun z => c43 (by rw [z]; rfl)
          rw [if_neg w1]
          refine wp_iload_n d_Model_client_53 rfl rfl ?_
          refine wp_bipush (v := 6) d_Model_client_54 (by decide) ?_
          refine wp_icmp_ge (tgt := 72) d_Model_client_56 (by decide) (fun c56 => ?_) (fun c56 => ?_)
          · have w6 : 6 ≤ w := (nI_leI (a := 6) (by omega) (by omega)).mp c56
            rw [if_neg (by omega)]
            refine wp_iload_n d_Model_client_72 rfl rfl ?_
            refine wp_bipush (v := 8) d_Model_client_73 (by decide) ?_
            refine wp_icmp_ge (tgt := 92) d_Model_client_75 (by decide) (fun c75 => ?_) (fun c75 => ?_)
            · have w8 : 8 ≤ w := (nI_leI (a := 8) (by omega) (by omega)).mp c75
              rw [if_neg (by omega)]
              have hop := hR.op c hc
              refine wp_aload_n d_Model_client_92 rfl rfl ?_
              refine wp_get d_Model_client_93 fl_Model_63 hM.obj (by rfl) ?_
              refine wp_iload_n d_Model_client_96 rfl rfl ?_
              refine wm_zld (i := 16) (n := 4) hM (by decide) (by decide) rfl rfl d_Model_client_97 (by first | with_reducible exact ixc0 | with_reducible exact ixc1 | with_reducible exact ixc360 | with_reducible rfl | with_reducible exact ix4 _ _ | with_reducible exact ix21 _ | with_reducible exact ix2 _ | with_reducible exact ix4a _ | assumption) (by omega) ?_
              refine wp_if_eq (tgt := 105) d_Model_client_98 (by decide) (fun c98 => ?_) (fun c98 => ?_)
              · rw [hop] at c98
                rw [if_pos c98]
                refine wp_iconst (v := 0) d_Model_client_105 (by decide) ?_
                exact wp_iret d_Model_client_106 rfl (by decide) (by decide) ⟨_, _, rfl, hM, hR, h00, fun _ => rfl⟩
              · rw [hop] at c98
                rw [if_neg c98]
                refine wp_iconst (v := 1) d_Model_client_101 (by decide) ?_
                refine wp_goto (tgt := 106) d_Model_client_102 (by decide) ?_
                exact wp_iret d_Model_client_106 rfl (by decide) (by decide) ⟨_, _, rfl, hM, hR, h00, fun _ => rfl⟩
            · have w8 : ¬ 8 ≤ w := fun z => c75 ((nI_leI (a := 8) (by omega) (by omega)).mpr z)
              rw [if_pos (by omega)]
              refine wp_aload_n d_Model_client_78 rfl rfl ?_
              refine wp_get d_Model_client_79 fl_Model_51 hM.obj (by rfl) ?_
              refine wp_iconst (v := 2) d_Model_client_82 (by decide) ?_
              refine wp_iload_n d_Model_client_83 rfl rfl ?_
              refine wp_imul d_Model_client_84 ?_
              refine wp_iload_n d_Model_client_85 rfl rfl ?_
              refine wp_iadd d_Model_client_86 ?_
              refine wp_bipush (v := 6) d_Model_client_87 (by decide) ?_
              refine wp_isub d_Model_client_89 ?_
              refine wm_ald (i := 12) (n := 8) hM (by decide) (by decide) rfl rfl d_Model_client_90 (by exact e6 (by omega) (by omega)) (by omega) ?_
              exact wp_iret d_Model_client_91 rfl (by decide) (by decide) ⟨_, _, rfl, hM, hR, h00, fun _ => hR.kr c (w - 6) hc (by omega)⟩
          · have w6 : ¬ 6 ≤ w := fun z => c56 ((nI_leI (a := 6) (by omega) (by omega)).mpr z)
            rw [if_pos (by omega)]
            refine wp_aload_n d_Model_client_59 rfl rfl ?_
            refine wp_get d_Model_client_60 fl_Model_60 hM.obj (by rfl) ?_
            refine wp_iconst (v := 4) d_Model_client_63 (by decide) ?_
            refine wp_iload_n d_Model_client_64 rfl rfl ?_
            refine wp_imul d_Model_client_65 ?_
            refine wp_iload_n d_Model_client_66 rfl rfl ?_
            refine wp_iadd d_Model_client_67 ?_
            refine wp_iconst (v := 2) d_Model_client_68 (by decide) ?_
            refine wp_isub d_Model_client_69 ?_
            refine wm_ald (i := 15) (n := 16) hM (by decide) (by decide) rfl rfl d_Model_client_70 (by exact e2 (by omega) (by omega)) (by omega) ?_
            exact wp_iret d_Model_client_71 rfl (by decide) (by decide) ⟨_, _, rfl, hM, hR, h00, fun _ => hR.ag c (w - 2) hc (by omega)⟩
        · obtain rfl : w = 1 := (nI_eq (b := 1) (by omega) (by omega)).mp c43
          refine wp_aload_n d_Model_client_46 rfl rfl ?_
          refine wp_get d_Model_client_47 fl_Model_54 hM.obj (by rfl) ?_
          refine wp_iload_n d_Model_client_50 rfl rfl ?_
          refine wm_ald (i := 13) (n := 4) hM (by decide) (by decide) rfl rfl d_Model_client_51 (by with_reducible rfl) (by omega) ?_
          exact wp_iret d_Model_client_52 rfl (by decide) (by decide) ⟨_, _, rfl, hM, hR, h00, fun _ => hR.po c hc⟩
      · obtain rfl : w = 0 := (nI_eq (b := 0) (by omega) (by omega)).mp c31
        refine wp_aload_n d_Model_client_34 rfl rfl ?_
        refine wp_get d_Model_client_35 fl_Model_48 hM.obj (by rfl) ?_
        refine wp_iload_n d_Model_client_38 rfl rfl ?_
        refine wm_ald (i := 11) (n := 4) hM (by decide) (by decide) rfl rfl d_Model_client_39 (by with_reducible rfl) (by omega) ?_
        exact wp_iret d_Model_client_40 rfl (by decide) (by decide) ⟨_, _, rfl, hM, hR, h00, fun _ => hR.kn c hc⟩
    · rw [S_client, ha, hb, if_pos h]
      dsimp only
      refine wp_if_eq (tgt := 30) d_Model_client_21 (by decide) (fun z9 => absurd z9 (by decide)) (fun _ => ?_)
      refine wp_aload_n d_Model_client_24 rfl rfl ?_
      refine wp_iconst (v := 1) d_Model_client_25 (by decide) ?_
      refine wx_callV d_Model_client_26 cv_Model_114 cd_Model_fail ⟨by decide, by decide⟩ (cm_fail hM _) hM.obj rfl rfl (Nat.le_of_ble_eq_true rfl) (Nat.le_of_ble_eq_true rfl) (Nat.le_of_ble_eq_true rfl) (fun E1 μ9 hq => hq.elim) (fun v1 μ9 hq => ?_)
      obtain ⟨rfl, hM⟩ := hq
      exact wp_iret d_Model_client_29 rfl (by decide) (by decide) ⟨_, 0, rfl, hM, hR.f0 _, rfl, fun z9 => absurd z9 (show ¬ 1 = 0 by decide)⟩
  · rw [S_client, ha, if_pos h]
    dsimp only
    refine wp_if_ne (tgt := 24) d_Model_client_11 (by decide) (fun _ => ?_) (fun z9 => absurd z9 (by decide))
    refine wp_aload_n d_Model_client_24 rfl rfl ?_
    refine wp_iconst (v := 1) d_Model_client_25 (by decide) ?_
    refine wx_callV d_Model_client_26 cv_Model_114 cd_Model_fail ⟨by decide, by decide⟩ (cm_fail hM _) hM.obj rfl rfl (Nat.le_of_ble_eq_true rfl) (Nat.le_of_ble_eq_true rfl) (Nat.le_of_ble_eq_true rfl) (fun E1 μ9 hq => hq.elim) (fun v1 μ9 hq => ?_)
    obtain ⟨rfl, hM⟩ := hq
    exact wp_iret d_Model_client_29 rfl (by decide) (by decide) ⟨_, 0, rfl, hM, hR.f0 _, rfl, fun z9 => absurd z9 (show ¬ 1 = 0 by decide)⟩
set_option maxHeartbeats 4000000 in
set_option maxRecDepth 10000 in
theorem cm_count (hM : Mx G μ0 μ ma τ) (hR : RP τ σ δ) (x : Int32) : CT G M_Model_count [.ref (ma 0), .int x] μ (PM G μ0 ma (S_count x σ δ)) (fun _ _ => False) := by
  refine CT.of (by decide) rfl (Nat.le_of_ble_eq_true rfl) ?_
  refine wp_aload_n d_Model_count_0 rfl rfl ?_
  refine wp_iconst (v := 0) d_Model_count_1 (by decide) ?_
  refine wm_put0 hM d_Model_count_2 fp_Model_82 (fun μ1 hM => ?_)
  refine wp_aload_n d_Model_count_5 rfl rfl ?_
  refine wp_iload_n d_Model_count_6 rfl rfl ?_
  refine wp_bipush (v := 10) d_Model_count_7 (by decide) ?_
  have hR := hR.f0 0
  have h00 : up2 τ 0 0 0 0 0 = 0 := rfl
  generalize up2 τ 0 0 0 = τ at hM hR h00
  refine wx_callV d_Model_count_9 cv_Model_111 cd_Model_out ⟨by decide, by decide⟩ (cm_out G _ (ma 0) x 10) hM.obj rfl rfl (Nat.le_of_ble_eq_true rfl) (Nat.le_of_ble_eq_true rfl) (Nat.le_of_ble_eq_true rfl) (fun E1 μ1 hq => hq.elim) (fun v1 μ1 hq => ?_)
  obtain ⟨rfl, rfl⟩ := hq
  rcases ar_c (x := x) (y := 10) (n := 10) rfl (by decide) with ⟨w, hw, rfl, ha, h⟩ | ⟨ha, h⟩
  · rw [S_count, ha, if_neg h]
    dsimp only
    refine wp_if_eq (tgt := 21) d_Model_count_12 (by decide) (fun _ => ?_) (fun z9 => absurd z9 (by decide))
    unfold cnS
    refine wp_iload_n d_Model_count_21 rfl rfl ?_
    refine wp_if_ne (tgt := 30) d_Model_count_22 (by decide) (fun c22 => ?_) (fun c22 => ?_)
    · have w0 : w ≠ 0 := fun z => c22 (by rw [z]; rfl)
      rw [if_neg w0]
      refine wp_iload_n d_Model_count_30 rfl rfl ?_
      refine wp_iconst (v := 1) d_Model_count_31 (by decide) ?_
      refine wp_icmp_ne (tgt := 40) d_Model_count_32 (by decide) (fun c32 => ?_) (fun c32 => ?_)
      · have w1 : w ≠ 1 := fun z => c32 (by rw [z]; rfl)
        rw [if_neg w1]
        refine wp_iload_n d_Model_count_40 rfl rfl ?_
        refine wp_iconst (v := 2) d_Model_count_41 (by decide) ?_
        refine wp_icmp_ne (tgt := 50) d_Model_count_42 (by decide) (fun c42 => ?_) (fun c42 => ?_)
        · have w2 : w ≠ 2 := fun z => c42 (by rw [z]; rfl)
          rw [if_neg w2]
          refine wp_iload_n d_Model_count_50 rfl rfl ?_
          refine wp_iconst (v := 3) d_Model_count_51 (by decide) ?_
          refine wp_icmp_ne (tgt := 70) d_Model_count_52 (by decide) (fun c52 => ?_) (fun c52 => ?_)
          · have w3 : w ≠ 3 := fun z => c52 (by rw [z]; rfl)
            rw [if_neg w3]
            have e4 : nI w - 4 = nI (w - 4) := by rw [show (4 : Int32) = nI 4 from rfl, pk_sub (by omega)]
            refine wp_aload_n d_Model_count_70 rfl rfl ?_
            refine wp_get d_Model_count_71 fl_Model_35 hM.obj (by rfl) ?_
            refine wp_iload_n d_Model_count_74 rfl rfl ?_
            refine wp_iconst (v := 4) d_Model_count_75 (by decide) ?_
            refine wp_isub d_Model_count_76 ?_
            refine wm_ald (i := 9) (n := 6) hM (by decide) (by decide) rfl rfl d_Model_count_77 (by exact e4) (by omega) ?_
            refine wp_iret d_Model_count_78 rfl (by decide) (by decide) ⟨_, _, rfl, hM, hR, h00, fun _ => ?_⟩
            have q := hR.sl (w - 4) (by omega)
            rw [show 4 + (w - 4) = w by omega] at q; exact q
          · obtain rfl : w = 3 := (nI_eq (b := 3) (by omega) (by omega)).mp c52
            have hls := hR.ls
            refine wp_aload_n d_Model_count_55 rfl rfl ?_
            refine wp_get d_Model_count_56 fl_Model_107 hM.obj (by rfl) ?_
            refine wp_if_eq (tgt := 66) d_Model_count_59 (by decide) (fun c59 => ?_) (fun c59 => ?_)
            · rw [hls] at c59
              refine wp_iconst (v := 0) d_Model_count_66 (by decide) ?_
              refine wp_goto (tgt := 78) d_Model_count_67 (by decide) ?_
              exact wp_iret d_Model_count_78 rfl (by decide) (by decide) ⟨_, _, rfl, hM, hR, h00, fun _ => by rw [if_pos rfl, if_pos c59]⟩
            · rw [hls] at c59
              refine wp_iconst (v := 1) d_Model_count_62 (by decide) ?_
              refine wp_goto (tgt := 78) d_Model_count_63 (by decide) ?_
              exact wp_iret d_Model_count_78 rfl (by decide) (by decide) ⟨_, _, rfl, hM, hR, h00, fun _ => by rw [if_pos rfl, if_neg c59]⟩
        · obtain rfl : w = 2 := (nI_eq (b := 2) (by omega) (by omega)).mp c42
          refine wp_aload_n d_Model_count_45 rfl rfl ?_
          refine wp_get d_Model_count_46 fl_Model_121 hM.obj (by rfl) ?_
          exact wp_iret d_Model_count_49 rfl (by decide) (by decide) ⟨_, _, rfl, hM, hR, h00, fun _ => hR.nx⟩
      · obtain rfl : w = 1 := (nI_eq (b := 1) (by omega) (by omega)).mp c32
        refine wp_aload_n d_Model_count_35 rfl rfl ?_
        refine wp_get d_Model_count_36 fl_Model_45 hM.obj (by rfl) ?_
        exact wp_iret d_Model_count_39 rfl (by decide) (by decide) ⟨_, _, rfl, hM, hR, h00, fun _ => hR.sq⟩
    · obtain rfl : w = 0 := (nI_eq (b := 0) (by omega) (by omega)).mp c22
      refine wp_aload_n d_Model_count_25 rfl rfl ?_
      refine wp_get d_Model_count_26 fl_Model_38 hM.obj (by rfl) ?_
      exact wp_iret d_Model_count_29 rfl (by decide) (by decide) ⟨_, _, rfl, hM, hR, h00, fun _ => hR.ep⟩
  · rw [S_count, ha, if_pos h]
    dsimp only
    refine wp_if_eq (tgt := 21) d_Model_count_12 (by decide) (fun z9 => absurd z9 (by decide)) (fun _ => ?_)
    refine wp_aload_n d_Model_count_15 rfl rfl ?_
    refine wp_iconst (v := 1) d_Model_count_16 (by decide) ?_
    refine wx_callV d_Model_count_17 cv_Model_114 cd_Model_fail ⟨by decide, by decide⟩ (cm_fail hM _) hM.obj rfl rfl (Nat.le_of_ble_eq_true rfl) (Nat.le_of_ble_eq_true rfl) (Nat.le_of_ble_eq_true rfl) (fun E1 μ9 hq => hq.elim) (fun v1 μ9 hq => ?_)
    obtain ⟨rfl, hM⟩ := hq
    exact wp_iret d_Model_count_20 rfl (by decide) (by decide) ⟨_, 0, rfl, hM, hR.f0 _, rfl, fun z9 => absurd z9 (show ¬ 1 = 0 by decide)⟩
end MPub
