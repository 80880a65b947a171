/-! THE REFERENCE'S PUBLIC METHODS, second -/
section MPub2
variable {G : mt_G} {μ0 μ : mu_M} {ma : Nat → Nat} {τ σ : sg} {δ : dg}
theorem ifz {b : Bool} (h : ¬ (if b = true then (1 : Int32) else 0) = 0) : b = true := by
  cases b
  · exact absurd rfl h
  · rfl
theorem ifz' {b : Bool} (h : (if b = true then (1 : Int32) else 0) = 0) : ¬ b = true := fun z => by rw [if_pos z] at h; exact absurd h (by decide)
set_option maxHeartbeats 4000000 in
set_option maxRecDepth 10000 in
theorem cm_read (hM : Mx G μ0 μ ma τ) (hR : RP τ σ δ) (x y : Int32) : CT G M_Model_read [.ref (ma 0), .int x, .int y] μ (PM G μ0 ma (S_read x y σ δ)) (fun _ _ => False) := by
  refine CT.of (by decide) rfl (Nat.le_of_ble_eq_true rfl) ?_
  refine wp_aload_n d_Model_read_0 rfl rfl ?_
  refine wp_iconst (v := 0) d_Model_read_1 (by decide) ?_
  refine wm_put0 hM d_Model_read_2 fp_Model_82 (fun μ1 hM => ?_)
  refine wp_aload_n d_Model_read_5 rfl rfl ?_
  refine wp_iload_n d_Model_read_6 rfl rfl ?_
  refine wp_iconst (v := 4) d_Model_read_7 (by decide) ?_
  have hR := hR.f0 0
  have h00 : up2 τ 0 0 0 0 0 = 0 := rfl
  generalize up2 τ 0 0 0 = τ at hM hR h00
  refine wx_callV d_Model_read_8 cv_Model_111 cd_Model_out ⟨by decide, by decide⟩ (cm_out G _ (ma 0) x 4) hM.obj rfl rfl (Nat.le_of_ble_eq_true rfl) (Nat.le_of_ble_eq_true rfl) (Nat.le_of_ble_eq_true rfl) (fun E1 μ1 hq => hq.elim) (fun v1 μ1 hq => ?_)
  obtain ⟨rfl, rfl⟩ := hq
  rcases ar_c (x := x) (y := 4) (n := 4) rfl (by decide) with ⟨c, hc, rfl, ha, h⟩ | ⟨ha, h⟩
  · rw [if_neg h]
    refine wp_if_ne (tgt := 24) d_Model_read_11 (by decide) (fun z9 => absurd z9 (by decide)) (fun _ => ?_)
    refine wp_aload_n d_Model_read_14 rfl rfl ?_
    refine wp_iload_n d_Model_read_15 rfl rfl ?_
    refine wp_bipush (v := 60) d_Model_read_16 (by decide) ?_
    refine wx_callV d_Model_read_18 cv_Model_111 cd_Model_out ⟨by decide, by decide⟩ (cm_out G _ (ma 0) y 60) hM.obj rfl rfl (Nat.le_of_ble_eq_true rfl) (Nat.le_of_ble_eq_true rfl) (Nat.le_of_ble_eq_true rfl) (fun E1 μ1 hq => hq.elim) (fun v1 μ1 hq => ?_)
    obtain ⟨rfl, rfl⟩ := hq
    rcases ar_c (x := y) (y := 60) (n := 60) rfl (by decide) with ⟨o, ho, rfl, hb, h⟩ | ⟨hb, h⟩
    · rw [S_read, ha, hb, if_neg h]
      dsimp only
      refine wp_if_eq (tgt := 30) d_Model_read_21 (by decide) (fun _ => ?_) (fun z9 => absurd z9 (by decide))
      have hd := hR.p1 (1 + c) (o % 2) (by omega) (by omega)
      have hu := uL_lt hd
      rw [rdS]
      refine wp_aload_n d_Model_read_30 rfl rfl ?_
      refine wp_iload_n d_Model_read_31 rfl rfl ?_
      refine wp_iload_n d_Model_read_32 rfl rfl ?_
      refine wx_callV d_Model_read_33 cv_Model_128 cd_Model_lastCell ⟨by decide, by decide⟩ (cm_lastCell hM hR hc ho) hM.obj rfl rfl (Nat.le_of_ble_eq_true rfl) (Nat.le_of_ble_eq_true rfl) (Nat.le_of_ble_eq_true rfl) (fun E1 μ1 hq => hq.elim) (fun v1 μ1 hq => ?_)
      obtain ⟨rfl, rfl⟩ := hq
      have hen := hR.en (uL (δ (1 + c) (o % 2))) o hu ho
      generalize uL (δ (1 + c) (o % 2)) = u at hu hen ⊢
      by_cases hus : usb σ c u = true
      · rw [if_pos hus, if_pos hus]
        refine wp_istore_n d_Model_read_36 rfl (by decide) ?_
        refine wp_iload_n d_Model_read_37 rfl rfl ?_
        refine wp_if_ge (tgt := 47) d_Model_read_38 (by decide) (fun c38 => ?_) (fun c38 => ?_)
        · refine wp_aload_n d_Model_read_47 rfl rfl ?_
          refine wp_get d_Model_read_48 fl_Model_7 hM.obj (by rfl) ?_
          refine wp_iload_n d_Model_read_51 rfl rfl ?_
          refine wm_ald (i := 1) (n := 361) hM (by decide) (by decide) rfl rfl d_Model_read_52 (by first | with_reducible exact ixc0 | with_reducible exact ixc1 | with_reducible exact ixc360 | with_reducible rfl | with_reducible exact ix4 _ _ | with_reducible exact ix21 _ | with_reducible exact ix2 _ | with_reducible exact ix4a _ | assumption) (by omega) ?_
          rcases hen with ⟨h1, h2⟩ | ⟨h1, k, hk, h2, hv⟩ | ⟨h1, h2, h4, h5, h6, h7⟩ | ⟨h1, hv⟩ | ⟨h1, h2⟩
          · rw [if_pos h2, h1]
            refine wp_tableIn (off := 31) (tgt := 84) d_Model_read_53 (by decide) (by decide) (by decide) (by decide) ?_
            refine wp_aload_n d_Model_read_84 rfl rfl ?_
            refine wp_iconst (v := 5) d_Model_read_85 (by decide) ?_
            refine wx_callV d_Model_read_86 cv_Model_114 cd_Model_fail ⟨by decide, by decide⟩ (cm_fail hM _) hM.obj rfl rfl (Nat.le_of_ble_eq_true rfl) (Nat.le_of_ble_eq_true rfl) (Nat.le_of_ble_eq_true rfl) (fun E1 μ9 hq => hq.elim) (fun v1 μ9 hq => ?_)
            obtain ⟨rfl, hM⟩ := hq
            exact wp_iret d_Model_read_89 rfl (by decide) (by decide) ⟨_, 0, rfl, hM, hR.f0 _, rfl, fun z9 => absurd z9 (show ¬ 5 = 0 by decide)⟩
          · rw [hv, if_neg (show ¬ vPut k (τ 3 (60 * u + o)) 0 = 0 from by rw [vPut_0]; decide), if_neg (show ¬ vPut k (τ 3 (60 * u + o)) 0 = 4 from by rw [vPut_0]; decide), if_neg (show ¬ vPut k (τ 3 (60 * u + o)) 0 = 3 from by rw [vPut_0]; decide), h1]
            refine wp_tableIn (off := 37) (tgt := 90) d_Model_read_53 (by decide) (by decide) (by decide) (by decide) ?_
            refine wp_aload_n d_Model_read_90 rfl rfl ?_
            refine wp_get d_Model_read_91 fl_Model_16 hM.obj (by rfl) ?_
            refine wp_iload_n d_Model_read_94 rfl rfl ?_
            refine wm_ald (i := 3) (n := 361) hM (by decide) (by decide) rfl rfl d_Model_read_95 (by first | with_reducible exact ixc0 | with_reducible exact ixc1 | with_reducible exact ixc360 | with_reducible rfl | with_reducible exact ix4 _ _ | with_reducible exact ix21 _ | with_reducible exact ix2 _ | with_reducible exact ix4a _ | assumption) (by omega) ?_
            exact wp_iret d_Model_read_96 rfl (by decide) (by decide) ⟨_, _, rfl, hM, hR, h00, fun _ => rfl⟩
          · rw [h2, if_neg (by decide), if_neg (by decide), if_neg (by decide), h1]
            refine wp_tableIn (off := 44) (tgt := 97) d_Model_read_53 (by decide) (by decide) (by decide) (by decide) ?_
            refine wp_aload_n d_Model_read_97 rfl rfl ?_
            refine wp_aload_n d_Model_read_98 rfl rfl ?_
            refine wp_get d_Model_read_99 fl_Model_22 hM.obj (by rfl) ?_
            refine wp_iload_n d_Model_read_102 rfl rfl ?_
            refine wm_ald (i := 5) (n := 361) hM (by decide) (by decide) rfl rfl d_Model_read_103 (by first | with_reducible exact ixc0 | with_reducible exact ixc1 | with_reducible exact ixc360 | with_reducible rfl | with_reducible exact ix4 _ _ | with_reducible exact ix21 _ | with_reducible exact ix2 _ | with_reducible exact ix4a _ | assumption) (by omega) ?_
            rw [h5]
            refine wx_callV d_Model_read_104 cv_Model_131 cd_Model_ones ⟨by decide, by decide⟩ (cm_ones G _ (ma 0) (fun k => σ (eR u o) (10 + k))) hM.obj rfl rfl (Nat.le_of_ble_eq_true rfl) (Nat.le_of_ble_eq_true rfl) (Nat.le_of_ble_eq_true rfl) (fun E1 μ1 hq => hq.elim) (fun v1 μ1 hq => ?_)
            obtain ⟨rfl, rfl⟩ := hq
            exact wp_iret d_Model_read_107 rfl (by decide) (by decide) ⟨_, _, rfl, hM, hR, h00, fun _ => h6.symm⟩
          · rw [hv, if_neg (show ¬ vJunk 0 = 0 by decide), if_neg (show ¬ vJunk 0 = 4 by decide), if_pos (show vJunk 0 = 3 from rfl), h1]
            refine wp_tableIn (off := 55) (tgt := 108) d_Model_read_53 (by decide) (by decide) (by decide) (by decide) ?_
            refine wp_aload_n d_Model_read_108 rfl rfl ?_
            refine wp_iconst (v := 4) d_Model_read_109 (by decide) ?_
            refine wx_callV d_Model_read_110 cv_Model_114 cd_Model_fail ⟨by decide, by decide⟩ (cm_fail hM _) hM.obj rfl rfl (Nat.le_of_ble_eq_true rfl) (Nat.le_of_ble_eq_true rfl) (Nat.le_of_ble_eq_true rfl) (fun E1 μ9 hq => hq.elim) (fun v1 μ9 hq => ?_)
            obtain ⟨rfl, hM⟩ := hq
            exact wp_iret d_Model_read_113 rfl (by decide) (by decide) ⟨_, 0, rfl, hM, hR.f0 _, rfl, fun z9 => absurd z9 (show ¬ 4 = 0 by decide)⟩
          · rw [h2, if_neg (by decide), if_pos rfl, h1]
            refine wp_tableOut (tgt := 114) d_Model_read_53 (by decide) (by decide) ?_
            refine wp_aload_n d_Model_read_114 rfl rfl ?_
            refine wp_iconst (v := 3) d_Model_read_115 (by decide) ?_
            refine wx_callV d_Model_read_116 cv_Model_114 cd_Model_fail ⟨by decide, by decide⟩ (cm_fail hM _) hM.obj rfl rfl (Nat.le_of_ble_eq_true rfl) (Nat.le_of_ble_eq_true rfl) (Nat.le_of_ble_eq_true rfl) (fun E1 μ9 hq => hq.elim) (fun v1 μ9 hq => ?_)
            obtain ⟨rfl, hM⟩ := hq
            exact wp_iret d_Model_read_119 rfl (by decide) (by decide) ⟨_, 0, rfl, hM, hR.f0 _, rfl, fun z9 => absurd z9 (show ¬ 3 = 0 by decide)⟩
        · exact absurd (nI_pos' (by omega)) c38
      · rw [if_neg hus, if_neg hus]
        refine wp_istore_n d_Model_read_36 rfl (by decide) ?_
        refine wp_iload_n d_Model_read_37 rfl rfl ?_
        refine wp_if_ge (tgt := 47) d_Model_read_38 (by decide) (fun c38 => ?_) (fun c38 => ?_)
        · exact absurd c38 (by decide)
        refine wp_aload_n d_Model_read_41 rfl rfl ?_
        refine wp_iconst (v := 2) d_Model_read_42 (by decide) ?_
        refine wx_callV d_Model_read_43 cv_Model_114 cd_Model_fail ⟨by decide, by decide⟩ (cm_fail hM _) hM.obj rfl rfl (Nat.le_of_ble_eq_true rfl) (Nat.le_of_ble_eq_true rfl) (Nat.le_of_ble_eq_true rfl) (fun E1 μ9 hq => hq.elim) (fun v1 μ9 hq => ?_)
        obtain ⟨rfl, hM⟩ := hq
        exact wp_iret d_Model_read_46 rfl (by decide) (by decide) ⟨_, 0, rfl, hM, hR.f0 _, rfl, fun z9 => absurd z9 (show ¬ 2 = 0 by decide)⟩
    · rw [S_read, ha, hb, if_pos h]
      dsimp only
      refine wp_if_eq (tgt := 30) d_Model_read_21 (by decide) (fun z9 => absurd z9 (by decide)) (fun _ => ?_)
      refine wp_aload_n d_Model_read_24 rfl rfl ?_
      refine wp_iconst (v := 1) d_Model_read_25 (by decide) ?_
      refine wx_callV d_Model_read_26 cv_Model_114 cd_Model_fail ⟨by decide, by decide⟩ (cm_fail hM _) hM.obj rfl rfl (Nat.le_of_ble_eq_true rfl) (Nat.le_of_ble_eq_true rfl) (Nat.le_of_ble_eq_true rfl) (fun E1 μ9 hq => hq.elim) (fun v1 μ9 hq => ?_)
      obtain ⟨rfl, hM⟩ := hq
      exact wp_iret d_Model_read_29 rfl (by decide) (by decide) ⟨_, 0, rfl, hM, hR.f0 _, rfl, fun z9 => absurd z9 (show ¬ 1 = 0 by decide)⟩
  · rw [S_read, ha, if_pos h]
    dsimp only
    refine wp_if_ne (tgt := 24) d_Model_read_11 (by decide) (fun _ => ?_) (fun z9 => absurd z9 (by decide))
    refine wp_aload_n d_Model_read_24 rfl rfl ?_
    refine wp_iconst (v := 1) d_Model_read_25 (by decide) ?_
    refine wx_callV d_Model_read_26 cv_Model_114 cd_Model_fail ⟨by decide, by decide⟩ (cm_fail hM _) hM.obj rfl rfl (Nat.le_of_ble_eq_true rfl) (Nat.le_of_ble_eq_true rfl) (Nat.le_of_ble_eq_true rfl) (fun E1 μ9 hq => hq.elim) (fun v1 μ9 hq => ?_)
    obtain ⟨rfl, hM⟩ := hq
    exact wp_iret d_Model_read_29 rfl (by decide) (by decide) ⟨_, 0, rfl, hM, hR.f0 _, rfl, fun z9 => absurd z9 (show ¬ 1 = 0 by decide)⟩
theorem plS_lt (c : Nat) (δ : dg) : ∀ (n p : Nat) (t : Int32) (σ : sg), (plS c δ n p t σ).1 < 4
  | 0, _, _, _ => by unfold plS; show 0 < 4; decide
  | n + 1, p, t, σ => by
    unfold plS
    repeat' split
    · show 2 < 4; decide
    · show 3 < 4; decide
    · exact plS_lt c δ n _ _ _
    · exact plS_lt c δ n _ _ _
    · show 1 < 4; decide
set_option maxHeartbeats 4000000 in
set_option maxRecDepth 10000 in
theorem cm_sync (hM : Mx G μ0 μ ma τ) (hR : RP τ σ δ) (x : Int32) : CT G M_Model_sync [.ref (ma 0), .int x] μ (PM G μ0 ma (S_sync x σ δ)) (fun _ _ => False) := by
  refine CT.of (by decide) rfl (Nat.le_of_ble_eq_true rfl) ?_
  refine wp_aload_n d_Model_sync_0 rfl rfl ?_
  refine wp_iconst (v := 0) d_Model_sync_1 (by decide) ?_
  refine wm_put0 hM d_Model_sync_2 fp_Model_82 (fun μ1 hM => ?_)
  refine wp_aload_n d_Model_sync_5 rfl rfl ?_
  refine wp_iload_n d_Model_sync_6 rfl rfl ?_
  refine wp_iconst (v := 4) d_Model_sync_7 (by decide) ?_
  have hR := hR.f0 0
  have h00 : up2 τ 0 0 0 0 0 = 0 := rfl
  generalize up2 τ 0 0 0 = τ at hM hR h00
  refine wx_callV d_Model_sync_8 cv_Model_111 cd_Model_out ⟨by decide, by decide⟩ (cm_out G _ (ma 0) x 4) hM.obj rfl rfl (Nat.le_of_ble_eq_true rfl) (Nat.le_of_ble_eq_true rfl) (Nat.le_of_ble_eq_true rfl) (fun E1 μ1 hq => hq.elim) (fun v1 μ1 hq => ?_)
  obtain ⟨rfl, rfl⟩ := hq
  rcases ar_c (x := x) (y := 4) (n := 4) rfl (by decide) with ⟨c, hc, rfl, ha, h⟩ | ⟨ha, h⟩
  · rw [S_sync, ha, if_neg h]
    dsimp only
    refine wp_if_eq (tgt := 20) d_Model_sync_11 (by decide) (fun _ => ?_) (fun z9 => absurd z9 (by decide))
    obtain ⟨n, hn, hn2⟩ := hR.p2
    obtain ⟨p, hp, hp2⟩ := hR.p3 c hc
    rw [syS, hn2, hp2, nI_clamp (by omega), nI_clamp (by omega)]
    refine wp_aload_n d_Model_sync_20 rfl rfl ?_
    refine wp_iload_n d_Model_sync_21 rfl rfl ?_
    refine wx_callV d_Model_sync_22 cv_Model_117 cd_Model_noToken ⟨by decide, by decide⟩ (cm_noToken hM hR hc) hM.obj rfl rfl (Nat.le_of_ble_eq_true rfl) (Nat.le_of_ble_eq_true rfl) (Nat.le_of_ble_eq_true rfl) (fun E1 μ1 hq => hq.elim) (fun v1 μ1 hq => ?_)
    obtain ⟨rfl, rfl⟩ := hq
    refine wp_if_eq (tgt := 34) d_Model_sync_25 (by decide) (fun c25 => ?_) (fun c25 => ?_)
    · rw [if_neg (ifz' c25)]
      refine wp_aload_n d_Model_sync_34 rfl rfl ?_
      refine wp_iload_n d_Model_sync_35 rfl rfl ?_
      refine wp_aload_n d_Model_sync_36 rfl rfl ?_
      refine wp_get d_Model_sync_37 fl_Model_121 hM.obj (by rfl) ?_
      rw [hR.nx, hn2]
      refine wx_callV d_Model_sync_40 cv_Model_157 cd_Model_play ⟨by decide, by decide⟩ (cm_play hM hR 0 hc hp2 hp hn) hM.obj rfl rfl (Nat.le_of_ble_eq_true rfl) (Nat.le_of_ble_eq_true rfl) (Nat.le_of_ble_eq_true rfl) (fun E1 μ2 hq => hq.elim) (fun v1 μ2 hq => ?_)
      obtain ⟨τ2, rfl, hM, hR2, h002, -⟩ := hq
      generalize hpl : plS c δ (n - p) p 0 σ = r at hR2
      obtain ⟨k, t, σ'⟩ := r
      dsimp only at hR2 ⊢
      have hk : k < 4 := by
        have q := plS_lt c δ (n - p) p 0 σ
        rw [hpl] at q; exact q
      have hR := hR2
      refine wp_istore_n d_Model_sync_43 rfl (by decide) ?_
      refine wp_iload_n d_Model_sync_44 rfl rfl ?_
      refine wp_if_le (tgt := 72) d_Model_sync_45 (by decide) (fun c45 => ?_) (fun c45 => ?_)
      · obtain rfl : k = 0 := by
          have q : ¬ 0 < k := fun z => nI_nle z (by omega) c45
          omega
        rw [if_pos rfl]
        refine wp_aload_n d_Model_sync_72 rfl rfl ?_
        refine wp_get d_Model_sync_73 fl_Model_54 hM.obj (by rfl) ?_
        refine wp_iload_n d_Model_sync_76 rfl rfl ?_
        refine wm_ald (i := 13) (n := 4) hM (by decide) (by decide) rfl rfl d_Model_sync_77 (by first | with_reducible exact ixc0 | with_reducible exact ixc1 | with_reducible exact ixc360 | with_reducible rfl | with_reducible exact ix4 _ _ | with_reducible exact ix21 _ | with_reducible exact ix2 _ | with_reducible exact ix4a _ | assumption) (by omega) ?_
        exact wp_iret d_Model_sync_78 rfl (by decide) (by decide) ⟨_, _, rfl, hM, hR, h002.trans h00, fun _ => hR.po c hc⟩
      · have k0 : k ≠ 0 := fun z => c45 (by rw [z]; decide)
        rw [if_neg k0]
        rcases (show k = 1 ∨ k = 2 ∨ k = 3 by omega) with rfl | rfl | rfl
        · refine wp_aload_n d_Model_sync_48 rfl rfl ?_
          refine wp_iload_n d_Model_sync_49 rfl rfl ?_
          refine wp_iconst (v := 1) d_Model_sync_50 (by decide) ?_
          refine wp_icmp_ne (tgt := 58) d_Model_sync_51 (by decide) (fun z9 => absurd z9 (by decide)) (fun _ => ?_)
          refine wp_iconst (v := 2) d_Model_sync_54 (by decide) ?_
          refine wp_goto (tgt := 68) d_Model_sync_55 (by decide) ?_
          refine wx_callV d_Model_sync_68 cv_Model_114 cd_Model_fail ⟨by decide, by decide⟩ (cm_fail hM 2) hM.obj rfl rfl (Nat.le_of_ble_eq_true rfl) (Nat.le_of_ble_eq_true rfl) (Nat.le_of_ble_eq_true rfl) (fun E1 μ3 hq => hq.elim) (fun v1 μ3 hq => ?_)
          obtain ⟨rfl, hM⟩ := hq
          exact wp_iret d_Model_sync_71 rfl (by decide) (by decide) ⟨_, _, rfl, hM, hR.f0 _, rfl, fun z => absurd z (show ¬ 2 = 0 by decide)⟩
        · refine wp_aload_n d_Model_sync_48 rfl rfl ?_
          refine wp_iload_n d_Model_sync_49 rfl rfl ?_
          refine wp_iconst (v := 1) d_Model_sync_50 (by decide) ?_
          refine wp_icmp_ne (tgt := 58) d_Model_sync_51 (by decide) (fun _ => ?_) (fun z9 => absurd z9 (by decide))
          refine wp_iload_n d_Model_sync_58 rfl rfl ?_
          refine wp_iconst (v := 2) d_Model_sync_59 (by decide) ?_
          refine wp_icmp_ne (tgt := 67) d_Model_sync_60 (by decide) (fun z9 => absurd z9 (by decide)) (fun _ => ?_)
          refine wp_iconst (v := 4) d_Model_sync_63 (by decide) ?_
          refine wp_goto (tgt := 68) d_Model_sync_64 (by decide) ?_
          refine wx_callV d_Model_sync_68 cv_Model_114 cd_Model_fail ⟨by decide, by decide⟩ (cm_fail hM 4) hM.obj rfl rfl (Nat.le_of_ble_eq_true rfl) (Nat.le_of_ble_eq_true rfl) (Nat.le_of_ble_eq_true rfl) (fun E1 μ3 hq => hq.elim) (fun v1 μ3 hq => ?_)
          obtain ⟨rfl, hM⟩ := hq
          exact wp_iret d_Model_sync_71 rfl (by decide) (by decide) ⟨_, _, rfl, hM, hR.f0 _, rfl, fun z => absurd z (show ¬ 4 = 0 by decide)⟩
        · refine wp_aload_n d_Model_sync_48 rfl rfl ?_
          refine wp_iload_n d_Model_sync_49 rfl rfl ?_
          refine wp_iconst (v := 1) d_Model_sync_50 (by decide) ?_
          refine wp_icmp_ne (tgt := 58) d_Model_sync_51 (by decide) (fun _ => ?_) (fun z9 => absurd z9 (by decide))
          refine wp_iload_n d_Model_sync_58 rfl rfl ?_
          refine wp_iconst (v := 2) d_Model_sync_59 (by decide) ?_
          refine wp_icmp_ne (tgt := 67) d_Model_sync_60 (by decide) (fun _ => ?_) (fun z9 => absurd z9 (by decide))
          refine wp_iconst (v := 3) d_Model_sync_67 (by decide) ?_
          refine wx_callV d_Model_sync_68 cv_Model_114 cd_Model_fail ⟨by decide, by decide⟩ (cm_fail hM 3) hM.obj rfl rfl (Nat.le_of_ble_eq_true rfl) (Nat.le_of_ble_eq_true rfl) (Nat.le_of_ble_eq_true rfl) (fun E1 μ3 hq => hq.elim) (fun v1 μ3 hq => ?_)
          obtain ⟨rfl, hM⟩ := hq
          exact wp_iret d_Model_sync_71 rfl (by decide) (by decide) ⟨_, _, rfl, hM, hR.f0 _, rfl, fun z => absurd z (show ¬ 3 = 0 by decide)⟩
    · rw [if_pos (ifz c25)]
      refine wp_aload_n d_Model_sync_28 rfl rfl ?_
      refine wp_iconst (v := 2) d_Model_sync_29 (by decide) ?_
      refine wx_callV d_Model_sync_30 cv_Model_114 cd_Model_fail ⟨by decide, by decide⟩ (cm_fail hM _) hM.obj rfl rfl (Nat.le_of_ble_eq_true rfl) (Nat.le_of_ble_eq_true rfl) (Nat.le_of_ble_eq_true rfl) (fun E1 μ9 hq => hq.elim) (fun v1 μ9 hq => ?_)
      obtain ⟨rfl, hM⟩ := hq
      exact wp_iret d_Model_sync_33 rfl (by decide) (by decide) ⟨_, 0, rfl, hM, hR.f0 _, rfl, fun z9 => absurd z9 (show ¬ 2 = 0 by decide)⟩
  · rw [S_sync, ha, if_pos h]
    dsimp only
    refine wp_if_eq (tgt := 20) d_Model_sync_11 (by decide) (fun z9 => absurd z9 (by decide)) (fun _ => ?_)
    refine wp_aload_n d_Model_sync_14 rfl rfl ?_
    refine wp_iconst (v := 1) d_Model_sync_15 (by decide) ?_
    refine wx_callV d_Model_sync_16 cv_Model_114 cd_Model_fail ⟨by decide, by decide⟩ (cm_fail hM _) hM.obj rfl rfl (Nat.le_of_ble_eq_true rfl) (Nat.le_of_ble_eq_true rfl) (Nat.le_of_ble_eq_true rfl) (fun E1 μ9 hq => hq.elim) (fun v1 μ9 hq => ?_)
    obtain ⟨rfl, hM⟩ := hq
    exact wp_iret d_Model_sync_19 rfl (by decide) (by decide) ⟨_, 0, rfl, hM, hR.f0 _, rfl, fun z9 => absurd z9 (show ¬ 1 = 0 by decide)⟩
theorem wrS_lt (c o : Nat) (v : Nat → Int32) (d : Nat) : ∀ (n i : Nat) (σ : sg), (wrS c o v d n i σ).1 < 3
  | 0, _, _ => by unfold wrS; show 0 < 3; decide
  | n + 1, i, σ => by
    unfold wrS
    repeat' split
    · exact wrS_lt c o v d n _ _
    · show 2 < 3; decide
    · show 1 < 3; decide
set_option maxHeartbeats 4000000 in
set_option maxRecDepth 10000 in
theorem cm_append (hM : Mx G μ0 μ ma τ) (hR : RP τ σ δ) (x y w z : Int32) : CT G M_Model_append [.ref (ma 0), .int x, .int y, .int w, .int z] μ (PM G μ0 ma (S_append x y w z σ δ)) (fun _ _ => False) := by
  refine CT.of (by decide) rfl (Nat.le_of_ble_eq_true rfl) ?_
  refine wp_aload_n d_Model_append_0 rfl rfl ?_
  refine wp_iconst (v := 0) d_Model_append_1 (by decide) ?_
  refine wm_put0 hM d_Model_append_2 fp_Model_82 (fun μ1 hM => ?_)
  refine wp_aload_n d_Model_append_5 rfl rfl ?_
  refine wp_iload_n d_Model_append_6 rfl rfl ?_
  refine wp_iconst (v := 4) d_Model_append_7 (by decide) ?_
  have hR := hR.f0 0
  have h00 : up2 τ 0 0 0 0 0 = 0 := rfl
  generalize up2 τ 0 0 0 = τ at hM hR h00
  refine wx_callV d_Model_append_8 cv_Model_111 cd_Model_out ⟨by decide, by decide⟩ (cm_out G _ (ma 0) x 4) hM.obj rfl rfl (Nat.le_of_ble_eq_true rfl) (Nat.le_of_ble_eq_true rfl) (Nat.le_of_ble_eq_true rfl) (fun E1 μ1 hq => hq.elim) (fun v1 μ1 hq => ?_)
  obtain ⟨rfl, rfl⟩ := hq
  rcases ar_c (x := x) (y := 4) (n := 4) rfl (by decide) with ⟨c, hc, rfl, ha, h⟩ | ⟨ha, h⟩
  · rw [if_neg h]
    refine wp_if_ne (tgt := 33) d_Model_append_11 (by decide) (fun z9 => absurd z9 (by decide)) (fun _ => ?_)
    refine wp_aload_n d_Model_append_14 rfl rfl ?_
    refine wp_iload_n d_Model_append_15 rfl rfl ?_
    refine wp_iconst (v := 4) d_Model_append_16 (by decide) ?_
    refine wx_callV d_Model_append_17 cv_Model_111 cd_Model_out ⟨by decide, by decide⟩ (cm_out G _ (ma 0) y 4) hM.obj rfl rfl (Nat.le_of_ble_eq_true rfl) (Nat.le_of_ble_eq_true rfl) (Nat.le_of_ble_eq_true rfl) (fun E1 μ1 hq => hq.elim) (fun v1 μ1 hq => ?_)
    obtain ⟨rfl, rfl⟩ := hq
    rcases ar_c (x := y) (y := 4) (n := 4) rfl (by decide) with ⟨k, hk, rfl, hb, h⟩ | ⟨hb, h⟩
    · rw [if_neg h]
      refine wp_if_ne (tgt := 33) d_Model_append_20 (by decide) (fun z9 => absurd z9 (by decide)) (fun _ => ?_)
      refine wp_aload_n d_Model_append_23 rfl rfl ?_
      refine wp_iload d_Model_append_24 rfl ?_
      refine wp_iconst (v := 4) d_Model_append_26 (by decide) ?_
      refine wx_callV d_Model_append_27 cv_Model_111 cd_Model_out ⟨by decide, by decide⟩ (cm_out G _ (ma 0) z 4) hM.obj rfl rfl (Nat.le_of_ble_eq_true rfl) (Nat.le_of_ble_eq_true rfl) (Nat.le_of_ble_eq_true rfl) (fun E1 μ1 hq => hq.elim) (fun v1 μ1 hq => ?_)
      obtain ⟨rfl, rfl⟩ := hq
      rcases ar_c (x := z) (y := 4) (n := 4) rfl (by decide) with ⟨m, hm, rfl, hd, h⟩ | ⟨hd, h⟩
      · rw [S_append, ha, hb, hd, if_neg h]
        dsimp only
        refine wp_if_eq (tgt := 39) d_Model_append_30 (by decide) (fun _ => ?_) (fun z9 => absurd z9 (by decide))
        obtain ⟨n, hn, hn2⟩ := hR.p2
        rw [apS, hn2, nI_clamp (by omega)]
        refine wp_aload_n d_Model_append_39 rfl rfl ?_
        refine wp_iload_n d_Model_append_40 rfl rfl ?_
        refine wx_callV d_Model_append_41 cv_Model_117 cd_Model_noToken ⟨by decide, by decide⟩ (cm_noToken hM hR hc) hM.obj rfl rfl (Nat.le_of_ble_eq_true rfl) (Nat.le_of_ble_eq_true rfl) (Nat.le_of_ble_eq_true rfl) (fun E1 μ1 hq => hq.elim) (fun v1 μ1 hq => ?_)
        obtain ⟨rfl, rfl⟩ := hq
        refine wp_if_eq (tgt := 53) d_Model_append_44 (by decide) (fun c44 => ?_) (fun c44 => ?_)
        · rw [if_neg (ifz' c44)]
          refine wp_aload_n d_Model_append_53 rfl rfl ?_
          refine wp_get d_Model_append_54 fl_Model_121 hM.obj (by rfl) ?_
          refine wp_bipush (v := 60) d_Model_append_57 (by decide) ?_
          rw [hR.nx, hn2]
          refine wp_icmp_ne (tgt := 68) d_Model_append_59 (by decide) (fun c59 => ?_) (fun c59 => ?_)
          · have hn6 : n < 60 := by
              have q : n ≠ 60 := fun q => c59 (by rw [q]; rfl)
              omega
            rw [if_pos (show nI n < 60 from nI_lt (b := 60) hn6 (by decide))]
            refine wp_aload_n d_Model_append_68 rfl rfl ?_
            refine wp_get d_Model_append_69 fl_Model_121 hM.obj (by rfl) ?_
            rw [hR.nx, hn2]
            refine wp_istore d_Model_append_72 (by decide) ?_
            refine wp_aload_n d_Model_append_74 rfl rfl ?_
            refine wp_dup d_Model_append_75 rfl ?_
            refine wp_get d_Model_append_76 fl_Model_121 hM.obj (by rfl) ?_
            rw [hR.nx, hn2]
            refine wp_iconst (v := 1) d_Model_append_79 (by decide) ?_
            refine wp_iadd d_Model_append_80 ?_
            refine wm_put4 hM d_Model_append_81 fp_Model_121 (fun μ1 hM => ?_)
            refine wp_aload_n d_Model_append_84 rfl rfl ?_
            refine wp_get d_Model_append_85 fl_Model_7 hM.obj (by rfl) ?_
            refine wp_sipush (v := 360) d_Model_append_88 (by decide) ?_
            refine wp_iconst (v := 1) d_Model_append_91 (by decide) ?_
            refine wm_ast (i := 1) (n := 361) hM (by decide) (by decide) rfl rfl d_Model_append_92 (by first | with_reducible exact ixc0 | with_reducible exact ixc1 | with_reducible exact ixc360 | with_reducible rfl | with_reducible exact ix4 _ _ | with_reducible exact ix21 _ | with_reducible exact ix2 _ | with_reducible exact ix4a _ | assumption) (by omega) (fun μ1 hM => ?_)
            refine wp_aload_n d_Model_append_93 rfl rfl ?_
            refine wp_get d_Model_append_94 fl_Model_13 hM.obj (by rfl) ?_
            refine wp_sipush (v := 360) d_Model_append_97 (by decide) ?_
            refine wp_iload_n d_Model_append_100 rfl rfl ?_
            refine wm_ast (i := 2) (n := 361) hM (by decide) (by decide) rfl rfl d_Model_append_101 (by first | with_reducible exact ixc0 | with_reducible exact ixc1 | with_reducible exact ixc360 | with_reducible rfl | with_reducible exact ix4 _ _ | with_reducible exact ix21 _ | with_reducible exact ix2 _ | with_reducible exact ix4a _ | assumption) (by omega) (fun μ1 hM => ?_)
            refine wp_aload_n d_Model_append_102 rfl rfl ?_
            refine wp_get d_Model_append_103 fl_Model_16 hM.obj (by rfl) ?_
            refine wp_sipush (v := 360) d_Model_append_106 (by decide) ?_
            refine wp_iload_n d_Model_append_109 rfl rfl ?_
            refine wm_ast (i := 3) (n := 361) hM (by decide) (by decide) rfl rfl d_Model_append_110 (by first | with_reducible exact ixc0 | with_reducible exact ixc1 | with_reducible exact ixc360 | with_reducible rfl | with_reducible exact ix4 _ _ | with_reducible exact ix21 _ | with_reducible exact ix2 _ | with_reducible exact ix4a _ | assumption) (by omega) (fun μ1 hM => ?_)
            rw [nI_1] at hM
            have hE : Ent (up2 (up2 (up2 (up2 τ 0 4 (nI (n + 1))) 1 360 1) 2 360 (nI k)) 3 360 w) 360 (vPut k w) := Or.inr (Or.inl ⟨rfl, k, hk, rfl, rfl⟩)
            have hR2 : RP (up2 (up2 (up2 (up2 τ 0 4 (nI (n + 1))) 1 360 1) 2 360 (nI k)) 3 360 w) (up2 σ 3 2 (nI (n + 1))) δ := by
              refine (hR.next (n := n + 1) (by omega)).low (fun i hi => ?_) (fun i j a b hj => ?_) (fun j hj => ⟨rfl, rfl⟩)
              · rw [up2_n (by omega), up2_n (by omega), up2_n (by omega)]
              · rcases (show i = 1 ∨ i = 2 ∨ i = 3 ∨ i = 4 ∨ i = 5 by omega) with rfl | rfl | rfl | rfl | rfl
                · show va_up (τ 1) 360 _ j = _; rw [va_up_ne _ _ (by omega)]; rfl
                · show va_up (τ 2) 360 _ j = _; rw [va_up_ne _ _ (by omega)]; rfl
                · show va_up (τ 3) 360 _ j = _; rw [va_up_ne _ _ (by omega)]; rfl
                · rfl
                · rfl
            refine wp_aload_n d_Model_append_111 rfl rfl ?_
            refine wp_iload_n d_Model_append_112 rfl rfl ?_
            refine wp_iload d_Model_append_113 rfl ?_
            refine wp_iload d_Model_append_115 rfl ?_
            refine wx_callV d_Model_append_117 cv_Model_124 cd_Model_write ⟨by decide, by decide⟩ (cm_write hM hR2 hc hn6 (by omega) hE (vB_put k hk w)) hM.obj rfl rfl (Nat.le_of_ble_eq_true rfl) (Nat.le_of_ble_eq_true rfl) (Nat.le_of_ble_eq_true rfl) (fun E1 μ2 hq => hq.elim) (fun v1 μ2 hq => ?_)
            obtain ⟨τ2, rfl, hM, hR3, h03⟩ := hq
            rw [nI_1]
            have h002 : τ2 0 0 = 0 := by rw [h03]; exact h00
            generalize hwr : wrS c n (vPut k w) (δ (1 + c) (n % 2)) (min (ln (δ (1 + c) (n % 2))) m) 0 (up2 σ 3 2 (nI (n + 1))) = r at hR3 ⊢
            have hw3 : r.1 < 3 := by rw [← hwr]; exact wrS_lt _ _ _ _ _ _ _
            obtain ⟨q, σ'⟩ := r
            dsimp only at hR3 hw3 ⊢
            have hR := hR3
            refine wp_istore d_Model_append_120 (by decide) ?_
            refine wp_iload d_Model_append_122 rfl ?_
            refine wp_if_le (tgt := 136) d_Model_append_124 (by decide) (fun c124 => ?_) (fun c124 => ?_)
            · obtain rfl : q = 0 := by
                have z : ¬ 0 < q := fun z => nI_nle z (by omega) c124
                omega
              rw [if_pos rfl]
              have hdv := vr_le (hR.p1 (1 + c) (n % 2) (by omega) (by omega))
              refine wp_aload_n d_Model_append_136 rfl rfl ?_
              refine wp_aload_n d_Model_append_137 rfl rfl ?_
              refine wp_iload_n d_Model_append_138 rfl rfl ?_
              refine wp_iload d_Model_append_139 rfl ?_
              refine wx_callV d_Model_append_141 cv_Model_89 cd_Model_rowFor ⟨by decide, by decide⟩ (cm_rowFor hM hR hc hn6) hM.obj rfl rfl (Nat.le_of_ble_eq_true rfl) (Nat.le_of_ble_eq_true rfl) (Nat.le_of_ble_eq_true rfl) (fun E1 μ1 hq => hq.elim) (fun v1 μ1 hq => ?_)
              obtain ⟨rfl, rfl⟩ := hq
              refine wx_callV d_Model_append_144 cv_Model_85 cd_Model_length ⟨by decide, by decide⟩ (cm_length G _ (ma 0) (d := δ (1 + c) (n % 2)) (by omega)) hM.obj rfl rfl (Nat.le_of_ble_eq_true rfl) (Nat.le_of_ble_eq_true rfl) (Nat.le_of_ble_eq_true rfl) (fun E1 μ1 hq => hq.elim) (fun v1 μ1 hq => ?_)
              obtain ⟨rfl, rfl⟩ := hq
              have hl := ln_pos (δ (1 + c) (n % 2))
              refine wp_iload d_Model_append_147 rfl ?_
              refine wp_icmp_le (tgt := 160) d_Model_append_149 (by decide) (fun c149 => ?_) (fun c149 => ?_)
              · have z := (nI_leI (by omega) (by omega)).mp c149
                rw [if_neg (by omega)]
                refine wp_iload d_Model_append_160 rfl ?_
                exact wp_iret d_Model_append_162 rfl (by decide) (by decide) ⟨_, _, rfl, hM, hR, h002, fun _ => rfl⟩
              · have z : ¬ ln (δ (1 + c) (n % 2)) ≤ m := fun z => c149 ((nI_leI (by omega) (by omega)).mpr z)
                rw [if_pos (by omega)]
                refine wp_iload d_Model_append_152 rfl ?_
                refine wp_bipush (v := 100) d_Model_append_154 (by decide) ?_
                refine wp_isub d_Model_append_156 ?_
                refine wp_goto (tgt := 162) d_Model_append_157 (by decide) ?_
                exact wp_iret d_Model_append_162 rfl (by decide) (by decide) ⟨_, _, rfl, hM, hR, h002, fun _ => rfl⟩
            · have k0 : q ≠ 0 := fun z => c124 (by rw [z]; decide)
              rw [if_neg k0]
              refine wp_aload_n d_Model_append_127 rfl rfl ?_
              refine wp_iload d_Model_append_128 rfl ?_
              refine wp_iconst (v := 1) d_Model_append_130 (by decide) ?_
              refine wp_iadd d_Model_append_131 ?_
              refine wx_callV d_Model_append_132 cv_Model_114 cd_Model_fail ⟨by decide, by decide⟩ (cm_fail hM _) hM.obj rfl rfl (Nat.le_of_ble_eq_true rfl) (Nat.le_of_ble_eq_true rfl) (Nat.le_of_ble_eq_true rfl) (fun E1 μ3 hq => hq.elim) (fun v1 μ3 hq => ?_)
              obtain ⟨rfl, hM⟩ := hq
              exact wp_iret d_Model_append_135 rfl (by decide) (by decide) ⟨_, _, rfl, hM, hR.f0 _, (nI_1 q), fun z => absurd z (show ¬ q + 1 = 0 by omega)⟩
          · obtain rfl : n = 60 := (nI_eq (b := 60) (by omega) (by omega)).mp c59
            rw [if_neg (by decide)]
            refine wp_aload_n d_Model_append_62 rfl rfl ?_
            refine wp_iconst (v := 4) d_Model_append_63 (by decide) ?_
            refine wx_callV d_Model_append_64 cv_Model_114 cd_Model_fail ⟨by decide, by decide⟩ (cm_fail hM _) hM.obj rfl rfl (Nat.le_of_ble_eq_true rfl) (Nat.le_of_ble_eq_true rfl) (Nat.le_of_ble_eq_true rfl) (fun E1 μ9 hq => hq.elim) (fun v1 μ9 hq => ?_)
            obtain ⟨rfl, hM⟩ := hq
            exact wp_iret d_Model_append_67 rfl (by decide) (by decide) ⟨_, 0, rfl, hM, hR.f0 _, rfl, fun z9 => absurd z9 (show ¬ 4 = 0 by decide)⟩
        · rw [if_pos (ifz c44)]
          refine wp_aload_n d_Model_append_47 rfl rfl ?_
          refine wp_iconst (v := 2) d_Model_append_48 (by decide) ?_
          refine wx_callV d_Model_append_49 cv_Model_114 cd_Model_fail ⟨by decide, by decide⟩ (cm_fail hM _) hM.obj rfl rfl (Nat.le_of_ble_eq_true rfl) (Nat.le_of_ble_eq_true rfl) (Nat.le_of_ble_eq_true rfl) (fun E1 μ9 hq => hq.elim) (fun v1 μ9 hq => ?_)
          obtain ⟨rfl, hM⟩ := hq
          exact wp_iret d_Model_append_52 rfl (by decide) (by decide) ⟨_, 0, rfl, hM, hR.f0 _, rfl, fun z9 => absurd z9 (show ¬ 2 = 0 by decide)⟩
      · rw [S_append, ha, hb, hd, if_pos h]
        dsimp only
        refine wp_if_eq (tgt := 39) d_Model_append_30 (by decide) (fun z9 => absurd z9 (by decide)) (fun _ => ?_)
        refine wp_aload_n d_Model_append_33 rfl rfl ?_
        refine wp_iconst (v := 1) d_Model_append_34 (by decide) ?_
        refine wx_callV d_Model_append_35 cv_Model_114 cd_Model_fail ⟨by decide, by decide⟩ (cm_fail hM _) hM.obj rfl rfl (Nat.le_of_ble_eq_true rfl) (Nat.le_of_ble_eq_true rfl) (Nat.le_of_ble_eq_true rfl) (fun E1 μ9 hq => hq.elim) (fun v1 μ9 hq => ?_)
        obtain ⟨rfl, hM⟩ := hq
        exact wp_iret d_Model_append_38 rfl (by decide) (by decide) ⟨_, 0, rfl, hM, hR.f0 _, rfl, fun z9 => absurd z9 (show ¬ 1 = 0 by decide)⟩
    · rw [S_append, ha, hb, if_pos h]
      dsimp only
      refine wp_if_ne (tgt := 33) d_Model_append_20 (by decide) (fun _ => ?_) (fun z9 => absurd z9 (by decide))
      refine wp_aload_n d_Model_append_33 rfl rfl ?_
      refine wp_iconst (v := 1) d_Model_append_34 (by decide) ?_
      refine wx_callV d_Model_append_35 cv_Model_114 cd_Model_fail ⟨by decide, by decide⟩ (cm_fail hM _) hM.obj rfl rfl (Nat.le_of_ble_eq_true rfl) (Nat.le_of_ble_eq_true rfl) (Nat.le_of_ble_eq_true rfl) (fun E1 μ9 hq => hq.elim) (fun v1 μ9 hq => ?_)
      obtain ⟨rfl, hM⟩ := hq
      exact wp_iret d_Model_append_38 rfl (by decide) (by decide) ⟨_, 0, rfl, hM, hR.f0 _, rfl, fun z9 => absurd z9 (show ¬ 1 = 0 by decide)⟩
  · rw [S_append, ha, if_pos h]
    dsimp only
    refine wp_if_ne (tgt := 33) d_Model_append_11 (by decide) (fun _ => ?_) (fun z9 => absurd z9 (by decide))
    refine wp_aload_n d_Model_append_33 rfl rfl ?_
    refine wp_iconst (v := 1) d_Model_append_34 (by decide) ?_
    refine wx_callV d_Model_append_35 cv_Model_114 cd_Model_fail ⟨by decide, by decide⟩ (cm_fail hM _) hM.obj rfl rfl (Nat.le_of_ble_eq_true rfl) (Nat.le_of_ble_eq_true rfl) (Nat.le_of_ble_eq_true rfl) (fun E1 μ9 hq => hq.elim) (fun v1 μ9 hq => ?_)
    obtain ⟨rfl, hM⟩ := hq
    exact wp_iret d_Model_append_38 rfl (by decide) (by decide) ⟨_, 0, rfl, hM, hR.f0 _, rfl, fun z9 => absurd z9 (show ¬ 1 = 0 by decide)⟩
set_option maxHeartbeats 4000000 in
set_option maxRecDepth 10000 in
theorem cm_fill (hM : Mx G μ0 μ ma τ) (hR : RP τ σ δ) (x y : Int32) : CT G M_Model_fill [.ref (ma 0), .int x, .int y] μ (PM G μ0 ma (S_fill x y σ δ)) (fun _ _ => False) := by
  refine CT.of (by decide) rfl (Nat.le_of_ble_eq_true rfl) ?_
  refine wp_aload_n d_Model_fill_0 rfl rfl ?_
  refine wp_iconst (v := 0) d_Model_fill_1 (by decide) ?_
  refine wm_put0 hM d_Model_fill_2 fp_Model_82 (fun μ1 hM => ?_)
  refine wp_aload_n d_Model_fill_5 rfl rfl ?_
  refine wp_iload_n d_Model_fill_6 rfl rfl ?_
  refine wp_iconst (v := 4) d_Model_fill_7 (by decide) ?_
  have hR := hR.f0 0
  have h00 : up2 τ 0 0 0 0 0 = 0 := rfl
  generalize up2 τ 0 0 0 = τ at hM hR h00
  refine wx_callV d_Model_fill_8 cv_Model_111 cd_Model_out ⟨by decide, by decide⟩ (cm_out G _ (ma 0) x 4) hM.obj rfl rfl (Nat.le_of_ble_eq_true rfl) (Nat.le_of_ble_eq_true rfl) (Nat.le_of_ble_eq_true rfl) (fun E1 μ1 hq => hq.elim) (fun v1 μ1 hq => ?_)
  obtain ⟨rfl, rfl⟩ := hq
  rcases ar_c (x := x) (y := 4) (n := 4) rfl (by decide) with ⟨c, hc, rfl, ha, h⟩ | ⟨ha, h⟩
  · rw [if_neg h]
    refine wp_if_ne (tgt := 24) d_Model_fill_11 (by decide) (fun z9 => absurd z9 (by decide)) (fun _ => ?_)
    refine wp_aload_n d_Model_fill_14 rfl rfl ?_
    refine wp_iload_n d_Model_fill_15 rfl rfl ?_
    refine wp_bipush (v := 60) d_Model_fill_16 (by decide) ?_
    refine wx_callV d_Model_fill_18 cv_Model_111 cd_Model_out ⟨by decide, by decide⟩ (cm_out G _ (ma 0) y 60) hM.obj rfl rfl (Nat.le_of_ble_eq_true rfl) (Nat.le_of_ble_eq_true rfl) (Nat.le_of_ble_eq_true rfl) (fun E1 μ1 hq => hq.elim) (fun v1 μ1 hq => ?_)
    obtain ⟨rfl, rfl⟩ := hq
    rcases ar_c (x := y) (y := 60) (n := 60) rfl (by decide) with ⟨o, ho, rfl, hb, h⟩ | ⟨hb, h⟩
    · rw [S_fill, ha, hb, if_neg h]
      dsimp only
      refine wp_if_eq (tgt := 30) d_Model_fill_21 (by decide) (fun _ => ?_) (fun z9 => absurd z9 (by decide))
      have hd := hR.p1 (1 + c) (o % 2) (by omega) (by omega)
      refine wp_aload_n d_Model_fill_30 rfl rfl ?_
      refine wp_iload_n d_Model_fill_31 rfl rfl ?_
      refine wp_iload_n d_Model_fill_32 rfl rfl ?_
      refine wx_callV d_Model_fill_33 cv_Model_89 cd_Model_rowFor ⟨by decide, by decide⟩ (cm_rowFor hM hR hc ho) hM.obj rfl rfl (Nat.le_of_ble_eq_true rfl) (Nat.le_of_ble_eq_true rfl) (Nat.le_of_ble_eq_true rfl) (fun E1 μ1 hq => hq.elim) (fun v1 μ1 hq => ?_)
      obtain ⟨rfl, rfl⟩ := hq
      generalize δ (1 + c) (o % 2) = d at hd ⊢
      have hl := ln_pos d
      have hv := vr_le hd
      have loop : ∀ (n i k : Nat) (fv : Nat → Int32) (τ1 σ1 : sg) (μ1 : mu_M) (Q : Option Value → mu_M → Prop), i + n = ln d → k ≤ i → Mx G μ0 μ1 ma τ1 → RP τ1 σ1 δ → τ1 0 0 = 0 → (i = 0 → fv = vJunk) → (0 < i → σ1 (eR (un d 0) o) = fv) → (∀ x μ', PM G μ0 ma (match flS c o d n i k fv σ1 with | (q, k, σ') => if q = 0 then (0, nI k, σ', δ) else (2, 0, σ', δ)) x μ' → Q x μ') → WP G M_Model_fill (EC G M_Model_fill Q (fun _ _ => False)) [(0, .ref (ma 0)), (1, .int (nI c)), (2, .int (nI o)), (3, .int (nI d)), (4, .int (nI k)), (5, .int (nI i))] 43 [] μ1 0 0 := by
        intro n
        induction n with
        | zero =>
          intro i k fv τ1 σ1 μ1 Q hi hki hM hR h00 hf0 hf1 hQ
          refine wp_iload d_Model_fill_43 rfl ?_
          refine wp_aload_n d_Model_fill_45 rfl rfl ?_
          refine wp_iload_n d_Model_fill_46 rfl rfl ?_
          refine wx_callV d_Model_fill_47 cv_Model_85 cd_Model_length ⟨by decide, by decide⟩ (cm_length G _ (ma 0) (d := d) (by omega)) hM.obj rfl rfl (Nat.le_of_ble_eq_true rfl) (Nat.le_of_ble_eq_true rfl) (Nat.le_of_ble_eq_true rfl) (fun E1 μ1 hq => hq.elim) (fun v1 μ1 hq => ?_)
          obtain ⟨rfl, rfl⟩ := hq
          refine wp_icmp_ge (tgt := 148) d_Model_fill_50 (by decide) (fun c50 => ?_) (fun c50 => ?_)
          · refine wp_iload d_Model_fill_148 rfl ?_
            exact wp_iret d_Model_fill_150 rfl (by decide) (by decide) (hQ _ _ ⟨_, _, rfl, hM, hR, h00, fun _ => rfl⟩)
          · exact absurd ((nI_leI (by omega) (by omega)).mpr (by omega)) c50
        | succ n ih =>
          intro i k fv τ1 σ1 μ1 Q hi hki hM hR h00 hf0 hf1 hQ
          have hi2 : i < ln d := by omega
          have hu := vr_un hd hi2
          have hen := hR.en (un d i) o hu ho
          rw [flS] at hQ
          refine wp_iload d_Model_fill_43 rfl ?_
          refine wp_aload_n d_Model_fill_45 rfl rfl ?_
          refine wp_iload_n d_Model_fill_46 rfl rfl ?_
          refine wx_callV d_Model_fill_47 cv_Model_85 cd_Model_length ⟨by decide, by decide⟩ (cm_length G _ (ma 0) (d := d) (by omega)) hM.obj rfl rfl (Nat.le_of_ble_eq_true rfl) (Nat.le_of_ble_eq_true rfl) (Nat.le_of_ble_eq_true rfl) (fun E1 μ1 hq => hq.elim) (fun v1 μ1 hq => ?_)
          obtain ⟨rfl, rfl⟩ := hq
          refine wp_icmp_ge (tgt := 148) d_Model_fill_50 (by decide) (fun c50 => ?_) (fun c50 => ?_)
          · exact absurd ((nI_leI (by omega) (by omega)).mp c50) (by omega)
          refine wp_aload_n d_Model_fill_53 rfl rfl ?_
          refine wp_iload_n d_Model_fill_54 rfl rfl ?_
          refine wp_iload d_Model_fill_55 rfl ?_
          refine wx_callV d_Model_fill_57 cv_Model_93 cd_Model_unit ⟨by decide, by decide⟩ (cm_unit hM hd hi2) hM.obj rfl rfl (Nat.le_of_ble_eq_true rfl) (Nat.le_of_ble_eq_true rfl) (Nat.le_of_ble_eq_true rfl) (fun E1 μ1 hq => hq.elim) (fun v1 μ1 hq => ?_)
          obtain ⟨rfl, rfl⟩ := hq
          refine wp_istore d_Model_fill_60 (by decide) ?_
          refine wp_aload_n d_Model_fill_62 rfl rfl ?_
          refine wp_iload_n d_Model_fill_63 rfl rfl ?_
          refine wp_iload d_Model_fill_64 rfl ?_
          refine wx_callV d_Model_fill_66 cv_Model_96 cd_Model_usable ⟨by decide, by decide⟩ (cm_usable hM hR hc hu) hM.obj rfl rfl (Nat.le_of_ble_eq_true rfl) (Nat.le_of_ble_eq_true rfl) (Nat.le_of_ble_eq_true rfl) (fun E1 μ1 hq => hq.elim) (fun v1 μ1 hq => ?_)
          obtain ⟨rfl, rfl⟩ := hq
          refine wp_if_ne (tgt := 78) d_Model_fill_69 (by decide) (fun c69 => ?_) (fun c69 => ?_)
          · rw [if_pos (ifz c69)] at hQ
            refine wp_aload_n d_Model_fill_78 rfl rfl ?_
            refine wp_get d_Model_fill_79 fl_Model_7 hM.obj (by rfl) ?_
            refine wp_aload_n d_Model_fill_82 rfl rfl ?_
            refine wp_iload d_Model_fill_83 rfl ?_
            refine wp_iload_n d_Model_fill_85 rfl rfl ?_
            refine wx_callV d_Model_fill_86 cv_Model_100 cd_Model_cell ⟨by decide, by decide⟩ (cm_cell G _ (ma 0) (un d i) o) hM.obj rfl rfl (Nat.le_of_ble_eq_true rfl) (Nat.le_of_ble_eq_true rfl) (Nat.le_of_ble_eq_true rfl) (fun E1 μ1 hq => hq.elim) (fun v1 μ1 hq => ?_)
            obtain ⟨rfl, rfl⟩ := hq
            refine wm_ald (i := 1) (n := 361) hM (by decide) (by decide) rfl rfl d_Model_fill_89 (by first | with_reducible exact ixc0 | with_reducible exact ixc1 | with_reducible exact ixc360 | with_reducible rfl | with_reducible exact ix4 _ _ | with_reducible exact ix21 _ | with_reducible exact ix2 _ | with_reducible exact ix4a _ | assumption) (by omega) ?_
            refine wp_if_eq (tgt := 96) d_Model_fill_90 (by decide) (fun c90 => ?_) (fun c90 => ?_)
            · rw [hen.kd] at c90
              rw [if_pos c90] at hQ
              refine wp_iload d_Model_fill_96 rfl ?_
              refine wp_if_ne (tgt := 117) d_Model_fill_98 (by decide) (fun c98 => ?_) (fun c98 => ?_)
              · have i0 : 0 < i := Nat.pos_of_ne_zero (fun z => c98 (by rw [z]; rfl))
                have hu0 := vr_un hd (i := 0) (by omega)
                have hE := hR.en (un d 0) o hu0 ho
                rw [hf1 i0] at hE
                have hb0 := hR.p8 (un d 0) o hu0 ho
                rw [hf1 i0] at hb0
                refine wp_aload_n d_Model_fill_117 rfl rfl ?_
                refine wp_aload_n d_Model_fill_118 rfl rfl ?_
                refine wp_aload_n d_Model_fill_119 rfl rfl ?_
                refine wp_iload_n d_Model_fill_120 rfl rfl ?_
                refine wp_iconst (v := 0) d_Model_fill_121 (by decide) ?_
                refine wx_callV d_Model_fill_122 cv_Model_93 cd_Model_unit ⟨by decide, by decide⟩ (cm_unit hM hd (i := 0) (by omega)) hM.obj rfl rfl (Nat.le_of_ble_eq_true rfl) (Nat.le_of_ble_eq_true rfl) (Nat.le_of_ble_eq_true rfl) (fun E1 μ1 hq => hq.elim) (fun v1 μ1 hq => ?_)
                obtain ⟨rfl, rfl⟩ := hq
                refine wp_iload_n d_Model_fill_125 rfl rfl ?_
                refine wx_callV d_Model_fill_126 cv_Model_100 cd_Model_cell ⟨by decide, by decide⟩ (cm_cell G _ (ma 0) (un d 0) o) hM.obj rfl rfl (Nat.le_of_ble_eq_true rfl) (Nat.le_of_ble_eq_true rfl) (Nat.le_of_ble_eq_true rfl) (fun E1 μ1 hq => hq.elim) (fun v1 μ1 hq => ?_)
                obtain ⟨rfl, rfl⟩ := hq
                refine wp_aload_n d_Model_fill_129 rfl rfl ?_
                refine wp_iload d_Model_fill_130 rfl ?_
                refine wp_iload_n d_Model_fill_132 rfl rfl ?_
                refine wx_callV d_Model_fill_133 cv_Model_100 cd_Model_cell ⟨by decide, by decide⟩ (cm_cell G _ (ma 0) (un d i) o) hM.obj rfl rfl (Nat.le_of_ble_eq_true rfl) (Nat.le_of_ble_eq_true rfl) (Nat.le_of_ble_eq_true rfl) (fun E1 μ1 hq => hq.elim) (fun v1 μ1 hq => ?_)
                obtain ⟨rfl, rfl⟩ := hq
                refine wx_callV d_Model_fill_136 cv_Model_103 cd_Model_copy ⟨by decide, by decide⟩ (cm_copy hM (fr := 60 * un d 0 + o) (to := 60 * un d i + o) (by omega) (by omega)) hM.obj rfl rfl (Nat.le_of_ble_eq_true rfl) (Nat.le_of_ble_eq_true rfl) (Nat.le_of_ble_eq_true rfl) (fun E1 μ2 hq => hq.elim) (fun v1 μ2 hq => ?_)
                obtain ⟨rfl, τ2, hM, hCP⟩ := hq
                refine wp_iinc d_Model_fill_139 rfl rfl (by decide) ?_
                refine wp_iinc d_Model_fill_142 rfl rfl (by decide) ?_
                refine wp_goto (tgt := 43) d_Model_fill_145 (by decide) ?_
                refine WP.loc [(0, .ref (ma 0)), (1, .int (nI c)), (2, .int (nI o)), (3, .int (nI d)), (4, .int (nI (k + 1))), (5, .int (nI (i + 1)))] (by rw [← nI_1 i, ← nI_1 k]; rfl) (ih (i + 1) (k + 1) fv τ2 _ _ Q (by omega) (by omega) hM (hR.copy hu ho hCP hE hb0) (by rw [hCP.1 0 (Or.inl rfl)]; exact h00) (fun z => absurd z (by omega)) (fun _ => ?_) hQ)
                rw [va_up_ne _ _ (fun z => absurd (vr_inj hd (by omega) hi2 (show un d 0 = un d i by unfold eR at z; omega)) (by omega))]
                exact hf1 i0
              · obtain rfl : i = 0 := (nI_eq (b := 0) (by omega) (by omega)).mp c98
                rw [hf0 rfl] at hQ
                refine wp_aload_n d_Model_fill_101 rfl rfl ?_
                refine wp_get d_Model_fill_102 fl_Model_7 hM.obj (by rfl) ?_
                refine wp_aload_n d_Model_fill_105 rfl rfl ?_
                refine wp_iload d_Model_fill_106 rfl ?_
                refine wp_iload_n d_Model_fill_108 rfl rfl ?_
                refine wx_callV d_Model_fill_109 cv_Model_100 cd_Model_cell ⟨by decide, by decide⟩ (cm_cell G _ (ma 0) (un d 0) o) hM.obj rfl rfl (Nat.le_of_ble_eq_true rfl) (Nat.le_of_ble_eq_true rfl) (Nat.le_of_ble_eq_true rfl) (fun E1 μ1 hq => hq.elim) (fun v1 μ1 hq => ?_)
                obtain ⟨rfl, rfl⟩ := hq
                refine wp_iconst (v := 3) d_Model_fill_112 (by decide) ?_
                refine wm_ast (i := 1) (n := 361) hM (by decide) (by decide) rfl rfl d_Model_fill_113 (by first | with_reducible exact ixc0 | with_reducible exact ixc1 | with_reducible exact ixc360 | with_reducible rfl | with_reducible exact ix4 _ _ | with_reducible exact ix21 _ | with_reducible exact ix2 _ | with_reducible exact ix4a _ | assumption) (by omega) (fun μ1 hM => ?_)
                refine wp_goto (tgt := 139) d_Model_fill_114 (by decide) ?_
                refine wp_iinc d_Model_fill_139 rfl rfl (by decide) ?_
                refine wp_iinc d_Model_fill_142 rfl rfl (by decide) ?_
                refine wp_goto (tgt := 43) d_Model_fill_145 (by decide) ?_
                refine WP.loc [(0, .ref (ma 0)), (1, .int (nI c)), (2, .int (nI o)), (3, .int (nI d)), (4, .int (nI (k + 1))), (5, .int (nI (0 + 1)))] (by rw [← nI_1 k]; rfl) (ih (0 + 1) (k + 1) vJunk _ _ _ Q (by omega) (by omega) hM (hR.kind3 hu ho) h00 (fun z => absurd z (by omega)) (fun _ => va_up_self _ _ _) hQ)
            · rw [hen.kd] at c90
              rw [if_neg c90] at hQ
              refine wp_goto (tgt := 142) d_Model_fill_93 (by decide) ?_
              refine wp_iinc d_Model_fill_142 rfl rfl (by decide) ?_
              refine wp_goto (tgt := 43) d_Model_fill_145 (by decide) ?_
              refine WP.loc [(0, .ref (ma 0)), (1, .int (nI c)), (2, .int (nI o)), (3, .int (nI d)), (4, .int (nI k)), (5, .int (nI (i + 1)))] (by rw [← nI_1 i]; rfl) (ih (i + 1) k _ τ1 _ _ Q (by omega) (by omega) hM hR h00 (fun z => absurd z (by omega)) (fun _ => ?_) hQ)
              by_cases e : i = 0
              · rw [if_pos e, e]
              · rw [if_neg e]; exact hf1 (by omega)
          · rw [if_neg (ifz' c69)] at hQ
            refine wp_aload_n d_Model_fill_72 rfl rfl ?_
            refine wp_iconst (v := 2) d_Model_fill_73 (by decide) ?_
            refine wx_callV d_Model_fill_74 cv_Model_114 cd_Model_fail ⟨by decide, by decide⟩ (cm_fail hM 2) hM.obj rfl rfl (Nat.le_of_ble_eq_true rfl) (Nat.le_of_ble_eq_true rfl) (Nat.le_of_ble_eq_true rfl) (fun E1 μ3 hq => hq.elim) (fun v1 μ3 hq => ?_)
            obtain ⟨rfl, hM⟩ := hq
            exact wp_iret d_Model_fill_77 rfl (by decide) (by decide) (hQ _ _ ⟨_, _, rfl, hM, hR.f0 _, rfl, fun z => absurd z (show ¬ 2 = 0 by decide)⟩)
      refine wp_istore_n d_Model_fill_36 rfl (by decide) ?_
      refine wp_iconst (v := 0) d_Model_fill_37 (by decide) ?_
      refine wp_istore d_Model_fill_38 (by decide) ?_
      refine wp_iconst (v := 0) d_Model_fill_40 (by decide) ?_
      refine wp_istore d_Model_fill_41 (by decide) ?_
      exact WP.loc [(0, .ref (ma 0)), (1, .int (nI c)), (2, .int (nI o)), (3, .int (nI d)), (4, .int (nI 0)), (5, .int (nI 0))] rfl (WP.widen (Nat.le_of_ble_eq_true rfl) (Nat.le_of_ble_eq_true rfl) (loop (ln d) 0 0 vJunk τ σ _ _ (Nat.zero_add _) (Nat.le_refl _) hM hR h00 (fun _ => rfl) (fun z => absurd z (by omega)) (fun _ _ h => h)))
    · rw [S_fill, ha, hb, if_pos h]
      dsimp only
      refine wp_if_eq (tgt := 30) d_Model_fill_21 (by decide) (fun z9 => absurd z9 (by decide)) (fun _ => ?_)
      refine wp_aload_n d_Model_fill_24 rfl rfl ?_
      refine wp_iconst (v := 1) d_Model_fill_25 (by decide) ?_
      refine wx_callV d_Model_fill_26 cv_Model_114 cd_Model_fail ⟨by decide, by decide⟩ (cm_fail hM _) hM.obj rfl rfl (Nat.le_of_ble_eq_true rfl) (Nat.le_of_ble_eq_true rfl) (Nat.le_of_ble_eq_true rfl) (fun E1 μ9 hq => hq.elim) (fun v1 μ9 hq => ?_)
      obtain ⟨rfl, hM⟩ := hq
      exact wp_iret d_Model_fill_29 rfl (by decide) (by decide) ⟨_, 0, rfl, hM, hR.f0 _, rfl, fun z9 => absurd z9 (show ¬ 1 = 0 by decide)⟩
  · rw [S_fill, ha, if_pos h]
    dsimp only
    refine wp_if_ne (tgt := 24) d_Model_fill_11 (by decide) (fun _ => ?_) (fun z9 => absurd z9 (by decide))
    refine wp_aload_n d_Model_fill_24 rfl rfl ?_
    refine wp_iconst (v := 1) d_Model_fill_25 (by decide) ?_
    refine wx_callV d_Model_fill_26 cv_Model_114 cd_Model_fail ⟨by decide, by decide⟩ (cm_fail hM _) hM.obj rfl rfl (Nat.le_of_ble_eq_true rfl) (Nat.le_of_ble_eq_true rfl) (Nat.le_of_ble_eq_true rfl) (fun E1 μ9 hq => hq.elim) (fun v1 μ9 hq => ?_)
    obtain ⟨rfl, hM⟩ := hq
    exact wp_iret d_Model_fill_29 rfl (by decide) (by decide) ⟨_, 0, rfl, hM, hR.f0 _, rfl, fun z9 => absurd z9 (show ¬ 1 = 0 by decide)⟩
set_option maxHeartbeats 4000000 in
set_option maxRecDepth 10000 in
theorem cm_trim (hM : Mx G μ0 μ ma τ) (hR : RP τ σ δ) (x y : Int32) : CT G M_Model_trim [.ref (ma 0), .int x, .int y] μ (PM G μ0 ma (S_trim x y σ δ)) (fun _ _ => False) := by
  refine CT.of (by decide) rfl (Nat.le_of_ble_eq_true rfl) ?_
  refine wp_aload_n d_Model_trim_0 rfl rfl ?_
  refine wp_iconst (v := 0) d_Model_trim_1 (by decide) ?_
  refine wm_put0 hM d_Model_trim_2 fp_Model_82 (fun μ1 hM => ?_)
  refine wp_aload_n d_Model_trim_5 rfl rfl ?_
  refine wp_iload_n d_Model_trim_6 rfl rfl ?_
  refine wp_iconst (v := 4) d_Model_trim_7 (by decide) ?_
  have hR := hR.f0 0
  have h00 : up2 τ 0 0 0 0 0 = 0 := rfl
  generalize up2 τ 0 0 0 = τ at hM hR h00
  refine wx_callV d_Model_trim_8 cv_Model_111 cd_Model_out ⟨by decide, by decide⟩ (cm_out G _ (ma 0) x 4) hM.obj rfl rfl (Nat.le_of_ble_eq_true rfl) (Nat.le_of_ble_eq_true rfl) (Nat.le_of_ble_eq_true rfl) (fun E1 μ1 hq => hq.elim) (fun v1 μ1 hq => ?_)
  obtain ⟨rfl, rfl⟩ := hq
  rcases ar_c (x := x) (y := 4) (n := 4) rfl (by decide) with ⟨c, hc, rfl, ha, h⟩ | ⟨ha, h⟩
  · rw [if_neg h]
    refine wp_if_ne (tgt := 24) d_Model_trim_11 (by decide) (fun z9 => absurd z9 (by decide)) (fun _ => ?_)
    refine wp_aload_n d_Model_trim_14 rfl rfl ?_
    refine wp_iload_n d_Model_trim_15 rfl rfl ?_
    refine wp_bipush (v := 60) d_Model_trim_16 (by decide) ?_
    refine wx_callV d_Model_trim_18 cv_Model_111 cd_Model_out ⟨by decide, by decide⟩ (cm_out G _ (ma 0) y 60) hM.obj rfl rfl (Nat.le_of_ble_eq_true rfl) (Nat.le_of_ble_eq_true rfl) (Nat.le_of_ble_eq_true rfl) (fun E1 μ1 hq => hq.elim) (fun v1 μ1 hq => ?_)
    obtain ⟨rfl, rfl⟩ := hq
    rcases ar_c (x := y) (y := 60) (n := 60) rfl (by decide) with ⟨o, ho, rfl, hb, h⟩ | ⟨hb, h⟩
    · rw [S_trim, ha, hb, if_neg h]
      dsimp only
      refine wp_if_eq (tgt := 30) d_Model_trim_21 (by decide) (fun _ => ?_) (fun z9 => absurd z9 (by decide))
      have outer : ∀ (n p K : Nat) (τ1 σ1 : sg) (μ1 : mu_M) (Q : Option Value → mu_M → Prop), p + n = o + 1 → K ≤ 3 * p → Mx G μ0 μ1 ma τ1 → RP τ1 σ1 δ → τ1 0 0 = 0 → (∀ x μ', PM G μ0 ma (match trS c δ n p K σ1 with | (q, k, σ') => if q = 0 then (0, nI k, σ', δ) else (2, 0, σ', δ)) x μ' → Q x μ') → WP G M_Model_trim (EC G M_Model_trim Q (fun _ _ => False)) [(0, .ref (ma 0)), (1, .int (nI c)), (2, .int (nI o)), (3, .int (nI K)), (4, .int (nI p))] 35 [] μ1 0 0 := by
        intro n
        induction n with
        | zero =>
          intro p K τ1 σ1 μ1 Q hp hK hM hR h00 hQ
          refine wp_iload d_Model_trim_35 rfl ?_
          refine wp_iload_n d_Model_trim_37 rfl rfl ?_
          refine wp_icmp_gt (tgt := 136) d_Model_trim_38 (by decide) (fun c38 => ?_) (fun c38 => ?_)
          · refine wp_iload_n d_Model_trim_136 rfl rfl ?_
            exact wp_iret d_Model_trim_137 rfl (by decide) (by decide) (hQ _ _ ⟨_, _, rfl, hM, hR, h00, fun _ => rfl⟩)
          · exact absurd ((nI_ltI (by omega) (by omega)).mpr (by omega)) c38
        | succ n ih =>
          intro p K τ1 σ1 μ1 Q hp hK hM hR h00 hQ
          have hd := hR.p1 (1 + c) (p % 2) (by omega) (by omega)
          rw [trS] at hQ
          refine wp_iload d_Model_trim_35 rfl ?_
          refine wp_iload_n d_Model_trim_37 rfl rfl ?_
          refine wp_icmp_gt (tgt := 136) d_Model_trim_38 (by decide) (fun c38 => ?_) (fun c38 => ?_)
          · exact absurd ((nI_ltI (by omega) (by omega)).mp c38) (by omega)
          refine wp_aload_n d_Model_trim_41 rfl rfl ?_
          refine wp_iload_n d_Model_trim_42 rfl rfl ?_
          refine wp_iload d_Model_trim_43 rfl ?_
          refine wx_callV d_Model_trim_45 cv_Model_89 cd_Model_rowFor ⟨by decide, by decide⟩ (cm_rowFor hM hR hc (o := p) (by omega)) hM.obj rfl rfl (Nat.le_of_ble_eq_true rfl) (Nat.le_of_ble_eq_true rfl) (Nat.le_of_ble_eq_true rfl) (fun E1 μ1 hq => hq.elim) (fun v1 μ1 hq => ?_)
          obtain ⟨rfl, rfl⟩ := hq
          generalize δ (1 + c) (p % 2) = d at hd hQ ⊢
          have hl := ln_pos d
          have hv := vr_le hd
          have inner : ∀ (m i k : Nat) (τ1 σ1 : sg) (μ1 : mu_M) (Q : Option Value → mu_M → Prop), i + m = ln d → k ≤ i → Mx G μ0 μ1 ma τ1 → RP τ1 σ1 δ → τ1 0 0 = 0 → (∀ x μ', PM G μ0 ma (match (match t1S c p d m i k σ1 with | (q, j, σ') => if q = 0 then trS c δ n (p + 1) (K + j) σ' else (1, K, σ')) with | (q, k, σ') => if q = 0 then (0, nI k, σ', δ) else (2, 0, σ', δ)) x μ' → Q x μ') → WP G M_Model_trim (EC G M_Model_trim Q (fun _ _ => False)) [(0, .ref (ma 0)), (1, .int (nI c)), (2, .int (nI o)), (3, .int (nI (K + k))), (4, .int (nI p)), (5, .int (nI d)), (6, .int (nI i))] 53 [] μ1 0 0 := by
            intro m
            induction m with
            | zero =>
              intro i k τ1 σ1 μ1 Q hi hki hM hR h00 hQ
              refine wp_iload d_Model_trim_53 rfl ?_
              refine wp_aload_n d_Model_trim_55 rfl rfl ?_
              refine wp_iload d_Model_trim_56 rfl ?_
              refine wx_callV d_Model_trim_58 cv_Model_85 cd_Model_length ⟨by decide, by decide⟩ (cm_length G _ (ma 0) (d := d) (by omega)) hM.obj rfl rfl (Nat.le_of_ble_eq_true rfl) (Nat.le_of_ble_eq_true rfl) (Nat.le_of_ble_eq_true rfl) (fun E1 μ1 hq => hq.elim) (fun v1 μ1 hq => ?_)
              obtain ⟨rfl, rfl⟩ := hq
              refine wp_icmp_ge (tgt := 130) d_Model_trim_61 (by decide) (fun c61 => ?_) (fun c61 => ?_)
              · refine wp_iinc d_Model_trim_130 rfl rfl (by decide) ?_
                refine wp_goto (tgt := 35) d_Model_trim_133 (by decide) ?_
                exact WP.loc [(0, .ref (ma 0)), (1, .int (nI c)), (2, .int (nI o)), (3, .int (nI (K + k))), (4, .int (nI (p + 1)))] (by rw [← nI_1 p]; rfl) (ih (p + 1) (K + k) τ1 σ1 _ Q (by omega) (by omega) hM hR h00 hQ)
              · exact absurd ((nI_leI (by omega) (by omega)).mpr (by omega)) c61
            | succ m ihm =>
              intro i k τ1 σ1 μ1 Q hi hki hM hR h00 hQ
              have hi2 : i < ln d := by omega
              have hu := vr_un hd hi2
              have hkd := (hR.en (un d i) p hu (by omega)).kd
              rw [t1S] at hQ
              refine wp_iload d_Model_trim_53 rfl ?_
              refine wp_aload_n d_Model_trim_55 rfl rfl ?_
              refine wp_iload d_Model_trim_56 rfl ?_
              refine wx_callV d_Model_trim_58 cv_Model_85 cd_Model_length ⟨by decide, by decide⟩ (cm_length G _ (ma 0) (d := d) (by omega)) hM.obj rfl rfl (Nat.le_of_ble_eq_true rfl) (Nat.le_of_ble_eq_true rfl) (Nat.le_of_ble_eq_true rfl) (fun E1 μ1 hq => hq.elim) (fun v1 μ1 hq => ?_)
              obtain ⟨rfl, rfl⟩ := hq
              refine wp_icmp_ge (tgt := 130) d_Model_trim_61 (by decide) (fun c61 => ?_) (fun c61 => ?_)
              · exact absurd ((nI_leI (by omega) (by omega)).mp c61) (by omega)
              refine wp_aload_n d_Model_trim_64 rfl rfl ?_
              refine wp_iload d_Model_trim_65 rfl ?_
              refine wp_iload d_Model_trim_67 rfl ?_
              refine wx_callV d_Model_trim_69 cv_Model_93 cd_Model_unit ⟨by decide, by decide⟩ (cm_unit hM hd hi2) hM.obj rfl rfl (Nat.le_of_ble_eq_true rfl) (Nat.le_of_ble_eq_true rfl) (Nat.le_of_ble_eq_true rfl) (fun E1 μ1 hq => hq.elim) (fun v1 μ1 hq => ?_)
              obtain ⟨rfl, rfl⟩ := hq
              refine wp_istore d_Model_trim_72 (by decide) ?_
              refine wp_aload_n d_Model_trim_74 rfl rfl ?_
              refine wp_iload_n d_Model_trim_75 rfl rfl ?_
              refine wp_iload d_Model_trim_76 rfl ?_
              refine wx_callV d_Model_trim_78 cv_Model_96 cd_Model_usable ⟨by decide, by decide⟩ (cm_usable hM hR hc hu) hM.obj rfl rfl (Nat.le_of_ble_eq_true rfl) (Nat.le_of_ble_eq_true rfl) (Nat.le_of_ble_eq_true rfl) (fun E1 μ1 hq => hq.elim) (fun v1 μ1 hq => ?_)
              obtain ⟨rfl, rfl⟩ := hq
              refine wp_if_ne (tgt := 90) d_Model_trim_81 (by decide) (fun c81 => ?_) (fun c81 => ?_)
              · rw [if_pos (ifz c81)] at hQ
                refine wp_aload_n d_Model_trim_90 rfl rfl ?_
                refine wp_get d_Model_trim_91 fl_Model_7 hM.obj (by rfl) ?_
                refine wp_aload_n d_Model_trim_94 rfl rfl ?_
                refine wp_iload d_Model_trim_95 rfl ?_
                refine wp_iload d_Model_trim_97 rfl ?_
                refine wx_callV d_Model_trim_99 cv_Model_100 cd_Model_cell ⟨by decide, by decide⟩ (cm_cell G _ (ma 0) (un d i) p) hM.obj rfl rfl (Nat.le_of_ble_eq_true rfl) (Nat.le_of_ble_eq_true rfl) (Nat.le_of_ble_eq_true rfl) (fun E1 μ1 hq => hq.elim) (fun v1 μ1 hq => ?_)
                obtain ⟨rfl, rfl⟩ := hq
                refine wm_ald (i := 1) (n := 361) hM (by decide) (by decide) rfl rfl d_Model_trim_102 (by first | with_reducible exact ixc0 | with_reducible exact ixc1 | with_reducible exact ixc360 | with_reducible rfl | with_reducible exact ix4 _ _ | with_reducible exact ix21 _ | with_reducible exact ix2 _ | with_reducible exact ix4a _ | assumption) (by omega) ?_
                refine wp_iconst (v := 4) d_Model_trim_103 (by decide) ?_
                refine wp_icmp_eq (tgt := 110) d_Model_trim_104 (by decide) (fun c104 => ?_) (fun c104 => ?_)
                · rw [hkd] at c104
                  rw [if_pos c104] at hQ
                  refine wp_aload_n d_Model_trim_110 rfl rfl ?_
                  refine wp_get d_Model_trim_111 fl_Model_7 hM.obj (by rfl) ?_
                  refine wp_aload_n d_Model_trim_114 rfl rfl ?_
                  refine wp_iload d_Model_trim_115 rfl ?_
                  refine wp_iload d_Model_trim_117 rfl ?_
                  refine wx_callV d_Model_trim_119 cv_Model_100 cd_Model_cell ⟨by decide, by decide⟩ (cm_cell G _ (ma 0) (un d i) p) hM.obj rfl rfl (Nat.le_of_ble_eq_true rfl) (Nat.le_of_ble_eq_true rfl) (Nat.le_of_ble_eq_true rfl) (fun E1 μ1 hq => hq.elim) (fun v1 μ1 hq => ?_)
                  obtain ⟨rfl, rfl⟩ := hq
                  refine wp_iconst (v := 4) d_Model_trim_122 (by decide) ?_
                  refine wm_ast (i := 1) (n := 361) hM (by decide) (by decide) rfl rfl d_Model_trim_123 (by first | with_reducible exact ixc0 | with_reducible exact ixc1 | with_reducible exact ixc360 | with_reducible rfl | with_reducible exact ix4 _ _ | with_reducible exact ix21 _ | with_reducible exact ix2 _ | with_reducible exact ix4a _ | assumption) (by omega) (fun μ1 hM => ?_)
                  rw [← hkd] at c104
                  rw [show up2 τ1 1 (60 * un d i + p) 4 = τ1 from by rw [← c104, up2_id]] at hM
                  refine wp_iinc d_Model_trim_124 rfl rfl (by decide) ?_
                  refine wp_goto (tgt := 53) d_Model_trim_127 (by decide) ?_
                  exact WP.loc [(0, .ref (ma 0)), (1, .int (nI c)), (2, .int (nI o)), (3, .int (nI (K + k))), (4, .int (nI p)), (5, .int (nI d)), (6, .int (nI (i + 1)))] (by rw [← nI_1 i]; rfl) (ihm (i + 1) k τ1 σ1 _ Q (by omega) (by omega) hM hR h00 hQ)
                · rw [hkd] at c104
                  rw [if_neg c104] at hQ
                  refine wp_iinc d_Model_trim_107 rfl rfl (by decide) ?_
                  refine wp_aload_n d_Model_trim_110 rfl rfl ?_
                  refine wp_get d_Model_trim_111 fl_Model_7 hM.obj (by rfl) ?_
                  refine wp_aload_n d_Model_trim_114 rfl rfl ?_
                  refine wp_iload d_Model_trim_115 rfl ?_
                  refine wp_iload d_Model_trim_117 rfl ?_
                  refine wx_callV d_Model_trim_119 cv_Model_100 cd_Model_cell ⟨by decide, by decide⟩ (cm_cell G _ (ma 0) (un d i) p) hM.obj rfl rfl (Nat.le_of_ble_eq_true rfl) (Nat.le_of_ble_eq_true rfl) (Nat.le_of_ble_eq_true rfl) (fun E1 μ1 hq => hq.elim) (fun v1 μ1 hq => ?_)
                  obtain ⟨rfl, rfl⟩ := hq
                  refine wp_iconst (v := 4) d_Model_trim_122 (by decide) ?_
                  refine wm_ast (i := 1) (n := 361) hM (by decide) (by decide) rfl rfl d_Model_trim_123 (by first | with_reducible exact ixc0 | with_reducible exact ixc1 | with_reducible exact ixc360 | with_reducible rfl | with_reducible exact ix4 _ _ | with_reducible exact ix21 _ | with_reducible exact ix2 _ | with_reducible exact ix4a _ | assumption) (by omega) (fun μ1 hM => ?_)
                  refine wp_iinc d_Model_trim_124 rfl rfl (by decide) ?_
                  refine wp_goto (tgt := 53) d_Model_trim_127 (by decide) ?_
                  exact WP.loc [(0, .ref (ma 0)), (1, .int (nI c)), (2, .int (nI o)), (3, .int (nI (K + (k + 1)))), (4, .int (nI p)), (5, .int (nI d)), (6, .int (nI (i + 1)))] (by rw [← nI_1 i, ← Nat.add_assoc, ← nI_1 (K + k)]; rfl) (ihm (i + 1) (k + 1) _ _ _ Q (by omega) (by omega) hM (hR.kind4 hu (by omega)) h00 hQ)
              · rw [if_neg (ifz' c81)] at hQ
                refine wp_aload_n d_Model_trim_84 rfl rfl ?_
                refine wp_iconst (v := 2) d_Model_trim_85 (by decide) ?_
                refine wx_callV d_Model_trim_86 cv_Model_114 cd_Model_fail ⟨by decide, by decide⟩ (cm_fail hM 2) hM.obj rfl rfl (Nat.le_of_ble_eq_true rfl) (Nat.le_of_ble_eq_true rfl) (Nat.le_of_ble_eq_true rfl) (fun E1 μ3 hq => hq.elim) (fun v1 μ3 hq => ?_)
                obtain ⟨rfl, hM⟩ := hq
                exact wp_iret d_Model_trim_89 rfl (by decide) (by decide) (hQ _ _ ⟨_, _, rfl, hM, hR.f0 _, rfl, fun z => absurd z (show ¬ 2 = 0 by decide)⟩)
          refine wp_istore d_Model_trim_48 (by decide) ?_
          refine wp_iconst (v := 0) d_Model_trim_50 (by decide) ?_
          refine wp_istore d_Model_trim_51 (by decide) ?_
          exact WP.loc [(0, .ref (ma 0)), (1, .int (nI c)), (2, .int (nI o)), (3, .int (nI (K + 0))), (4, .int (nI p)), (5, .int (nI d)), (6, .int (nI 0))] rfl (WP.widen (Nat.le_of_ble_eq_true rfl) (Nat.le_of_ble_eq_true rfl) (inner (ln d) 0 0 τ1 σ1 _ Q (Nat.zero_add _) (Nat.le_refl _) hM hR h00 hQ))
      refine wp_iconst (v := 0) d_Model_trim_30 (by decide) ?_
      refine wp_istore_n d_Model_trim_31 rfl (by decide) ?_
      refine wp_iconst (v := 0) d_Model_trim_32 (by decide) ?_
      refine wp_istore d_Model_trim_33 (by decide) ?_
      exact WP.loc [(0, .ref (ma 0)), (1, .int (nI c)), (2, .int (nI o)), (3, .int (nI 0)), (4, .int (nI 0))] rfl (WP.widen (Nat.le_of_ble_eq_true rfl) (Nat.le_of_ble_eq_true rfl) (outer (o + 1) 0 0 τ σ _ _ (Nat.zero_add _) (Nat.le_refl _) hM hR h00 (fun _ _ h => h)))
    · rw [S_trim, ha, hb, if_pos h]
      dsimp only
      refine wp_if_eq (tgt := 30) d_Model_trim_21 (by decide) (fun z9 => absurd z9 (by decide)) (fun _ => ?_)
      refine wp_aload_n d_Model_trim_24 rfl rfl ?_
      refine wp_iconst (v := 1) d_Model_trim_25 (by decide) ?_
      refine wx_callV d_Model_trim_26 cv_Model_114 cd_Model_fail ⟨by decide, by decide⟩ (cm_fail hM _) hM.obj rfl rfl (Nat.le_of_ble_eq_true rfl) (Nat.le_of_ble_eq_true rfl) (Nat.le_of_ble_eq_true rfl) (fun E1 μ9 hq => hq.elim) (fun v1 μ9 hq => ?_)
      obtain ⟨rfl, hM⟩ := hq
      exact wp_iret d_Model_trim_29 rfl (by decide) (by decide) ⟨_, 0, rfl, hM, hR.f0 _, rfl, fun z9 => absurd z9 (show ¬ 1 = 0 by decide)⟩
  · rw [S_trim, ha, if_pos h]
    dsimp only
    refine wp_if_ne (tgt := 24) d_Model_trim_11 (by decide) (fun _ => ?_) (fun z9 => absurd z9 (by decide))
    refine wp_aload_n d_Model_trim_24 rfl rfl ?_
    refine wp_iconst (v := 1) d_Model_trim_25 (by decide) ?_
    refine wx_callV d_Model_trim_26 cv_Model_114 cd_Model_fail ⟨by decide, by decide⟩ (cm_fail hM _) hM.obj rfl rfl (Nat.le_of_ble_eq_true rfl) (Nat.le_of_ble_eq_true rfl) (Nat.le_of_ble_eq_true rfl) (fun E1 μ9 hq => hq.elim) (fun v1 μ9 hq => ?_)
    obtain ⟨rfl, hM⟩ := hq
    exact wp_iret d_Model_trim_29 rfl (by decide) (by decide) ⟨_, 0, rfl, hM, hR.f0 _, rfl, fun z9 => absurd z9 (show ¬ 1 = 0 by decide)⟩
end MPub2
