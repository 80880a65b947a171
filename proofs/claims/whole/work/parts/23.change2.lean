/-! THE CLASS'S FACE: change -/
section Chg2
variable {G : mt_G} {μ φ : mu_M} {ad : Nat → Nat} {g : dg} {σ : sg} {δ : dg}
theorem Cx.low {μ' : mu_M} {σ' : sg} (h : Cx G μ φ ad g σ δ) (hR : Rp G μ' ad σ' g) (hz : Fz G μ' φ ad) (hs : ∀ i, 48 ≤ i → σ' i = σ i) : Cx G μ' φ ad g σ' δ := by
  obtain ⟨-, -, h3, h4, h5, h6, h7, h8⟩ := h
  refine ⟨hR, hz, fun u o hu ho => ?_, h4, h5, h6, ?_, fun c hc => ?_⟩
  · rw [hs _ (by unfold eR; omega)]; exact h3 u o hu ho
  · rw [hs _ (by omega)]; exact h7
  · rw [hs _ (by omega)]; exact h8 c hc
theorem Cx.inst {μ' : mu_M} {a : Nat} {ep : Int32} {dl : Nat → Nat} (h : Cx G μ φ ad g σ δ) (hR : Rp G μ' ad σ (up2 g 0 6 a)) (hz : Fz G μ' φ ad) (hL : FL G φ a ep dl) : Cx G μ' φ ad (up2 g 0 6 a) (up2 σ 500 0 ep) (va_up δ 0 dl) := by
  obtain ⟨-, -, h3, h4, h5, h6, h7, h8⟩ := h
  refine ⟨⟨fun i hi => ?_, hR.2.1, hR.2.2⟩, hz, fun u o hu ho => ?_, ?_, ?_, ?_, ?_, fun c1 hc1 => ?_⟩
  · rw [hR.1 i hi]; exact congrArg some (sh_congr (up2_n (by omega)) rfl)
  · rw [up2_n (by omega), up2_n (by unfold eR; omega)]; exact h3 u o hu ho
  · rw [up2_s, va_up_ne _ _ (by decide)]; exact h4
  · rw [up2_s, va_up_ne _ _ (by decide)]; exact h5
  · rw [up2_s, va_up_ne _ _ (by decide)]; exact h6
  · rw [up2_s, up2_s, va_up_self, va_up_self, va_up_self]; exact hL
  · rw [up2_n (by omega), up2_n (by omega), va_up_ne _ _ (by omega)]
    exact h8 c1 hc1
theorem Rp.pSeqA {x y z : Int32} {r : sg} (h : Rp G μ ad r g) : Rp G (mu_up μ (ad 3) (.inr (4, [.int x, .int y, .int z]))) ad (up2 (up2 (up2 r 3 0 x) 3 1 y) 3 2 z) g :=
  h.set (by omega) (by rw [sh_seq (by omega) (by omega), up2_s, up2_s, up2_s]; rfl) (fun j hj => by rw [up2_n hj, up2_n hj, up2_n hj]) (fun _ _ => rfl)
def chS (c ch d : Nat) (σ : sg) (δ : dg) : RS :=
  if rcS c d σ δ = true then
    (0, nI (ffS (up2 (up2 (mgS (δ 0 ch) d 30 ch (slS d (σ 500 0 + 1) (ln d) (slS (δ 0 1) (σ 500 0 + 1) (ln (δ 0 1)) (slS (δ 0 0) (σ 500 0 + 1) (ln (δ 0 0)) σ)))) 500 0 (σ 500 0 + 1)) (501 + c) 0 (σ 500 0 + 1)) (va_up (δ 0) ch d) 60),
     up2 (up2 (up2 (up2 (up2 (mgS (δ 0 ch) d 30 ch (slS d (σ 500 0 + 1) (ln d) (slS (δ 0 1) (σ 500 0 + 1) (ln (δ 0 1)) (slS (δ 0 0) (σ 500 0 + 1) (ln (δ 0 0)) σ)))) 500 0 (σ 500 0 + 1)) (501 + c) 0 (σ 500 0 + 1)) 3 0 0) 3 1 (σ 500 0 + 1)) 3 2
      (nI (ffS (up2 (up2 (mgS (δ 0 ch) d 30 ch (slS d (σ 500 0 + 1) (ln d) (slS (δ 0 1) (σ 500 0 + 1) (ln (δ 0 1)) (slS (δ 0 0) (σ 500 0 + 1) (ln (δ 0 0)) σ)))) 500 0 (σ 500 0 + 1)) (501 + c) 0 (σ 500 0 + 1)) (va_up (δ 0) ch d) 60)),
     va_up (va_up δ 0 (va_up (δ 0) ch d)) (1 + c) (va_up (δ 0) ch d))
  else (2, 0, σ, δ)
def S_change (x y r : Int32) (σ : sg) (δ : dg) : RS := match ar x 4, ar y 2 with
  | some c, some ch => if vrI r = true then chS c ch r.toNatClampNeg σ δ else (1, 0, σ, δ)
  | _, _ => (1, 0, σ, δ)
theorem vrI_ok {x : Int32} (h : vrI x = true) : ∃ d, x = nI d ∧ vr d = true ∧ x.toNatClampNeg = d := by
  unfold vrI at h
  split at h
  · cases h
  next hx =>
    have h1 : ¬ x < 1 := fun q => hx (Or.inl q)
    have h2 : x ≤ 666 := Int32.not_lt.mp (fun q => hx (Or.inr q))
    obtain ⟨d, hd, rfl⟩ := nI_of2 (n := 666) (M := 666) (by decide) (fun q => h1 (Int32.lt_trans q (by decide))) h2
    rw [nI_clamp (by omega)] at h
    exact ⟨d, rfl, h, nI_clamp (by omega)⟩
set_option maxHeartbeats 4000000 in
set_option maxRecDepth 10000 in
theorem ct_change (hC : Cx G μ φ ad g σ δ) (hI : PI σ δ) (x y r : Int32) : CT G M_Log_change [.ref (ad 0), .int x, .int y, .int r] μ (PostC G φ ad (S_change x y r σ δ)) (PxC G φ ad ex2 (S_change x y r σ δ)) := by
  have hR := hC.R
  refine CT.of (by decide) rfl (Nat.le_of_ble_eq_true rfl) ?_
  refine wp_iload_n d_Log_change_0 rfl rfl ?_
  refine wp_iconst (v := 3) d_Log_change_1 (by decide) ?_
  refine wx_callS d_Log_change_2 cs_Log_65 cd_Log_requireWithin ⟨by decide, by decide⟩ (ct_requireWithin G μ x 3) rfl rfl (Nat.le_of_ble_eq_true rfl) (Nat.le_of_ble_eq_true rfl) (Nat.le_of_ble_eq_true rfl) (fun E1 μ1 hq => WX.out rfl (no_hd _) (Nat.le_of_ble_eq_true rfl) (Nat.le_of_ble_eq_true rfl) ?_) (fun v1 μ1 hq => ?_)
  · obtain ⟨rfl, rfl, hx⟩ := hq
    rw [S_change, ar_no (n := 3) rfl (by omega) hx]
    exact ⟨Nat.one_ne_zero, rfl, g, φ, hC, sub.rf φ⟩
  obtain ⟨rfl, rfl, h1, h2⟩ := hq
  obtain ⟨c, hc, rfl⟩ := ar_ok (n := 3) rfl (by omega) h1 h2
  refine wp_iload_n d_Log_change_5 rfl rfl ?_
  refine wp_iconst (v := 1) d_Log_change_6 (by decide) ?_
  refine wx_callS d_Log_change_7 cs_Log_65 cd_Log_requireWithin ⟨by decide, by decide⟩ (ct_requireWithin G μ1 y 1) rfl rfl (Nat.le_of_ble_eq_true rfl) (Nat.le_of_ble_eq_true rfl) (Nat.le_of_ble_eq_true rfl) (fun E1 μ2 hq => WX.out rfl (no_hd _) (Nat.le_of_ble_eq_true rfl) (Nat.le_of_ble_eq_true rfl) ?_) (fun v1 μ2 hq => ?_)
  · obtain ⟨rfl, rfl, hx⟩ := hq
    rw [S_change, ar_nI hc (by omega), ar_no (n := 1) rfl (by omega) hx]
    exact ⟨Nat.one_ne_zero, rfl, g, φ, hC, sub.rf φ⟩
  obtain ⟨rfl, rfl, h1, h2⟩ := hq
  obtain ⟨ch, hch, rfl⟩ := ar_ok (n := 1) rfl (by omega) h1 h2
  have hS : S_change (nI c) (nI ch) r σ δ = if vrI r = true then chS c ch r.toNatClampNeg σ δ else (1, 0, σ, δ) := by rw [S_change, ar_nI hc (by omega), ar_nI hch (by omega)]
  rw [hS]
  refine wp_iload_n d_Log_change_10 rfl rfl ?_
  refine wx_callS d_Log_change_11 cs_Log_122 cd_Log_requireRow ⟨by decide, by decide⟩ (ct_requireRow G μ2 r) rfl rfl (Nat.le_of_ble_eq_true rfl) (Nat.le_of_ble_eq_true rfl) (Nat.le_of_ble_eq_true rfl) (fun E1 μ3 hq => WX.out rfl (no_hd _) (Nat.le_of_ble_eq_true rfl) (Nat.le_of_ble_eq_true rfl) ?_) (fun v1 μ3 hq => ?_)
  · obtain ⟨rfl, hs, hr⟩ := hq
    rw [if_neg (by rw [hr]; decide)]
    exact ⟨Nat.one_ne_zero, rfl, g, φ, hC.mono hs, sub.rf φ⟩
  obtain ⟨rfl, hs3, hr⟩ := hq
  rw [if_pos hr]
  obtain ⟨d, rfl, hd, hcl⟩ := vrI_ok hr
  rw [hcl]
  have hC3 := hC.mono hs3
  have hR3 := hC3.R
  have hdl : ∀ ch, ch < 2 → vr (δ 0 ch) = true := fun ch hch => hI.1 0 ch (by omega) hch
  refine wp_aload_n d_Log_change_14 rfl rfl ?_
  refine wp_get d_Log_change_15 fl_Log_17 (by first | exact hR3.log | exact hR3.car) (by rfl) ?_
  refine wp_iload_n d_Log_change_18 rfl rfl ?_
  refine wp_aald d_Log_change_19 (t := 4) (C := "SharedLog$Client") rfl (by first | exact hR3.log | exact hR3.car) (by rfl) (by assumption) (by omega) (by rfl) ?_
  refine wp_astore d_Log_change_20 (by decide) ?_
  refine wp_aload_n d_Log_change_22 rfl rfl ?_
  refine wp_get d_Log_change_23 fl_Log_55 (by first | exact hR3.log | exact hR3.car) (by rfl) ?_
  refine wp_astore d_Log_change_26 (by decide) ?_
  refine wp_iload_n d_Log_change_28 rfl rfl ?_
  refine wx_callS d_Log_change_29 cs_Log_48 cd_Log_rowOf ⟨by decide, by decide⟩ (ct_rowOf G μ3 hd) rfl rfl (Nat.le_of_ble_eq_true rfl) (Nat.le_of_ble_eq_true rfl) (Nat.le_of_ble_eq_true rfl) (fun E1 μ4 hq => WX.out rfl (no_hd _) (Nat.le_of_ble_eq_true rfl) (Nat.le_of_ble_eq_true rfl) ?_) (fun v1 μ4 hq => ?_)
  · exact hq.elim
  obtain ⟨b, fb, rfl, hBb, hbn, hμ4, hfb⟩ := hq
  have hs4 : sub μ3 μ4 := by rw [hμ4]; exact sub_up hbn
  have hb4 : μ4 b = some (.inl (G.2.2.1 0, ln d, .inl fb)) := by rw [hμ4, mu_up_s]
  have hC4 := hC3.mono hs4
  refine wp_astore d_Log_change_32 (by decide) ?_
  refine wp_aload_n d_Log_change_34 rfl rfl ?_
  refine wp_aload d_Log_change_35 rfl ?_
  refine wp_aload d_Log_change_37 rfl ?_
  refine wx_callV d_Log_change_39 cv_Log_126 cd_Log_requireChangeable ⟨by decide, by decide⟩ (ct_requireChangeable hC4 hc hdl hd ⟨fb, hb4, hfb⟩) (by exact hC4.R.log) rfl rfl (Nat.le_of_ble_eq_true rfl) (Nat.le_of_ble_eq_true rfl) (Nat.le_of_ble_eq_true rfl) (fun E1 μ5 hq => WX.out rfl (no_hd _) (Nat.le_of_ble_eq_true rfl) (Nat.le_of_ble_eq_true rfl) ?_) (fun v1 μ5 hq => ?_)
  · obtain ⟨rfl, rfl, hrc⟩ := hq
    rw [chS, if_neg (by rw [hrc]; decide)]
    exact ⟨by show 2 ≠ 0; decide, rfl, g, φ, hC4, sub.rf φ⟩
  obtain ⟨rfl, rfl, hrc⟩ := hq
  rw [chS, if_pos hrc]
  obtain ⟨a0, a1, f0, f1, l0, l1, l2, l3, l4⟩ := hC.2.2.2.2.2.2.1
  refine wp_aload d_Log_change_42 rfl ?_
  refine wp_iload_n d_Log_change_44 rfl rfl ?_
  refine wp_aload d_Log_change_45 rfl ?_
  refine wx_callV d_Log_change_47 cv_Log_130 cd_Layout_next ⟨by decide, by decide⟩ (ct_Layout_next _ a0 a1 b _ (nI ch) (hC4.at l0)) (by exact hC4.at l0) rfl rfl (Nat.le_of_ble_eq_true rfl) (Nat.le_of_ble_eq_true rfl) (Nat.le_of_ble_eq_true rfl) (fun E1 μ6 hq => WX.out rfl (no_hd _) (Nat.le_of_ble_eq_true rfl) (Nat.le_of_ble_eq_true rfl) ?_) (fun v1 μ6 hq => ?_)
  · exact hq.elim
  obtain ⟨q, rfl, hBq, hqn, hμ6⟩ := hq
  have hs6 : sub μ5 μ6 := by rw [hμ6]; exact sub_up hqn
  have hq6 : μ6 q = some (.inr (3, [.int (σ 500 0 + 1), .ref (if nI ch = 0 then b else a0), .ref (if nI ch = 0 then a1 else b)])) := by rw [hμ6, mu_up_s]
  have hb6 : μ6 b = some (.inl (G.2.2.1 0, ln d, .inl fb)) := hs6 _ _ hb4
  have hb2 : μ2 b = none := by
    cases hz : μ2 b with
    | none => rfl
    | some z => rw [hs3 _ _ hz] at hbn; cases hbn
  have hq2 : μ2 q = none := by
    cases hz : μ2 q with
    | none => rfl
    | some z => rw [hs4 _ _ (hs3 _ _ hz)] at hqn; cases hqn
  obtain ⟨hC6, hφ⟩ := hC.freeze ((hs3.tr hs4).tr hs6)
  generalize hφ3 : frz μ2 μ6 φ = φ3 at hC6 hφ
  have hbφ : φ3 b = some (.inl (G.2.2.1 0, ln d, .inl fb)) := by rw [← hφ3]; exact (frz_n hb2).trans hb6
  have hqφ : φ3 q = some (.inr (3, [.int (σ 500 0 + 1), .ref (if nI ch = 0 then b else a0), .ref (if nI ch = 0 then a1 else b)])) := by rw [← hφ3]; exact (frz_n hq2).trans hq6
  have hRb : RwA G φ3 b d := ⟨fb, hbφ, hfb⟩
  have hLq : FL G φ3 q (σ 500 0 + 1) (va_up (δ 0) ch d) := by
    rcases (show ch = 0 ∨ ch = 1 by omega) with rfl | rfl
    · refine ⟨b, a1, fb, f1, hqφ, ?_, ?_, ?_, ?_⟩
      · rw [va_up_self]; exact hbφ
      · rw [va_up_ne _ _ (by decide)]; exact hφ _ _ l2
      · rw [va_up_self]; exact hfb
      · rw [va_up_ne _ _ (by decide)]; exact l4
    · refine ⟨a0, b, f0, fb, hqφ, ?_, ?_, ?_, ?_⟩
      · rw [va_up_ne _ _ (by decide)]; exact hφ _ _ l1
      · rw [va_up_self]; exact hbφ
      · rw [va_up_ne _ _ (by decide)]; exact l3
      · rw [va_up_self]; exact hfb
  have hvd : ∀ k, k < 2 → vr (va_up (δ 0) ch d k) = true := by
    intro k hk
    by_cases e : k = ch
    · subst e; rw [va_up_self]; exact hd
    · rw [va_up_ne _ _ e]; exact hdl k hk
  refine wp_astore d_Log_change_50 (by decide) ?_
  refine wp_aload_n d_Log_change_52 rfl rfl ?_
  refine wp_aload d_Log_change_53 rfl ?_
  refine wp_aload d_Log_change_55 rfl ?_
  refine wp_aload d_Log_change_57 rfl ?_
  refine wp_get d_Log_change_59 fl_Log_119 (by exact hC6.at hqφ) (by rfl) ?_
  refine wx_callV d_Log_change_62 cv_Log_134 cd_Log_sealAll ⟨by decide, by decide⟩ (ct_sealAll hC6 (FL.mono ⟨a0, a1, f0, f1, l0, l1, l2, l3, l4⟩ hφ) hdl hd hRb) (by exact hC6.R.log) rfl rfl (Nat.le_of_ble_eq_true rfl) (Nat.le_of_ble_eq_true rfl) (Nat.le_of_ble_eq_true rfl) (fun E1 μ7 hq => WX.out rfl (no_hd _) (Nat.le_of_ble_eq_true rfl) (Nat.le_of_ble_eq_true rfl) ?_) (fun v1 μ7 hq => ?_)
  · exact hq.elim
  obtain ⟨rfl, hC7⟩ := hq
  refine wp_aload_n d_Log_change_65 rfl rfl ?_
  refine wp_aload d_Log_change_66 rfl ?_
  refine wp_iload_n d_Log_change_68 rfl rfl ?_
  refine wx_callV d_Log_change_69 cv_Log_138 cd_Layout_chain ⟨by decide, by decide⟩ (ct_chain G μ7 _ a0 a1 _ _ (hC7.at (hφ _ _ l0))) (by exact hC7.at (hφ _ _ l0)) rfl rfl (Nat.le_of_ble_eq_true rfl) (Nat.le_of_ble_eq_true rfl) (Nat.le_of_ble_eq_true rfl) (fun E1 μ8 hq => WX.out rfl (no_hd _) (Nat.le_of_ble_eq_true rfl) (Nat.le_of_ble_eq_true rfl) ?_) (fun v1 μ8 hq => ?_)
  · exact hq.elim
  obtain ⟨rfl, rfl⟩ := hq
  have hRa : RwA G φ3 (if nI ch = 0 then a0 else a1) (δ 0 ch) := by
    rcases (show ch = 0 ∨ ch = 1 by omega) with rfl | rfl
    · exact ⟨f0, hφ _ _ l1, l3⟩
    · exact ⟨f1, hφ _ _ l2, l4⟩
  refine wp_aload d_Log_change_72 rfl ?_
  refine wp_iload_n d_Log_change_74 rfl rfl ?_
  refine wx_callV d_Log_change_75 cv_Log_141 cd_Log_merge ⟨by decide, by decide⟩ (ct_merge hC7 (hdl ch hch) hd hch hRa hRb) (by exact hC7.R.log) rfl rfl (Nat.le_of_ble_eq_true rfl) (Nat.le_of_ble_eq_true rfl) (Nat.le_of_ble_eq_true rfl) (fun E1 μ9 hq => WX.out rfl (no_hd _) (Nat.le_of_ble_eq_true rfl) (Nat.le_of_ble_eq_true rfl) ?_) (fun v1 μ9 hq => ?_)
  · exact hq.elim
  obtain ⟨rfl, g9, hC9, hg0, hgc⟩ := hq
  generalize mgS (δ 0 ch) d 30 ch _ = σ9 at hC9 ⊢
  have hR9 := hC9.R
  refine wp_aload_n d_Log_change_78 rfl rfl ?_
  refine wp_aload d_Log_change_79 rfl ?_
  refine wp_put d_Log_change_81 fp_Log_55 (by exact hR9.log) (by exact hC9.B (by omega)) (by rfl) (by rfl) (Nat.le_of_ble_eq_true rfl) ?_
  have hC10 := hC9.inst (hR9.pIns (x := q)) (hC9.z.up (by omega)) hLq
  have hR10 := hC10.R
  refine wp_aload d_Log_change_84 rfl ?_
  refine wp_aload d_Log_change_86 rfl ?_
  refine wp_put d_Log_change_88 fp_Log_80 (by exact hR10.cli hc) (by exact hC10.B (by omega)) (by rfl) (by rfl) (Nat.le_of_ble_eq_true rfl) ?_
  have hC11 := hC10.know hc (hR10.pKn (x := q) hc) (hC10.z.up (by omega)) hLq
  have hR11 := hC11.R
  refine wp_aload_n d_Log_change_91 rfl rfl ?_
  refine wp_get d_Log_change_92 fl_Log_24 (by first | exact hR11.log | exact hC11.at hqφ) (by rfl) ?_
  refine wp_aload d_Log_change_95 rfl ?_
  refine wp_get d_Log_change_97 fl_Log_119 (by first | exact hR11.log | exact hC11.at hqφ) (by rfl) ?_
  refine wp_aload_n d_Log_change_100 rfl rfl ?_
  have e0 : (va_up (va_up δ 0 (va_up (δ 0) ch d)) (1 + c) (va_up (δ 0) ch d)) 0 = va_up (δ 0) ch d := by rw [va_up_ne _ _ (by omega), va_up_self]
  refine wx_callV d_Log_change_101 cv_Log_145 cd_Log_firstFreeOffset ⟨by decide, by decide⟩ (ct_firstFreeOffset hC11 (fun k hk => by rw [e0]; exact hvd k hk)) (by exact hR11.log) rfl rfl (Nat.le_of_ble_eq_true rfl) (Nat.le_of_ble_eq_true rfl) (Nat.le_of_ble_eq_true rfl) (fun E1 μ12 hq => WX.out rfl (no_hd _) (Nat.le_of_ble_eq_true rfl) (Nat.le_of_ble_eq_true rfl) ?_) (fun v1 μ12 hq => ?_)
  · exact hq.elim
  obtain ⟨rfl, rfl⟩ := hq
  rw [e0]
  refine wx_callV d_Log_change_104 cv_Log_149 cd_Seq_restart ⟨by decide, by decide⟩ (ct_restart G _ _ _ _ _ _ _ hR11.seq (hC11.B (by omega))) (by exact hR11.seq) rfl rfl (Nat.le_of_ble_eq_true rfl) (Nat.le_of_ble_eq_true rfl) (Nat.le_of_ble_eq_true rfl) (fun E1 μ13 hq => WX.out rfl (no_hd _) (Nat.le_of_ble_eq_true rfl) (Nat.le_of_ble_eq_true rfl) ?_) (fun v1 μ13 hq => ?_)
  · exact hq.elim
  obtain ⟨rfl, rfl⟩ := hq
  have hC13 := hC11.low (hR11.pSeqA (x := 0) (y := σ 500 0 + 1) (z := nI (ffS (up2 (up2 σ9 500 0 (σ 500 0 + 1)) (501 + c) 0 (σ 500 0 + 1)) (va_up (δ 0) ch d) 60))) (hC11.z.up (by omega)) (fun i hi => by rw [up2_n (by omega), up2_n (by omega), up2_n (by omega)])
  have hR13 := hC13.R
  refine wp_aload_n d_Log_change_107 rfl rfl ?_
  refine wp_get d_Log_change_108 fl_Log_24 (by first | exact hR13.log | exact hR13.seq) (by rfl) ?_
  refine wp_get d_Log_change_111 fl_Log_152 (by first | exact hR13.log | exact hR13.seq) (by rfl) ?_
  refine wp_iret d_Log_change_114 rfl (Nat.le_of_ble_eq_true rfl) (Nat.le_of_ble_eq_true rfl) ⟨rfl, ?_, _, φ3, hC13, hφ⟩
  rw [up2_s, va_up_self]
end Chg2
