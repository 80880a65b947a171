/-! THE CLASS'S FACE: commit -/
def vCom (σ : sg) (c : Nat) : Nat → Int32 := fun i => if i = 0 then 2 else if i = 1 then nI (pcN (σ (40 + c)) 4) else if i < 6 then σ (32 + c) (i - 2) else if i < 10 then σ (36 + c) (i - 6) else if i < 14 then σ (40 + c) (i - 10) else if i < 18 then σ (44 + c) (i - 14) else 0
theorem vCom_ok (σ : sg) (c : Nat) : ∀ j, j < 4 → cp (σ (32 + c)) 4 j = vCom σ c (2 + j) ∧ cp (σ (36 + c)) 4 j = vCom σ c (6 + j) ∧ cp (σ (40 + c)) 4 j = vCom σ c (10 + j) ∧ cp (σ (44 + c)) 4 j = vCom σ c (14 + j) := by
  intro j hj
  unfold vCom cp
  rw [if_pos hj, if_pos hj, if_pos hj, if_pos hj]
  refine ⟨?_, ?_, ?_, ?_⟩
  · rw [if_neg (by omega), if_neg (by omega), if_pos (by omega), show 2 + j - 2 = j by omega]
  · rw [if_neg (by omega), if_neg (by omega), if_neg (by omega), if_pos (by omega), show 6 + j - 6 = j by omega]
  · rw [if_neg (by omega), if_neg (by omega), if_neg (by omega), if_neg (by omega), if_pos (by omega), show 10 + j - 10 = j by omega]
  · rw [if_neg (by omega), if_neg (by omega), if_neg (by omega), if_neg (by omega), if_neg (by omega), if_pos (by omega), show 14 + j - 14 = j by omega]
theorem pcN_congr {f g : Nat → Int32} : ∀ (n : Nat), (∀ k, k < n → f k = g k) → pcN f n = pcN g n
  | 0, _ => rfl
  | n + 1, h => by
    unfold pcN
    rw [pcN_congr n (fun k hk => h k (by omega)), h n (by omega)]
theorem wrS_off (c o : Nat) (v : Nat → Int32) (d : Nat) {i : Nat} (hi : i < 100) : ∀ (n j : Nat) (σ : sg), (wrS c o v d n j σ).2 i = σ i
  | 0, _, _ => rfl
  | n + 1, j, σ => by
    unfold wrS
    split
    · split
      · rw [wrS_off c o v d hi n (j + 1), va_up_ne _ _ (by unfold eR; omega)]
      · rfl
    · rfl
/-- the write and the playing of a commit -/
def wpS (c : Nat) (σ : sg) (δ : dg) : RS :=
  if ntk σ c = true then (2, 0, σ, δ) else if σ 3 2 < 60 then
    (match wrS c (σ 3 2).toNatClampNeg (vCom σ c) (δ (1 + c) ((σ 3 2).toNatClampNeg % 2)) (min (ln (δ (1 + c) ((σ 3 2).toNatClampNeg % 2))) 3) 0 (up2 σ 3 2 (σ 3 2 + 1)) with
     | (w, σ') => if w = 0 then
         (match plS c δ ((σ 3 2).toNatClampNeg + 1 - (σ (16 + c) 4).toNatClampNeg) (σ (16 + c) 4).toNatClampNeg 0 σ' with
          | (k, t, σ2) => if k = 0 then (0, t, σ2, δ) else (if k = 1 then 2 else if k = 2 then 5 else 3, 0, σ2, δ))
       else (if w = 1 then 2 else 4, 0, σ', δ))
  else (5, 0, σ, δ)
section Pub5
variable {G : mt_G} {μ φ : mu_M} {ad : Nat → Nat} {g : dg} {σ : sg} {δ : dg}
def PostB (G : mt_G) (φ : mu_M) (ad : Nat → Nat) (r : RS) : Option Value → mu_M → Prop := fun v μ' => r.1 = 0 ∧ v = some (.int r.2.1) ∧ (r.2.1 = 0 ∨ r.2.1 = 1) ∧ ∃ g' φ', Cx G μ' φ' ad g' r.2.2.1 r.2.2.2 ∧ sub φ φ'
set_option maxHeartbeats 4000000 in
set_option maxRecDepth 10000 in
theorem ct_writeAndPlayCommit (hC : Cx G μ φ ad g σ δ) (hI : PI σ δ) {c : Nat} (hc : c < 4) : CT G M_Log_writeAndPlayCommit [.ref (ad 0), .ref (ad (16 + c))] μ (PostB G φ ad (wpS c σ δ)) (PxC G φ ad exRead (wpS c σ δ)) := by
  have hR := hC.R
  obtain ⟨n, hn, hn2⟩ := hI.2.1
  obtain ⟨p, hp, hp2⟩ := hI.2.2.1 c hc
  have hcl : (σ 3 2).toNatClampNeg = n := by rw [hn2]; exact nI_clamp (by omega)
  have hcl2 : (σ (16 + c) 4).toNatClampNeg = p := by rw [hp2]; exact nI_clamp (by omega)
  refine CT.of (by decide) rfl (Nat.le_of_ble_eq_true rfl) ?_
  refine wp_aload_n d_Log_writeAndPlayCommit_0 rfl rfl ?_
  refine wp_aload_n d_Log_writeAndPlayCommit_1 rfl rfl ?_
  refine wx_callV d_Log_writeAndPlayCommit_2 cv_Log_69 cd_Log_takeToken ⟨by decide, by decide⟩ (ct_takeToken hC hc) (by exact hR.log) rfl rfl (Nat.le_of_ble_eq_true rfl) (Nat.le_of_ble_eq_true rfl) (Nat.le_of_ble_eq_true rfl) (fun E1 μ1 hq => WX.out rfl (no_hd _) (Nat.le_of_ble_eq_true rfl) (Nat.le_of_ble_eq_true rfl) ?_) (fun v1 μ1 hq => ?_)
  · obtain ⟨rfl, hq | hq⟩ := hq
    · obtain ⟨rfl, q1⟩ := hq
      rw [wpS, if_pos q1]
      exact ⟨by show 2 ≠ 0; decide, rfl, g, φ, hC, sub.rf φ⟩
    · obtain ⟨rfl, q1, q2⟩ := hq
      rw [wpS, if_neg (by rw [q1]; decide), if_neg q2]
      exact ⟨by show 5 ≠ 0; decide, rfl, g, φ, hC, sub.rf φ⟩
  · obtain ⟨rfl, q1, q2, hC1⟩ := hq
    have hn6 : n < 60 := by
      rw [hn2] at q2
      exact (nI_ltI (b := 60) (by omega) (by omega)).mp q2
    have hvr := hI.1 (1 + c) (n % 2) (by omega) (by omega)
    rw [wpS, if_neg (by rw [q1]; decide), if_pos q2, hcl, hcl2]
    have hR1 := hC1.R
    have t0 := hR1.tr hc
    have t1 := hR1.ta hc
    have t2 := hR1.tp hc
    have t3 := hR1.tv hc
    rw [up2_n (by omega)] at t0 t1 t2 t3
    refine wp_istore_n d_Log_writeAndPlayCommit_5 rfl (by decide) ?_
    refine wp_aload_n d_Log_writeAndPlayCommit_6 rfl rfl ?_
    refine wp_get d_Log_writeAndPlayCommit_7 fl_Log_187 (by exact hR1.cli hc) (by rfl) ?_
    refine wx_callV d_Log_writeAndPlayCommit_10 cv_Log_260 cd_Work_copy ⟨by decide, by decide⟩ (ct_Work_copy _ _ _ _ _ _ _ _ _ (hR1.tx hc) t0 t1 t2 t3 (fun k hk => hI.2.2.2.2.2.2.1 c k hc hk)) (by exact hR1.tx hc) rfl rfl (Nat.le_of_ble_eq_true rfl) (Nat.le_of_ble_eq_true rfl) (Nat.le_of_ble_eq_true rfl) (fun E1 μ2 hq => WX.out rfl (no_hd _) (Nat.le_of_ble_eq_true rfl) (Nat.le_of_ble_eq_true rfl) ?_) (fun v1 μ2 hq => ?_)
    · exact hq.elim
    · obtain ⟨q, rfl, hqn, hNW, hs2⟩ := hq
      obtain ⟨q0, qa, qb, qc, e, e0, e1, e2, e3, -⟩ := id hNW
      refine wp_astore_n d_Log_writeAndPlayCommit_13 rfl (by decide) ?_
      refine wp_aload_n d_Log_writeAndPlayCommit_14 rfl rfl ?_
      refine wp_aload_n d_Log_writeAndPlayCommit_15 rfl rfl ?_
      refine wp_iload_n d_Log_writeAndPlayCommit_16 rfl rfl ?_
      refine wp_new d_Log_writeAndPlayCommit_17 nw_Log_31 (Nat.le_of_ble_eq_true rfl) (Nat.le_of_ble_eq_true rfl) (fun ea hBe hea => ?_)
      refine wp_dup d_Log_writeAndPlayCommit_20 rfl ?_
      refine wp_iconst (v := 2) d_Log_writeAndPlayCommit_21 (by decide) ?_
      refine wp_aload_n d_Log_writeAndPlayCommit_22 rfl rfl ?_
      refine wx_callV d_Log_writeAndPlayCommit_23 cv_Log_208 cd_Work_putCount ⟨by decide, by decide⟩ (ct_putCount G _ q qb _ _ _ _ ((mu_up_n (mu_some_ne e hea)).trans e) ((mu_up_n (mu_some_ne e2 hea)).trans e2)) (by exact (mu_up_n (mu_some_ne e hea)).trans e) rfl rfl (Nat.le_of_ble_eq_true rfl) (Nat.le_of_ble_eq_true rfl) (Nat.le_of_ble_eq_true rfl) (fun E1 μ3 hq => WX.out rfl (no_hd _) (Nat.le_of_ble_eq_true rfl) (Nat.le_of_ble_eq_true rfl) ?_) (fun v1 μ3 hq => ?_)
      · exact hq.elim
      · obtain ⟨rfl, rfl⟩ := hq
        refine wp_aload_n d_Log_writeAndPlayCommit_26 rfl rfl ?_
        refine wi_call d_Log_writeAndPlayCommit_27 ci_Log_33 cd_Entry_init ⟨by decide, by decide⟩ (ct_Entry_init ea q 2 (nI (pcN (cp (σ (40 + c)) 4) 4)) _ _ _ (mu_up_s _ _ _) hBe) rfl rfl (Nat.le_of_ble_eq_true rfl) (Nat.le_of_ble_eq_true rfl) (Nat.le_of_ble_eq_true rfl) (fun v1 μ4 hq => ?_)
        obtain ⟨rfl, hμ4⟩ := hq
        rw [mu_up_up, pcN_congr (f := cp (σ (40 + c)) 4) (g := σ (40 + c)) 4 (fun k hk => if_pos hk)] at hμ4
        have hea1 : μ1 ea = none := by
          cases hz : μ1 ea with
          | none => rfl
          | some x => rw [hs2 _ _ hz] at hea; cases hea
        have hs4 : sub μ2 μ4 := by rw [hμ4]; exact sub_up hea
        obtain ⟨hC4, hφ⟩ := hC1.freeze (hs2.tr hs4)
        have hFE : FE G (frz μ1 μ4 φ) ea (vCom σ c) := ⟨q, (frz_n hea1).trans (by rw [hμ4, mu_up_s]; rfl), (hNW.mono hs4).froz hqn (vCom_ok σ c)⟩
        have hR4 := hC4.R
        refine wp_iconst (v := 3) d_Log_writeAndPlayCommit_30 (by decide) ?_
        rw [hn2]
        refine wx_callV d_Log_writeAndPlayCommit_31 cv_Log_76 cd_Log_write ⟨by decide, by decide⟩ (ct_write hC4 (m := 3) hc hn6 (by omega) hFE hvr) (by exact hR4.log) rfl rfl (Nat.le_of_ble_eq_true rfl) (Nat.le_of_ble_eq_true rfl) (Nat.le_of_ble_eq_true rfl) (fun E1 μ5 hq => WX.out rfl (no_hd _) (Nat.le_of_ble_eq_true rfl) (Nat.le_of_ble_eq_true rfl) ?_) (fun v1 μ5 hq => ?_)
        · obtain ⟨g5, σ5, w5, e5, hC5, h5⟩ := hq
          rw [hn2] at e5
          rw [e5]
          rcases h5 with ⟨rfl, rfl⟩ | ⟨rfl, rfl⟩
          · exact ⟨by show 2 ≠ 0; decide, rfl, g5, _, hC5, hφ⟩
          · exact ⟨by show 4 ≠ 0; decide, rfl, g5, _, hC5, hφ⟩
        · obtain ⟨rfl, g5, σ5, e5, hC5⟩ := hq
          have hp5 : σ5 (16 + c) 4 = nI p := by
            have h9 := wrS_off c n (vCom σ c) (δ (1 + c) (n % 2)) (i := 16 + c) (by omega) (min (ln (δ (1 + c) (n % 2))) 3) 0 (up2 σ 3 2 (σ 3 2 + 1))
            rw [e5] at h9
            show σ5 (16 + c) 4 = nI p
            rw [show σ5 (16 + c) = _ from h9, up2_n (by omega), hp2]
          rw [hn2] at e5
          rw [e5]
          have hR5 := hC5.R
          refine wp_aload_n d_Log_writeAndPlayCommit_34 rfl rfl ?_
          refine wp_aload_n d_Log_writeAndPlayCommit_35 rfl rfl ?_
          refine wp_iload_n d_Log_writeAndPlayCommit_36 rfl rfl ?_
          refine wp_iconst (v := 1) d_Log_writeAndPlayCommit_37 (by decide) ?_
          refine wp_iadd d_Log_writeAndPlayCommit_38 ?_
          rw [nI_1 n]
          refine wx_callV d_Log_writeAndPlayCommit_39 cv_Log_168 cd_Log_play ⟨by decide, by decide⟩ (ct_play hC5 hc hp5 hp (show n + 1 ≤ 60 by omega) (fun ch hch => hI.1 (1 + c) ch (by omega) hch)) (by exact hR5.log) rfl rfl (Nat.le_of_ble_eq_true rfl) (Nat.le_of_ble_eq_true rfl) (Nat.le_of_ble_eq_true rfl) (fun E1 μ6 hq => WX.out rfl (no_hd _) (Nat.le_of_ble_eq_true rfl) (Nat.le_of_ble_eq_true rfl) ?_) (fun v1 μ6 hq => ?_)
          · obtain ⟨k, t, σ', e6, hC6, hk⟩ := hq
            dsimp only
            rw [if_pos rfl, e6]
            rcases hk with ⟨rfl, rfl⟩ | ⟨rfl, rfl⟩ | ⟨rfl, rfl⟩
            · exact ⟨by show 2 ≠ 0; decide, rfl, g5, _, hC6, hφ⟩
            · exact ⟨by show 5 ≠ 0; decide, rfl, g5, _, hC6, hφ⟩
            · exact ⟨by show 3 ≠ 0; decide, rfl, g5, _, hC6, hφ⟩
          · obtain ⟨t, σ', rfl, ht, e6, hC6⟩ := hq
            dsimp only
            rw [if_pos rfl, e6]
            exact wp_zret d_Log_writeAndPlayCommit_42 rfl (by rcases ht with rfl | rfl <;> rfl) (Nat.le_of_ble_eq_true rfl) (Nat.le_of_ble_eq_true rfl) ⟨rfl, rfl, ht, g5, _, hC6, hφ⟩
def coS (c : Nat) (σ : sg) (δ : dg) : RS :=
  if σ (16 + c) 3 = 0 then (2, 0, σ, δ) else if pcN (σ (40 + c)) 4 = 0 then (0, if am (σ (32 + c)) (σ (36 + c)) (σ (24 + c)) = true then 1 else 0, up2 σ (16 + c) 3 0, δ)
  else match wpS c σ δ with
    | (k, t, σ', δ') => if k = 0 then (0, t, up2 σ' (16 + c) 3 0, δ') else (k, 0, σ', δ')
def S_commit (x : Int32) (σ : sg) (δ : dg) : RS := match ar x 4 with
  | some c => coS c σ δ
  | none => (1, 0, σ, δ)
set_option maxHeartbeats 4000000 in
set_option maxRecDepth 10000 in
theorem ct_commit (hC : Cx G μ φ ad g σ δ) (hI : PI σ δ) (x : Int32) : CT G M_Log_commit [.ref (ad 0), .int x] μ (PostB G φ ad (S_commit x σ δ)) (PxC G φ ad exRead (S_commit x σ δ)) := by
  have hR := hC.R
  refine CT.of (by decide) rfl (Nat.le_of_ble_eq_true rfl) ?_
  refine wp_iload_n d_Log_commit_0 rfl rfl ?_
  refine wp_iconst (v := 3) d_Log_commit_1 (by decide) ?_
  refine wx_callS d_Log_commit_2 cs_Log_65 cd_Log_requireWithin ⟨by decide, by decide⟩ (ct_requireWithin G μ x 3) rfl rfl (Nat.le_of_ble_eq_true rfl) (Nat.le_of_ble_eq_true rfl) (Nat.le_of_ble_eq_true rfl) (fun E1 μ1 hq => WX.out rfl (no_hd _) (Nat.le_of_ble_eq_true rfl) (Nat.le_of_ble_eq_true rfl) ?_) (fun v1 μ1 hq => ?_)
  · obtain ⟨rfl, rfl, hx⟩ := hq
    rw [S_commit, ar_no (n := 3) rfl (by omega) hx]
    exact ⟨Nat.one_ne_zero, rfl, g, φ, hC, sub.rf φ⟩
  · obtain ⟨rfl, rfl, h1, h2⟩ := hq
    obtain ⟨c, hc, rfl⟩ := ar_ok (n := 3) rfl (by omega) h1 h2
    have hS : S_commit (nI c) σ δ = coS c σ δ := by rw [S_commit, ar_nI hc (by omega)]
    rw [hS]
    refine wp_aload_n d_Log_commit_5 rfl rfl ?_
    refine wp_get d_Log_commit_6 fl_Log_17 (by first | exact hR.log | exact hR.car | exact hR.cli hc) (by rfl) ?_
    refine wp_iload_n d_Log_commit_9 rfl rfl ?_
    refine wp_aald d_Log_commit_10 (t := 4) (C := "SharedLog$Client") rfl (by first | exact hR.log | exact hR.car | exact hR.cli hc) (by rfl) (by assumption) (by omega) (by rfl) ?_
    refine wp_astore_n d_Log_commit_11 rfl (by decide) ?_
    refine wp_aload_n d_Log_commit_12 rfl rfl ?_
    refine wx_callS d_Log_commit_13 cs_Log_194 cd_Log_requireTransaction ⟨by decide, by decide⟩ (ct_requireTransaction hC hc) rfl rfl (Nat.le_of_ble_eq_true rfl) (Nat.le_of_ble_eq_true rfl) (Nat.le_of_ble_eq_true rfl) (fun E1 μ1 hq => WX.out rfl (no_hd _) (Nat.le_of_ble_eq_true rfl) (Nat.le_of_ble_eq_true rfl) ?_) (fun v1 μ1 hq => ?_)
    · obtain ⟨rfl, rfl, ht⟩ := hq
      rw [coS, if_pos ht]
      exact ⟨by show 2 ≠ 0; decide, rfl, g, φ, hC, sub.rf φ⟩
    · obtain ⟨rfl, rfl, ht⟩ := hq
      rw [coS, if_neg ht]
      refine wp_aload_n d_Log_commit_16 rfl rfl ?_
      refine wp_get d_Log_commit_17 fl_Log_187 (by first | exact hR.log | exact hR.car | exact hR.cli hc) (by rfl) ?_
      refine wx_callV d_Log_commit_20 cv_Log_208 cd_Work_putCount ⟨by decide, by decide⟩ (ct_putCount G _ _ _ _ _ _ _ (hR.tx hc) (hR.tp hc)) (by exact hR.tx hc) rfl rfl (Nat.le_of_ble_eq_true rfl) (Nat.le_of_ble_eq_true rfl) (Nat.le_of_ble_eq_true rfl) (fun E1 μ1 hq => WX.out rfl (no_hd _) (Nat.le_of_ble_eq_true rfl) (Nat.le_of_ble_eq_true rfl) ?_) (fun v1 μ1 hq => ?_)
      · exact hq.elim
      · obtain ⟨rfl, rfl⟩ := hq
        have hpc := pcN_le (σ (40 + c)) 4
        refine wp_if_ne (tgt := 37) d_Log_commit_23 (by decide) (fun c23 => ?_) (fun c23 => ?_)
        · have hz : ¬ pcN (σ (40 + c)) 4 = 0 := fun e => c23 (by rw [e]; exact nI_0)
          rw [if_neg hz]
          refine wp_aload_n d_Log_commit_37 rfl rfl ?_
          refine wp_aload_n d_Log_commit_38 rfl rfl ?_
          refine wx_callV d_Log_commit_39 cv_Log_215 cd_Log_writeAndPlayCommit ⟨by decide, by decide⟩ (ct_writeAndPlayCommit hC hI hc) (by exact hR.log) rfl rfl (Nat.le_of_ble_eq_true rfl) (Nat.le_of_ble_eq_true rfl) (Nat.le_of_ble_eq_true rfl) (fun E1 μ1 hq => WX.out rfl (no_hd _) (Nat.le_of_ble_eq_true rfl) (Nat.le_of_ble_eq_true rfl) ?_) (fun v1 μ1 hq => ?_)
          · obtain ⟨r1, r2, r3⟩ := hq
            generalize wpS c σ δ = r at r1 r2 r3 ⊢
            obtain ⟨k, t, σ', δ'⟩ := r
            dsimp only at r1 r2 r3 ⊢
            rw [if_neg r1]
            exact ⟨r1, r2, r3⟩
          · obtain ⟨r1, rfl, r4, g3, φ3, hC3, hφ⟩ := hq
            generalize wpS c σ δ = r at r1 r4 hC3 ⊢
            obtain ⟨k, t, σ', δ'⟩ := r
            dsimp only at r1 r4 hC3 ⊢
            rw [if_pos r1]
            have hR3 := hC3.R
            refine wp_istore_n d_Log_commit_42 rfl (by decide) ?_
            refine wp_aload_n d_Log_commit_43 rfl rfl ?_
            refine wp_iconst (v := 0) d_Log_commit_44 (by decide) ?_
            refine wp_put d_Log_commit_45 fp_Log_179 (by exact hR3.cli hc) (by exact hC3.B (by omega)) (by rfl) (by rfl) (Nat.le_of_ble_eq_true rfl) ?_
            refine wp_iload_n d_Log_commit_48 rfl rfl ?_
            have hC4 := hC3.reg (by omega) (hR3.pTxn (x := 0) hc) (hC3.z.up (by omega))
            exact wp_zret d_Log_commit_49 rfl (by rcases r4 with rfl | rfl <;> rfl) (Nat.le_of_ble_eq_true rfl) (Nat.le_of_ble_eq_true rfl) ⟨rfl, rfl, r4, g3, φ3, hC4, hφ⟩
        · have hz : pcN (σ (40 + c)) 4 = 0 := by
            rcases Nat.eq_zero_or_pos (pcN (σ (40 + c)) 4) with e | e
            · exact e
            · exact absurd c23 (nI_ne0 e (by omega))
          rw [if_pos hz]
          refine wp_aload_n d_Log_commit_26 rfl rfl ?_
          refine wp_aload_n d_Log_commit_27 rfl rfl ?_
          refine wp_get d_Log_commit_28 fl_Log_187 (by exact hR.cli hc) (by rfl) ?_
          refine wx_callV d_Log_commit_31 cv_Log_211 cd_Client_agesMatch ⟨by decide, by decide⟩ (ct_agesMatch G _ _ 0 _ _ _ _ _ _ _ _ _ _ _ _ _ _ (hR.cli hc) (hR.age hc) (hR.tx hc) (hR.tr hc) (hR.ta hc)) (by exact hR.cli hc) rfl rfl (Nat.le_of_ble_eq_true rfl) (Nat.le_of_ble_eq_true rfl) (Nat.le_of_ble_eq_true rfl) (fun E1 μ1 hq => WX.out rfl (no_hd _) (Nat.le_of_ble_eq_true rfl) (Nat.le_of_ble_eq_true rfl) ?_) (fun v1 μ1 hq => ?_)
          · exact hq.elim
          · obtain ⟨rfl, rfl⟩ := hq
            refine wp_goto (tgt := 42) d_Log_commit_34 (by decide) ?_
            refine wp_istore_n d_Log_commit_42 rfl (by decide) ?_
            refine wp_aload_n d_Log_commit_43 rfl rfl ?_
            refine wp_iconst (v := 0) d_Log_commit_44 (by decide) ?_
            refine wp_put d_Log_commit_45 fp_Log_179 (by exact hR.cli hc) (by exact hC.B (by omega)) (by rfl) (by rfl) (Nat.le_of_ble_eq_true rfl) ?_
            refine wp_iload_n d_Log_commit_48 rfl rfl ?_
            have hC4 := hC.reg (by omega) (hR.pTxn (x := 0) hc) (hC.z.up (by omega))
            have h01 : (if am (σ (32 + c)) (σ (36 + c)) (σ (24 + c)) = true then (1 : Int32) else 0) = 0 ∨ (if am (σ (32 + c)) (σ (36 + c)) (σ (24 + c)) = true then (1 : Int32) else 0) = 1 := by
              split
              · exact Or.inr rfl
              · exact Or.inl rfl
            exact wp_zret d_Log_commit_49 rfl (by rcases h01 with e | e <;> rw [e] <;> rfl) (Nat.le_of_ble_eq_true rfl) (Nat.le_of_ble_eq_true rfl) ⟨rfl, rfl, h01, g, φ, hC4, sub.rf φ⟩
end Pub5
