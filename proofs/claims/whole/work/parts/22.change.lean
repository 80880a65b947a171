/-! THE CLASS'S FACE: change -/
def RwA (G : mt_G) (μ : mu_M) (a d : Nat) : Prop := ∃ f : Nat → Int32, μ a = some (.inl (G.2.2.1 0, ln d, .inl f)) ∧ ∀ i, i < ln d → f i = nI (un d i)
theorem RwA.mono {G : mt_G} {μ μ' : mu_M} {a d : Nat} (h : RwA G μ a d) (hs : sub μ μ') : RwA G μ' a d := by
  obtain ⟨f, h1, h2⟩ := h
  exact ⟨f, hs _ _ h1, h2⟩
/-- how many of the first n units of a row are up -/
def ucS (σ : sg) (d : Nat) : Nat → Nat
  | 0 => 0
  | i + 1 => if σ (4 + un d i) 1 = 0 then ucS σ d i else ucS σ d i + 1
theorem ucS_le (σ : sg) (d : Nat) : ∀ n, ucS σ d n ≤ n
  | 0 => Nat.le_refl 0
  | n + 1 => by
    have := ucS_le σ d n
    unfold ucS
    split <;> omega
section Chg
variable {G : mt_G} {μ φ : mu_M} {ad : Nat → Nat} {g : dg} {σ : sg} {δ : dg}
set_option maxHeartbeats 4000000 in
set_option maxRecDepth 10000 in
theorem ct_upCount (hC : Cx G μ φ ad g σ δ) {a d : Nat} (hd : vr d = true) (ha : RwA G μ a d) : CT G M_Log_upCount [.ref (ad 0), .ref a] μ (fun v μ' => v = some (.int (nI (ucS σ d (ln d)))) ∧ μ' = μ) (fun _ _ => False) := by
  obtain ⟨f, ha, hf⟩ := ha
  have hR := hC.R
  have hln := ln_pos d
  refine CT.of (by decide) rfl (Nat.le_of_ble_eq_true rfl) ?_
  refine wp_iconst (v := 0) d_Log_upCount_0 (by decide) ?_
  refine wp_istore_n d_Log_upCount_1 rfl (by decide) ?_
  refine wp_iconst (v := 0) d_Log_upCount_2 (by decide) ?_
  refine wp_istore_n d_Log_upCount_3 rfl (by decide) ?_
  have loop : ∀ (n i : Nat), i + n = ln d → WP G M_Log_upCount (EC G M_Log_upCount (fun v μ' => v = some (.int (nI (ucS σ d (ln d)))) ∧ μ' = μ) (fun _ _ => False)) [(0, .ref (ad 0)), (1, .ref a), (2, .int (nI (ucS σ d i))), (3, .int (nI i))] 4 [] μ 0 0 := by
    intro n
    induction n with
    | zero =>
      intro i hi
      obtain rfl : i = ln d := by omega
      refine wp_iload_n d_Log_upCount_4 rfl rfl ?_
      refine wp_aload_n d_Log_upCount_5 rfl rfl ?_
      refine wp_alen d_Log_upCount_6 (by exact (rfl : (TYS G.2.2.1)[0]? = some (G.2.2.1 0, .int))) (by first | exact ha | exact hR.log | exact hR.uar) ?_
      refine wp_icmp_ge (tgt := 33) d_Log_upCount_7 (by decide) (fun c7 => ?_) (fun c7 => ?_)
      · refine wp_iload_n d_Log_upCount_33 rfl rfl ?_
        exact wp_iret d_Log_upCount_34 rfl (by decide) (by decide) ⟨rfl, rfl⟩
      · exact absurd ((nI_leI (by omega) (by omega)).mpr (Nat.le_refl _)) c7
    | succ n ih =>
      intro i hi
      have hil : i < ln d := by omega
      have hu : un d i < 6 := vr_un hd hil
      refine wp_iload_n d_Log_upCount_4 rfl rfl ?_
      refine wp_aload_n d_Log_upCount_5 rfl rfl ?_
      refine wp_alen d_Log_upCount_6 (by exact (rfl : (TYS G.2.2.1)[0]? = some (G.2.2.1 0, .int))) (by first | exact ha | exact hR.log | exact hR.uar) ?_
      refine wp_icmp_ge (tgt := 33) d_Log_upCount_7 (by decide) (fun c7 => ?_) (fun c7 => ?_)
      · exact absurd ((nI_leI (by omega) (by omega)).mp c7) (by omega)
      refine wp_aload_n d_Log_upCount_10 rfl rfl ?_
      refine wp_get d_Log_upCount_11 fl_Log_11 (by first | exact ha | exact hR.log | exact hR.uar) (by rfl) ?_
      refine wp_aload_n d_Log_upCount_14 rfl rfl ?_
      refine wp_iload_n d_Log_upCount_15 rfl rfl ?_
      refine wp_iald d_Log_upCount_16 (by first | exact ha | exact hR.log | exact hR.uar) (by rfl) (by exact hil) (by omega) ?_
      rw [hf i hil]
      refine wp_aald d_Log_upCount_17 (t := 3) (C := "SharedLog$Unit") rfl (by first | exact ha | exact hR.log | exact hR.uar) (by rfl) (by exact hu) (by omega) (by rfl) ?_
      refine wp_get d_Log_upCount_18 fl_Log_154 (by exact hR.unit hu) (by rfl) ?_
      refine wp_if_eq (tgt := 27) d_Log_upCount_21 (by decide) (fun c21 => ?_) (fun c21 => ?_)
      · refine wp_iinc d_Log_upCount_27 rfl rfl (by decide) ?_
        refine wp_goto (tgt := 4) d_Log_upCount_30 (by decide) ?_
        exact WP.loc [(0, .ref (ad 0)), (1, .ref a), (2, .int (nI (ucS σ d (i + 1)))), (3, .int (nI (i + 1)))] (by rw [← nI_1 i, ucS, if_pos c21]; rfl) (ih (i + 1) (by omega))
      · refine wp_iinc d_Log_upCount_24 rfl rfl (by decide) ?_
        refine wp_iinc d_Log_upCount_27 rfl rfl (by decide) ?_
        refine wp_goto (tgt := 4) d_Log_upCount_30 (by decide) ?_
        exact WP.loc [(0, .ref (ad 0)), (1, .ref a), (2, .int (nI (ucS σ d (i + 1)))), (3, .int (nI (i + 1)))] (by rw [← nI_1 i, ucS, if_neg c21, ← nI_1 (ucS σ d i)]; rfl) (ih (i + 1) (by omega))
  exact WP.loc _ rfl (loop (ln d) 0 (by omega))
/-- the up units of a row are sealed -/
def slS (d : Nat) (e : Int32) : Nat → sg → sg
  | 0, σ => σ
  | i + 1, σ => if slS d e i σ (4 + un d i) 1 = 0 then slS d e i σ else up2 (slS d e i σ) (4 + un d i) 2 e
set_option maxHeartbeats 4000000 in
set_option maxRecDepth 10000 in
theorem ct_sealRow (hC : Cx G μ φ ad g σ δ) {a d : Nat} {e : Int32} (hd : vr d = true) (ha : RwA G φ a d) : CT G M_Log_sealRow [.ref (ad 0), .ref a, .int e] μ (fun v μ' => v = none ∧ Cx G μ' φ ad g (slS d e (ln d) σ) δ) (fun _ _ => False) := by
  obtain ⟨f, ha, hf⟩ := ha
  have hln := ln_pos d
  refine CT.of (by decide) rfl (Nat.le_of_ble_eq_true rfl) ?_
  refine wp_iconst (v := 0) d_Log_sealRow_0 (by decide) ?_
  refine wp_istore_n d_Log_sealRow_1 rfl (by decide) ?_
  have loop : ∀ (n i : Nat) (μ1 : mu_M), i + n = ln d → Cx G μ1 φ ad g (slS d e i σ) δ → WP G M_Log_sealRow (EC G M_Log_sealRow (fun v μ' => v = none ∧ Cx G μ' φ ad g (slS d e (ln d) σ) δ) (fun _ _ => False)) [(0, .ref (ad 0)), (1, .ref a), (2, .int e), (3, .int (nI i))] 2 [] μ1 0 0 := by
    intro n
    induction n with
    | zero =>
      intro i μ1 hi hC1
      obtain rfl : i = ln d := by omega
      refine wp_iload_n d_Log_sealRow_2 rfl rfl ?_
      refine wp_aload_n d_Log_sealRow_3 rfl rfl ?_
      refine wp_alen d_Log_sealRow_4 (by exact (rfl : (TYS G.2.2.1)[0]? = some (G.2.2.1 0, .int))) (by exact hC1.at ha) ?_
      refine wp_icmp_ge (tgt := 38) d_Log_sealRow_5 (by decide) (fun c5 => ?_) (fun c5 => ?_)
      · exact wp_vret d_Log_sealRow_38 rfl (by decide) (by decide) ⟨rfl, hC1⟩
      · exact absurd ((nI_leI (by omega) (by omega)).mpr (Nat.le_refl _)) c5
    | succ n ih =>
      intro i μ1 hi hC1
      have hR1 := hC1.R
      have hil : i < ln d := by omega
      have hu : un d i < 6 := vr_un hd hil
      refine wp_iload_n d_Log_sealRow_2 rfl rfl ?_
      refine wp_aload_n d_Log_sealRow_3 rfl rfl ?_
      refine wp_alen d_Log_sealRow_4 (by exact (rfl : (TYS G.2.2.1)[0]? = some (G.2.2.1 0, .int))) (by first | exact hC1.at ha | exact hR1.log | exact hR1.uar) ?_
      refine wp_icmp_ge (tgt := 38) d_Log_sealRow_5 (by decide) (fun c5 => ?_) (fun c5 => ?_)
      · exact absurd ((nI_leI (by omega) (by omega)).mp c5) (by omega)
      refine wp_aload_n d_Log_sealRow_8 rfl rfl ?_
      refine wp_get d_Log_sealRow_9 fl_Log_11 (by first | exact hC1.at ha | exact hR1.log | exact hR1.uar) (by rfl) ?_
      refine wp_aload_n d_Log_sealRow_12 rfl rfl ?_
      refine wp_iload_n d_Log_sealRow_13 rfl rfl ?_
      refine wp_iald d_Log_sealRow_14 (by first | exact hC1.at ha | exact hR1.log | exact hR1.uar) (by rfl) (by exact hil) (by omega) ?_
      rw [hf i hil]
      refine wp_aald d_Log_sealRow_15 (t := 3) (C := "SharedLog$Unit") rfl (by first | exact hC1.at ha | exact hR1.log | exact hR1.uar) (by rfl) (by exact hu) (by omega) (by rfl) ?_
      refine wp_astore d_Log_sealRow_16 (by decide) ?_
      refine wp_aload d_Log_sealRow_18 rfl ?_
      refine wp_get d_Log_sealRow_20 fl_Log_154 (by exact hR1.unit hu) (by rfl) ?_
      refine wp_if_eq (tgt := 32) d_Log_sealRow_23 (by decide) (fun c23 => ?_) (fun c23 => ?_)
      · refine wp_iinc d_Log_sealRow_32 rfl rfl (by decide) ?_
        refine wp_goto (tgt := 2) d_Log_sealRow_35 (by decide) ?_
        refine WP.loc [(0, .ref (ad 0)), (1, .ref a), (2, .int e), (3, .int (nI (i + 1)))] (by rw [← nI_1 i]; rfl) (ih (i + 1) μ1 (by omega) ?_)
        rw [slS, if_pos c23]; exact hC1
      · refine wp_aload d_Log_sealRow_26 rfl ?_
        refine wp_iload_n d_Log_sealRow_28 rfl rfl ?_
        refine wp_put d_Log_sealRow_29 fp_Log_158 (by exact hR1.unit hu) (by exact hC1.B (by omega)) (by rfl) (by rfl) (Nat.le_of_ble_eq_true rfl) ?_
        refine wp_iinc d_Log_sealRow_32 rfl rfl (by decide) ?_
        refine wp_goto (tgt := 2) d_Log_sealRow_35 (by decide) ?_
        have hC2 := hC1.reg (by omega) (hR1.pSeal (x := e) hu) (hC1.z.up (by omega))
        refine WP.loc [(0, .ref (ad 0)), (1, .ref a), (2, .int e), (3, .int (nI (i + 1)))] (by rw [← nI_1 i]; rfl) (ih (i + 1) _ (by omega) ?_)
        rw [slS, if_neg c23]; exact hC2
  exact WP.loc _ rfl (loop (ln d) 0 μ (by omega) hC)
set_option maxHeartbeats 4000000 in
set_option maxRecDepth 10000 in
theorem ct_sealAll (hC : Cx G μ φ ad g σ δ) {la b d : Nat} {ep e : Int32} {dl : Nat → Nat} (hL : FL G φ la ep dl) (hdl : ∀ ch, ch < 2 → vr (dl ch) = true) (hd : vr d = true) (hb : RwA G φ b d) :
    CT G M_Log_sealAll [.ref (ad 0), .ref la, .ref b, .int e] μ (fun v μ' => v = none ∧ Cx G μ' φ ad g (slS d e (ln d) (slS (dl 1) e (ln (dl 1)) (slS (dl 0) e (ln (dl 0)) σ))) δ) (fun _ _ => False) := by
  obtain ⟨a0, a1, f0, f1, l0, l1, l2, l3, l4⟩ := hL
  refine CT.of (by decide) rfl (Nat.le_of_ble_eq_true rfl) ?_
  refine wp_iconst (v := 0) d_Log_sealAll_0 (by decide) ?_
  refine wp_istore d_Log_sealAll_1 (by decide) ?_
  refine wp_iload d_Log_sealAll_3 rfl ?_
  refine wp_iconst (v := 2) d_Log_sealAll_5 (by decide) ?_
  refine wp_icmp_ge (tgt := 26) d_Log_sealAll_6 (by decide) (fun c6 => ?_) (fun c6 => ?_)
  · exact absurd c6 (by decide)
  refine wp_aload_n d_Log_sealAll_9 rfl rfl ?_
  refine wp_aload_n d_Log_sealAll_10 rfl rfl ?_
  refine wp_iload d_Log_sealAll_11 rfl ?_
  refine wx_callV d_Log_sealAll_13 cv_Log_138 cd_Layout_chain ⟨by decide, by decide⟩ (ct_chain G μ la a0 a1 _ _ (hC.at l0)) (by exact hC.at l0) rfl rfl (Nat.le_of_ble_eq_true rfl) (Nat.le_of_ble_eq_true rfl) (Nat.le_of_ble_eq_true rfl) (fun E1 μ1 hq => WX.out rfl (no_hd _) (Nat.le_of_ble_eq_true rfl) (Nat.le_of_ble_eq_true rfl) ?_) (fun v1 μ1 hq => ?_)
  · exact hq.elim
  obtain ⟨rfl, rfl⟩ := hq
  rw [if_pos rfl]
  refine wp_iload_n d_Log_sealAll_16 rfl rfl ?_
  refine wx_callV d_Log_sealAll_17 cv_Log_273 cd_Log_sealRow ⟨by decide, by decide⟩ (ct_sealRow hC (hdl 0 (by decide)) ⟨f0, l1, l3⟩) (by exact hC.R.log) rfl rfl (Nat.le_of_ble_eq_true rfl) (Nat.le_of_ble_eq_true rfl) (Nat.le_of_ble_eq_true rfl) (fun E1 μ2 hq => WX.out rfl (no_hd _) (Nat.le_of_ble_eq_true rfl) (Nat.le_of_ble_eq_true rfl) ?_) (fun v1 μ2 hq => ?_)
  · exact hq.elim
  obtain ⟨rfl, hC1⟩ := hq
  refine wp_iinc d_Log_sealAll_20 rfl rfl (by decide) ?_
  refine wp_goto (tgt := 3) d_Log_sealAll_23 (by decide) ?_
  refine wp_iload d_Log_sealAll_3 rfl ?_
  refine wp_iconst (v := 2) d_Log_sealAll_5 (by decide) ?_
  refine wp_icmp_ge (tgt := 26) d_Log_sealAll_6 (by decide) (fun c6 => ?_) (fun c6 => ?_)
  · exact absurd c6 (by decide)
  refine wp_aload_n d_Log_sealAll_9 rfl rfl ?_
  refine wp_aload_n d_Log_sealAll_10 rfl rfl ?_
  refine wp_iload d_Log_sealAll_11 rfl ?_
  refine wx_callV d_Log_sealAll_13 cv_Log_138 cd_Layout_chain ⟨by decide, by decide⟩ (ct_chain G μ2 la a0 a1 _ _ (hC1.at l0)) (by exact hC1.at l0) rfl rfl (Nat.le_of_ble_eq_true rfl) (Nat.le_of_ble_eq_true rfl) (Nat.le_of_ble_eq_true rfl) (fun E1 μ3 hq => WX.out rfl (no_hd _) (Nat.le_of_ble_eq_true rfl) (Nat.le_of_ble_eq_true rfl) ?_) (fun v1 μ3 hq => ?_)
  · exact hq.elim
  obtain ⟨rfl, rfl⟩ := hq
  rw [if_neg (by decide)]
  refine wp_iload_n d_Log_sealAll_16 rfl rfl ?_
  refine wx_callV d_Log_sealAll_17 cv_Log_273 cd_Log_sealRow ⟨by decide, by decide⟩ (ct_sealRow hC1 (hdl 1 (by decide)) ⟨f1, l2, l4⟩) (by exact hC1.R.log) rfl rfl (Nat.le_of_ble_eq_true rfl) (Nat.le_of_ble_eq_true rfl) (Nat.le_of_ble_eq_true rfl) (fun E1 μ4 hq => WX.out rfl (no_hd _) (Nat.le_of_ble_eq_true rfl) (Nat.le_of_ble_eq_true rfl) ?_) (fun v1 μ4 hq => ?_)
  · exact hq.elim
  obtain ⟨rfl, hC2⟩ := hq
  refine wp_iinc d_Log_sealAll_20 rfl rfl (by decide) ?_
  refine wp_goto (tgt := 3) d_Log_sealAll_23 (by decide) ?_
  refine wp_iload d_Log_sealAll_3 rfl ?_
  refine wp_iconst (v := 2) d_Log_sealAll_5 (by decide) ?_
  refine wp_icmp_ge (tgt := 26) d_Log_sealAll_6 (by decide) (fun c6 => ?_) (fun c6 => ?_)
  · refine wp_aload_n d_Log_sealAll_26 rfl rfl ?_
    refine wp_aload_n d_Log_sealAll_27 rfl rfl ?_
    refine wp_iload_n d_Log_sealAll_28 rfl rfl ?_
    refine wx_callV d_Log_sealAll_29 cv_Log_273 cd_Log_sealRow ⟨by decide, by decide⟩ (ct_sealRow hC2 hd hb) (by exact hC2.R.log) rfl rfl (Nat.le_of_ble_eq_true rfl) (Nat.le_of_ble_eq_true rfl) (Nat.le_of_ble_eq_true rfl) (fun E1 μ5 hq => WX.out rfl (no_hd _) (Nat.le_of_ble_eq_true rfl) (Nat.le_of_ble_eq_true rfl) ?_) (fun v1 μ5 hq => ?_)
    · exact hq.elim
    obtain ⟨rfl, hC3⟩ := hq
    exact wp_vret d_Log_sealAll_32 rfl (by decide) (by decide) ⟨rfl, hC3⟩
  · exact absurd (by decide) c6
/-- the first up unit of a row, from place i on, that has something at o -/
def fh (σ : sg) (d o : Nat) : Nat → Nat → Option Nat
  | 0, _ => none
  | n + 1, i => if σ (4 + un d i) 1 = 0 then fh σ d o n (i + 1) else if σ (eR (un d i) o) 0 = 0 then fh σ d o n (i + 1) else some (un d i)
def fhV (σ : sg) (d o : Nat) : Nat → Int32 := match fh σ d o (ln d) 0 with
  | some u => σ (eR u o)
  | none => vNone
set_option maxHeartbeats 4000000 in
set_option maxRecDepth 10000 in
theorem ct_firstHeld (hC : Cx G μ φ ad g σ δ) {a d o : Nat} (hd : vr d = true) (ho : o < 60) (ha : RwA G φ a d) : CT G M_Log_firstHeld [.ref (ad 0), .ref a, .int (nI o)] μ (fun v μ' => ∃ ea, v = some (.ref ea) ∧ FE G φ ea (fhV σ d o) ∧ μ' = μ) (fun _ _ => False) := by
  obtain ⟨f, ha, hf⟩ := ha
  have hln := ln_pos d
  have hR := hC.R
  refine CT.of (by decide) rfl (Nat.le_of_ble_eq_true rfl) ?_
  refine wp_iconst (v := 0) d_Log_firstHeld_0 (by decide) ?_
  refine wp_istore_n d_Log_firstHeld_1 rfl (by decide) ?_
  have loop : ∀ (n i : Nat), i + n = ln d → fh σ d o n i = fh σ d o (ln d) 0 → WP G M_Log_firstHeld (EC G M_Log_firstHeld (fun v μ' => ∃ ea, v = some (.ref ea) ∧ FE G φ ea (fhV σ d o) ∧ μ' = μ) (fun _ _ => False)) [(0, .ref (ad 0)), (1, .ref a), (2, .int (nI o)), (3, .int (nI i))] 2 [] μ 0 0 := by
    intro n
    induction n with
    | zero =>
      intro i hi hh
      obtain rfl : i = ln d := by omega
      refine wp_iload_n d_Log_firstHeld_2 rfl rfl ?_
      refine wp_aload_n d_Log_firstHeld_3 rfl rfl ?_
      refine wp_alen d_Log_firstHeld_4 (by exact (rfl : (TYS G.2.2.1)[0]? = some (G.2.2.1 0, .int))) (by first | exact hC.at ha | exact hR.log | exact hR.uar) ?_
      refine wp_icmp_ge (tgt := 49) d_Log_firstHeld_5 (by decide) (fun c5 => ?_) (fun c5 => ?_)
      · refine wp_aload_n d_Log_firstHeld_49 rfl rfl ?_
        refine wp_get d_Log_firstHeld_50 fl_Log_36 (by first | exact hC.at ha | exact hR.log | exact hR.uar) (by rfl) ?_
        refine wp_aret d_Log_firstHeld_53 rfl (Or.inl ⟨_, rfl⟩) (by decide) (by decide) ⟨_, rfl, ?_, rfl⟩
        unfold fhV
        rw [← hh]
        exact hC.2.2.2.1
      · exact absurd ((nI_leI (by omega) (by omega)).mpr (Nat.le_refl _)) c5
    | succ n ih =>
      intro i hi hh
      have hil : i < ln d := by omega
      have hu : un d i < 6 := vr_un hd hil
      obtain ⟨w1, he1, -⟩ := hC.ent hu ho
      refine wp_iload_n d_Log_firstHeld_2 rfl rfl ?_
      refine wp_aload_n d_Log_firstHeld_3 rfl rfl ?_
      refine wp_alen d_Log_firstHeld_4 (by exact (rfl : (TYS G.2.2.1)[0]? = some (G.2.2.1 0, .int))) (by first | exact hC.at ha | exact hR.log | exact hR.uar) ?_
      refine wp_icmp_ge (tgt := 49) d_Log_firstHeld_5 (by decide) (fun c5 => ?_) (fun c5 => ?_)
      · exact absurd ((nI_leI (by omega) (by omega)).mp c5) (by omega)
      refine wp_aload_n d_Log_firstHeld_8 rfl rfl ?_
      refine wp_get d_Log_firstHeld_9 fl_Log_11 (by first | exact hC.at ha | exact hR.log | exact hR.uar) (by rfl) ?_
      refine wp_aload_n d_Log_firstHeld_12 rfl rfl ?_
      refine wp_iload_n d_Log_firstHeld_13 rfl rfl ?_
      refine wp_iald d_Log_firstHeld_14 (by first | exact hC.at ha | exact hR.log | exact hR.uar) (by rfl) (by exact hil) (by omega) ?_
      rw [hf i hil]
      refine wp_aald d_Log_firstHeld_15 (t := 3) (C := "SharedLog$Unit") rfl (by first | exact hC.at ha | exact hR.log | exact hR.uar) (by rfl) (by exact hu) (by omega) (by rfl) ?_
      refine wp_astore d_Log_firstHeld_16 (by decide) ?_
      refine wp_aload d_Log_firstHeld_18 rfl ?_
      refine wp_get d_Log_firstHeld_20 fl_Log_154 (by first | exact hR.unit hu | exact hR.cells hu) (by rfl) ?_
      have next : fh σ d o n (i + 1) = fh σ d o (ln d) 0 → ∀ x4, WP G M_Log_firstHeld (EC G M_Log_firstHeld (fun v μ' => ∃ ea, v = some (.ref ea) ∧ FE G φ ea (fhV σ d o) ∧ μ' = μ) (fun _ _ => False)) [(4, x4), (3, .int (nI i)), (0, .ref (ad 0)), (1, .ref a), (2, .int (nI o))] 43 [] μ 0 0 := by
        intro h9 x4
        refine wp_iinc d_Log_firstHeld_43 rfl rfl (by decide) ?_
        refine wp_goto (tgt := 2) d_Log_firstHeld_46 (by decide) ?_
        exact WP.loc [(0, .ref (ad 0)), (1, .ref a), (2, .int (nI o)), (3, .int (nI (i + 1)))] (by rw [← nI_1 i]; rfl) (ih (i + 1) (by omega) h9)
      refine wp_if_eq (tgt := 43) d_Log_firstHeld_23 (by decide) (fun c23 => ?_) (fun c23 => ?_)
      · exact WP.loc _ rfl (next (by rw [← hh, fh, if_pos c23]) (.ref (ad (4 + un d i))))
      · refine wp_aload d_Log_firstHeld_26 rfl ?_
        refine wp_iload_n d_Log_firstHeld_28 rfl rfl ?_
        refine wx_callV d_Log_firstHeld_29 cv_Log_107 cd_Unit_holds ⟨by decide, by decide⟩ (ct_holds G μ _ _ o _ _ _ _ _ _ _ ho (hR.unit hu) (hR.cells hu) rfl he1) (by exact hR.unit hu) rfl rfl (Nat.le_of_ble_eq_true rfl) (Nat.le_of_ble_eq_true rfl) (Nat.le_of_ble_eq_true rfl) (fun E1 μ1 hq => WX.out rfl (no_hd _) (Nat.le_of_ble_eq_true rfl) (Nat.le_of_ble_eq_true rfl) ?_) (fun v1 μ1 hq => ?_)
        · exact hq.elim
        obtain ⟨rfl, rfl⟩ := hq
        refine wp_if_eq (tgt := 43) d_Log_firstHeld_32 (by decide) (fun c32 => ?_) (fun c32 => ?_)
        · have hz : σ (eR (un d i) o) 0 = 0 := by
            by_cases hz : σ (eR (un d i) o) 0 = 0
            · exact hz
            · rw [if_neg hz] at c32; exact absurd c32 (by decide)
          exact WP.loc _ rfl (next (by rw [← hh, fh, if_neg c23, if_pos hz]) (.ref (ad (4 + un d i))))
        · have hz : ¬ σ (eR (un d i) o) 0 = 0 := fun hz => c32 (by rw [if_pos hz])
          refine wp_aload d_Log_firstHeld_35 rfl ?_
          refine wp_get d_Log_firstHeld_37 fl_Log_111 (by first | exact hR.unit hu | exact hR.cells hu) (by rfl) ?_
          refine wp_iload_n d_Log_firstHeld_40 rfl rfl ?_
          refine wp_aald d_Log_firstHeld_41 (t := 5) (C := "SharedLog$Entry") rfl (by first | exact hR.unit hu | exact hR.cells hu) (by rfl) (by exact ho) (by omega) (by rfl) ?_
          refine wp_aret d_Log_firstHeld_42 rfl (Or.inl ⟨_, rfl⟩) (by decide) (by decide) ⟨_, rfl, ?_, rfl⟩
          unfold fhV
          rw [← hh, fh, if_neg c23, if_neg hz]
          exact hC.2.2.1 _ _ hu ho
  exact WP.loc _ rfl (loop (ln d) 0 (by omega) rfl)
/-- an entry is given to the first i units of a row -/
def mg1 (d o : Nat) (v : Nat → Int32) : Nat → sg → sg
  | 0, σ => σ
  | i + 1, σ => va_up (mg1 d o v i σ) (eR (un d i) o) v
/-- merging: n more offsets from o on, every second -/
def mgS (od d : Nat) : Nat → Nat → sg → sg
  | 0, _, σ => σ
  | n + 1, o, σ => mgS od d n (o + 2) (mg1 d o (fhV σ od o) (ln d) σ)
set_option maxHeartbeats 4000000 in
set_option maxRecDepth 10000 in
theorem ct_merge (hC : Cx G μ φ ad g σ δ) {a b od d ch : Nat} (hod : vr od = true) (hd : vr d = true) (hch : ch < 2) (ha : RwA G φ a od) (hb : RwA G φ b d) : CT G M_Log_merge [.ref (ad 0), .ref a, .ref b, .int (nI ch)] μ (fun v μ' => v = none ∧ ∃ g', Cx G μ' φ ad g' (mgS od d 30 ch σ) δ ∧ g' 0 = g 0 ∧ ∀ c, c < 4 → g' (16 + c) = g (16 + c)) (fun _ _ => False) := by
  have hln := ln_pos d
  obtain ⟨f, hb1, hf⟩ := id hb
  refine CT.of (by decide) rfl (Nat.le_of_ble_eq_true rfl) ?_
  refine wp_iload_n d_Log_merge_0 rfl rfl ?_
  refine wp_istore d_Log_merge_1 (by decide) ?_
  have loop : ∀ (n o : Nat) (σ1 : sg) (g1 : dg) (μ1 : mu_M), o + 2 * n = 60 + ch → Cx G μ1 φ ad g1 σ1 δ → g1 0 = g 0 → (∀ c, c < 4 → g1 (16 + c) = g (16 + c)) → mgS od d n o σ1 = mgS od d 30 ch σ →
      WP G M_Log_merge (EC G M_Log_merge (fun v μ' => v = none ∧ ∃ g', Cx G μ' φ ad g' (mgS od d 30 ch σ) δ ∧ g' 0 = g 0 ∧ ∀ c, c < 4 → g' (16 + c) = g (16 + c)) (fun _ _ => False)) [(0, .ref (ad 0)), (1, .ref a), (2, .ref b), (4, .int (nI o))] 3 [] μ1 0 0 := by
    intro n
    induction n with
    | zero =>
      intro o σ1 g1 μ1 hi hC1 hg0 hgc hm
      refine wp_iload d_Log_merge_3 rfl ?_
      refine wp_bipush (v := 60) d_Log_merge_5 (by decide) ?_
      refine wp_icmp_ge (tgt := 58) d_Log_merge_7 (by decide) (fun c7 => ?_) (fun c7 => ?_)
      · exact wp_vret d_Log_merge_58 rfl (by decide) (by decide) ⟨rfl, g1, by rw [← hm]; exact hC1, hg0, hgc⟩
      · exact absurd ((nI_leI (a := 60) (by omega) (by omega)).mpr (by omega)) c7
    | succ n ih =>
      intro o σ1 g1 μ1 hi hC1 hg0 hgc hm
      have ho : o < 60 := by omega
      refine wp_iload d_Log_merge_3 rfl ?_
      refine wp_bipush (v := 60) d_Log_merge_5 (by decide) ?_
      refine wp_icmp_ge (tgt := 58) d_Log_merge_7 (by decide) (fun c7 => ?_) (fun c7 => ?_)
      · exact absurd ((nI_leI (a := 60) (by omega) (by omega)).mp c7) (by omega)
      refine wp_aload_n d_Log_merge_10 rfl rfl ?_
      refine wp_aload_n d_Log_merge_11 rfl rfl ?_
      refine wp_iload d_Log_merge_12 rfl ?_
      refine wx_callV d_Log_merge_14 cv_Log_277 cd_Log_firstHeld ⟨by decide, by decide⟩ (ct_firstHeld hC1 hod ho ha) (by exact hC1.R.log) rfl rfl (Nat.le_of_ble_eq_true rfl) (Nat.le_of_ble_eq_true rfl) (Nat.le_of_ble_eq_true rfl) (fun E1 μ2 hq => WX.out rfl (no_hd _) (Nat.le_of_ble_eq_true rfl) (Nat.le_of_ble_eq_true rfl) ?_) (fun v1 μ2 hq => ?_)
      · exact hq.elim
      obtain ⟨ea, rfl, hE, rfl⟩ := hq
      refine wp_astore d_Log_merge_17 (by decide) ?_
      refine wp_iconst (v := 0) d_Log_merge_19 (by decide) ?_
      refine wp_istore d_Log_merge_20 (by decide) ?_
      rw [mgS] at hm
      generalize fhV σ1 od o = v at hE hm
      have inner : ∀ (k i : Nat) (g2 : dg) (μ3 : mu_M), i + k = ln d → Cx G μ3 φ ad g2 (mg1 d o v i σ1) δ → g2 0 = g 0 → (∀ c, c < 4 → g2 (16 + c) = g (16 + c)) →
          WP G M_Log_merge (EC G M_Log_merge (fun v μ' => v = none ∧ ∃ g', Cx G μ' φ ad g' (mgS od d 30 ch σ) δ ∧ g' 0 = g 0 ∧ ∀ c, c < 4 → g' (16 + c) = g (16 + c)) (fun _ _ => False)) [(0, .ref (ad 0)), (1, .ref a), (2, .ref b), (4, .int (nI o)), (5, .ref ea), (6, .int (nI i))] 22 [] μ3 0 0 := by
        intro k
        induction k with
        | zero =>
          intro i g2 μ3 hi2 hC3 hg0 hgc
          obtain rfl : i = ln d := by omega
          refine wp_iload d_Log_merge_22 rfl ?_
          refine wp_aload_n d_Log_merge_24 rfl rfl ?_
          refine wp_alen d_Log_merge_25 (by exact (rfl : (TYS G.2.2.1)[0]? = some (G.2.2.1 0, .int))) (by exact hC3.at hb1) ?_
          refine wp_icmp_ge (tgt := 52) d_Log_merge_26 (by decide) (fun c26 => ?_) (fun c26 => ?_)
          · refine wp_iinc d_Log_merge_52 rfl rfl (by decide) ?_
            refine wp_goto (tgt := 3) d_Log_merge_55 (by decide) ?_
            exact WP.loc [(0, .ref (ad 0)), (1, .ref a), (2, .ref b), (4, .int (nI (o + 2)))] (by rw [← nI_add o 2]; rfl) (ih (o + 2) _ g2 μ3 (by omega) hC3 hg0 hgc hm)
          · exact absurd ((nI_leI (by omega) (by omega)).mpr (Nat.le_refl _)) c26
        | succ k ihk =>
          intro i g2 μ3 hi2 hC3 hg0 hgc
          have hR3 := hC3.R
          have hil : i < ln d := by omega
          have hu : un d i < 6 := vr_un hd hil
          refine wp_iload d_Log_merge_22 rfl ?_
          refine wp_aload_n d_Log_merge_24 rfl rfl ?_
          refine wp_alen d_Log_merge_25 (by exact (rfl : (TYS G.2.2.1)[0]? = some (G.2.2.1 0, .int))) (by first | exact hC3.at hb1 | exact hR3.log | exact hR3.uar) ?_
          refine wp_icmp_ge (tgt := 52) d_Log_merge_26 (by decide) (fun c26 => ?_) (fun c26 => ?_)
          · exact absurd ((nI_leI (by omega) (by omega)).mp c26) (by omega)
          refine wp_aload_n d_Log_merge_29 rfl rfl ?_
          refine wp_get d_Log_merge_30 fl_Log_11 (by first | exact hC3.at hb1 | exact hR3.log | exact hR3.uar) (by rfl) ?_
          refine wp_aload_n d_Log_merge_33 rfl rfl ?_
          refine wp_iload d_Log_merge_34 rfl ?_
          refine wp_iald d_Log_merge_36 (by first | exact hC3.at hb1 | exact hR3.log | exact hR3.uar) (by rfl) (by exact hil) (by omega) ?_
          rw [hf i hil]
          refine wp_aald d_Log_merge_37 (t := 3) (C := "SharedLog$Unit") rfl (by first | exact hC3.at hb1 | exact hR3.log | exact hR3.uar) (by rfl) (by exact hu) (by omega) (by rfl) ?_
          refine wp_get d_Log_merge_38 fl_Log_111 (by exact hR3.unit hu) (by rfl) ?_
          refine wp_iload d_Log_merge_41 rfl ?_
          refine wp_aload d_Log_merge_43 rfl ?_
          obtain ⟨w2, hE2, -⟩ := id hE
          refine wp_aast d_Log_merge_45 (t := 5) (ci := 2) (r := ("SharedLog$Entry", F_Entry, 3)) rfl rfl (hR3.cells hu) (hC3.B (by omega)) (hC3.at hE2) rfl ho (by omega) ?_
          refine wp_iinc d_Log_merge_46 rfl rfl (by decide) ?_
          refine wp_goto (tgt := 22) d_Log_merge_49 (by decide) ?_
          have hC4 := hC3.cell hu ho (hR3.pCell (k := o) (x := ea) hu) (hC3.z.up (by omega)) hE
          exact WP.loc [(0, .ref (ad 0)), (1, .ref a), (2, .ref b), (4, .int (nI o)), (5, .ref ea), (6, .int (nI (i + 1)))] (by rw [← nI_1 i]; rfl) (ihk (i + 1) _ _ (by omega) hC4 ((up2_n (by omega)).trans hg0) (fun c hc => (up2_n (by omega)).trans (hgc c hc)))
      exact WP.loc _ rfl (inner (ln d) 0 g1 _ (by omega) hC1 hg0 hgc)
  exact WP.loc [(0, .ref (ad 0)), (1, .ref a), (2, .ref b), (4, .int (nI ch))] rfl (loop 30 ch σ g μ (by omega) hC rfl (fun _ _ => rfl) rfl)
/-- one more than the greatest offset below n that is held by an up unit of its chain -/
def ffS (σ : sg) (dl : Nat → Nat) : Nat → Nat
  | 0 => 0
  | n + 1 => if fhV σ (dl (n % 2)) n 0 = 0 then ffS σ dl n else n + 1
theorem ffS_le (σ : sg) (dl : Nat → Nat) : ∀ n, ffS σ dl n ≤ n
  | 0 => Nat.le_refl 0
  | n + 1 => by
    have := ffS_le σ dl n
    unfold ffS
    split <;> omega
set_option maxHeartbeats 4000000 in
set_option maxRecDepth 10000 in
theorem ct_firstFreeOffset (hC : Cx G μ φ ad g σ δ) (hdl : ∀ ch, ch < 2 → vr (δ 0 ch) = true) : CT G M_Log_firstFreeOffset [.ref (ad 0)] μ (fun v μ' => v = some (.int (nI (ffS σ (δ 0) 60))) ∧ μ' = μ) (fun _ _ => False) := by
  obtain ⟨a0, a1, f0, f1, l0, l1, l2, l3, l4⟩ := hC.2.2.2.2.2.2.1
  have hR := hC.R
  refine CT.of (by decide) rfl (Nat.le_of_ble_eq_true rfl) ?_
  refine wp_bipush (v := 59) d_Log_firstFreeOffset_0 (by decide) ?_
  refine wp_istore_n d_Log_firstFreeOffset_2 rfl (by decide) ?_
  have loop : ∀ (n : Nat), n ≤ 60 → ffS σ (δ 0) n = ffS σ (δ 0) 60 → WP G M_Log_firstFreeOffset (EC G M_Log_firstFreeOffset (fun v μ' => v = some (.int (nI (ffS σ (δ 0) 60))) ∧ μ' = μ) (fun _ _ => False)) [(0, .ref (ad 0)), (1, .int (nI n - 1))] 3 [] μ 0 0 := by
    intro n
    induction n with
    | zero =>
      intro hn he
      refine wp_iload_n d_Log_firstFreeOffset_3 rfl rfl ?_
      refine wp_if_lt (tgt := 36) d_Log_firstFreeOffset_4 (by decide) (fun c4 => ?_) (fun c4 => ?_)
      · refine wp_iconst (v := 0) d_Log_firstFreeOffset_36 (by decide) ?_
        exact wp_iret d_Log_firstFreeOffset_37 rfl (by decide) (by decide) ⟨by rw [← he]; rfl, rfl⟩
      · exact absurd (by decide) c4
    | succ n ih =>
      intro hn he
      rw [show nI (n + 1) - 1 = nI n from nI_pred n]
      refine wp_iload_n d_Log_firstFreeOffset_3 rfl rfl ?_
      refine wp_if_lt (tgt := 36) d_Log_firstFreeOffset_4 (by decide) (fun c4 => ?_) (fun c4 => ?_)
      · exact absurd c4 (nI_pos (by omega))
      refine wp_aload_n d_Log_firstFreeOffset_7 rfl rfl ?_
      refine wp_aload_n d_Log_firstFreeOffset_8 rfl rfl ?_
      refine wp_get d_Log_firstFreeOffset_9 fl_Log_55 (by first | exact hR.log) (by rfl) ?_
      refine wp_iload_n d_Log_firstFreeOffset_12 rfl rfl ?_
      refine wx_callV d_Log_firstFreeOffset_13 cv_Log_83 cd_Layout_chainOf ⟨by decide, by decide⟩ (ct_chainOf G μ _ a0 a1 n _ (by omega) (hC.at l0)) (by exact hC.at l0) rfl rfl (Nat.le_of_ble_eq_true rfl) (Nat.le_of_ble_eq_true rfl) (Nat.le_of_ble_eq_true rfl) (fun E1 μ1 hq => WX.out rfl (no_hd _) (Nat.le_of_ble_eq_true rfl) (Nat.le_of_ble_eq_true rfl) ?_) (fun v1 μ1 hq => ?_)
      · exact hq.elim
      obtain ⟨rfl, rfl⟩ := hq
      refine wp_iload_n d_Log_firstFreeOffset_16 rfl rfl ?_
      have hrw : RwA G φ (if n % 2 = 0 then a0 else a1) (δ 0 (n % 2)) := by
        rcases (show n % 2 = 0 ∨ n % 2 = 1 by omega) with e | e
        · rw [if_pos e, e]; exact ⟨f0, l1, l3⟩
        · rw [if_neg (by omega), e]; exact ⟨f1, l2, l4⟩
      refine wx_callV d_Log_firstFreeOffset_17 cv_Log_277 cd_Log_firstHeld ⟨by decide, by decide⟩ (ct_firstHeld hC (hdl (n % 2) (by omega)) (show n < 60 by omega) hrw) (by exact hR.log) rfl rfl (Nat.le_of_ble_eq_true rfl) (Nat.le_of_ble_eq_true rfl) (Nat.le_of_ble_eq_true rfl) (fun E1 μ2 hq => WX.out rfl (no_hd _) (Nat.le_of_ble_eq_true rfl) (Nat.le_of_ble_eq_true rfl) ?_) (fun v1 μ2 hq => ?_)
      · exact hq.elim
      obtain ⟨ea, rfl, hE, rfl⟩ := hq
      obtain ⟨w1, hE1, -⟩ := hE
      refine wp_get d_Log_firstFreeOffset_20 fl_Log_90 (by exact hC.at hE1) (by rfl) ?_
      rw [ffS] at he
      refine wp_if_eq (tgt := 30) d_Log_firstFreeOffset_23 (by decide) (fun c23 => ?_) (fun c23 => ?_)
      · rw [if_pos c23] at he
        refine wp_iinc d_Log_firstFreeOffset_30 rfl rfl (by decide) ?_
        refine wp_goto (tgt := 3) d_Log_firstFreeOffset_33 (by decide) ?_
        exact WP.loc [(0, .ref (ad 0)), (1, .int (nI n - 1))] (by rw [← i32_m1]; rfl) (ih (by omega) he)
      · rw [if_neg c23] at he
        refine wp_iload_n d_Log_firstFreeOffset_26 rfl rfl ?_
        refine wp_iconst (v := 1) d_Log_firstFreeOffset_27 (by decide) ?_
        refine wp_iadd d_Log_firstFreeOffset_28 ?_
        exact wp_iret d_Log_firstFreeOffset_29 rfl (by decide) (by decide) ⟨by rw [← he, nI_1], rfl⟩
  exact WP.loc [(0, .ref (ad 0)), (1, .int (nI 60 - 1))] rfl (loop 60 (by decide) rfl)
def rcS (c d : Nat) (σ : sg) (δ : dg) : Bool := decide (σ (501 + c) 0 = σ 500 0) && decide (ucS σ d (ln d) = ln d) && decide (ucS σ (δ 0 0) (ln (δ 0 0)) ≠ 0) && decide (ucS σ (δ 0 1) (ln (δ 0 1)) ≠ 0)
set_option maxHeartbeats 4000000 in
set_option maxRecDepth 10000 in
theorem ct_requireChangeable (hC : Cx G μ φ ad g σ δ) {b c d : Nat} (hc : c < 4) (hdl : ∀ ch, ch < 2 → vr (δ 0 ch) = true) (hd : vr d = true) (hb : RwA G μ b d) :
    CT G M_Log_requireChangeable [.ref (ad 0), .ref (ad (16 + c)), .ref b] μ (fun v μ' => v = none ∧ μ' = μ ∧ rcS c d σ δ = true) (fun E μ' => E = ISE ∧ μ' = μ ∧ rcS c d σ δ = false) := by
  obtain ⟨a0, a1, f0, f1, l0, l1, l2, l3, l4⟩ := hC.2.2.2.2.2.2.1
  obtain ⟨k0, k1, -, -, kk, -⟩ := hC.kn hc
  obtain ⟨fb, hb1, -⟩ := id hb
  have hR := hC.R
  have hln := ln_pos d
  have hle := ucS_le σ d (ln d)
  have hl0 := ucS_le σ (δ 0 0) (ln (δ 0 0))
  have hl1 := ucS_le σ (δ 0 1) (ln (δ 0 1))
  have hp0 := ln_pos (δ 0 0)
  have hp1 := ln_pos (δ 0 1)
  refine CT.of (by decide) rfl (Nat.le_of_ble_eq_true rfl) ?_
  refine wp_aload_n d_Log_requireChangeable_0 rfl rfl ?_
  refine wp_get d_Log_requireChangeable_1 fl_Log_80 (by first | exact hR.cli hc | exact kk | exact hR.log | exact hC.at l0 | exact hb1) (by rfl) ?_
  refine wp_get d_Log_requireChangeable_4 fl_Log_119 (by first | exact hR.cli hc | exact kk | exact hR.log | exact hC.at l0 | exact hb1) (by rfl) ?_
  refine wp_aload_n d_Log_requireChangeable_7 rfl rfl ?_
  refine wp_get d_Log_requireChangeable_8 fl_Log_55 (by first | exact hR.cli hc | exact kk | exact hR.log | exact hC.at l0 | exact hb1) (by rfl) ?_
  refine wp_get d_Log_requireChangeable_11 fl_Log_119 (by first | exact hR.cli hc | exact kk | exact hR.log | exact hC.at l0 | exact hb1) (by rfl) ?_
  refine wp_icmp_eq (tgt := 28) d_Log_requireChangeable_14 (by decide) (fun c14 => ?_) (fun c14 => ?_)
  · refine wp_aload_n d_Log_requireChangeable_28 rfl rfl ?_
    refine wp_aload_n d_Log_requireChangeable_29 rfl rfl ?_
    refine wx_callV d_Log_requireChangeable_30 cv_Log_266 cd_Log_upCount ⟨by decide, by decide⟩ (ct_upCount hC hd hb) (by exact hR.log) rfl rfl (Nat.le_of_ble_eq_true rfl) (Nat.le_of_ble_eq_true rfl) (Nat.le_of_ble_eq_true rfl) (fun E1 μ1 hq => WX.out rfl (no_hd _) (Nat.le_of_ble_eq_true rfl) (Nat.le_of_ble_eq_true rfl) ?_) (fun v1 μ1 hq => ?_)
    · exact hq.elim
    obtain ⟨rfl, rfl⟩ := hq
    refine wp_aload_n d_Log_requireChangeable_33 rfl rfl ?_
    refine wp_alen d_Log_requireChangeable_34 (by exact (rfl : (TYS G.2.2.1)[0]? = some (G.2.2.1 0, .int))) (by first | exact hR.cli hc | exact kk | exact hR.log | exact hC.at l0 | exact hb1) ?_
    refine wp_icmp_ge (tgt := 49) d_Log_requireChangeable_35 (by decide) (fun c35 => ?_) (fun c35 => ?_)
    · have c35 := (nI_leI (by omega) (by omega)).mp c35
      refine wp_iconst (v := 0) d_Log_requireChangeable_49 (by decide) ?_
      refine wp_istore_n d_Log_requireChangeable_50 rfl (by decide) ?_
      refine wp_iload_n d_Log_requireChangeable_51 rfl rfl ?_
      refine wp_iconst (v := 2) d_Log_requireChangeable_52 (by decide) ?_
      refine wp_icmp_ge (tgt := 88) d_Log_requireChangeable_53 (by decide) (fun c53 => ?_) (fun c53 => ?_)
      · exact absurd c53 (by decide)
      refine wp_aload_n d_Log_requireChangeable_56 rfl rfl ?_
      refine wp_aload_n d_Log_requireChangeable_57 rfl rfl ?_
      refine wp_get d_Log_requireChangeable_58 fl_Log_55 (by first | exact hR.cli hc | exact kk | exact hR.log | exact hC.at l0 | exact hb1) (by rfl) ?_
      refine wp_iload_n d_Log_requireChangeable_61 rfl rfl ?_
      refine wx_callV d_Log_requireChangeable_62 cv_Log_138 cd_Layout_chain ⟨by decide, by decide⟩ (ct_chain G μ1 _ a0 a1 _ _ (hC.at l0)) (by exact hC.at l0) rfl rfl (Nat.le_of_ble_eq_true rfl) (Nat.le_of_ble_eq_true rfl) (Nat.le_of_ble_eq_true rfl) (fun E1 μ2 hq => WX.out rfl (no_hd _) (Nat.le_of_ble_eq_true rfl) (Nat.le_of_ble_eq_true rfl) ?_) (fun v1 μ2 hq => ?_)
      · exact hq.elim
      obtain ⟨rfl, rfl⟩ := hq
      rw [if_pos rfl]
      refine wx_callV d_Log_requireChangeable_65 cv_Log_266 cd_Log_upCount ⟨by decide, by decide⟩ (ct_upCount hC (hdl 0 (by decide)) ⟨f0, hC.at l1, l3⟩) (by exact hR.log) rfl rfl (Nat.le_of_ble_eq_true rfl) (Nat.le_of_ble_eq_true rfl) (Nat.le_of_ble_eq_true rfl) (fun E1 μ3 hq => WX.out rfl (no_hd _) (Nat.le_of_ble_eq_true rfl) (Nat.le_of_ble_eq_true rfl) ?_) (fun v1 μ3 hq => ?_)
      · exact hq.elim
      obtain ⟨rfl, rfl⟩ := hq
      refine wp_if_ne (tgt := 82) d_Log_requireChangeable_68 (by decide) (fun c68 => ?_) (fun c68 => ?_)
      · have h0 : ucS σ (δ 0 0) (ln (δ 0 0)) ≠ 0 := fun e => c68 (by rw [e]; exact nI_0)
        refine wp_iinc d_Log_requireChangeable_82 rfl rfl (by decide) ?_
        refine wp_goto (tgt := 51) d_Log_requireChangeable_85 (by decide) ?_
        refine wp_iload_n d_Log_requireChangeable_51 rfl rfl ?_
        refine wp_iconst (v := 2) d_Log_requireChangeable_52 (by decide) ?_
        refine wp_icmp_ge (tgt := 88) d_Log_requireChangeable_53 (by decide) (fun c53 => ?_) (fun c53 => ?_)
        · exact absurd c53 (by decide)
        refine wp_aload_n d_Log_requireChangeable_56 rfl rfl ?_
        refine wp_aload_n d_Log_requireChangeable_57 rfl rfl ?_
        refine wp_get d_Log_requireChangeable_58 fl_Log_55 (by first | exact hR.cli hc | exact kk | exact hR.log | exact hC.at l0 | exact hb1) (by rfl) ?_
        refine wp_iload_n d_Log_requireChangeable_61 rfl rfl ?_
        refine wx_callV d_Log_requireChangeable_62 cv_Log_138 cd_Layout_chain ⟨by decide, by decide⟩ (ct_chain G μ3 _ a0 a1 _ _ (hC.at l0)) (by exact hC.at l0) rfl rfl (Nat.le_of_ble_eq_true rfl) (Nat.le_of_ble_eq_true rfl) (Nat.le_of_ble_eq_true rfl) (fun E1 μ2 hq => WX.out rfl (no_hd _) (Nat.le_of_ble_eq_true rfl) (Nat.le_of_ble_eq_true rfl) ?_) (fun v1 μ2 hq => ?_)
        · exact hq.elim
        obtain ⟨rfl, rfl⟩ := hq
        rw [if_neg (by decide)]
        refine wx_callV d_Log_requireChangeable_65 cv_Log_266 cd_Log_upCount ⟨by decide, by decide⟩ (ct_upCount hC (hdl 1 (by decide)) ⟨f1, hC.at l2, l4⟩) (by exact hR.log) rfl rfl (Nat.le_of_ble_eq_true rfl) (Nat.le_of_ble_eq_true rfl) (Nat.le_of_ble_eq_true rfl) (fun E1 μ4 hq => WX.out rfl (no_hd _) (Nat.le_of_ble_eq_true rfl) (Nat.le_of_ble_eq_true rfl) ?_) (fun v1 μ4 hq => ?_)
        · exact hq.elim
        obtain ⟨rfl, rfl⟩ := hq
        refine wp_if_ne (tgt := 82) d_Log_requireChangeable_68 (by decide) (fun c68 => ?_) (fun c68 => ?_)
        · have h1 : ucS σ (δ 0 1) (ln (δ 0 1)) ≠ 0 := fun e => c68 (by rw [e]; exact nI_0)
          refine wp_iinc d_Log_requireChangeable_82 rfl rfl (by decide) ?_
          refine wp_goto (tgt := 51) d_Log_requireChangeable_85 (by decide) ?_
          refine wp_iload_n d_Log_requireChangeable_51 rfl rfl ?_
          refine wp_iconst (v := 2) d_Log_requireChangeable_52 (by decide) ?_
          refine wp_icmp_ge (tgt := 88) d_Log_requireChangeable_53 (by decide) (fun c53 => ?_) (fun c53 => ?_)
          · exact wp_vret d_Log_requireChangeable_88 rfl (by decide) (by decide) ⟨rfl, rfl, by simp only [rcS, Bool.and_eq_true, decide_eq_true_eq]; exact ⟨⟨⟨c14, by omega⟩, h0⟩, h1⟩⟩
          · exact absurd (by decide) c53
        · have h1 : ucS σ (δ 0 1) (ln (δ 0 1)) = 0 := by
            rcases Nat.eq_zero_or_pos (ucS σ (δ 0 1) (ln (δ 0 1))) with e | e
            · exact e
            · exact absurd c68 (nI_ne0 e (by omega))
          exact wp_throwW th_Log_182_271 rfl (no_hd _) d_Log_requireChangeable_71 d_Log_requireChangeable_74 d_Log_requireChangeable_75 d_Log_requireChangeable_78 d_Log_requireChangeable_81 (Nat.le_of_ble_eq_true rfl) (Nat.le_of_ble_eq_true rfl) (Nat.le_of_ble_eq_true rfl) (Nat.le_of_ble_eq_true rfl) ⟨rfl, rfl, by simp [rcS, h1]⟩
      · have h0 : ucS σ (δ 0 0) (ln (δ 0 0)) = 0 := by
          rcases Nat.eq_zero_or_pos (ucS σ (δ 0 0) (ln (δ 0 0))) with e | e
          · exact e
          · exact absurd c68 (nI_ne0 e (by omega))
        exact wp_throwW th_Log_182_271 rfl (no_hd _) d_Log_requireChangeable_71 d_Log_requireChangeable_74 d_Log_requireChangeable_75 d_Log_requireChangeable_78 d_Log_requireChangeable_81 (Nat.le_of_ble_eq_true rfl) (Nat.le_of_ble_eq_true rfl) (Nat.le_of_ble_eq_true rfl) (Nat.le_of_ble_eq_true rfl) ⟨rfl, rfl, by simp [rcS, h0]⟩
    · have h0 : ¬ ucS σ d (ln d) = ln d := fun e => c35 ((nI_leI (by omega) (by omega)).mpr (by omega))
      exact wp_throwW th_Log_182_269 rfl (no_hd _) d_Log_requireChangeable_38 d_Log_requireChangeable_41 d_Log_requireChangeable_42 d_Log_requireChangeable_45 d_Log_requireChangeable_48 (Nat.le_of_ble_eq_true rfl) (Nat.le_of_ble_eq_true rfl) (Nat.le_of_ble_eq_true rfl) (Nat.le_of_ble_eq_true rfl) ⟨rfl, rfl, by simp [rcS, h0]⟩
  · exact wp_throwW th_Log_182_264 rfl (no_hd _) d_Log_requireChangeable_17 d_Log_requireChangeable_20 d_Log_requireChangeable_21 d_Log_requireChangeable_24 d_Log_requireChangeable_27 (Nat.le_of_ble_eq_true rfl) (Nat.le_of_ble_eq_true rfl) (Nat.le_of_ble_eq_true rfl) (Nat.le_of_ble_eq_true rfl) ⟨rfl, rfl, by simp [rcS, c14]⟩
end Chg
