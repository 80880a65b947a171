/-! THE CLASS'S FACE: read, sync, trim, fill -/
section Pub3
variable {G : mt_G} {μ φ : mu_M} {ad : Nat → Nat} {g : dg} {σ : sg} {δ : dg}
def exRead : Nat → String := fun n => if n = 1 then IAE else if n = 2 then ISE else if n = 3 then NSE else if n = 4 then UOE else IOE
def rdS (c o : Nat) (σ : sg) (δ : dg) : RS :=
  if usb σ c (uL (δ (1 + c) (o % 2))) = true then
    (if σ (eR (uL (δ (1 + c) (o % 2))) o) 0 = 0 then (5, 0, σ, δ) else if σ (eR (uL (δ (1 + c) (o % 2))) o) 0 = 4 then (3, 0, σ, δ) else if σ (eR (uL (δ (1 + c) (o % 2))) o) 0 = 3 then (4, 0, σ, δ) else (0, σ (eR (uL (δ (1 + c) (o % 2))) o) 1, σ, δ))
  else (2, 0, σ, δ)
def S_read (x y : Int32) (σ : sg) (δ : dg) : RS := match ar x 4, ar y 60 with
  | some c, some o => rdS c o σ δ
  | _, _ => (1, 0, σ, δ)
set_option maxHeartbeats 1000000 in
set_option maxRecDepth 10000 in
theorem ct_read (hC : Cx G μ φ ad g σ δ) (hI : PI σ δ) (x y : Int32) : CT G M_Log_read [.ref (ad 0), .int x, .int y] μ (PostC G φ ad (S_read x y σ δ)) (PxC G φ ad exRead (S_read x y σ δ)) := by
  have hR := hC.R
  refine CT.of (by decide) rfl (Nat.le_of_ble_eq_true rfl) ?_
  refine wp_iload_n d_Log_read_0 rfl rfl ?_
  refine wp_iconst (v := 3) d_Log_read_1 (by decide) ?_
  refine wx_callS d_Log_read_2 cs_Log_65 cd_Log_requireWithin ⟨by decide, by decide⟩ (ct_requireWithin G μ x 3) rfl rfl (Nat.le_of_ble_eq_true rfl) (Nat.le_of_ble_eq_true rfl) (Nat.le_of_ble_eq_true rfl) (fun E1 μ1 hq => WX.out rfl (no_hd _) (Nat.le_of_ble_eq_true rfl) (Nat.le_of_ble_eq_true rfl) ?_) (fun v1 μ1 hq => ?_)
  · obtain ⟨rfl, rfl, hx⟩ := hq
    rw [S_read, ar_no (n := 3) rfl (by omega) hx]
    exact ⟨Nat.one_ne_zero, rfl, g, φ, hC, sub.rf φ⟩
  · obtain ⟨rfl, rfl, h1, h2⟩ := hq
    obtain ⟨c, hc, rfl⟩ := ar_ok (n := 3) rfl (by omega) h1 h2
    refine wp_iload_n d_Log_read_5 rfl rfl ?_
    refine wp_bipush (v := 59) d_Log_read_6 (by decide) ?_
    refine wx_callS d_Log_read_8 cs_Log_65 cd_Log_requireWithin ⟨by decide, by decide⟩ (ct_requireWithin G μ1 y 59) rfl rfl (Nat.le_of_ble_eq_true rfl) (Nat.le_of_ble_eq_true rfl) (Nat.le_of_ble_eq_true rfl) (fun E1 μ1 hq => WX.out rfl (no_hd _) (Nat.le_of_ble_eq_true rfl) (Nat.le_of_ble_eq_true rfl) ?_) (fun v1 μ1 hq => ?_)
    · obtain ⟨rfl, rfl, hx⟩ := hq
      rw [S_read, ar_nI hc (by omega), ar_no (n := 59) rfl (by omega) hx]
      exact ⟨Nat.one_ne_zero, rfl, g, φ, hC, sub.rf φ⟩
    · obtain ⟨rfl, rfl, h1, h2⟩ := hq
      obtain ⟨o, ho, rfl⟩ := ar_ok (n := 59) rfl (by omega) h1 h2
      have hS : S_read (nI c) (nI o) σ δ = rdS c o σ δ := by rw [S_read, ar_nI hc (by omega), ar_nI ho (by omega)]
      rw [hS]
      have hvr := hI.1 (1 + c) (o % 2) (by omega) (by omega)
      obtain ⟨w1, he1, -⟩ := hC.ent (uL_lt hvr) ho
      refine wp_aload_n d_Log_read_11 rfl rfl ?_
      refine wp_aload_n d_Log_read_12 rfl rfl ?_
      refine wp_get d_Log_read_13 fl_Log_17 (by first | exact hR.log | exact hR.car) (by rfl) ?_
      refine wp_iload_n d_Log_read_16 rfl rfl ?_
      refine wp_aald d_Log_read_17 (t := 4) (C := "SharedLog$Client") rfl (by first | exact hR.log | exact hR.car) (by rfl) (by assumption) (by omega) (by rfl) ?_
      refine wp_iload_n d_Log_read_18 rfl rfl ?_
      refine wx_callV d_Log_read_19 cv_Log_86 cd_Log_entryAtEnd ⟨by decide, by decide⟩ (ct_entryAtEnd hC hc ho hvr) (by exact hR.log) rfl rfl (Nat.le_of_ble_eq_true rfl) (Nat.le_of_ble_eq_true rfl) (Nat.le_of_ble_eq_true rfl) (fun E1 μ1 hq => WX.out rfl (no_hd _) (Nat.le_of_ble_eq_true rfl) (Nat.le_of_ble_eq_true rfl) ?_) (fun v1 μ1 hq => ?_)
      · obtain ⟨rfl, hq⟩ := hq
        rcases hq with ⟨rfl, q1⟩ | ⟨rfl, q1, q2⟩ | ⟨rfl, q1, q2, q3⟩
        · rw [rdS, if_neg (by rw [q1]; decide)]
          exact ⟨by show 2 ≠ 0; decide, rfl, g, φ, hC, sub.rf φ⟩
        · rw [rdS, if_pos q1, if_pos q2]
          exact ⟨by show 5 ≠ 0; decide, rfl, g, φ, hC, sub.rf φ⟩
        · rw [rdS, if_pos q1, if_neg q2, if_pos q3]
          exact ⟨by show 3 ≠ 0; decide, rfl, g, φ, hC, sub.rf φ⟩
      · obtain ⟨rfl, rfl, q1, q2, q3⟩ := hq
        rw [rdS, if_pos q1, if_neg q2, if_neg q3]
        refine wp_astore_n d_Log_read_22 rfl (by decide) ?_
        refine wp_aload_n d_Log_read_23 rfl rfl ?_
        refine wp_get d_Log_read_24 fl_Log_90 (by exact he1) (by rfl) ?_
        refine wp_iconst (v := 3) d_Log_read_27 (by decide) ?_
        refine wp_icmp_ne (tgt := 41) d_Log_read_28 (by decide) (fun c28 => ?_) (fun c28 => ?_)
        · rw [if_neg c28]
          refine wp_aload_n d_Log_read_41 rfl rfl ?_
          refine wp_get d_Log_read_42 fl_Log_100 (by exact he1) (by rfl) ?_
          exact wp_iret d_Log_read_45 rfl (by decide) (by decide) ⟨rfl, rfl, g, φ, hC, sub.rf φ⟩
        · rw [if_pos c28]
          exact wp_throw th_Log_94_96 rfl (no_hd _) d_Log_read_31 d_Log_read_34 d_Log_read_35 d_Log_read_37 d_Log_read_40 (Nat.le_of_ble_eq_true rfl) (Nat.le_of_ble_eq_true rfl) (Nat.le_of_ble_eq_true rfl) (Nat.le_of_ble_eq_true rfl) ⟨by show 4 ≠ 0; decide, rfl, g, φ, hC, sub.rf φ⟩
def exSync : Nat → String := fun n => if n = 1 then IAE else if n = 2 then ISE else if n = 3 then NSE else IOE
def syS (c : Nat) (σ : sg) (δ : dg) : RS :=
  if ntk σ c = true then (2, 0, σ, δ) else
    match plS c δ ((σ 3 2).toNatClampNeg - (σ (16 + c) 4).toNatClampNeg) (σ (16 + c) 4).toNatClampNeg 0 σ with
    | (k, _, σ') => if k = 0 then (0, σ' (16 + c) 4, σ', δ) else (if k = 1 then 2 else if k = 2 then 4 else 3, 0, σ', δ)
def S_sync (x : Int32) (σ : sg) (δ : dg) : RS := match ar x 4 with
  | some c => syS c σ δ
  | none => (1, 0, σ, δ)
set_option maxHeartbeats 1000000 in
set_option maxRecDepth 10000 in
theorem ct_sync (hC : Cx G μ φ ad g σ δ) (hI : PI σ δ) (x : Int32) : CT G M_Log_sync [.ref (ad 0), .int x] μ (PostC G φ ad (S_sync x σ δ)) (PxC G φ ad exSync (S_sync x σ δ)) := by
  have hR := hC.R
  refine CT.of (by decide) rfl (Nat.le_of_ble_eq_true rfl) ?_
  refine wp_iload_n d_Log_sync_0 rfl rfl ?_
  refine wp_iconst (v := 3) d_Log_sync_1 (by decide) ?_
  refine wx_callS d_Log_sync_2 cs_Log_65 cd_Log_requireWithin ⟨by decide, by decide⟩ (ct_requireWithin G μ x 3) rfl rfl (Nat.le_of_ble_eq_true rfl) (Nat.le_of_ble_eq_true rfl) (Nat.le_of_ble_eq_true rfl) (fun E1 μ1 hq => WX.out rfl (no_hd _) (Nat.le_of_ble_eq_true rfl) (Nat.le_of_ble_eq_true rfl) ?_) (fun v1 μ1 hq => ?_)
  · obtain ⟨rfl, rfl, hx⟩ := hq
    rw [S_sync, ar_no (n := 3) rfl (by omega) hx]
    exact ⟨Nat.one_ne_zero, rfl, g, φ, hC, sub.rf φ⟩
  · obtain ⟨rfl, rfl, h1, h2⟩ := hq
    obtain ⟨c, hc, rfl⟩ := ar_ok (n := 3) rfl (by omega) h1 h2
    have hS : S_sync (nI c) σ δ = syS c σ δ := by rw [S_sync, ar_nI hc (by omega)]
    rw [hS]
    obtain ⟨n, hn, hn2⟩ := hI.2.1
    obtain ⟨p, hp, hp2⟩ := hI.2.2.1 c hc
    have hcl1 : (σ 3 2).toNatClampNeg = n := by rw [hn2]; exact nI_clamp (by omega)
    have hcl2 : (σ (16 + c) 4).toNatClampNeg = p := by rw [hp2]; exact nI_clamp (by omega)
    refine wp_aload_n d_Log_sync_5 rfl rfl ?_
    refine wp_get d_Log_sync_6 fl_Log_17 (by first | exact hR.log | exact hR.car | exact hR.seq) (by rfl) ?_
    refine wp_iload_n d_Log_sync_9 rfl rfl ?_
    refine wp_aald d_Log_sync_10 (t := 4) (C := "SharedLog$Client") rfl (by first | exact hR.log | exact hR.car | exact hR.seq) (by rfl) (by assumption) (by omega) (by rfl) ?_
    refine wp_astore_n d_Log_sync_11 rfl (by decide) ?_
    refine wp_aload_n d_Log_sync_12 rfl rfl ?_
    refine wp_aload_n d_Log_sync_13 rfl rfl ?_
    refine wx_callV d_Log_sync_14 cv_Log_164 cd_Log_requireSequencer ⟨by decide, by decide⟩ (ct_requireSequencer hC hc) (by exact hR.log) rfl rfl (Nat.le_of_ble_eq_true rfl) (Nat.le_of_ble_eq_true rfl) (Nat.le_of_ble_eq_true rfl) (fun E1 μ1 hq => WX.out rfl (no_hd _) (Nat.le_of_ble_eq_true rfl) (Nat.le_of_ble_eq_true rfl) ?_) (fun v1 μ1 hq => ?_)
    · obtain ⟨rfl, rfl, ht⟩ := hq
      rw [syS, if_pos ht]
      exact ⟨by show 2 ≠ 0; decide, rfl, g, φ, hC, sub.rf φ⟩
    · obtain ⟨rfl, rfl, ht⟩ := hq
      rw [syS, if_neg (by rw [ht]; decide), hcl1, hcl2]
      refine wp_aload_n d_Log_sync_17 rfl rfl ?_
      refine wp_aload_n d_Log_sync_18 rfl rfl ?_
      refine wp_aload_n d_Log_sync_19 rfl rfl ?_
      refine wp_get d_Log_sync_20 fl_Log_24 (by first | exact hR.log | exact hR.car | exact hR.seq) (by rfl) ?_
      refine wp_get d_Log_sync_23 fl_Log_152 (by first | exact hR.log | exact hR.car | exact hR.seq) (by rfl) ?_
      rw [hn2]
      refine wx_callV d_Log_sync_26 cv_Log_168 cd_Log_play ⟨by decide, by decide⟩ (ct_play hC hc hp2 hp hn (fun ch hch => hI.1 (1 + c) ch (by omega) hch)) (by exact hR.log) rfl rfl (Nat.le_of_ble_eq_true rfl) (Nat.le_of_ble_eq_true rfl) (Nat.le_of_ble_eq_true rfl) (fun E1 μ1 hq => WX.out rfl (no_hd _) (Nat.le_of_ble_eq_true rfl) (Nat.le_of_ble_eq_true rfl) ?_) (fun v1 μ1 hq => ?_)
      · obtain ⟨k, t, σ', e, hC2, hk⟩ := hq
        rw [e]
        rcases hk with ⟨rfl, rfl⟩ | ⟨rfl, rfl⟩ | ⟨rfl, rfl⟩
        · exact ⟨by show 2 ≠ 0; decide, rfl, g, φ, hC2, sub.rf φ⟩
        · exact ⟨by show 4 ≠ 0; decide, rfl, g, φ, hC2, sub.rf φ⟩
        · exact ⟨by show 3 ≠ 0; decide, rfl, g, φ, hC2, sub.rf φ⟩
      · obtain ⟨t, σ', rfl, -, e, hC2⟩ := hq
        rw [e]
        have hR2 := hC2.R
        refine wp_pop d_Log_sync_29 rfl ?_
        refine wp_aload_n d_Log_sync_30 rfl rfl ?_
        refine wp_get d_Log_sync_31 fl_Log_172 (by exact hR2.cli hc) (by rfl) ?_
        exact wp_iret d_Log_sync_34 rfl (by decide) (by decide) ⟨rfl, rfl, g, φ, hC2, sub.rf φ⟩
/-- trimming n more offsets from o on -/
def trS (c : Nat) (δ : dg) : Nat → Nat → Nat → sg → Nat × Nat × sg
  | 0, _, k, σ => (0, k, σ)
  | n + 1, o, k, σ => match t1S c o (δ (1 + c) (o % 2)) (ln (δ (1 + c) (o % 2))) 0 0 σ with
    | (q, j, σ') => if q = 0 then trS c δ n (o + 1) (k + j) σ' else (1, k, σ')
def S_trim (x y : Int32) (σ : sg) (δ : dg) : RS := match ar x 4, ar y 60 with
  | some c, some o => match trS c δ (o + 1) 0 0 σ with
    | (q, k, σ') => if q = 0 then (0, nI k, σ', δ) else (2, 0, σ', δ)
  | _, _ => (1, 0, σ, δ)
set_option maxHeartbeats 4000000 in
set_option maxRecDepth 10000 in
theorem ct_trim (hC : Cx G μ φ ad g σ δ) (hI : PI σ δ) (x y : Int32) : CT G M_Log_trim [.ref (ad 0), .int x, .int y] μ (PostC G φ ad (S_trim x y σ δ)) (PxC G φ ad ex2 (S_trim x y σ δ)) := by
  have hR := hC.R
  refine CT.of (by decide) rfl (Nat.le_of_ble_eq_true rfl) ?_
  refine wp_iload_n d_Log_trim_0 rfl rfl ?_
  refine wp_iconst (v := 3) d_Log_trim_1 (by decide) ?_
  refine wx_callS d_Log_trim_2 cs_Log_65 cd_Log_requireWithin ⟨by decide, by decide⟩ (ct_requireWithin G μ x 3) rfl rfl (Nat.le_of_ble_eq_true rfl) (Nat.le_of_ble_eq_true rfl) (Nat.le_of_ble_eq_true rfl) (fun E1 μ1 hq => WX.out rfl (no_hd _) (Nat.le_of_ble_eq_true rfl) (Nat.le_of_ble_eq_true rfl) ?_) (fun v1 μ1 hq => ?_)
  · obtain ⟨rfl, rfl, hx⟩ := hq
    rw [S_trim, ar_no (n := 3) rfl (by omega) hx]
    exact ⟨Nat.one_ne_zero, rfl, g, φ, hC, sub.rf φ⟩
  · obtain ⟨rfl, rfl, h1, h2⟩ := hq
    obtain ⟨c, hc, rfl⟩ := ar_ok (n := 3) rfl (by omega) h1 h2
    refine wp_iload_n d_Log_trim_5 rfl rfl ?_
    refine wp_bipush (v := 59) d_Log_trim_6 (by decide) ?_
    refine wx_callS d_Log_trim_8 cs_Log_65 cd_Log_requireWithin ⟨by decide, by decide⟩ (ct_requireWithin G μ1 y 59) rfl rfl (Nat.le_of_ble_eq_true rfl) (Nat.le_of_ble_eq_true rfl) (Nat.le_of_ble_eq_true rfl) (fun E1 μ1 hq => WX.out rfl (no_hd _) (Nat.le_of_ble_eq_true rfl) (Nat.le_of_ble_eq_true rfl) ?_) (fun v1 μ1 hq => ?_)
    · obtain ⟨rfl, rfl, hx⟩ := hq
      rw [S_trim, ar_nI hc (by omega), ar_no (n := 59) rfl (by omega) hx]
      exact ⟨Nat.one_ne_zero, rfl, g, φ, hC, sub.rf φ⟩
    · obtain ⟨rfl, rfl, h1, h2⟩ := hq
      obtain ⟨o, ho, rfl⟩ := ar_ok (n := 59) rfl (by omega) h1 h2
      have hS : S_trim (nI c) (nI o) σ δ = (match trS c δ (o + 1) 0 0 σ with | (q, k, σ') => if q = 0 then ((0, nI k, σ', δ) : RS) else (2, 0, σ', δ)) := by rw [S_trim, ar_nI hc (by omega), ar_nI ho (by omega)]
      rw [hS]
      refine wp_iconst (v := 0) d_Log_trim_11 (by decide) ?_
      refine wp_istore_n d_Log_trim_12 rfl (by decide) ?_
      refine wp_iconst (v := 0) d_Log_trim_13 (by decide) ?_
      refine wp_istore d_Log_trim_14 (by decide) ?_
      have loop : ∀ (n i k : Nat) (σ1 : sg) (g1 : dg) (μ1 : mu_M), i + n = o + 1 → k ≤ 3 * i → Cx G μ1 φ ad g1 σ1 δ → trS c δ n i k σ1 = trS c δ (o + 1) 0 0 σ →
          WP G M_Log_trim (EC G M_Log_trim (PostC G φ ad (match trS c δ (o + 1) 0 0 σ with | (q, k, σ') => if q = 0 then ((0, nI k, σ', δ) : RS) else (2, 0, σ', δ))) (PxC G φ ad ex2 (match trS c δ (o + 1) 0 0 σ with | (q, k, σ') => if q = 0 then ((0, nI k, σ', δ) : RS) else (2, 0, σ', δ))))
            [(0, .ref (ad 0)), (1, .int (nI c)), (2, .int (nI o)), (3, .int (nI k)), (4, .int (nI i))] 16 [] μ1 (2 + 3 * i) (12 + 18 * i) := by
        intro n
        induction n with
        | zero =>
          intro i k σ1 g1 μ1 h1 h2 hC1 hw
          rw [← hw]
          refine wp_iload d_Log_trim_16 rfl ?_
          refine wp_iload_n d_Log_trim_18 rfl rfl ?_
          refine wp_icmp_gt (tgt := 43) d_Log_trim_19 (by decide) (fun c19 => ?_) (fun c19 => ?_)
          · refine wp_iload_n d_Log_trim_43 rfl rfl ?_
            exact wp_iret d_Log_trim_44 rfl (by show 2 + 3 * i ≤ 182; omega) (by show 12 + 18 * i ≤ 1092; omega) ⟨rfl, rfl, g1, φ, hC1, sub.rf φ⟩
          · exact absurd ((nI_ltI (by omega) (by omega)).mpr (by omega)) c19
        | succ n ih =>
          intro i k σ1 g1 μ1 h1 h2 hC1 hw
          have hR1 := hC1.R
          have hi6 : i < 60 := by omega
          have hvr := hI.1 (1 + c) (i % 2) (by omega) (by omega)
          refine wp_iload d_Log_trim_16 rfl ?_
          refine wp_iload_n d_Log_trim_18 rfl rfl ?_
          refine wp_icmp_gt (tgt := 43) d_Log_trim_19 (by decide) (fun c19 => ?_) (fun c19 => ?_)
          · exact absurd ((nI_ltI (by omega) (by omega)).mp c19) (by omega)
          refine wp_iload_n d_Log_trim_22 rfl rfl ?_
          refine wp_aload_n d_Log_trim_23 rfl rfl ?_
          refine wp_aload_n d_Log_trim_24 rfl rfl ?_
          refine wp_get d_Log_trim_25 fl_Log_17 (by first | exact hR1.log | exact hR1.car) (by rfl) ?_
          refine wp_iload_n d_Log_trim_28 rfl rfl ?_
          refine wp_aald d_Log_trim_29 (t := 4) (C := "SharedLog$Client") rfl (by first | exact hR1.log | exact hR1.car) (by rfl) (by assumption) (by omega) (by rfl) ?_
          refine wp_iload d_Log_trim_30 rfl ?_
          refine wx_callV d_Log_trim_32 cv_Log_115 cd_Log_trimOne ⟨by decide, by decide⟩ (ct_trimOne hC1 hc hi6 hvr) (by exact hR1.log) rfl rfl (Nat.le_of_ble_eq_true rfl) (by first | exact Nat.le_of_ble_eq_true rfl | (dsimp only [mt_R, M_Log_trim, M_Log_trimOne]; omega)) (by first | exact Nat.le_of_ble_eq_true rfl | (dsimp only [mt_R, M_Log_trim, M_Log_trimOne]; omega)) (fun E1 μ1 hq => WX.out rfl (no_hd _) (by first | exact Nat.le_of_ble_eq_true rfl | (dsimp only [mt_R, M_Log_trim, M_Log_trimOne]; omega)) (by first | exact Nat.le_of_ble_eq_true rfl | (dsimp only [mt_R, M_Log_trim, M_Log_trimOne]; omega)) ?_) (fun v1 μ1 hq => ?_)
          · obtain ⟨g2, σ2, j, rfl, e, hC2⟩ := hq
            rw [← hw, trS, e]
            exact ⟨by show 2 ≠ 0; decide, rfl, g2, φ, hC2, sub.rf φ⟩
          · obtain ⟨g2, σ2, j, rfl, hj, e, hC2⟩ := hq
            refine wp_iadd d_Log_trim_35 ?_
            rw [nI_add k j]
            refine wp_istore_n d_Log_trim_36 rfl (by decide) ?_
            refine wp_iinc d_Log_trim_37 rfl rfl (by decide) ?_
            refine wp_goto (tgt := 16) d_Log_trim_40 (by decide) ?_
            refine WP.loc [(0, .ref (ad 0)), (1, .int (nI c)), (2, .int (nI o)), (3, .int (nI (k + j))), (4, .int (nI (i + 1)))] (by rw [← nI_1 i]; rfl) (WP.widen (k := 2 + 3 * (i + 1)) (n := 12 + 18 * (i + 1)) (by dsimp only [mt_R, M_Log_trim, M_Log_trimOne]; omega) (by dsimp only [mt_R, M_Log_trim, M_Log_trimOne]; omega) (ih (i + 1) (k + j) σ2 g2 _ (by omega) (by omega) hC2 ?_))
            rw [← hw, trS, e]
            rfl
      exact WP.loc _ rfl (loop _ 0 0 σ g _ (by omega) (by omega) hC rfl)
/-- filling n more units of the row d from place i on; k have got something; fv is what is given -/
def flS (c o d : Nat) : Nat → Nat → Nat → (Nat → Int32) → sg → Nat × Nat × sg
  | 0, _, k, _, σ => (0, k, σ)
  | n + 1, i, k, fv, σ => if usb σ c (un d i) = true then (if σ (eR (un d i) o) 0 = 0 then flS c o d n (i + 1) (k + 1) fv (va_up σ (eR (un d i) o) fv) else flS c o d n (i + 1) k (if i = 0 then σ (eR (un d i) o) else fv) σ) else (1, k, σ)
def S_fill (x y : Int32) (σ : sg) (δ : dg) : RS := match ar x 4, ar y 60 with
  | some c, some o => match flS c o (δ (1 + c) (o % 2)) (ln (δ (1 + c) (o % 2))) 0 0 vJunk σ with
    | (q, k, σ') => if q = 0 then (0, nI k, σ', δ) else (2, 0, σ', δ)
  | _, _ => (1, 0, σ, δ)
set_option maxHeartbeats 4000000 in
set_option maxRecDepth 10000 in
theorem ct_fill (hC : Cx G μ φ ad g σ δ) (hI : PI σ δ) (x y : Int32) : CT G M_Log_fill [.ref (ad 0), .int x, .int y] μ (PostC G φ ad (S_fill x y σ δ)) (PxC G φ ad ex2 (S_fill x y σ δ)) := by
  have hR := hC.R
  refine CT.of (by decide) rfl (Nat.le_of_ble_eq_true rfl) ?_
  refine wp_iload_n d_Log_fill_0 rfl rfl ?_
  refine wp_iconst (v := 3) d_Log_fill_1 (by decide) ?_
  refine wx_callS d_Log_fill_2 cs_Log_65 cd_Log_requireWithin ⟨by decide, by decide⟩ (ct_requireWithin G μ x 3) rfl rfl (Nat.le_of_ble_eq_true rfl) (Nat.le_of_ble_eq_true rfl) (Nat.le_of_ble_eq_true rfl) (fun E1 μ1 hq => WX.out rfl (no_hd _) (Nat.le_of_ble_eq_true rfl) (Nat.le_of_ble_eq_true rfl) ?_) (fun v1 μ1 hq => ?_)
  · obtain ⟨rfl, rfl, hx⟩ := hq
    rw [S_fill, ar_no (n := 3) rfl (by omega) hx]
    exact ⟨Nat.one_ne_zero, rfl, g, φ, hC, sub.rf φ⟩
  · obtain ⟨rfl, rfl, h1, h2⟩ := hq
    obtain ⟨c, hc, rfl⟩ := ar_ok (n := 3) rfl (by omega) h1 h2
    refine wp_iload_n d_Log_fill_5 rfl rfl ?_
    refine wp_bipush (v := 59) d_Log_fill_6 (by decide) ?_
    refine wx_callS d_Log_fill_8 cs_Log_65 cd_Log_requireWithin ⟨by decide, by decide⟩ (ct_requireWithin G μ1 y 59) rfl rfl (Nat.le_of_ble_eq_true rfl) (Nat.le_of_ble_eq_true rfl) (Nat.le_of_ble_eq_true rfl) (fun E1 μ1 hq => WX.out rfl (no_hd _) (Nat.le_of_ble_eq_true rfl) (Nat.le_of_ble_eq_true rfl) ?_) (fun v1 μ1 hq => ?_)
    · obtain ⟨rfl, rfl, hx⟩ := hq
      rw [S_fill, ar_nI hc (by omega), ar_no (n := 59) rfl (by omega) hx]
      exact ⟨Nat.one_ne_zero, rfl, g, φ, hC, sub.rf φ⟩
    · obtain ⟨rfl, rfl, h1, h2⟩ := hq
      obtain ⟨o, ho, rfl⟩ := ar_ok (n := 59) rfl (by omega) h1 h2
      have hS : S_fill (nI c) (nI o) σ δ = (match flS c o (δ (1 + c) (o % 2)) (ln (δ (1 + c) (o % 2))) 0 0 vJunk σ with | (q, k, σ') => if q = 0 then ((0, nI k, σ', δ) : RS) else (2, 0, σ', δ)) := by rw [S_fill, ar_nI hc (by omega), ar_nI ho (by omega)]
      rw [hS]
      have hd := hI.1 (1 + c) (o % 2) (by omega) (by omega)
      obtain ⟨a0, a1, rw, f, hk0, hrw, hrφ, hf⟩ := hC.rowφ hc o
      generalize δ (1 + c) (o % 2) = d at hd hrφ hf ⊢
      have hln := ln_pos d
      refine wp_aload_n d_Log_fill_11 rfl rfl ?_
      refine wp_get d_Log_fill_12 fl_Log_17 (by first | exact hR.log | exact hR.car | exact hR.cli hc) (by rfl) ?_
      refine wp_iload_n d_Log_fill_15 rfl rfl ?_
      refine wp_aald d_Log_fill_16 (t := 4) (C := "SharedLog$Client") rfl (by first | exact hR.log | exact hR.car | exact hR.cli hc) (by rfl) (by assumption) (by omega) (by rfl) ?_
      refine wp_astore_n d_Log_fill_17 rfl (by decide) ?_
      refine wp_aload_n d_Log_fill_18 rfl rfl ?_
      refine wp_get d_Log_fill_19 fl_Log_80 (by first | exact hR.log | exact hR.car | exact hR.cli hc) (by rfl) ?_
      refine wp_iload_n d_Log_fill_22 rfl rfl ?_
      refine wx_callV d_Log_fill_23 cv_Log_83 cd_Layout_chainOf ⟨by decide, by decide⟩ (ct_chainOf G μ1 _ a0 a1 o _ (by omega) (hC.at hk0)) (by exact hC.at hk0) rfl rfl (Nat.le_of_ble_eq_true rfl) (Nat.le_of_ble_eq_true rfl) (Nat.le_of_ble_eq_true rfl) (fun E1 μ1 hq => WX.out rfl (no_hd _) (Nat.le_of_ble_eq_true rfl) (Nat.le_of_ble_eq_true rfl) ?_) (fun v1 μ1 hq => ?_)
      · exact hq.elim
      · obtain ⟨rfl, rfl⟩ := hq
        rw [hrw]
        refine wp_astore d_Log_fill_26 (by decide) ?_
        refine wp_aload_n d_Log_fill_28 rfl rfl ?_
        refine wp_get d_Log_fill_29 fl_Log_40 (by first | exact hR.log | exact hR.car | exact hR.cli hc) (by rfl) ?_
        refine wp_astore d_Log_fill_32 (by decide) ?_
        refine wp_iconst (v := 0) d_Log_fill_34 (by decide) ?_
        refine wp_istore d_Log_fill_35 (by decide) ?_
        refine wp_iconst (v := 0) d_Log_fill_37 (by decide) ?_
        refine wp_istore d_Log_fill_38 (by decide) ?_
        have loop : ∀ (n i k fa : Nat) (fv : Nat → Int32) (σ1 : sg) (g1 : dg) (μ1 : mu_M), i + n = ln d → k ≤ i → Cx G μ1 φ ad g1 σ1 δ → FE G φ fa fv → flS c o d n i k fv σ1 = flS c o d (ln d) 0 0 vJunk σ →
            WP G M_Log_fill (EC G M_Log_fill (PostC G φ ad (match flS c o d (ln d) 0 0 vJunk σ with | (q, k, σ') => if q = 0 then ((0, nI k, σ', δ) : RS) else (2, 0, σ', δ))) (PxC G φ ad ex2 (match flS c o d (ln d) 0 0 vJunk σ with | (q, k, σ') => if q = 0 then ((0, nI k, σ', δ) : RS) else (2, 0, σ', δ))))
              [(0, .ref (ad 0)), (2, .int (nI o)), (3, .ref (ad (16 + c))), (4, .ref rw), (5, .ref fa), (6, .int (nI k)), (7, .int (nI i))] 40 [] μ1 (2 + i) (12 + 6 * i) := by
          intro n
          induction n with
          | zero =>
            intro i k fa fv σ1 g1 μ1 hi hki hC1 hfa hw
            rw [← hw]
            refine wp_iload d_Log_fill_40 rfl ?_
            refine wp_aload d_Log_fill_42 rfl ?_
            refine wp_alen d_Log_fill_44 rfl (by exact hC1.at hrφ) ?_
            refine wp_icmp_ge (tgt := 104) d_Log_fill_45 (by decide) (fun c45 => ?_) (fun c45 => ?_)
            · refine wp_iload d_Log_fill_104 rfl ?_
              exact wp_iret d_Log_fill_106 rfl (by show 2 + i ≤ 5; omega) (by show 12 + 6 * i ≤ 30; omega) ⟨rfl, rfl, g1, φ, hC1, sub.rf φ⟩
            · rw [nI_leI (by omega) (by omega)] at c45
              omega
          | succ n ih =>
            intro i k fa fv σ1 g1 μ1 hi hki hC1 hfa hw
            have hR1 := hC1.R
            have hil : i < ln d := by omega
            have hu : un d i < 6 := vr_un hd hil
            obtain ⟨w1, he1, -⟩ := hC1.ent hu ho
            refine wp_iload d_Log_fill_40 rfl ?_
            refine wp_aload d_Log_fill_42 rfl ?_
            refine wp_alen d_Log_fill_44 rfl (by exact hC1.at hrφ) ?_
            refine wp_icmp_ge (tgt := 104) d_Log_fill_45 (by decide) (fun c45 => ?_) (fun c45 => ?_)
            · exact absurd ((nI_leI (by omega) (by omega)).mp c45) (by omega)
            refine wp_aload_n d_Log_fill_48 rfl rfl ?_
            refine wp_aload_n d_Log_fill_49 rfl rfl ?_
            refine wp_aload d_Log_fill_50 rfl ?_
            refine wp_iload d_Log_fill_52 rfl ?_
            refine wp_iald d_Log_fill_54 (by exact hC1.at hrφ) (by rfl) (by exact hil) (by omega) ?_
            rw [hf i hil]
            refine wx_callV d_Log_fill_55 cv_Log_103 cd_Log_use ⟨by decide, by decide⟩ (ct_use hC1 hc hu) (by exact hR1.log) rfl rfl (Nat.le_of_ble_eq_true rfl) (by first | exact Nat.le_of_ble_eq_true rfl | (dsimp only [mt_R, M_Log_fill, M_Log_use, M_Unit_holds, M_Layout_chainOf]; omega)) (by first | exact Nat.le_of_ble_eq_true rfl | (dsimp only [mt_R, M_Log_fill, M_Log_use, M_Unit_holds, M_Layout_chainOf]; omega)) (fun E1 μ1 hq => WX.out rfl (no_hd _) (by first | exact Nat.le_of_ble_eq_true rfl | (dsimp only [mt_R, M_Log_fill, M_Log_use, M_Unit_holds, M_Layout_chainOf]; omega)) (by first | exact Nat.le_of_ble_eq_true rfl | (dsimp only [mt_R, M_Log_fill, M_Log_use, M_Unit_holds, M_Layout_chainOf]; omega)) ?_) (fun v1 μ1 hq => ?_)
            · obtain ⟨rfl, rfl, hub⟩ := hq
              rw [← hw, flS, if_neg (by rw [hub]; decide)]
              exact ⟨by show 2 ≠ 0; decide, rfl, g1, φ, hC1, sub.rf φ⟩
            · obtain ⟨rfl, rfl, hub⟩ := hq
              refine wp_astore d_Log_fill_58 (by decide) ?_
              refine wp_aload d_Log_fill_60 rfl ?_
              refine wp_iload_n d_Log_fill_62 rfl rfl ?_
              refine wx_callV d_Log_fill_63 cv_Log_107 cd_Unit_holds ⟨by decide, by decide⟩ (ct_holds G μ1 _ _ o _ _ _ _ _ _ _ ho (hR1.unit hu) (hR1.cells hu) rfl he1) (by exact hR1.unit hu) rfl rfl (Nat.le_of_ble_eq_true rfl) (by first | exact Nat.le_of_ble_eq_true rfl | (dsimp only [mt_R, M_Log_fill, M_Log_use, M_Unit_holds, M_Layout_chainOf]; omega)) (by first | exact Nat.le_of_ble_eq_true rfl | (dsimp only [mt_R, M_Log_fill, M_Log_use, M_Unit_holds, M_Layout_chainOf]; omega)) (fun E1 μ1 hq => WX.out rfl (no_hd _) (by first | exact Nat.le_of_ble_eq_true rfl | (dsimp only [mt_R, M_Log_fill, M_Log_use, M_Unit_holds, M_Layout_chainOf]; omega)) (by first | exact Nat.le_of_ble_eq_true rfl | (dsimp only [mt_R, M_Log_fill, M_Log_use, M_Unit_holds, M_Layout_chainOf]; omega)) ?_) (fun v1 μ1 hq => ?_)
              · exact hq.elim
              · obtain ⟨rfl, rfl⟩ := hq
                refine wp_if_ne (tgt := 84) d_Log_fill_66 (by decide) (fun c66 => ?_) (fun c66 => ?_)
                · have hz : ¬ σ1 (eR (un d i) o) 0 = 0 := fun hz => c66 (by rw [if_pos hz])
                  have hw2 : flS c o d n (i + 1) k (if i = 0 then σ1 (eR (un d i) o) else fv) σ1 = flS c o d (ln d) 0 0 vJunk σ := by
                    rw [← hw, flS, if_pos hub, if_neg hz]
                  refine wp_iload d_Log_fill_84 rfl ?_
                  refine wp_if_ne (tgt := 98) d_Log_fill_86 (by decide) (fun c86 => ?_) (fun c86 => ?_)
                  · have hi0 : ¬ i = 0 := fun e => c86 (by rw [e]; exact nI_0)
                    rw [if_neg hi0] at hw2
                    refine wp_iinc d_Log_fill_98 rfl rfl (by decide) ?_
                    refine wp_goto (tgt := 40) d_Log_fill_101 (by decide) ?_
                    exact WP.loc [(0, .ref (ad 0)), (2, .int (nI o)), (3, .ref (ad (16 + c))), (4, .ref rw), (5, .ref fa), (6, .int (nI k)), (7, .int (nI (i + 1)))] (by rw [← nI_1 i]; rfl) (WP.widen (k := 2 + (i + 1)) (n := 12 + 6 * (i + 1)) (by dsimp only [mt_R, M_Log_fill, M_Log_use, M_Unit_holds, M_Layout_chainOf]; omega) (by dsimp only [mt_R, M_Log_fill, M_Log_use, M_Unit_holds, M_Layout_chainOf]; omega) (ih (i + 1) k fa fv _ _ _ (by omega) (by omega) hC1 hfa hw2))
                  · have hi0 : i = 0 := by
                      rcases Nat.eq_zero_or_pos i with e | e
                      · exact e
                      · exact absurd c86 (nI_ne0 e (by omega))
                    rw [if_pos hi0] at hw2
                    refine wp_aload d_Log_fill_89 rfl ?_
                    refine wp_get d_Log_fill_91 fl_Log_111 (by first | exact hR1.unit hu | exact hR1.cells hu) (by rfl) ?_
                    refine wp_iload_n d_Log_fill_94 rfl rfl ?_
                    refine wp_aald d_Log_fill_95 (t := 5) (C := "SharedLog$Entry") rfl (by first | exact hR1.unit hu | exact hR1.cells hu) (by rfl) (by exact ho) (by omega) (by rfl) ?_
                    refine wp_astore d_Log_fill_96 (by decide) ?_
                    refine wp_iinc d_Log_fill_98 rfl rfl (by decide) ?_
                    refine wp_goto (tgt := 40) d_Log_fill_101 (by decide) ?_
                    exact WP.loc [(0, .ref (ad 0)), (2, .int (nI o)), (3, .ref (ad (16 + c))), (4, .ref rw), (5, .ref (g1 (10 + un d i) o)), (6, .int (nI k)), (7, .int (nI (i + 1)))] (by rw [← nI_1 i]; rfl) (WP.widen (k := 2 + (i + 1)) (n := 12 + 6 * (i + 1)) (by dsimp only [mt_R, M_Log_fill, M_Log_use, M_Unit_holds, M_Layout_chainOf]; omega) (by dsimp only [mt_R, M_Log_fill, M_Log_use, M_Unit_holds, M_Layout_chainOf]; omega) (ih (i + 1) k _ _ _ _ _ (by omega) (by omega) hC1 (hC1.2.2.1 _ _ hu ho) hw2))
                · have hz : σ1 (eR (un d i) o) 0 = 0 := by
                    by_cases hz : σ1 (eR (un d i) o) 0 = 0
                    · exact hz
                    · rw [if_neg hz] at c66; exact absurd c66 (by decide)
                  refine wp_aload d_Log_fill_69 rfl ?_
                  refine wp_get d_Log_fill_71 fl_Log_111 (by first | exact hR1.unit hu | exact hR1.cells hu) (by rfl) ?_
                  refine wp_iload_n d_Log_fill_74 rfl rfl ?_
                  refine wp_aload d_Log_fill_75 rfl ?_
                  obtain ⟨w2, hE2, -⟩ := id hfa
                  refine wp_aast d_Log_fill_77 (t := 5) (ci := 2) (r := ("SharedLog$Entry", F_Entry, 3)) rfl rfl (hR1.cells hu) (hC1.B (by omega)) (hC1.at hE2) rfl ho (by omega) ?_
                  refine wp_iinc d_Log_fill_78 rfl rfl (by decide) ?_
                  refine wp_goto (tgt := 98) d_Log_fill_81 (by decide) ?_
                  refine wp_iinc d_Log_fill_98 rfl rfl (by decide) ?_
                  refine wp_goto (tgt := 40) d_Log_fill_101 (by decide) ?_
                  have hC2 := hC1.cell hu ho (hR1.pCell (k := o) (x := fa) hu) (hC1.z.up (by omega)) hfa
                  refine WP.loc [(0, .ref (ad 0)), (2, .int (nI o)), (3, .ref (ad (16 + c))), (4, .ref rw), (5, .ref fa), (6, .int (nI (k + 1))), (7, .int (nI (i + 1)))] (by rw [← nI_1 i, ← nI_1 k]; rfl) (WP.widen (k := 2 + (i + 1)) (n := 12 + 6 * (i + 1)) (by dsimp only [mt_R, M_Log_fill, M_Log_use, M_Unit_holds, M_Layout_chainOf]; omega) (by dsimp only [mt_R, M_Log_fill, M_Log_use, M_Unit_holds, M_Layout_chainOf]; omega) (ih (i + 1) (k + 1) fa fv _ _ _ (by omega) (by omega) hC2 hfa ?_))
                  rw [← hw, flS, if_pos hub, if_pos hz]
        exact WP.loc _ rfl (loop _ 0 0 _ vJunk σ g _ (by omega) (by omega) hC hC.2.2.2.2.1 rfl)
end Pub3
