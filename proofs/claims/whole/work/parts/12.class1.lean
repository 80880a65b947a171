/-! THE CLASS, its private methods over the state -/
def usb (σ : sg) (c u : Nat) : Bool := decide (σ (4 + u) 1 ≠ 0) && decide (σ (4 + u) 2 ≤ σ (501 + c) 0)
set_option maxHeartbeats 1000000 in
set_option maxRecDepth 10000 in
theorem ct_use {G : mt_G} {μ φ : mu_M} {ad : Nat → Nat} {g : dg} {σ : sg} {δ : dg} (hC : Cx G μ φ ad g σ δ) {c u : Nat} (hc : c < 4) (hu : u < 6) :
    CT G M_Log_use [.ref (ad 0), .ref (ad (16 + c)), .int (nI u)] μ (fun v μ' => v = some (.ref (ad (4 + u))) ∧ μ' = μ ∧ usb σ c u = true) (fun E μ' => E = ISE ∧ μ' = μ ∧ usb σ c u = false) := by
  obtain ⟨a0, a1, f0, f1, hk0, -⟩ := hC.kn hc
  have hR := hC.R
  refine CT.of (by decide) rfl (Nat.le_of_ble_eq_true rfl) ?_
  refine wp_aload_n d_Log_use_0 rfl rfl ?_
  refine wp_get d_Log_use_1 fl_Log_11 (by first | exact hR.log | exact hR.uar | exact hR.unit hu | exact hR.cli hc | exact hk0) (by rfl) ?_
  refine wp_iload_n d_Log_use_4 rfl rfl ?_
  refine wp_aald d_Log_use_5 (t := 3) (C := "SharedLog$Unit") rfl (by first | exact hR.log | exact hR.uar | exact hR.unit hu | exact hR.cli hc | exact hk0) (by rfl) (by exact hu) (by omega) (by rfl) ?_
  refine wp_astore_n d_Log_use_6 rfl (by decide) ?_
  refine wp_aload_n d_Log_use_7 rfl rfl ?_
  refine wp_get d_Log_use_8 fl_Log_154 (by first | exact hR.log | exact hR.uar | exact hR.unit hu | exact hR.cli hc | exact hk0) (by rfl) ?_
  refine wp_if_eq (tgt := 28) d_Log_use_11 (by decide) (fun c11 => ?_) (fun c11 => ?_)
  · exact wp_throw th_Log_182_243 rfl (no_hd _) d_Log_use_28 d_Log_use_31 d_Log_use_32 d_Log_use_34 d_Log_use_37 (Nat.le_of_ble_eq_true rfl) (Nat.le_of_ble_eq_true rfl) (Nat.le_of_ble_eq_true rfl) (Nat.le_of_ble_eq_true rfl) ⟨rfl, rfl, by simp [usb, c11]⟩
  · refine wp_aload_n d_Log_use_14 rfl rfl ?_
    refine wp_get d_Log_use_15 fl_Log_158 (by first | exact hR.log | exact hR.uar | exact hR.unit hu | exact hR.cli hc | exact hk0) (by rfl) ?_
    refine wp_aload_n d_Log_use_18 rfl rfl ?_
    refine wp_get d_Log_use_19 fl_Log_80 (by first | exact hR.log | exact hR.uar | exact hR.unit hu | exact hR.cli hc | exact hk0) (by rfl) ?_
    refine wp_get d_Log_use_22 fl_Log_119 (by first | exact hR.log | exact hR.uar | exact hR.unit hu | exact hR.cli hc | exact hk0) (by rfl) ?_
    refine wp_icmp_le (tgt := 38) d_Log_use_25 (by decide) (fun c25 => ?_) (fun c25 => ?_)
    · refine wp_aload_n d_Log_use_38 rfl rfl ?_
      exact wp_aret d_Log_use_39 rfl (Or.inl ⟨_, rfl⟩) (by decide) (by decide) ⟨rfl, rfl, by simp [usb, c11, c25]⟩
    · exact wp_throw th_Log_182_243 rfl (no_hd _) d_Log_use_28 d_Log_use_31 d_Log_use_32 d_Log_use_34 d_Log_use_37 (Nat.le_of_ble_eq_true rfl) (Nat.le_of_ble_eq_true rfl) (Nat.le_of_ble_eq_true rfl) (Nat.le_of_ble_eq_true rfl) ⟨rfl, rfl, by simp [usb, c25]⟩
set_option maxHeartbeats 1000000 in
set_option maxRecDepth 10000 in
theorem ct_requireTransaction {G : mt_G} {μ φ : mu_M} {ad : Nat → Nat} {g : dg} {σ : sg} {δ : dg} (hC : Cx G μ φ ad g σ δ) {c : Nat} (hc : c < 4) :
    CT G M_Log_requireTransaction [.ref (ad (16 + c))] μ (fun v μ' => v = none ∧ μ' = μ ∧ ¬ σ (16 + c) 3 = 0) (fun E μ' => E = ISE ∧ μ' = μ ∧ σ (16 + c) 3 = 0) := by
  have hR := hC.R
  refine CT.of (by decide) rfl (Nat.le_of_ble_eq_true rfl) ?_
  refine wp_aload_n d_Log_requireTransaction_0 rfl rfl ?_
  refine wp_get d_Log_requireTransaction_1 fl_Log_179 (by exact hR.cli hc) (by rfl) ?_
  refine wp_if_ne (tgt := 17) d_Log_requireTransaction_4 (by decide) (fun c4 => ?_) (fun c4 => ?_)
  · exact wp_vret d_Log_requireTransaction_17 rfl (by decide) (by decide) ⟨rfl, rfl, c4⟩
  · exact wp_throw th_Log_182_234 rfl (no_hd _) d_Log_requireTransaction_7 d_Log_requireTransaction_10 d_Log_requireTransaction_11 d_Log_requireTransaction_13 d_Log_requireTransaction_16 (Nat.le_of_ble_eq_true rfl) (Nat.le_of_ble_eq_true rfl) (Nat.le_of_ble_eq_true rfl) (Nat.le_of_ble_eq_true rfl) ⟨rfl, rfl, c4⟩
/-- no token for this client -/
def ntk (σ : sg) (c : Nat) : Bool := decide (σ 3 0 ≠ 0) || decide (σ 3 1 ≠ σ (501 + c) 0)
set_option maxHeartbeats 1000000 in
set_option maxRecDepth 10000 in
theorem ct_requireSequencer {G : mt_G} {μ φ : mu_M} {ad : Nat → Nat} {g : dg} {σ : sg} {δ : dg} (hC : Cx G μ φ ad g σ δ) {c : Nat} (hc : c < 4) :
    CT G M_Log_requireSequencer [.ref (ad 0), .ref (ad (16 + c))] μ (fun v μ' => v = none ∧ μ' = μ ∧ ntk σ c = false) (fun E μ' => E = ISE ∧ μ' = μ ∧ ntk σ c = true) := by
  obtain ⟨a0, a1, f0, f1, hk0, -⟩ := hC.kn hc
  have hR := hC.R
  refine CT.of (by decide) rfl (Nat.le_of_ble_eq_true rfl) ?_
  refine wp_aload_n d_Log_requireSequencer_0 rfl rfl ?_
  refine wp_get d_Log_requireSequencer_1 fl_Log_24 (by first | exact hR.log | exact hR.seq | exact hR.cli hc | exact hk0) (by rfl) ?_
  refine wp_get d_Log_requireSequencer_4 fl_Log_161 (by first | exact hR.log | exact hR.seq | exact hR.cli hc | exact hk0) (by rfl) ?_
  refine wp_if_ne (tgt := 27) d_Log_requireSequencer_7 (by decide) (fun c7 => ?_) (fun c7 => ?_)
  · exact wp_throw th_Log_182_236 rfl (no_hd _) d_Log_requireSequencer_27 d_Log_requireSequencer_30 d_Log_requireSequencer_31 d_Log_requireSequencer_33 d_Log_requireSequencer_36 (Nat.le_of_ble_eq_true rfl) (Nat.le_of_ble_eq_true rfl) (Nat.le_of_ble_eq_true rfl) (Nat.le_of_ble_eq_true rfl) ⟨rfl, rfl, by simp [ntk, c7]⟩
  · refine wp_aload_n d_Log_requireSequencer_10 rfl rfl ?_
    refine wp_get d_Log_requireSequencer_11 fl_Log_24 (by first | exact hR.log | exact hR.seq | exact hR.cli hc | exact hk0) (by rfl) ?_
    refine wp_get d_Log_requireSequencer_14 fl_Log_223 (by first | exact hR.log | exact hR.seq | exact hR.cli hc | exact hk0) (by rfl) ?_
    refine wp_aload_n d_Log_requireSequencer_17 rfl rfl ?_
    refine wp_get d_Log_requireSequencer_18 fl_Log_80 (by first | exact hR.log | exact hR.seq | exact hR.cli hc | exact hk0) (by rfl) ?_
    refine wp_get d_Log_requireSequencer_21 fl_Log_119 (by first | exact hR.log | exact hR.seq | exact hR.cli hc | exact hk0) (by rfl) ?_
    refine wp_icmp_eq (tgt := 37) d_Log_requireSequencer_24 (by decide) (fun c24 => ?_) (fun c24 => ?_)
    · exact wp_vret d_Log_requireSequencer_37 rfl (by decide) (by decide) ⟨rfl, rfl, by simp [ntk, c7, c24]⟩
    · exact wp_throw th_Log_182_236 rfl (no_hd _) d_Log_requireSequencer_27 d_Log_requireSequencer_30 d_Log_requireSequencer_31 d_Log_requireSequencer_33 d_Log_requireSequencer_36 (Nat.le_of_ble_eq_true rfl) (Nat.le_of_ble_eq_true rfl) (Nat.le_of_ble_eq_true rfl) (Nat.le_of_ble_eq_true rfl) ⟨rfl, rfl, by simp [ntk, c24]⟩
set_option maxHeartbeats 1000000 in
set_option maxRecDepth 10000 in
theorem ct_takeToken {G : mt_G} {μ φ : mu_M} {ad : Nat → Nat} {g : dg} {σ : sg} {δ : dg} (hC : Cx G μ φ ad g σ δ) {c : Nat} (hc : c < 4) :
    CT G M_Log_takeToken [.ref (ad 0), .ref (ad (16 + c))] μ (fun v μ' => v = some (.int (σ 3 2)) ∧ ntk σ c = false ∧ σ 3 2 < 60 ∧ Cx G μ' φ ad g (up2 σ 3 2 (σ 3 2 + 1)) δ)
      (fun E μ' => μ' = μ ∧ ((E = ISE ∧ ntk σ c = true) ∨ (E = IOE ∧ ntk σ c = false ∧ ¬ σ 3 2 < 60))) := by
  have hR := hC.R
  refine CT.of (by decide) rfl (Nat.le_of_ble_eq_true rfl) ?_
  refine wp_aload_n d_Log_takeToken_0 rfl rfl ?_
  refine wp_aload_n d_Log_takeToken_1 rfl rfl ?_
  refine wx_callV d_Log_takeToken_2 cv_Log_164 cd_Log_requireSequencer ⟨by decide, by decide⟩ (ct_requireSequencer hC hc) (by exact hR.log) rfl rfl (Nat.le_of_ble_eq_true rfl) (Nat.le_of_ble_eq_true rfl) (Nat.le_of_ble_eq_true rfl) (fun E1 μ1 hq => WX.out rfl (no_hd _) (Nat.le_of_ble_eq_true rfl) (Nat.le_of_ble_eq_true rfl) ?_) (fun v1 μ1 hq => ?_)
  · exact ⟨hq.2.1, Or.inl ⟨hq.1, hq.2.2⟩⟩
  · obtain ⟨rfl, rfl, hn⟩ := hq
    refine wp_aload_n d_Log_takeToken_5 rfl rfl ?_
    refine wp_get d_Log_takeToken_6 fl_Log_24 (by first | exact hR.log | exact hR.seq) (by rfl) ?_
    refine wp_get d_Log_takeToken_9 fl_Log_152 (by first | exact hR.log | exact hR.seq) (by rfl) ?_
    refine wp_bipush (v := 60) d_Log_takeToken_12 (by decide) ?_
    refine wp_icmp_lt (tgt := 27) d_Log_takeToken_14 (by decide) (fun c14 => ?_) (fun c14 => ?_)
    · refine wp_aload_n d_Log_takeToken_27 rfl rfl ?_
      refine wp_get d_Log_takeToken_28 fl_Log_24 (by first | exact hR.log | exact hR.seq) (by rfl) ?_
      refine wp_get d_Log_takeToken_31 fl_Log_152 (by first | exact hR.log | exact hR.seq) (by rfl) ?_
      refine wp_istore_n d_Log_takeToken_34 rfl (by decide) ?_
      refine wp_aload_n d_Log_takeToken_35 rfl rfl ?_
      refine wp_get d_Log_takeToken_36 fl_Log_24 (by first | exact hR.log | exact hR.seq) (by rfl) ?_
      refine wp_iload_n d_Log_takeToken_39 rfl rfl ?_
      refine wp_iconst (v := 1) d_Log_takeToken_40 (by decide) ?_
      refine wp_iadd d_Log_takeToken_41 ?_
      refine wp_put d_Log_takeToken_42 fp_Log_152 (by first | exact hR.log | exact hR.seq) (by exact hC.B (by decide)) (by rfl) (by rfl) (Nat.le_of_ble_eq_true rfl) ?_
      refine wp_iload_n d_Log_takeToken_45 rfl rfl ?_
      exact wp_iret d_Log_takeToken_46 rfl (Nat.le_of_ble_eq_true rfl) (Nat.le_of_ble_eq_true rfl) ⟨rfl, hn, c14, hC.reg (by decide) hR.pSeq2 (hC.z.up (by decide))⟩
    · exact wp_throw th_Log_238_240 rfl (no_hd _) d_Log_takeToken_17 d_Log_takeToken_20 d_Log_takeToken_21 d_Log_takeToken_23 d_Log_takeToken_26 (Nat.le_of_ble_eq_true rfl) (Nat.le_of_ble_eq_true rfl) (Nat.le_of_ble_eq_true rfl) (Nat.le_of_ble_eq_true rfl) ⟨rfl, Or.inr ⟨rfl, hn, c14⟩⟩
/-- an entry v is written at offset o to n more units of the row d, from place i on: 0, or 1 (not to be used), 2 (held already) -/
def wrS (c o : Nat) (v : Nat → Int32) (d : Nat) : Nat → Nat → sg → Nat × sg
  | 0, _, σ => (0, σ)
  | n + 1, i, σ => if usb σ c (un d i) = true then (if σ (eR (un d i) o) 0 = 0 then wrS c o v d n (i + 1) (va_up σ (eR (un d i) o) v) else (2, σ)) else (1, σ)
set_option maxHeartbeats 4000000 in
set_option maxRecDepth 10000 in
theorem ct_write {G : mt_G} {μ φ : mu_M} {ad : Nat → Nat} {g : dg} {σ : sg} {δ : dg} (hC : Cx G μ φ ad g σ δ) {c o ea m : Nat} {v : Nat → Int32} (hc : c < 4) (ho : o < 60) (hm : m ≤ 3) (hE : FE G φ ea v) (hd : vr (δ (1 + c) (o % 2)) = true) :
    CT G M_Log_write [.ref (ad 0), .ref (ad (16 + c)), .int (nI o), .ref ea, .int (nI m)] μ
      (fun w μ' => w = none ∧ ∃ g' σ', wrS c o v (δ (1 + c) (o % 2)) (min (ln (δ (1 + c) (o % 2))) m) 0 σ = (0, σ') ∧ Cx G μ' φ ad g' σ' δ)
      (fun E μ' => ∃ g' σ' k, wrS c o v (δ (1 + c) (o % 2)) (min (ln (δ (1 + c) (o % 2))) m) 0 σ = (k, σ') ∧ Cx G μ' φ ad g' σ' δ ∧ ((k = 1 ∧ E = ISE) ∨ (k = 2 ∧ E = UOE))) := by
  obtain ⟨a0, a1, rw, f, hk0, hrw, hrφ, hf⟩ := hC.rowφ hc o
  generalize δ (1 + c) (o % 2) = d at hd hrφ hf ⊢
  have hR := hC.R
  have hln := ln_pos d
  refine CT.of (by decide) rfl (Nat.le_of_ble_eq_true rfl) ?_
  refine wp_aload_n d_Log_write_0 rfl rfl ?_
  refine wp_get d_Log_write_1 fl_Log_80 (by first | exact hR.cli hc | exact hC.at hk0) (by rfl) ?_
  refine wp_iload_n d_Log_write_4 rfl rfl ?_
  refine wx_callV d_Log_write_5 cv_Log_83 cd_Layout_chainOf ⟨by decide, by decide⟩ (ct_chainOf G μ _ a0 a1 o _ (by omega) (hC.at hk0)) (by first | exact hR.cli hc | exact hC.at hk0) rfl rfl (Nat.le_of_ble_eq_true rfl) (Nat.le_of_ble_eq_true rfl) (Nat.le_of_ble_eq_true rfl) (fun E1 μ1 hq => WX.out rfl (no_hd _) (Nat.le_of_ble_eq_true rfl) (Nat.le_of_ble_eq_true rfl) ?_) (fun v1 μ1 hq => ?_)
  · exact hq.elim
  · obtain ⟨rfl, rfl⟩ := hq
    rw [hrw]
    refine wp_astore d_Log_write_8 (by decide) ?_
    refine wp_iconst (v := 0) d_Log_write_10 (by decide) ?_
    refine wp_istore d_Log_write_11 (by decide) ?_
    have loop : ∀ (n i : Nat) (σ1 : sg) (g1 : dg) (μ1 : mu_M), i + n = min (ln d) m → Cx G μ1 φ ad g1 σ1 δ → wrS c o v d n i σ1 = wrS c o v d (min (ln d) m) 0 σ →
        WP G M_Log_write (EC G M_Log_write (fun w μ' => w = none ∧ ∃ g' σ', wrS c o v d (min (ln d) m) 0 σ = (0, σ') ∧ Cx G μ' φ ad g' σ' δ) (fun E μ' => ∃ g' σ' k, wrS c o v d (min (ln d) m) 0 σ = (k, σ') ∧ Cx G μ' φ ad g' σ' δ ∧ ((k = 1 ∧ E = ISE) ∨ (k = 2 ∧ E = UOE))))
          [(0, .ref (ad 0)), (1, .ref (ad (16 + c))), (2, .int (nI o)), (3, .ref ea), (4, .int (nI m)), (5, .ref rw), (6, .int (nI i))] 13 [] μ1 i (6 * i) := by
      intro n
      induction n with
      | zero =>
        intro i σ1 g1 μ1 hi hC1 hw
        have hpost : wrS c o v d (min (ln d) m) 0 σ = (0, σ1) := hw.symm
        have hend : WP G M_Log_write (EC G M_Log_write (fun w μ' => w = none ∧ ∃ g' σ', wrS c o v d (min (ln d) m) 0 σ = (0, σ') ∧ Cx G μ' φ ad g' σ' δ) (fun E μ' => ∃ g' σ' k, wrS c o v d (min (ln d) m) 0 σ = (k, σ') ∧ Cx G μ' φ ad g' σ' δ ∧ ((k = 1 ∧ E = ISE) ∨ (k = 2 ∧ E = UOE))))
          [(0, .ref (ad 0)), (1, .ref (ad (16 + c))), (2, .int (nI o)), (3, .ref ea), (4, .int (nI m)), (5, .ref rw), (6, .int (nI i))] 73 [] μ1 i (6 * i) :=
          wp_vret d_Log_write_73 rfl (by show i ≤ 4; omega) (by show 6 * i ≤ 24; omega) ⟨rfl, g1, σ1, hpost, hC1⟩
        refine wp_iload d_Log_write_13 rfl ?_
        refine wp_aload d_Log_write_15 rfl ?_
        refine wp_alen d_Log_write_17 (by exact (rfl : (TYS G.2.2.1)[0]? = some (G.2.2.1 0, .int))) (by exact hC1.at hrφ) ?_
        refine wp_icmp_ge (tgt := 73) d_Log_write_18 (by decide) (fun c18 => ?_) (fun c18 => ?_)
        · exact hend
        · refine wp_iload d_Log_write_21 rfl ?_
          refine wp_iload d_Log_write_23 rfl ?_
          refine wp_icmp_ge (tgt := 73) d_Log_write_25 (by decide) (fun c25 => ?_) (fun c25 => ?_)
          · exact hend
          · exfalso
            rw [nI_leI (by omega) (by omega)] at c18 c25
            omega
      | succ n ih =>
        intro i σ1 g1 μ1 hi hC1 hw
        have hR1 := hC1.R
        have hil : i < ln d := by omega
        have hu : un d i < 6 := vr_un hd hil
        have hce : ∀ k, i + 1 ≤ k → True := fun _ _ => trivial
        obtain ⟨w1, he1, -⟩ := hC1.ent hu ho
        refine wp_iload d_Log_write_13 rfl ?_
        refine wp_aload d_Log_write_15 rfl ?_
        refine wp_alen d_Log_write_17 (by exact (rfl : (TYS G.2.2.1)[0]? = some (G.2.2.1 0, .int))) (by exact hC1.at hrφ) ?_
        refine wp_icmp_ge (tgt := 73) d_Log_write_18 (by decide) (fun c18 => ?_) (fun c18 => ?_)
        · exact absurd ((nI_leI (by omega) (by omega)).mp c18) (by omega)
        refine wp_iload d_Log_write_21 rfl ?_
        refine wp_iload d_Log_write_23 rfl ?_
        refine wp_icmp_ge (tgt := 73) d_Log_write_25 (by decide) (fun c25 => ?_) (fun c25 => ?_)
        · exact absurd ((nI_leI (by omega) (by omega)).mp c25) (by omega)
        refine wp_aload_n d_Log_write_28 rfl rfl ?_
        refine wp_aload_n d_Log_write_29 rfl rfl ?_
        refine wp_aload d_Log_write_30 rfl ?_
        refine wp_iload d_Log_write_32 rfl ?_
        refine wp_iald d_Log_write_34 (by exact hC1.at hrφ) (by rfl) (by exact hil) (by omega) ?_
        rw [hf i hil]
        refine wx_callV d_Log_write_35 cv_Log_103 cd_Log_use ⟨by decide, by decide⟩ (ct_use hC1 hc hu) (by exact hR1.log) rfl rfl (Nat.le_of_ble_eq_true rfl) (by first | exact Nat.le_of_ble_eq_true rfl | (dsimp only [mt_R, M_Log_write, M_Log_use, M_Unit_holds, M_Layout_chainOf]; omega)) (by first | exact Nat.le_of_ble_eq_true rfl | (dsimp only [mt_R, M_Log_write, M_Log_use, M_Unit_holds, M_Layout_chainOf]; omega)) (fun E1 μ1 hq => WX.out rfl (no_hd _) (by first | exact Nat.le_of_ble_eq_true rfl | (dsimp only [mt_R, M_Log_write, M_Log_use, M_Unit_holds, M_Layout_chainOf]; omega)) (by first | exact Nat.le_of_ble_eq_true rfl | (dsimp only [mt_R, M_Log_write, M_Log_use, M_Unit_holds, M_Layout_chainOf]; omega)) ?_) (fun v1 μ1 hq => ?_)
        · obtain ⟨rfl, rfl, hub⟩ := hq
          refine ⟨g1, σ1, 1, ?_, hC1, Or.inl ⟨rfl, rfl⟩⟩
          rw [← hw, wrS, if_neg (by rw [hub]; decide)]
        · obtain ⟨rfl, rfl, hub⟩ := hq
          refine wp_astore d_Log_write_38 (by decide) ?_
          refine wp_aload d_Log_write_40 rfl ?_
          refine wp_iload_n d_Log_write_42 rfl rfl ?_
          refine wx_callV d_Log_write_43 cv_Log_107 cd_Unit_holds ⟨by decide, by decide⟩ (ct_holds G μ1 _ _ o _ _ _ _ _ _ _ ho (hR1.unit hu) (hR1.cells hu) rfl he1) (by exact hR1.unit hu) rfl rfl (Nat.le_of_ble_eq_true rfl) (by first | exact Nat.le_of_ble_eq_true rfl | (dsimp only [mt_R, M_Log_write, M_Log_use, M_Unit_holds, M_Layout_chainOf]; omega)) (by first | exact Nat.le_of_ble_eq_true rfl | (dsimp only [mt_R, M_Log_write, M_Log_use, M_Unit_holds, M_Layout_chainOf]; omega)) (fun E1 μ1 hq => WX.out rfl (no_hd _) (by first | exact Nat.le_of_ble_eq_true rfl | (dsimp only [mt_R, M_Log_write, M_Log_use, M_Unit_holds, M_Layout_chainOf]; omega)) (by first | exact Nat.le_of_ble_eq_true rfl | (dsimp only [mt_R, M_Log_write, M_Log_use, M_Unit_holds, M_Layout_chainOf]; omega)) ?_) (fun v1 μ1 hq => ?_)
          · exact hq.elim
          · obtain ⟨rfl, rfl⟩ := hq
            refine wp_if_eq (tgt := 59) d_Log_write_46 (by decide) (fun c46 => ?_) (fun c46 => ?_)
            · have hz : σ1 (eR (un d i) o) 0 = 0 := by
                by_cases hz : σ1 (eR (un d i) o) 0 = 0
                · exact hz
                · rw [if_neg hz] at c46; exact absurd c46 (by decide)
              refine wp_aload d_Log_write_59 rfl ?_
              refine wp_get d_Log_write_61 fl_Log_111 (by first | exact hR1.unit hu | exact hR1.cells hu) (by rfl) ?_
              refine wp_iload_n d_Log_write_64 rfl rfl ?_
              refine wp_aload_n d_Log_write_65 rfl rfl ?_
              obtain ⟨w2, hE2, -⟩ := id hE
              refine wp_aast d_Log_write_66 (t := 5) (ci := 2) (r := ("SharedLog$Entry", F_Entry, 3)) rfl rfl (hR1.cells hu) (hC1.B (by omega)) (hC1.at hE2) rfl ho (by omega) ?_
              refine wp_iinc d_Log_write_67 rfl rfl (by decide) ?_
              refine wp_goto (tgt := 13) d_Log_write_70 (by decide) ?_
              have hC2 := hC1.cell hu ho (hR1.pCell (k := o) (x := ea) hu) (hC1.z.up (by omega)) hE
              refine WP.loc [(0, .ref (ad 0)), (1, .ref (ad (16 + c))), (2, .int (nI o)), (3, .ref ea), (4, .int (nI m)), (5, .ref rw), (6, .int (nI (i + 1)))] ?_ (WP.widen (k := i + 1) (n := 6 * (i + 1)) (by dsimp only [mt_R, M_Log_write, M_Log_use, M_Unit_holds, M_Layout_chainOf]; omega) (by dsimp only [mt_R, M_Log_write, M_Log_use, M_Unit_holds, M_Layout_chainOf]; omega) (ih (i + 1) _ _ _ (by omega) hC2 ?_))
              · rw [← nI_1 i]; rfl
              · rw [← hw, wrS, if_pos hub, if_pos hz]
            · have hz : ¬ σ1 (eR (un d i) o) 0 = 0 := fun hz => c46 (by rw [if_pos hz])
              exact wp_throw th_Log_94_245 rfl (no_hd _) d_Log_write_49 d_Log_write_52 d_Log_write_53 d_Log_write_55 d_Log_write_58 (Nat.le_of_ble_eq_true rfl) (Nat.le_of_ble_eq_true rfl) (by first | exact Nat.le_of_ble_eq_true rfl | (dsimp only [mt_R, M_Log_write, M_Log_use, M_Unit_holds, M_Layout_chainOf]; omega)) (by first | exact Nat.le_of_ble_eq_true rfl | (dsimp only [mt_R, M_Log_write, M_Log_use, M_Unit_holds, M_Layout_chainOf]; omega)) ⟨g1, σ1, 2, by rw [← hw, wrS, if_pos hub, if_neg hz], hC1, Or.inr ⟨rfl, rfl⟩⟩
    exact WP.loc _ rfl (loop _ 0 σ g μ1 (by omega) hC rfl)
