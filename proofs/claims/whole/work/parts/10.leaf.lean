/-! LEAVES: methods that call nothing of their own -/
theorem no_hd (pc : Nat) : ∀ x ∈ tableOf [], covers x pc = false := fun _ h => absurd h List.not_mem_nil
theorem mu_up_up (μ : mu_M) (a : Nat) (x y : va_E) : mu_up (mu_up μ a x) a y = mu_up μ a y := by
  funext q
  by_cases h : q = a
  · subst h; rw [mu_up_s, mu_up_s]
  · rw [mu_up_n h, mu_up_n h, mu_up_n h]
abbrev IAE : String := "java/lang/IllegalArgumentException"
abbrev ISE : String := "java/lang/IllegalStateException"
abbrev UOE : String := "java/lang/UnsupportedOperationException"
abbrev IOE : String := "java/lang/IndexOutOfBoundsException"
abbrev NSE : String := "java/util/NoSuchElementException"
set_option maxHeartbeats 1000000 in
set_option maxRecDepth 10000 in
theorem ct_requireWithin (G : mt_G) (μ : mu_M) (x y : Int32) : CT G M_Log_requireWithin [.int x, .int y] μ (fun v μ' => v = none ∧ μ' = μ ∧ ¬ x < 0 ∧ ¬ y < x) (fun E μ' => E = IAE ∧ μ' = μ ∧ (x < 0 ∨ y < x)) := by
  refine CT.of (by decide) rfl (Nat.le_of_ble_eq_true rfl) ?_
  refine wp_iload_n d_Log_requireWithin_0 rfl rfl ?_
  refine wp_if_lt (tgt := 9) d_Log_requireWithin_1 (by decide) (fun c1 => ?_) (fun c1 => ?_)
  · exact wp_throw th_Log_224_226 rfl (no_hd _) d_Log_requireWithin_9 d_Log_requireWithin_12 d_Log_requireWithin_13 d_Log_requireWithin_15 d_Log_requireWithin_18 (Nat.le_of_ble_eq_true rfl) (Nat.le_of_ble_eq_true rfl) (Nat.le_of_ble_eq_true rfl) (Nat.le_of_ble_eq_true rfl) ⟨rfl, rfl, Or.inl c1⟩
  · refine wp_iload_n d_Log_requireWithin_4 rfl rfl ?_
    refine wp_iload_n d_Log_requireWithin_5 rfl rfl ?_
    refine wp_icmp_le (tgt := 19) d_Log_requireWithin_6 (by decide) (fun c6 => ?_) (fun c6 => ?_)
    · exact wp_vret d_Log_requireWithin_19 rfl (by decide) (by decide) ⟨rfl, rfl, c1, Int32.not_lt.mpr c6⟩
    · exact wp_throw th_Log_224_226 rfl (no_hd _) d_Log_requireWithin_9 d_Log_requireWithin_12 d_Log_requireWithin_13 d_Log_requireWithin_15 d_Log_requireWithin_18 (Nat.le_of_ble_eq_true rfl) (Nat.le_of_ble_eq_true rfl) (Nat.le_of_ble_eq_true rfl) (Nat.le_of_ble_eq_true rfl) ⟨rfl, rfl, Or.inr (Int32.not_le.mp c6)⟩
set_option maxHeartbeats 1000000 in
set_option maxRecDepth 10000 in
theorem ct_chain (G : mt_G) (μ : mu_M) (la a0 a1 : Nat) (ep ch : Int32) (h : μ la = some (.inr (3, [.int ep, .ref a0, .ref a1]))) : CT G M_Layout_chain [.ref la, .int ch] μ (fun v μ' => v = some (.ref (if ch = 0 then a0 else a1)) ∧ μ' = μ) (fun _ _ => False) := by
  refine CT.of (by decide) rfl (Nat.le_of_ble_eq_true rfl) ?_
  refine wp_iload_n d_Layout_chain_0 rfl rfl ?_
  refine wp_if_ne (tgt := 11) d_Layout_chain_1 (by decide) (fun c1 => ?_) (fun c1 => ?_)
  · refine wp_aload_n d_Layout_chain_11 rfl rfl ?_
    refine wp_get d_Layout_chain_12 fl_Layout_19 (by exact h) (by rfl) ?_
    exact wp_aret d_Layout_chain_15 rfl (Or.inr ⟨_, rfl⟩) (by decide) (by decide) ⟨by rw [if_neg c1], rfl⟩
  · refine wp_aload_n d_Layout_chain_4 rfl rfl ?_
    refine wp_get d_Layout_chain_5 fl_Layout_15 (by exact h) (by rfl) ?_
    refine wp_goto (tgt := 15) d_Layout_chain_8 (by decide) ?_
    exact wp_aret d_Layout_chain_15 rfl (Or.inr ⟨_, rfl⟩) (by decide) (by decide) ⟨by rw [if_pos c1], rfl⟩
set_option maxHeartbeats 1000000 in
set_option maxRecDepth 10000 in
theorem ct_chainOf (G : mt_G) (μ : mu_M) (la a0 a1 o : Nat) (ep : Int32) (ho : o < 1000) (h : μ la = some (.inr (3, [.int ep, .ref a0, .ref a1]))) : CT G M_Layout_chainOf [.ref la, .int (nI o)] μ (fun v μ' => v = some (.ref (if o % 2 = 0 then a0 else a1)) ∧ μ' = μ) (fun _ _ => False) := by
  refine CT.of (by decide) rfl (Nat.le_of_ble_eq_true rfl) ?_
  refine wp_aload_n d_Layout_chainOf_0 rfl rfl ?_
  refine wp_iload_n d_Layout_chainOf_1 rfl rfl ?_
  refine wp_iconst (v := 2) d_Layout_chainOf_2 (by decide) ?_
  refine wp_irem d_Layout_chainOf_3 (by decide) ?_
  refine wx_callV d_Layout_chainOf_4 cv_Layout_22 cd_Layout_chain ⟨by decide, by decide⟩ (ct_chain G μ la a0 a1 ep _ h) (by exact h) rfl rfl (Nat.le_of_ble_eq_true rfl) (Nat.le_of_ble_eq_true rfl) (Nat.le_of_ble_eq_true rfl) (fun E1 μ1 hq => WX.out rfl (no_hd _) (Nat.le_of_ble_eq_true rfl) (Nat.le_of_ble_eq_true rfl) ?_) (fun v1 μ1 hq => ?_)
  · exact hq
  · obtain ⟨rfl, rfl⟩ := hq
    refine wp_aret d_Layout_chainOf_7 rfl (Or.inr ⟨_, rfl⟩) (by decide) (by decide) ⟨?_, rfl⟩
    have e1 : nI o - nI o / 2 * 2 = nI (o % 2) := pk_rem (by omega) (by decide) (by decide)
    rw [e1]
    rcases (show o % 2 = 0 ∨ o % 2 = 1 by omega) with e2 | e2
    · rw [e2, if_pos nI_0, if_pos rfl]
    · rw [e2, if_neg (by decide), if_neg (by decide)]
set_option maxHeartbeats 1000000 in
set_option maxRecDepth 10000 in
theorem ct_holds (G : mt_G) (μ : mu_M) (ua ca o ea : Nat) (f : Nat → Option Nat) (x1 x2 : Value) (kd an : Int32) (w : Value) (ho : o < 60) (hu : μ ua = some (.inr (1, [.ref ca, x1, x2]))) (hc : μ ca = some (.inl (G.2.2.1 5, 60, .inr (.inr (.inr (.inr f)))))) (hf : f o = some ea) (he : μ ea = some (.inr (2, [.int kd, .int an, w]))) :
    CT G M_Unit_holds [.ref ua, .int (nI o)] μ (fun v μ' => v = some (.int (if kd = 0 then 0 else 1)) ∧ μ' = μ) (fun _ _ => False) := by
  refine CT.of (by decide) rfl (Nat.le_of_ble_eq_true rfl) ?_
  refine wp_aload_n d_Unit_holds_0 rfl rfl ?_
  refine wp_get d_Unit_holds_1 fl_Unit_11 (by first | exact hu | exact hc | exact he) (by rfl) ?_
  refine wp_iload_n d_Unit_holds_4 rfl rfl ?_
  refine wp_aald d_Unit_holds_5 (t := 5) (C := "SharedLog$Entry") rfl hc rfl ho (by omega) hf ?_
  refine wp_get d_Unit_holds_6 fl_Unit_25 (by first | exact hu | exact hc | exact he) (by rfl) ?_
  refine wp_if_eq (tgt := 16) d_Unit_holds_9 (by decide) (fun c9 => ?_) (fun c9 => ?_)
  · refine wp_iconst (v := 0) d_Unit_holds_16 (by decide) ?_
    exact wp_zret d_Unit_holds_17 rfl rfl (by decide) (by decide) ⟨by rw [if_pos c9], rfl⟩
  · refine wp_iconst (v := 1) d_Unit_holds_12 (by decide) ?_
    refine wp_goto (tgt := 17) d_Unit_holds_13 (by decide) ?_
    exact wp_zret d_Unit_holds_17 rfl rfl (by decide) (by decide) ⟨by rw [if_neg c9], rfl⟩
set_option maxHeartbeats 1000000 in
set_option maxRecDepth 10000 in
theorem ct_restart (G : mt_G) (μ : mu_M) (a : Nat) (x0 x1 x2 : Value) (ep nx : Int32) (h : μ a = some (.inr (4, [x0, x1, x2]))) (hB : G.2.2.2.1 ≤ a) : CT G M_Seq_restart [.ref a, .int ep, .int nx] μ (fun v μ' => v = none ∧ μ' = mu_up μ a (.inr (4, [.int 0, .int ep, .int nx]))) (fun _ _ => False) := by
  refine CT.of (by decide) rfl (Nat.le_of_ble_eq_true rfl) ?_
  refine wp_aload_n d_Seq_restart_0 rfl rfl ?_
  refine wp_iconst (v := 0) d_Seq_restart_1 (by decide) ?_
  refine wp_put d_Seq_restart_2 fp_Seq_9 (by first | exact mu_up_s _ _ _ | exact h) (by exact hB) (by rfl) (by rfl) (Nat.le_of_ble_eq_true rfl) ?_
  refine wp_aload_n d_Seq_restart_5 rfl rfl ?_
  refine wp_iload_n d_Seq_restart_6 rfl rfl ?_
  refine wp_put d_Seq_restart_7 fp_Seq_15 (by first | exact mu_up_s _ _ _ | exact h) (by exact hB) (by rfl) (by rfl) (Nat.le_of_ble_eq_true rfl) ?_
  refine wp_aload_n d_Seq_restart_10 rfl rfl ?_
  refine wp_iload_n d_Seq_restart_11 rfl rfl ?_
  refine wp_put d_Seq_restart_12 fp_Seq_19 (by first | exact mu_up_s _ _ _ | exact h) (by exact hB) (by rfl) (by rfl) (Nat.le_of_ble_eq_true rfl) ?_
  exact wp_vret d_Seq_restart_15 rfl (by decide) (by decide) ⟨rfl, by rw [mu_up_up, mu_up_up]; rfl⟩
set_option maxHeartbeats 1000000 in
set_option maxRecDepth 10000 in
theorem ct_setPut (G : mt_G) (μ : mu_M) (w a2 a3 k : Nat) (x0 x1 : Value) (f2 f3 : Nat → Int32) (x : Int32) (hk : k < 4) (h : μ w = some (.inr (5, [x0, x1, .ref a2, .ref a3]))) (h2 : μ a2 = some (.inl (G.2.2.1 1, 4, .inl f2))) (h3 : μ a3 = some (.inl (G.2.2.1 0, 4, .inl f3))) (n23 : a3 ≠ a2) (nw2 : w ≠ a2) (hB2 : G.2.2.2.1 ≤ a2) (hB3 : G.2.2.2.1 ≤ a3) :
    CT G M_Work_setPut [.ref w, .int (nI k), .int x] μ (fun v μ' => v = none ∧ μ' = mu_up (mu_up μ a2 (.inl (G.2.2.1 1, 4, .inl (upd f2 k 1)))) a3 (.inl (G.2.2.1 0, 4, .inl (upd f3 k x)))) (fun _ _ => False) := by
  refine CT.of (by decide) rfl (Nat.le_of_ble_eq_true rfl) ?_
  refine wp_aload_n d_Work_setPut_0 rfl rfl ?_
  refine wp_get d_Work_setPut_1 fl_Work_19 (by first | exact h | exact h2 | exact (mu_up_n nw2).trans h | exact (mu_up_n n23).trans h3) (by rfl) ?_
  refine wp_iload_n d_Work_setPut_4 rfl rfl ?_
  refine wp_iconst (v := 1) d_Work_setPut_5 (by decide) ?_
  refine wp_zast d_Work_setPut_6 (by first | exact h | exact h2 | exact (mu_up_n nw2).trans h | exact (mu_up_n n23).trans h3) (by first | exact hB2 | exact hB3) (by rfl) (by exact hk) (by omega) (by rfl) ?_
  refine wp_aload_n d_Work_setPut_7 rfl rfl ?_
  refine wp_get d_Work_setPut_8 fl_Work_22 (by first | exact h | exact h2 | exact (mu_up_n nw2).trans h | exact (mu_up_n n23).trans h3) (by rfl) ?_
  refine wp_iload_n d_Work_setPut_11 rfl rfl ?_
  refine wp_iload_n d_Work_setPut_12 rfl rfl ?_
  refine wp_iast d_Work_setPut_13 (by first | exact h | exact h2 | exact (mu_up_n nw2).trans h | exact (mu_up_n n23).trans h3) (by first | exact hB2 | exact hB3) (by rfl) (by exact hk) (by omega) ?_
  exact wp_vret d_Work_setPut_14 rfl (by decide) (by decide) ⟨rfl, rfl⟩
set_option maxHeartbeats 1000000 in
set_option maxRecDepth 10000 in
theorem ct_noteRead (G : mt_G) (μ : mu_M) (w a0 a1 k : Nat) (x2 x3 : Value) (f0 f1 : Nat → Int32) (x : Int32) (hk : k < 4) (h : μ w = some (.inr (5, [.ref a0, .ref a1, x2, x3]))) (h0 : μ a0 = some (.inl (G.2.2.1 1, 4, .inl f0))) (h1 : μ a1 = some (.inl (G.2.2.1 0, 4, .inl f1))) (n01 : a1 ≠ a0) (nw0 : w ≠ a0) (hB0 : G.2.2.2.1 ≤ a0) (hB1 : G.2.2.2.1 ≤ a1) :
    CT G M_Work_noteRead [.ref w, .int (nI k), .int x] μ (fun v μ' => v = none ∧ μ' = if f0 k = 0 then mu_up (mu_up μ a0 (.inl (G.2.2.1 1, 4, .inl (upd f0 k 1)))) a1 (.inl (G.2.2.1 0, 4, .inl (upd f1 k x))) else μ) (fun _ _ => False) := by
  refine CT.of (by decide) rfl (Nat.le_of_ble_eq_true rfl) ?_
  refine wp_aload_n d_Work_noteRead_0 rfl rfl ?_
  refine wp_get d_Work_noteRead_1 fl_Work_9 (by first | exact h | exact h0 | exact (mu_up_n nw0).trans h | exact (mu_up_n n01).trans h1) (by rfl) ?_
  refine wp_iload_n d_Work_noteRead_4 rfl rfl ?_
  refine wp_zald d_Work_noteRead_5 (by first | exact h | exact h0 | exact (mu_up_n nw0).trans h | exact (mu_up_n n01).trans h1) (by rfl) (by exact hk) (by omega) ?_
  refine wp_if_ne (tgt := 23) d_Work_noteRead_6 (by decide) (fun c6 => ?_) (fun c6 => ?_)
  · exact wp_vret d_Work_noteRead_23 rfl (by decide) (by decide) ⟨rfl, by rw [if_neg c6]⟩
  · refine wp_aload_n d_Work_noteRead_9 rfl rfl ?_
    refine wp_get d_Work_noteRead_10 fl_Work_9 (by first | exact h | exact h0 | exact (mu_up_n nw0).trans h | exact (mu_up_n n01).trans h1) (by rfl) ?_
    refine wp_iload_n d_Work_noteRead_13 rfl rfl ?_
    refine wp_iconst (v := 1) d_Work_noteRead_14 (by decide) ?_
    refine wp_zast d_Work_noteRead_15 (by first | exact h | exact h0 | exact (mu_up_n nw0).trans h | exact (mu_up_n n01).trans h1) (by first | exact hB0 | exact hB1) (by rfl) (by exact hk) (by omega) (by rfl) ?_
    refine wp_aload_n d_Work_noteRead_16 rfl rfl ?_
    refine wp_get d_Work_noteRead_17 fl_Work_15 (by first | exact h | exact h0 | exact (mu_up_n nw0).trans h | exact (mu_up_n n01).trans h1) (by rfl) ?_
    refine wp_iload_n d_Work_noteRead_20 rfl rfl ?_
    refine wp_iload_n d_Work_noteRead_21 rfl rfl ?_
    refine wp_iast d_Work_noteRead_22 (by first | exact h | exact h0 | exact (mu_up_n nw0).trans h | exact (mu_up_n n01).trans h1) (by first | exact hB0 | exact hB1) (by rfl) (by exact hk) (by omega) ?_
    exact wp_vret d_Work_noteRead_23 rfl (by decide) (by decide) ⟨rfl, by rw [if_pos c6]⟩
