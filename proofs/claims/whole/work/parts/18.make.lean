/-! WHAT IS MADE: entries, works, layouts -/
theorem mu_none {μ : mu_M} {a q : Nat} {e : va_E} (h : mu_up μ a e q = none) : q ≠ a ∧ μ q = none := by
  by_cases hq : q = a
  · subst hq; rw [mu_up_s] at h; cases h
  · rw [mu_up_n hq] at h; exact ⟨hq, h⟩
theorem mu_some_ne {μ : mu_M} {a q : Nat} {e : va_E} (h : μ a = some e) (hq : μ q = none) : a ≠ q := fun z => by rw [z, hq] at h; cases h
theorem sub_up {μ : mu_M} {q : Nat} {e : va_E} (hq : μ q = none) : sub μ (mu_up μ q e) := fun a x hx => (mu_up_n (mu_some_ne hx hq)).trans hx
theorem sub_upd {μ0 μ : mu_M} {q : Nat} {e : va_E} (hs : sub μ0 μ) (hq : μ0 q = none) : sub μ0 (mu_up μ q e) := fun a x hx => (mu_up_n (mu_some_ne hx hq)).trans (hs a x hx)
theorem Cx.mono {G : mt_G} {μ μ' φ : mu_M} {ad : Nat → Nat} {g : dg} {σ : sg} {δ : dg} (h : Cx G μ φ ad g σ δ) (hs : sub μ μ') : Cx G μ' φ ad g σ δ :=
  ⟨⟨fun i hi => hs _ _ (h.1.1 i hi), h.1.2⟩, h.2.1.mv (fun a e _ he => hs a e he), h.2.2⟩
/-- all that is new since μ0 is frozen -/
def frz (μ0 μ1 φ : mu_M) : mu_M := fun a => match μ0 a with
  | none => μ1 a
  | some _ => φ a
theorem frz_n {μ0 μ1 φ : mu_M} {a : Nat} (h : μ0 a = none) : frz μ0 μ1 φ a = μ1 a := by unfold frz; rw [h]
theorem frz_s {μ0 μ1 φ : mu_M} {a : Nat} {e : va_E} (h : μ0 a = some e) : frz μ0 μ1 φ a = φ a := by unfold frz; rw [h]
theorem Cx.freeze {G : mt_G} {μ0 μ1 φ : mu_M} {ad : Nat → Nat} {g : dg} {σ : sg} {δ : dg} (h : Cx G μ0 φ ad g σ δ) (hs : sub μ0 μ1) : Cx G μ1 (frz μ0 μ1 φ) ad g σ δ ∧ sub φ (frz μ0 μ1 φ) := by
  have hsub : sub φ (frz μ0 μ1 φ) := fun a e he => (frz_s (h.2.1.1 a e he).1.1).trans he
  refine ⟨(h.mono hs).grow ⟨fun a e he => ?_, fun a e he => ⟨hs _ _ (h.2.1.2 a e he).1, (h.2.1.2 a e he).2⟩⟩ hsub, hsub⟩
  cases hm : μ0 a with
  | none =>
    rw [frz_n hm] at he
    refine ⟨⟨he, fun i hi z => by rw [z, h.1.1 i hi] at hm; cases hm⟩, ?_⟩
    cases hp : G.2.2.2.2 a with
    | none => rfl
    | some y => rw [(h.2.1.2 a y hp).1] at hm; cases hm
  | some x =>
    rw [frz_s hm] at he
    exact ⟨⟨hs _ _ (h.2.1.1 a e he).1.1, (h.2.1.1 a e he).1.2⟩, (h.2.1.1 a e he).2⟩
section Make
variable {G : mt_G} {μ : mu_M}
set_option maxHeartbeats 1000000 in
set_option maxRecDepth 10000 in
theorem ct_Entry_init (q w : Nat) (k a : Int32) (x0 x1 x2 : Value) (h : μ q = some (.inr (2, [x0, x1, x2]))) (hB : G.2.2.2.1 ≤ q) : CTI G M_Entry_init [.ref q, .int k, .int a, .ref w] μ (fun v μ' => v = none ∧ μ' = mu_up μ q (.inr (2, [.int k, .int a, .ref w]))) := by
  refine CTI.of (by decide) rfl (Nat.le_of_ble_eq_true rfl) ?_
  refine wp_aload_n d_Entry_init_0 rfl rfl ?_
  refine wp_objInit d_Entry_init_1 oi_Entry oi_i oi_c (by decide) (Nat.le_of_ble_eq_true rfl) ?_
  refine wp_aload_n d_Entry_init_4 rfl rfl ?_
  refine wp_iload_n d_Entry_init_5 rfl rfl ?_
  refine wp_putF d_Entry_init_6 ff_Entry_7 rfl (by first | exact mu_up_s _ _ _ | exact h) (by exact hB) (by rfl) (by rfl) (Nat.le_of_ble_eq_true rfl) ?_
  refine wp_aload_n d_Entry_init_9 rfl rfl ?_
  refine wp_iload_n d_Entry_init_10 rfl rfl ?_
  refine wp_putF d_Entry_init_11 ff_Entry_13 rfl (by first | exact mu_up_s _ _ _ | exact h) (by exact hB) (by rfl) (by rfl) (Nat.le_of_ble_eq_true rfl) ?_
  refine wp_aload_n d_Entry_init_14 rfl rfl ?_
  refine wp_aload_n d_Entry_init_15 rfl rfl ?_
  refine wp_putF d_Entry_init_16 ff_Entry_16 rfl (by first | exact mu_up_s _ _ _ | exact h) (by exact hB) (by rfl) (by rfl) (Nat.le_of_ble_eq_true rfl) ?_
  exact wp_vretI d_Entry_init_19 rfl (by decide) (by decide) ⟨rfl, by rw [mu_up_up, mu_up_up]; rfl⟩
set_option maxHeartbeats 1000000 in
set_option maxRecDepth 10000 in
theorem ct_Layout_init (q a0 a1 : Nat) (ep : Int32) (x0 x1 x2 : Value) (h : μ q = some (.inr (3, [x0, x1, x2]))) (hB : G.2.2.2.1 ≤ q) : CTI G M_Layout_init [.ref q, .int ep, .ref a0, .ref a1] μ (fun v μ' => v = none ∧ μ' = mu_up μ q (.inr (3, [.int ep, .ref a0, .ref a1]))) := by
  refine CTI.of (by decide) rfl (Nat.le_of_ble_eq_true rfl) ?_
  refine wp_aload_n d_Layout_init_0 rfl rfl ?_
  refine wp_objInit d_Layout_init_1 oi_Layout oi_i oi_c (by decide) (Nat.le_of_ble_eq_true rfl) ?_
  refine wp_aload_n d_Layout_init_4 rfl rfl ?_
  refine wp_iload_n d_Layout_init_5 rfl rfl ?_
  refine wp_putF d_Layout_init_6 ff_Layout_9 rfl (by first | exact mu_up_s _ _ _ | exact h) (by exact hB) (by rfl) (by rfl) (Nat.le_of_ble_eq_true rfl) ?_
  refine wp_aload_n d_Layout_init_9 rfl rfl ?_
  refine wp_aload_n d_Layout_init_10 rfl rfl ?_
  refine wp_putF d_Layout_init_11 ff_Layout_15 rfl (by first | exact mu_up_s _ _ _ | exact h) (by exact hB) (by rfl) (by rfl) (Nat.le_of_ble_eq_true rfl) ?_
  refine wp_aload_n d_Layout_init_14 rfl rfl ?_
  refine wp_aload_n d_Layout_init_15 rfl rfl ?_
  refine wp_putF d_Layout_init_16 ff_Layout_19 rfl (by first | exact mu_up_s _ _ _ | exact h) (by exact hB) (by rfl) (by rfl) (Nat.le_of_ble_eq_true rfl) ?_
  exact wp_vretI d_Layout_init_19 rfl (by decide) (by decide) ⟨rfl, by rw [mu_up_up, mu_up_up]; rfl⟩
set_option maxHeartbeats 1000000 in
set_option maxRecDepth 10000 in
theorem ct_Layout_next (la a0 a1 fr : Nat) (ep ch : Int32) (h : μ la = some (.inr (3, [.int ep, .ref a0, .ref a1]))) : CT G M_Layout_next [.ref la, .int ch, .ref fr] μ (fun v μ' => ∃ q, v = some (.ref q) ∧ G.2.2.2.1 ≤ q ∧ μ q = none ∧ μ' = mu_up μ q (.inr (3, [.int (ep + 1), .ref (if ch = 0 then fr else a0), .ref (if ch = 0 then a1 else fr)]))) (fun _ _ => False) := by
  refine CT.of (by decide) rfl (Nat.le_of_ble_eq_true rfl) ?_
  refine wp_iload_n d_Layout_next_0 rfl rfl ?_
  refine wp_if_ne (tgt := 25) d_Layout_next_1 (by decide) (fun c1 => ?_) (fun c1 => ?_)
  · refine wp_new d_Layout_next_25 nw_Layout_10 (Nat.le_of_ble_eq_true rfl) (Nat.le_of_ble_eq_true rfl) (fun q hB hq => ?_)
    refine wp_dup d_Layout_next_28 rfl ?_
    refine wp_aload_n d_Layout_next_29 rfl rfl ?_
    refine wp_get d_Layout_next_30 fl_Layout_9 (by exact (mu_up_n (mu_some_ne h hq)).trans h) (by rfl) ?_
    refine wp_iconst (v := 1) d_Layout_next_33 (by decide) ?_
    refine wp_iadd d_Layout_next_34 ?_
    refine wp_aload_n d_Layout_next_35 rfl rfl ?_
    refine wp_get d_Layout_next_36 fl_Layout_15 (by exact (mu_up_n (mu_some_ne h hq)).trans h) (by rfl) ?_
    refine wp_aload_n d_Layout_next_39 rfl rfl ?_
    refine wi_call d_Layout_next_40 ci_Layout_26 cd_Layout_init ⟨by decide, by decide⟩ (ct_Layout_init q a0 fr (ep + 1) _ _ _ (mu_up_s _ _ _) hB) rfl rfl (Nat.le_of_ble_eq_true rfl) (Nat.le_of_ble_eq_true rfl) (Nat.le_of_ble_eq_true rfl) (fun v1 μ1 hq => ?_)
    obtain ⟨rfl, rfl⟩ := hq
    refine wp_aret d_Layout_next_43 rfl (Or.inl ⟨_, rfl⟩) (by decide) (by decide) ⟨q, rfl, hB, by assumption, ?_⟩
    rw [mu_up_up, if_neg c1, if_neg c1]
  · refine wp_new d_Layout_next_4 nw_Layout_10 (Nat.le_of_ble_eq_true rfl) (Nat.le_of_ble_eq_true rfl) (fun q hB hq => ?_)
    refine wp_dup d_Layout_next_7 rfl ?_
    refine wp_aload_n d_Layout_next_8 rfl rfl ?_
    refine wp_get d_Layout_next_9 fl_Layout_9 (by exact (mu_up_n (mu_some_ne h hq)).trans h) (by rfl) ?_
    refine wp_iconst (v := 1) d_Layout_next_12 (by decide) ?_
    refine wp_iadd d_Layout_next_13 ?_
    refine wp_aload_n d_Layout_next_14 rfl rfl ?_
    refine wp_aload_n d_Layout_next_15 rfl rfl ?_
    refine wp_get d_Layout_next_16 fl_Layout_19 (by exact (mu_up_n (mu_some_ne h hq)).trans h) (by rfl) ?_
    refine wi_call d_Layout_next_19 ci_Layout_26 cd_Layout_init ⟨by decide, by decide⟩ (ct_Layout_init q fr a1 (ep + 1) _ _ _ (mu_up_s _ _ _) hB) rfl rfl (Nat.le_of_ble_eq_true rfl) (Nat.le_of_ble_eq_true rfl) (Nat.le_of_ble_eq_true rfl) (fun v1 μ1 hq => ?_)
    obtain ⟨rfl, rfl⟩ := hq
    refine wp_goto (tgt := 43) d_Layout_next_22 (by decide) ?_
    refine wp_aret d_Layout_next_43 rfl (Or.inl ⟨_, rfl⟩) (by decide) (by decide) ⟨q, rfl, hB, by assumption, ?_⟩
    rw [mu_up_up, if_pos c1, if_pos c1]
/-- a work, new since μ0, at q in μ -/
def NW (G : mt_G) (μ0 μ : mu_M) (q : Nat) (f0 f1 f2 f3 : Nat → Int32) : Prop := ∃ q0 q1 q2 q3 : Nat, μ q = some (.inr (5, [.ref q0, .ref q1, .ref q2, .ref q3])) ∧ μ q0 = some (.inl (G.2.2.1 1, 4, .inl f0)) ∧ μ q1 = some (.inl (G.2.2.1 0, 4, .inl f1)) ∧ μ q2 = some (.inl (G.2.2.1 1, 4, .inl f2)) ∧ μ q3 = some (.inl (G.2.2.1 0, 4, .inl f3)) ∧
  (μ0 q0 = none ∧ μ0 q1 = none ∧ μ0 q2 = none ∧ μ0 q3 = none) ∧ (G.2.2.2.1 ≤ q0 ∧ G.2.2.2.1 ≤ q1 ∧ G.2.2.2.1 ≤ q2 ∧ G.2.2.2.1 ≤ q3) ∧ (q ≠ q0 ∧ q ≠ q1 ∧ q ≠ q2 ∧ q ≠ q3) ∧ (q1 ≠ q0 ∧ q2 ≠ q0 ∧ q3 ≠ q0 ∧ q2 ≠ q1 ∧ q3 ≠ q1 ∧ q3 ≠ q2)
set_option maxHeartbeats 1000000 in
set_option maxRecDepth 10000 in
theorem ct_Work_init (q : Nat) (x0 x1 x2 x3 : Value) (h : μ q = some (.inr (5, [x0, x1, x2, x3]))) (hB : G.2.2.2.1 ≤ q) : CTI G M_Work_init [.ref q] μ (fun v μ' => v = none ∧ NW G μ μ' q (fun _ => 0) (fun _ => 0) (fun _ => 0) (fun _ => 0) ∧ ∀ a e, a ≠ q → μ a = some e → μ' a = some e) := by
  refine CTI.of (by decide) rfl (Nat.le_of_ble_eq_true rfl) ?_
  refine wp_aload_n d_Work_init_0 rfl rfl ?_
  refine wp_objInit d_Work_init_1 oi_Work oi_i oi_c (by decide) (Nat.le_of_ble_eq_true rfl) ?_
  refine wp_aload_n d_Work_init_4 rfl rfl ?_
  refine wp_iconst (v := 4) d_Work_init_5 (by decide) ?_
  refine wp_newZ (N := 4) d_Work_init_6 ac_Z (by decide) (Nat.le_of_ble_eq_true rfl) (Nat.le_of_ble_eq_true rfl) (fun q0 b0 z0 => ?_)
  have n0 : q ≠ q0 := mu_some_ne h z0
  refine wp_putF d_Work_init_8 ff_Work_9 rfl (by exact (mu_up_n n0).trans h) (by exact hB) (by rfl) (by rfl) (Nat.le_of_ble_eq_true rfl) ?_
  refine wp_aload_n d_Work_init_11 rfl rfl ?_
  refine wp_iconst (v := 4) d_Work_init_12 (by decide) ?_
  refine wp_newI (N := 4) d_Work_init_13 ac_I (by decide) (Nat.le_of_ble_eq_true rfl) (Nat.le_of_ble_eq_true rfl) (fun q1 b1 z1 => ?_)
  obtain ⟨n1, z1⟩ := mu_none z1
  obtain ⟨n10, z1⟩ := mu_none z1
  refine wp_putF d_Work_init_15 ff_Work_15 rfl (by exact (mu_up_n n1.symm).trans (mu_up_s _ _ _)) (by exact hB) (by rfl) (by rfl) (Nat.le_of_ble_eq_true rfl) ?_
  refine wp_aload_n d_Work_init_18 rfl rfl ?_
  refine wp_iconst (v := 4) d_Work_init_19 (by decide) ?_
  refine wp_newZ (N := 4) d_Work_init_20 ac_Z (by decide) (Nat.le_of_ble_eq_true rfl) (Nat.le_of_ble_eq_true rfl) (fun q2 b2 z2 => ?_)
  obtain ⟨n2, z2⟩ := mu_none z2
  obtain ⟨n21, z2⟩ := mu_none z2
  obtain ⟨-, z2⟩ := mu_none z2
  obtain ⟨n20, z2⟩ := mu_none z2
  refine wp_putF d_Work_init_22 ff_Work_19 rfl (by exact (mu_up_n n2.symm).trans (mu_up_s _ _ _)) (by exact hB) (by rfl) (by rfl) (Nat.le_of_ble_eq_true rfl) ?_
  refine wp_aload_n d_Work_init_25 rfl rfl ?_
  refine wp_iconst (v := 4) d_Work_init_26 (by decide) ?_
  refine wp_newI (N := 4) d_Work_init_27 ac_I (by decide) (Nat.le_of_ble_eq_true rfl) (Nat.le_of_ble_eq_true rfl) (fun q3 b3 z3 => ?_)
  obtain ⟨n3, z3⟩ := mu_none z3
  obtain ⟨n32, z3⟩ := mu_none z3
  obtain ⟨-, z3⟩ := mu_none z3
  obtain ⟨n31, z3⟩ := mu_none z3
  obtain ⟨-, z3⟩ := mu_none z3
  obtain ⟨n30, z3⟩ := mu_none z3
  refine wp_putF d_Work_init_29 ff_Work_22 rfl (by exact (mu_up_n n3.symm).trans (mu_up_s _ _ _)) (by exact hB) (by rfl) (by rfl) (Nat.le_of_ble_eq_true rfl) ?_
  refine wp_vretI d_Work_init_32 rfl (by decide) (by decide) ⟨rfl, ⟨q0, q1, q2, q3, ?_, ?_, ?_, ?_, ?_, ⟨z0, z1, z2, z3⟩, ⟨b0, b1, b2, b3⟩, ⟨n0, n1.symm, n2.symm, n3.symm⟩, n10, n20, n30, n21, n31, n32⟩, fun a e ha he => ?_⟩
  · rw [mu_up_s]; rfl
  · rw [mu_up_n n0.symm, mu_up_n n30.symm, mu_up_n n0.symm, mu_up_n n20.symm, mu_up_n n0.symm, mu_up_n n10.symm, mu_up_n n0.symm, mu_up_s]
  · rw [mu_up_n n1, mu_up_n n31.symm, mu_up_n n1, mu_up_n n21.symm, mu_up_n n1, mu_up_s]
  · rw [mu_up_n n2, mu_up_n n32.symm, mu_up_n n2, mu_up_s]
  · rw [mu_up_n n3, mu_up_s]
  · rw [mu_up_n ha, mu_up_n (mu_some_ne he z3), mu_up_n ha, mu_up_n (mu_some_ne he z2), mu_up_n ha, mu_up_n (mu_some_ne he z1), mu_up_n ha, mu_up_n (mu_some_ne he z0)]
    exact he
/-- the first i places are copied -/
def cp (f : Nat → Int32) (i : Nat) : Nat → Int32 := fun j => if j < i then f j else 0
theorem cp_0 (f : Nat → Int32) : cp f 0 = fun _ => 0 := by funext j; exact if_neg (Nat.not_lt_zero j)
theorem cp_1 (f : Nat → Int32) (i : Nat) : upd (cp f i) i (f i) = cp f (i + 1) := by
  funext j
  unfold upd cp
  by_cases h : j = i
  · subst h; rw [if_pos rfl, if_pos (by omega)]
  · rw [if_neg h]
    by_cases h2 : j < i
    · rw [if_pos h2, if_pos (by omega)]
    · rw [if_neg h2, if_neg (by omega)]
set_option maxHeartbeats 4000000 in
set_option maxRecDepth 10000 in
theorem ct_Work_copy (w a0 a1 a2 a3 : Nat) (f0 f1 f2 f3 : Nat → Int32) (hw : μ w = some (.inr (5, [.ref a0, .ref a1, .ref a2, .ref a3]))) (h0 : μ a0 = some (.inl (G.2.2.1 1, 4, .inl f0))) (h1 : μ a1 = some (.inl (G.2.2.1 0, 4, .inl f1))) (h2 : μ a2 = some (.inl (G.2.2.1 1, 4, .inl f2))) (h3 : μ a3 = some (.inl (G.2.2.1 0, 4, .inl f3))) (hb : ∀ k, k < 4 → (f0 k = 0 ∨ f0 k = 1) ∧ (f2 k = 0 ∨ f2 k = 1)) :
    CT G M_Work_copy [.ref w] μ (fun v μ' => ∃ q, v = some (.ref q) ∧ μ q = none ∧ NW G μ μ' q (cp f0 4) (cp f1 4) (cp f2 4) (cp f3 4) ∧ sub μ μ') (fun _ _ => False) := by
  refine CT.of (by decide) rfl (Nat.le_of_ble_eq_true rfl) ?_
  refine wp_new d_Work_copy_0 nw_Work_10 (Nat.le_of_ble_eq_true rfl) (Nat.le_of_ble_eq_true rfl) (fun q hB hq => ?_)
  refine wp_dup d_Work_copy_3 rfl ?_
  refine wi_call d_Work_copy_4 ci_Work_25 cd_Work_init ⟨by decide, by decide⟩ (ct_Work_init q _ _ _ _ (mu_up_s _ _ _) hB) rfl rfl (Nat.le_of_ble_eq_true rfl) (Nat.le_of_ble_eq_true rfl) (Nat.le_of_ble_eq_true rfl) (fun v1 μ1 hq => ?_)
  obtain ⟨rfl, ⟨q0, q1, q2, q3, e, e0, e1, e2, e3, ⟨z0, z1, z2, z3⟩, ⟨b0, b1, b2, b3⟩, ⟨n0, n1, n2, n3⟩, n10, n20, n30, n21, n31, n32⟩, hk⟩ := hq
  have hqn : μ q = none := by assumption
  have y0 := (mu_none z0).2
  have y1 := (mu_none z1).2
  have y2 := (mu_none z2).2
  have y3 := (mu_none z3).2
  have hsub : sub μ μ1 := fun a x hx => hk a x (mu_some_ne hx hqn) ((mu_up_n (mu_some_ne hx hqn)).trans hx)
  refine wp_astore_n d_Work_copy_7 rfl (by decide) ?_
  refine wp_iconst (v := 0) d_Work_copy_8 (by decide) ?_
  refine wp_istore_n d_Work_copy_9 rfl (by decide) ?_
  have loop : ∀ (n i : Nat) (μ2 : mu_M), i + n = 4 → sub μ μ2 → μ2 q = some (.inr (5, [.ref q0, .ref q1, .ref q2, .ref q3])) → μ2 q0 = some (.inl (G.2.2.1 1, 4, .inl (cp f0 i))) → μ2 q1 = some (.inl (G.2.2.1 0, 4, .inl (cp f1 i))) → μ2 q2 = some (.inl (G.2.2.1 1, 4, .inl (cp f2 i))) → μ2 q3 = some (.inl (G.2.2.1 0, 4, .inl (cp f3 i))) →
      WP G M_Work_copy (EC G M_Work_copy (fun v μ' => ∃ q, v = some (.ref q) ∧ μ q = none ∧ NW G μ μ' q (cp f0 4) (cp f1 4) (cp f2 4) (cp f3 4) ∧ sub μ μ') (fun _ _ => False)) [(0, .ref w), (1, .ref q), (2, .int (nI i))] 10 [] μ2 5 20 := by
    intro n
    induction n with
    | zero =>
      intro i μ2 hi hs g g0 g1 g2 g3
      obtain rfl : i = 4 := by omega
      refine wp_iload_n d_Work_copy_10 rfl rfl ?_
      refine wp_iconst (v := 4) d_Work_copy_11 (by decide) ?_
      refine wp_icmp_ge (tgt := 69) d_Work_copy_12 (by decide) (fun c12 => ?_) (fun c12 => ?_)
      · refine wp_aload_n d_Work_copy_69 rfl rfl ?_
        exact wp_aret d_Work_copy_70 rfl (Or.inl ⟨_, rfl⟩) (by decide) (by decide) ⟨q, rfl, hqn, ⟨q0, q1, q2, q3, g, g0, g1, g2, g3, ⟨y0, y1, y2, y3⟩, ⟨b0, b1, b2, b3⟩, ⟨n0, n1, n2, n3⟩, n10, n20, n30, n21, n31, n32⟩, hs⟩
      · exact absurd (by decide) c12
    | succ n ih =>
      intro i μ2 hi hs g g0 g1 g2 g3
      have hbi := hb i (by omega)
      refine wp_iload_n d_Work_copy_10 rfl rfl ?_
      refine wp_iconst (v := 4) d_Work_copy_11 (by decide) ?_
      refine wp_icmp_ge (tgt := 69) d_Work_copy_12 (by decide) (fun c12 => ?_) (fun c12 => ?_)
      · exact absurd ((nI_leI (a := 4) (by omega) (by omega)).mp c12) (by omega)
      refine wp_aload_n d_Work_copy_15 rfl rfl ?_
      refine wp_get d_Work_copy_16 fl_Work_9 (by first | exact g | exact hs _ _ hw | exact hs _ _ h0 | exact hs _ _ h1 | exact hs _ _ h2 | exact hs _ _ h3) (by rfl) ?_
      refine wp_iload_n d_Work_copy_19 rfl rfl ?_
      refine wp_aload_n d_Work_copy_20 rfl rfl ?_
      refine wp_get d_Work_copy_21 fl_Work_9 (by first | exact g | exact hs _ _ hw | exact hs _ _ h0 | exact hs _ _ h1 | exact hs _ _ h2 | exact hs _ _ h3) (by rfl) ?_
      refine wp_iload_n d_Work_copy_24 rfl rfl ?_
      refine wp_zald d_Work_copy_25 (by first | exact g | exact hs _ _ hw | exact hs _ _ h0 | exact hs _ _ h1 | exact hs _ _ h2 | exact hs _ _ h3) (by rfl) (by omega) (by omega) ?_
      refine wp_zast d_Work_copy_26 g0 b0 rfl (by omega) (by omega) (by rcases hbi.1 with z | z <;> rw [z] <;> rfl) ?_
      rw [cp_1]
      have hs2 := sub_upd (e := .inl (G.2.2.1 1, 4, .inl (cp f0 (i + 1)))) hs y0
      refine wp_aload_n d_Work_copy_27 rfl rfl ?_
      refine wp_get d_Work_copy_28 fl_Work_15 (by first | exact (mu_up_n n0).trans g | exact hs2 _ _ hw | exact hs2 _ _ h0 | exact hs2 _ _ h1 | exact hs2 _ _ h2 | exact hs2 _ _ h3) (by rfl) ?_
      refine wp_iload_n d_Work_copy_31 rfl rfl ?_
      refine wp_aload_n d_Work_copy_32 rfl rfl ?_
      refine wp_get d_Work_copy_33 fl_Work_15 (by first | exact (mu_up_n n0).trans g | exact hs2 _ _ hw | exact hs2 _ _ h0 | exact hs2 _ _ h1 | exact hs2 _ _ h2 | exact hs2 _ _ h3) (by rfl) ?_
      refine wp_iload_n d_Work_copy_36 rfl rfl ?_
      refine wp_iald d_Work_copy_37 (by first | exact (mu_up_n n0).trans g | exact hs2 _ _ hw | exact hs2 _ _ h0 | exact hs2 _ _ h1 | exact hs2 _ _ h2 | exact hs2 _ _ h3) (by rfl) (by omega) (by omega) ?_
      refine wp_iast d_Work_copy_38 ((mu_up_n n10).trans g1) b1 rfl (by omega) (by omega) ?_
      rw [cp_1]
      have hs3 := sub_upd (e := .inl (G.2.2.1 0, 4, .inl (cp f1 (i + 1)))) hs2 y1
      refine wp_aload_n d_Work_copy_39 rfl rfl ?_
      refine wp_get d_Work_copy_40 fl_Work_19 (by first | exact (mu_up_n n1).trans ((mu_up_n n0).trans g) | exact hs3 _ _ hw | exact hs3 _ _ h0 | exact hs3 _ _ h1 | exact hs3 _ _ h2 | exact hs3 _ _ h3) (by rfl) ?_
      refine wp_iload_n d_Work_copy_43 rfl rfl ?_
      refine wp_aload_n d_Work_copy_44 rfl rfl ?_
      refine wp_get d_Work_copy_45 fl_Work_19 (by first | exact (mu_up_n n1).trans ((mu_up_n n0).trans g) | exact hs3 _ _ hw | exact hs3 _ _ h0 | exact hs3 _ _ h1 | exact hs3 _ _ h2 | exact hs3 _ _ h3) (by rfl) ?_
      refine wp_iload_n d_Work_copy_48 rfl rfl ?_
      refine wp_zald d_Work_copy_49 (by first | exact (mu_up_n n1).trans ((mu_up_n n0).trans g) | exact hs3 _ _ hw | exact hs3 _ _ h0 | exact hs3 _ _ h1 | exact hs3 _ _ h2 | exact hs3 _ _ h3) (by rfl) (by omega) (by omega) ?_
      refine wp_zast d_Work_copy_50 ((mu_up_n n21).trans ((mu_up_n n20).trans g2)) b2 rfl (by omega) (by omega) (by rcases hbi.2 with z | z <;> rw [z] <;> rfl) ?_
      rw [cp_1]
      have hs4 := sub_upd (e := .inl (G.2.2.1 1, 4, .inl (cp f2 (i + 1)))) hs3 y2
      refine wp_aload_n d_Work_copy_51 rfl rfl ?_
      refine wp_get d_Work_copy_52 fl_Work_22 (by first | exact (mu_up_n n2).trans ((mu_up_n n1).trans ((mu_up_n n0).trans g)) | exact hs4 _ _ hw | exact hs4 _ _ h0 | exact hs4 _ _ h1 | exact hs4 _ _ h2 | exact hs4 _ _ h3) (by rfl) ?_
      refine wp_iload_n d_Work_copy_55 rfl rfl ?_
      refine wp_aload_n d_Work_copy_56 rfl rfl ?_
      refine wp_get d_Work_copy_57 fl_Work_22 (by first | exact (mu_up_n n2).trans ((mu_up_n n1).trans ((mu_up_n n0).trans g)) | exact hs4 _ _ hw | exact hs4 _ _ h0 | exact hs4 _ _ h1 | exact hs4 _ _ h2 | exact hs4 _ _ h3) (by rfl) ?_
      refine wp_iload_n d_Work_copy_60 rfl rfl ?_
      refine wp_iald d_Work_copy_61 (by first | exact (mu_up_n n2).trans ((mu_up_n n1).trans ((mu_up_n n0).trans g)) | exact hs4 _ _ hw | exact hs4 _ _ h0 | exact hs4 _ _ h1 | exact hs4 _ _ h2 | exact hs4 _ _ h3) (by rfl) (by omega) (by omega) ?_
      refine wp_iast d_Work_copy_62 ((mu_up_n n32).trans ((mu_up_n n31).trans ((mu_up_n n30).trans g3))) b3 rfl (by omega) (by omega) ?_
      rw [cp_1]
      have hs5 := sub_upd (e := .inl (G.2.2.1 0, 4, .inl (cp f3 (i + 1)))) hs4 y3
      refine wp_iinc d_Work_copy_63 rfl rfl (by decide) ?_
      refine wp_goto (tgt := 10) d_Work_copy_66 (by decide) ?_
      refine WP.loc [(0, .ref w), (1, .ref q), (2, .int (nI (i + 1)))] (by rw [← nI_1 i]; rfl) (ih (i + 1) _ (by omega) hs5 ?_ ?_ ?_ ?_ ?_)
      · rw [mu_up_n n3, mu_up_n n2, mu_up_n n1, mu_up_n n0]; exact g
      · rw [mu_up_n n30.symm, mu_up_n n20.symm, mu_up_n n10.symm, mu_up_s]
      · rw [mu_up_n n31.symm, mu_up_n n21.symm, mu_up_s]
      · rw [mu_up_n n32.symm, mu_up_s]
      · rw [mu_up_s]
  refine WP.loc _ rfl (WP.widen (Nat.le_of_ble_eq_true rfl) (Nat.le_of_ble_eq_true rfl) (loop 4 0 μ1 rfl hsub e ?_ ?_ ?_ ?_))
  · rw [cp_0]; exact e0
  · rw [cp_0]; exact e1
  · rw [cp_0]; exact e2
  · rw [cp_0]; exact e3
end Make
