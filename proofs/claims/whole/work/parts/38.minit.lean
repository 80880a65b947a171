/-! THE REFERENCE'S CONSTRUCTOR, first stretch: Ad are the addresses made -/
def aD (Ad : List Nat) (i : Nat) : Nat := Ad.getD i 0
theorem aD_l {Ad : List Nat} {q i : Nat} (h : i < Ad.length) : aD (Ad ++ [q]) i = aD Ad i := by
  unfold aD
  rw [List.getD_eq_getElem?_getD, List.getD_eq_getElem?_getD, List.getElem?_append_left h]
theorem aD_r {Ad : List Nat} {q i : Nat} (h : i = Ad.length) : aD (Ad ++ [q]) i = q := by
  unfold aD
  rw [h, List.getD_eq_getElem?_getD, List.getElem?_append_right (Nat.le_refl _), Nat.sub_self]
  rfl
def In (G : mt_G) (μ0 μ : mu_M) (a0 : Nat) (L : List Value) (Ad : List Nat) : Prop :=
  μ a0 = some (.inr (7, L)) ∧ aD Ad 0 = a0 ∧ (∀ i, 0 < i → i < Ad.length → μ (aD Ad i) = some (.inl (G.2.2.1 (tyM i), lnM i, .inl (fun _ => 0)))) ∧ (∀ i j, i < Ad.length → j < Ad.length → aD Ad i = aD Ad j → i = j) ∧ (∀ i, i < Ad.length → G.2.2.2.1 ≤ aD Ad i) ∧ (∀ a e, a ≠ a0 → μ0 a = some e → μ a = some e) ∧ (∀ i, 0 < i → i < Ad.length → μ0 (aD Ad i) = none) ∧ 0 < Ad.length
theorem In.set {G : mt_G} {μ0 μ : mu_M} {a0 : Nat} {L L' : List Value} {Ad : List Nat} (h : In G μ0 μ a0 L Ad) : In G μ0 (mu_up μ a0 (.inr (7, L'))) a0 L' Ad := by
  obtain ⟨h1, h2, h3, h4, h5, h6, h7, h8⟩ := h
  refine ⟨mu_up_s _ _ _, h2, fun i a b => ?_, h4, h5, fun a e na he => ?_, h7, h8⟩
  · rw [mu_up_n (fun z => absurd (h4 i 0 b h8 (z.trans h2.symm)) (by omega))]; exact h3 i a b
  · rw [mu_up_n na]; exact h6 a e na he
theorem In.arr {G : mt_G} {μ0 μ : mu_M} {a0 q n t N : Nat} {L : List Value} {Ad : List Nat} (h : In G μ0 μ a0 L Ad) (hn : Ad.length = n) (ht : tyM n = t) (hN : lnM n = N) (hq : μ q = none) (hB : G.2.2.2.1 ≤ q) : In G μ0 (mu_up μ q (.inl (G.2.2.1 t, N, .inl (fun _ => 0)))) a0 L (Ad ++ [q]) := by
  obtain ⟨h1, h2, h3, h4, h5, h6, h7, h8⟩ := h
  subst ht hN hn
  have hne : ∀ i, i < Ad.length → aD Ad i ≠ q := fun i hi z => by
    by_cases h0 : i = 0
    · rw [h0, h2] at z; rw [z, hq] at h1; cases h1
    · have := h3 i (by omega) hi
      rw [z, hq] at this; cases this
  have hl : (Ad ++ [q]).length = Ad.length + 1 := by rw [List.length_append]; rfl
  refine ⟨?_, ?_, fun i a b => ?_, fun i j hi hj e => ?_, fun i hi => ?_, fun a e na he => ?_, fun i a b => ?_, by omega⟩
  · rw [mu_up_n (mu_some_ne h1 hq)]; exact h1
  · rw [aD_l h8]; exact h2
  · by_cases e : i = Ad.length
    · rw [aD_r e, mu_up_s, e]
    · rw [aD_l (by omega), mu_up_n (hne i (by omega))]; exact h3 i a (by omega)
  · by_cases e1 : i = Ad.length <;> by_cases e2 : j = Ad.length
    · omega
    · rw [aD_r e1, aD_l (by omega)] at e; exact absurd e.symm (hne j (by omega))
    · rw [aD_l (by omega), aD_r e2] at e; exact absurd e (hne i (by omega))
    · rw [aD_l (by omega), aD_l (by omega)] at e; exact h4 i j (by omega) (by omega) e
  · by_cases e : i = Ad.length
    · rw [aD_r e]; exact hB
    · rw [aD_l (by omega)]; exact h5 i (by omega)
  · have q1 := h6 a e na he
    rw [mu_up_n (mu_some_ne q1 hq)]; exact q1
  · by_cases e : i = Ad.length
    · rw [aD_r e]
      cases hz : μ0 q with
      | none => rfl
      | some x =>
        have z := h6 q x (fun z => by rw [z, h1] at hq; cases hq) hz
        rw [z] at hq; cases hq
    · rw [aD_l (by omega)]; exact h7 i a (by omega)
def τ00 : sg := fun i k => if i = 0 then (if k = 1 then 1 else if k = 2 then 1 else 0) else 0
theorem τ00_a {i : Nat} (h : 0 < i) : τ00 i = fun _ => 0 := funext fun k => if_neg (by omega)
theorem In.mx {G : mt_G} {μ0 μ : mu_M} {a0 : Nat} {L : List Value} {Ad : List Nat} (h : In G μ0 μ a0 L Ad) (hn : Ad.length = 21) (hL : (.inr (7, L) : va_E) = shM G (aD Ad) (τ00 0) 0) : Mx G μ0 μ (aD Ad) τ00 := by
  obtain ⟨h1, h2, h3, h4, h5, h6, h7, h8⟩ := h
  rw [hn] at h3 h4 h5
  refine ⟨fun i hi => ?_, h4, h5, fun a e ha he => h6 a e (fun z => ha 0 (by omega) (z.trans h2.symm)) he⟩
  by_cases e : i = 0
  · rw [e, h2, h1, hL]
  · rw [h3 i (by omega) hi, shM, if_neg e, τ00_a (by omega)]
section MIni1
variable {G : mt_G} {μ : mu_M}
set_option maxHeartbeats 1000000 in
theorem mi_0 {QE : mt_Q} {μs : mu_M} {a0  : Nat} (hB : G.2.2.2.1 ≤ a0) (hI : In G μ μs a0 [.int 0, .null, .null, .null, .null, .null, .null, .null, .null, .null, .int 0, .null, .int 0, .int 0, .int 0, .null, .null, .null, .null, .null, .null, .null, .null, .null, .null, .int 0] [a0]) (kk : ∀ (μn : mu_M) (q1 : Nat), In G μ μn a0 [.int 0, .ref q1, .null, .null, .null, .null, .null, .null, .null, .null, .int 0, .null, .int 0, .int 0, .int 0, .null, .null, .null, .null, .null, .null, .null, .null, .null, .null, .int 0] [a0, q1] → WP G M_Model_init QE [(0, .ref a0)] 13 [] μn 1 361) : WP G M_Model_init QE [(0, .ref a0)] 4 [] μs 0 0 := by
  refine wp_aload_n d_Model_init_4 rfl rfl ?_
  refine wp_sipush (v := 361) d_Model_init_5 (by decide) ?_
  refine wp_newI (N := 361) d_Model_init_8 ac_I (by decide) (Nat.le_of_ble_eq_true rfl) (Nat.le_of_ble_eq_true rfl) (fun q1 bq zq => ?_)
  have hJ := hI.arr (n := 1) (t := 0) (N := 361) rfl rfl rfl zq bq
  exact wp_putF d_Model_init_10 ff_Model_7 rfl hJ.1 hB rfl rfl (Nat.le_of_ble_eq_true rfl) (kk _ q1 hJ.set)
set_option maxHeartbeats 1000000 in
theorem mi_1 {QE : mt_Q} {μs : mu_M} {a0 q1 : Nat} (hB : G.2.2.2.1 ≤ a0) (hI : In G μ μs a0 [.int 0, .ref q1, .null, .null, .null, .null, .null, .null, .null, .null, .int 0, .null, .int 0, .int 0, .int 0, .null, .null, .null, .null, .null, .null, .null, .null, .null, .null, .int 0] [a0, q1]) (kk : ∀ (μn : mu_M) (q2 : Nat), In G μ μn a0 [.int 0, .ref q1, .ref q2, .null, .null, .null, .null, .null, .null, .null, .int 0, .null, .int 0, .int 0, .int 0, .null, .null, .null, .null, .null, .null, .null, .null, .null, .null, .int 0] [a0, q1, q2] → WP G M_Model_init QE [(0, .ref a0)] 22 [] μn 2 722) : WP G M_Model_init QE [(0, .ref a0)] 13 [] μs 1 361 := by
  refine wp_aload_n d_Model_init_13 rfl rfl ?_
  refine wp_sipush (v := 361) d_Model_init_14 (by decide) ?_
  refine wp_newI (N := 361) d_Model_init_17 ac_I (by decide) (Nat.le_of_ble_eq_true rfl) (Nat.le_of_ble_eq_true rfl) (fun q2 bq zq => ?_)
  have hJ := hI.arr (n := 2) (t := 0) (N := 361) rfl rfl rfl zq bq
  exact wp_putF d_Model_init_19 ff_Model_13 rfl hJ.1 hB rfl rfl (Nat.le_of_ble_eq_true rfl) (kk _ q2 hJ.set)
set_option maxHeartbeats 1000000 in
theorem mi_2 {QE : mt_Q} {μs : mu_M} {a0 q1 q2 : Nat} (hB : G.2.2.2.1 ≤ a0) (hI : In G μ μs a0 [.int 0, .ref q1, .ref q2, .null, .null, .null, .null, .null, .null, .null, .int 0, .null, .int 0, .int 0, .int 0, .null, .null, .null, .null, .null, .null, .null, .null, .null, .null, .int 0] [a0, q1, q2]) (kk : ∀ (μn : mu_M) (q3 : Nat), In G μ μn a0 [.int 0, .ref q1, .ref q2, .ref q3, .null, .null, .null, .null, .null, .null, .int 0, .null, .int 0, .int 0, .int 0, .null, .null, .null, .null, .null, .null, .null, .null, .null, .null, .int 0] [a0, q1, q2, q3] → WP G M_Model_init QE [(0, .ref a0)] 31 [] μn 3 1083) : WP G M_Model_init QE [(0, .ref a0)] 22 [] μs 2 722 := by
  refine wp_aload_n d_Model_init_22 rfl rfl ?_
  refine wp_sipush (v := 361) d_Model_init_23 (by decide) ?_
  refine wp_newI (N := 361) d_Model_init_26 ac_I (by decide) (Nat.le_of_ble_eq_true rfl) (Nat.le_of_ble_eq_true rfl) (fun q3 bq zq => ?_)
  have hJ := hI.arr (n := 3) (t := 0) (N := 361) rfl rfl rfl zq bq
  exact wp_putF d_Model_init_28 ff_Model_16 rfl hJ.1 hB rfl rfl (Nat.le_of_ble_eq_true rfl) (kk _ q3 hJ.set)
set_option maxHeartbeats 1000000 in
theorem mi_3 {QE : mt_Q} {μs : mu_M} {a0 q1 q2 q3 : Nat} (hB : G.2.2.2.1 ≤ a0) (hI : In G μ μs a0 [.int 0, .ref q1, .ref q2, .ref q3, .null, .null, .null, .null, .null, .null, .int 0, .null, .int 0, .int 0, .int 0, .null, .null, .null, .null, .null, .null, .null, .null, .null, .null, .int 0] [a0, q1, q2, q3]) (kk : ∀ (μn : mu_M) (q4 : Nat), In G μ μn a0 [.int 0, .ref q1, .ref q2, .ref q3, .ref q4, .null, .null, .null, .null, .null, .int 0, .null, .int 0, .int 0, .int 0, .null, .null, .null, .null, .null, .null, .null, .null, .null, .null, .int 0] [a0, q1, q2, q3, q4] → WP G M_Model_init QE [(0, .ref a0)] 40 [] μn 4 1444) : WP G M_Model_init QE [(0, .ref a0)] 31 [] μs 3 1083 := by
  refine wp_aload_n d_Model_init_31 rfl rfl ?_
  refine wp_sipush (v := 361) d_Model_init_32 (by decide) ?_
  refine wp_newI (N := 361) d_Model_init_35 ac_I (by decide) (Nat.le_of_ble_eq_true rfl) (Nat.le_of_ble_eq_true rfl) (fun q4 bq zq => ?_)
  have hJ := hI.arr (n := 4) (t := 0) (N := 361) rfl rfl rfl zq bq
  exact wp_putF d_Model_init_37 ff_Model_19 rfl hJ.1 hB rfl rfl (Nat.le_of_ble_eq_true rfl) (kk _ q4 hJ.set)
set_option maxHeartbeats 1000000 in
theorem mi_4 {QE : mt_Q} {μs : mu_M} {a0 q1 q2 q3 q4 : Nat} (hB : G.2.2.2.1 ≤ a0) (hI : In G μ μs a0 [.int 0, .ref q1, .ref q2, .ref q3, .ref q4, .null, .null, .null, .null, .null, .int 0, .null, .int 0, .int 0, .int 0, .null, .null, .null, .null, .null, .null, .null, .null, .null, .null, .int 0] [a0, q1, q2, q3, q4]) (kk : ∀ (μn : mu_M) (q5 : Nat), In G μ μn a0 [.int 0, .ref q1, .ref q2, .ref q3, .ref q4, .ref q5, .null, .null, .null, .null, .int 0, .null, .int 0, .int 0, .int 0, .null, .null, .null, .null, .null, .null, .null, .null, .null, .null, .int 0] [a0, q1, q2, q3, q4, q5] → WP G M_Model_init QE [(0, .ref a0)] 49 [] μn 5 1805) : WP G M_Model_init QE [(0, .ref a0)] 40 [] μs 4 1444 := by
  refine wp_aload_n d_Model_init_40 rfl rfl ?_
  refine wp_sipush (v := 361) d_Model_init_41 (by decide) ?_
  refine wp_newI (N := 361) d_Model_init_44 ac_I (by decide) (Nat.le_of_ble_eq_true rfl) (Nat.le_of_ble_eq_true rfl) (fun q5 bq zq => ?_)
  have hJ := hI.arr (n := 5) (t := 0) (N := 361) rfl rfl rfl zq bq
  exact wp_putF d_Model_init_46 ff_Model_22 rfl hJ.1 hB rfl rfl (Nat.le_of_ble_eq_true rfl) (kk _ q5 hJ.set)
set_option maxHeartbeats 1000000 in
theorem mi_5 {QE : mt_Q} {μs : mu_M} {a0 q1 q2 q3 q4 q5 : Nat} (hB : G.2.2.2.1 ≤ a0) (hI : In G μ μs a0 [.int 0, .ref q1, .ref q2, .ref q3, .ref q4, .ref q5, .null, .null, .null, .null, .int 0, .null, .int 0, .int 0, .int 0, .null, .null, .null, .null, .null, .null, .null, .null, .null, .null, .int 0] [a0, q1, q2, q3, q4, q5]) (kk : ∀ (μn : mu_M) (q6 : Nat), In G μ μn a0 [.int 0, .ref q1, .ref q2, .ref q3, .ref q4, .ref q5, .ref q6, .null, .null, .null, .int 0, .null, .int 0, .int 0, .int 0, .null, .null, .null, .null, .null, .null, .null, .null, .null, .null, .int 0] [a0, q1, q2, q3, q4, q5, q6] → WP G M_Model_init QE [(0, .ref a0)] 58 [] μn 6 3249) : WP G M_Model_init QE [(0, .ref a0)] 49 [] μs 5 1805 := by
  refine wp_aload_n d_Model_init_49 rfl rfl ?_
  refine wp_sipush (v := 1444) d_Model_init_50 (by decide) ?_
  refine wp_newI (N := 1444) d_Model_init_53 ac_I (by decide) (Nat.le_of_ble_eq_true rfl) (Nat.le_of_ble_eq_true rfl) (fun q6 bq zq => ?_)
  have hJ := hI.arr (n := 6) (t := 0) (N := 1444) rfl rfl rfl zq bq
  exact wp_putF d_Model_init_55 ff_Model_25 rfl hJ.1 hB rfl rfl (Nat.le_of_ble_eq_true rfl) (kk _ q6 hJ.set)
set_option maxHeartbeats 1000000 in
theorem mi_6 {QE : mt_Q} {μs : mu_M} {a0 q1 q2 q3 q4 q5 q6 : Nat} (hB : G.2.2.2.1 ≤ a0) (hI : In G μ μs a0 [.int 0, .ref q1, .ref q2, .ref q3, .ref q4, .ref q5, .ref q6, .null, .null, .null, .int 0, .null, .int 0, .int 0, .int 0, .null, .null, .null, .null, .null, .null, .null, .null, .null, .null, .int 0] [a0, q1, q2, q3, q4, q5, q6]) (kk : ∀ (μn : mu_M) (q7 : Nat), In G μ μn a0 [.int 0, .ref q1, .ref q2, .ref q3, .ref q4, .ref q5, .ref q6, .ref q7, .null, .null, .int 0, .null, .int 0, .int 0, .int 0, .null, .null, .null, .null, .null, .null, .null, .null, .null, .null, .int 0] [a0, q1, q2, q3, q4, q5, q6, q7] → WP G M_Model_init QE [(0, .ref a0)] 67 [] μn 7 4693) : WP G M_Model_init QE [(0, .ref a0)] 58 [] μs 6 3249 := by
  refine wp_aload_n d_Model_init_58 rfl rfl ?_
  refine wp_sipush (v := 1444) d_Model_init_59 (by decide) ?_
  refine wp_newI (N := 1444) d_Model_init_62 ac_I (by decide) (Nat.le_of_ble_eq_true rfl) (Nat.le_of_ble_eq_true rfl) (fun q7 bq zq => ?_)
  have hJ := hI.arr (n := 7) (t := 0) (N := 1444) rfl rfl rfl zq bq
  exact wp_putF d_Model_init_64 ff_Model_28 rfl hJ.1 hB rfl rfl (Nat.le_of_ble_eq_true rfl) (kk _ q7 hJ.set)
set_option maxHeartbeats 1000000 in
theorem mi_7 {QE : mt_Q} {μs : mu_M} {a0 q1 q2 q3 q4 q5 q6 q7 : Nat} (hB : G.2.2.2.1 ≤ a0) (hI : In G μ μs a0 [.int 0, .ref q1, .ref q2, .ref q3, .ref q4, .ref q5, .ref q6, .ref q7, .null, .null, .int 0, .null, .int 0, .int 0, .int 0, .null, .null, .null, .null, .null, .null, .null, .null, .null, .null, .int 0] [a0, q1, q2, q3, q4, q5, q6, q7]) (kk : ∀ (μn : mu_M) (q8 : Nat), In G μ μn a0 [.int 0, .ref q1, .ref q2, .ref q3, .ref q4, .ref q5, .ref q6, .ref q7, .ref q8, .null, .int 0, .null, .int 0, .int 0, .int 0, .null, .null, .null, .null, .null, .null, .null, .null, .null, .null, .int 0] [a0, q1, q2, q3, q4, q5, q6, q7, q8] → WP G M_Model_init QE [(0, .ref a0)] 75 [] μn 8 4699) : WP G M_Model_init QE [(0, .ref a0)] 67 [] μs 7 4693 := by
  refine wp_aload_n d_Model_init_67 rfl rfl ?_
  refine wp_bipush (v := 6) d_Model_init_68 (by decide) ?_
  refine wp_newZ (N := 6) d_Model_init_70 ac_Z (by decide) (Nat.le_of_ble_eq_true rfl) (Nat.le_of_ble_eq_true rfl) (fun q8 bq zq => ?_)
  have hJ := hI.arr (n := 8) (t := 1) (N := 6) rfl rfl rfl zq bq
  exact wp_putF d_Model_init_72 ff_Model_31 rfl hJ.1 hB rfl rfl (Nat.le_of_ble_eq_true rfl) (kk _ q8 hJ.set)
set_option maxHeartbeats 1000000 in
theorem mi_8 {QE : mt_Q} {μs : mu_M} {a0 q1 q2 q3 q4 q5 q6 q7 q8 : Nat} (hB : G.2.2.2.1 ≤ a0) (hI : In G μ μs a0 [.int 0, .ref q1, .ref q2, .ref q3, .ref q4, .ref q5, .ref q6, .ref q7, .ref q8, .null, .int 0, .null, .int 0, .int 0, .int 0, .null, .null, .null, .null, .null, .null, .null, .null, .null, .null, .int 0] [a0, q1, q2, q3, q4, q5, q6, q7, q8]) (kk : ∀ (μn : mu_M) (q9 : Nat), In G μ μn a0 [.int 0, .ref q1, .ref q2, .ref q3, .ref q4, .ref q5, .ref q6, .ref q7, .ref q8, .ref q9, .int 0, .null, .int 0, .int 0, .int 0, .null, .null, .null, .null, .null, .null, .null, .null, .null, .null, .int 0] [a0, q1, q2, q3, q4, q5, q6, q7, q8, q9] → WP G M_Model_init QE [(0, .ref a0)] 83 [] μn 9 4705) : WP G M_Model_init QE [(0, .ref a0)] 75 [] μs 8 4699 := by
  refine wp_aload_n d_Model_init_75 rfl rfl ?_
  refine wp_bipush (v := 6) d_Model_init_76 (by decide) ?_
  refine wp_newI (N := 6) d_Model_init_78 ac_I (by decide) (Nat.le_of_ble_eq_true rfl) (Nat.le_of_ble_eq_true rfl) (fun q9 bq zq => ?_)
  have hJ := hI.arr (n := 9) (t := 0) (N := 6) rfl rfl rfl zq bq
  exact wp_putF d_Model_init_80 ff_Model_35 rfl hJ.1 hB rfl rfl (Nat.le_of_ble_eq_true rfl) (kk _ q9 hJ.set)
set_option maxHeartbeats 1000000 in
theorem mi_9 {QE : mt_Q} {μs : mu_M} {a0 q1 q2 q3 q4 q5 q6 q7 q8 q9 : Nat} (hB : G.2.2.2.1 ≤ a0) (hI : In G μ μs a0 [.int 0, .ref q1, .ref q2, .ref q3, .ref q4, .ref q5, .ref q6, .ref q7, .ref q8, .ref q9, .int 0, .null, .int 0, .int 0, .int 0, .null, .null, .null, .null, .null, .null, .null, .null, .null, .null, .int 0] [a0, q1, q2, q3, q4, q5, q6, q7, q8, q9]) (kk : ∀ (μn : mu_M), In G μ μn a0 [.int 0, .ref q1, .ref q2, .ref q3, .ref q4, .ref q5, .ref q6, .ref q7, .ref q8, .ref q9, .int 1, .null, .int 0, .int 0, .int 0, .null, .null, .null, .null, .null, .null, .null, .null, .null, .null, .int 0] [a0, q1, q2, q3, q4, q5, q6, q7, q8, q9] → WP G M_Model_init QE [(0, .ref a0)] 88 [] μn 9 4705) : WP G M_Model_init QE [(0, .ref a0)] 83 [] μs 9 4705 := by
  refine wp_aload_n d_Model_init_83 rfl rfl ?_
  refine wp_iconst (v := 1) d_Model_init_84 (by decide) ?_
  exact wp_put d_Model_init_85 fp_Model_38 hI.1 hB rfl rfl (Nat.le_of_ble_eq_true rfl) (kk _ hI.set)
set_option maxHeartbeats 1000000 in
theorem mi_10 {QE : mt_Q} {μs : mu_M} {a0 q1 q2 q3 q4 q5 q6 q7 q8 q9 : Nat} (hB : G.2.2.2.1 ≤ a0) (hI : In G μ μs a0 [.int 0, .ref q1, .ref q2, .ref q3, .ref q4, .ref q5, .ref q6, .ref q7, .ref q8, .ref q9, .int 1, .null, .int 0, .int 0, .int 0, .null, .null, .null, .null, .null, .null, .null, .null, .null, .null, .int 0] [a0, q1, q2, q3, q4, q5, q6, q7, q8, q9]) (kk : ∀ (μn : mu_M) (q10 : Nat), In G μ μn a0 [.int 0, .ref q1, .ref q2, .ref q3, .ref q4, .ref q5, .ref q6, .ref q7, .ref q8, .ref q9, .int 1, .ref q10, .int 0, .int 0, .int 0, .null, .null, .null, .null, .null, .null, .null, .null, .null, .null, .int 0] [a0, q1, q2, q3, q4, q5, q6, q7, q8, q9, q10] → WP G M_Model_init QE [(0, .ref a0)] 95 [] μn 10 4707) : WP G M_Model_init QE [(0, .ref a0)] 88 [] μs 9 4705 := by
  refine wp_aload_n d_Model_init_88 rfl rfl ?_
  refine wp_iconst (v := 2) d_Model_init_89 (by decide) ?_
  refine wp_newI (N := 2) d_Model_init_90 ac_I (by decide) (Nat.le_of_ble_eq_true rfl) (Nat.le_of_ble_eq_true rfl) (fun q10 bq zq => ?_)
  have hJ := hI.arr (n := 10) (t := 0) (N := 2) rfl rfl rfl zq bq
  exact wp_putF d_Model_init_92 ff_Model_42 rfl hJ.1 hB rfl rfl (Nat.le_of_ble_eq_true rfl) (kk _ q10 hJ.set)
set_option maxHeartbeats 1000000 in
theorem mi_11 {QE : mt_Q} {μs : mu_M} {a0 q1 q2 q3 q4 q5 q6 q7 q8 q9 q10 : Nat} (hB : G.2.2.2.1 ≤ a0) (hI : In G μ μs a0 [.int 0, .ref q1, .ref q2, .ref q3, .ref q4, .ref q5, .ref q6, .ref q7, .ref q8, .ref q9, .int 1, .ref q10, .int 0, .int 0, .int 0, .null, .null, .null, .null, .null, .null, .null, .null, .null, .null, .int 0] [a0, q1, q2, q3, q4, q5, q6, q7, q8, q9, q10]) (kk : ∀ (μn : mu_M), In G μ μn a0 [.int 0, .ref q1, .ref q2, .ref q3, .ref q4, .ref q5, .ref q6, .ref q7, .ref q8, .ref q9, .int 1, .ref q10, .int 1, .int 0, .int 0, .null, .null, .null, .null, .null, .null, .null, .null, .null, .null, .int 0] [a0, q1, q2, q3, q4, q5, q6, q7, q8, q9, q10] → WP G M_Model_init QE [(0, .ref a0)] 100 [] μn 10 4707) : WP G M_Model_init QE [(0, .ref a0)] 95 [] μs 10 4707 := by
  refine wp_aload_n d_Model_init_95 rfl rfl ?_
  refine wp_iconst (v := 1) d_Model_init_96 (by decide) ?_
  exact wp_put d_Model_init_97 fp_Model_45 hI.1 hB rfl rfl (Nat.le_of_ble_eq_true rfl) (kk _ hI.set)
set_option maxHeartbeats 1000000 in
theorem mi_12 {QE : mt_Q} {μs : mu_M} {a0 q1 q2 q3 q4 q5 q6 q7 q8 q9 q10 : Nat} (hB : G.2.2.2.1 ≤ a0) (hI : In G μ μs a0 [.int 0, .ref q1, .ref q2, .ref q3, .ref q4, .ref q5, .ref q6, .ref q7, .ref q8, .ref q9, .int 1, .ref q10, .int 1, .int 0, .int 0, .null, .null, .null, .null, .null, .null, .null, .null, .null, .null, .int 0] [a0, q1, q2, q3, q4, q5, q6, q7, q8, q9, q10]) (kk : ∀ (μn : mu_M) (q11 : Nat), In G μ μn a0 [.int 0, .ref q1, .ref q2, .ref q3, .ref q4, .ref q5, .ref q6, .ref q7, .ref q8, .ref q9, .int 1, .ref q10, .int 1, .int 0, .int 0, .ref q11, .null, .null, .null, .null, .null, .null, .null, .null, .null, .int 0] [a0, q1, q2, q3, q4, q5, q6, q7, q8, q9, q10, q11] → WP G M_Model_init QE [(0, .ref a0)] 107 [] μn 11 4711) : WP G M_Model_init QE [(0, .ref a0)] 100 [] μs 10 4707 := by
  refine wp_aload_n d_Model_init_100 rfl rfl ?_
  refine wp_iconst (v := 4) d_Model_init_101 (by decide) ?_
  refine wp_newI (N := 4) d_Model_init_102 ac_I (by decide) (Nat.le_of_ble_eq_true rfl) (Nat.le_of_ble_eq_true rfl) (fun q11 bq zq => ?_)
  have hJ := hI.arr (n := 11) (t := 0) (N := 4) rfl rfl rfl zq bq
  exact wp_putF d_Model_init_104 ff_Model_48 rfl hJ.1 hB rfl rfl (Nat.le_of_ble_eq_true rfl) (kk _ q11 hJ.set)
set_option maxHeartbeats 1000000 in
theorem mi_13 {QE : mt_Q} {μs : mu_M} {a0 q1 q2 q3 q4 q5 q6 q7 q8 q9 q10 q11 : Nat} (hB : G.2.2.2.1 ≤ a0) (hI : In G μ μs a0 [.int 0, .ref q1, .ref q2, .ref q3, .ref q4, .ref q5, .ref q6, .ref q7, .ref q8, .ref q9, .int 1, .ref q10, .int 1, .int 0, .int 0, .ref q11, .null, .null, .null, .null, .null, .null, .null, .null, .null, .int 0] [a0, q1, q2, q3, q4, q5, q6, q7, q8, q9, q10, q11]) (kk : ∀ (μn : mu_M) (q12 : Nat), In G μ μn a0 [.int 0, .ref q1, .ref q2, .ref q3, .ref q4, .ref q5, .ref q6, .ref q7, .ref q8, .ref q9, .int 1, .ref q10, .int 1, .int 0, .int 0, .ref q11, .ref q12, .null, .null, .null, .null, .null, .null, .null, .null, .int 0] [a0, q1, q2, q3, q4, q5, q6, q7, q8, q9, q10, q11, q12] → WP G M_Model_init QE [(0, .ref a0)] 115 [] μn 12 4719) : WP G M_Model_init QE [(0, .ref a0)] 107 [] μs 11 4711 := by
  refine wp_aload_n d_Model_init_107 rfl rfl ?_
  refine wp_bipush (v := 8) d_Model_init_108 (by decide) ?_
  refine wp_newI (N := 8) d_Model_init_110 ac_I (by decide) (Nat.le_of_ble_eq_true rfl) (Nat.le_of_ble_eq_true rfl) (fun q12 bq zq => ?_)
  have hJ := hI.arr (n := 12) (t := 0) (N := 8) rfl rfl rfl zq bq
  exact wp_putF d_Model_init_112 ff_Model_51 rfl hJ.1 hB rfl rfl (Nat.le_of_ble_eq_true rfl) (kk _ q12 hJ.set)
set_option maxHeartbeats 1000000 in
theorem mi_14 {QE : mt_Q} {μs : mu_M} {a0 q1 q2 q3 q4 q5 q6 q7 q8 q9 q10 q11 q12 : Nat} (hB : G.2.2.2.1 ≤ a0) (hI : In G μ μs a0 [.int 0, .ref q1, .ref q2, .ref q3, .ref q4, .ref q5, .ref q6, .ref q7, .ref q8, .ref q9, .int 1, .ref q10, .int 1, .int 0, .int 0, .ref q11, .ref q12, .null, .null, .null, .null, .null, .null, .null, .null, .int 0] [a0, q1, q2, q3, q4, q5, q6, q7, q8, q9, q10, q11, q12]) (kk : ∀ (μn : mu_M) (q13 : Nat), In G μ μn a0 [.int 0, .ref q1, .ref q2, .ref q3, .ref q4, .ref q5, .ref q6, .ref q7, .ref q8, .ref q9, .int 1, .ref q10, .int 1, .int 0, .int 0, .ref q11, .ref q12, .ref q13, .null, .null, .null, .null, .null, .null, .null, .int 0] [a0, q1, q2, q3, q4, q5, q6, q7, q8, q9, q10, q11, q12, q13] → WP G M_Model_init QE [(0, .ref a0)] 122 [] μn 13 4723) : WP G M_Model_init QE [(0, .ref a0)] 115 [] μs 12 4719 := by
  refine wp_aload_n d_Model_init_115 rfl rfl ?_
  refine wp_iconst (v := 4) d_Model_init_116 (by decide) ?_
  refine wp_newI (N := 4) d_Model_init_117 ac_I (by decide) (Nat.le_of_ble_eq_true rfl) (Nat.le_of_ble_eq_true rfl) (fun q13 bq zq => ?_)
  have hJ := hI.arr (n := 13) (t := 0) (N := 4) rfl rfl rfl zq bq
  exact wp_putF d_Model_init_119 ff_Model_54 rfl hJ.1 hB rfl rfl (Nat.le_of_ble_eq_true rfl) (kk _ q13 hJ.set)
set_option maxHeartbeats 1000000 in
theorem mi_15 {QE : mt_Q} {μs : mu_M} {a0 q1 q2 q3 q4 q5 q6 q7 q8 q9 q10 q11 q12 q13 : Nat} (hB : G.2.2.2.1 ≤ a0) (hI : In G μ μs a0 [.int 0, .ref q1, .ref q2, .ref q3, .ref q4, .ref q5, .ref q6, .ref q7, .ref q8, .ref q9, .int 1, .ref q10, .int 1, .int 0, .int 0, .ref q11, .ref q12, .ref q13, .null, .null, .null, .null, .null, .null, .null, .int 0] [a0, q1, q2, q3, q4, q5, q6, q7, q8, q9, q10, q11, q12, q13]) (kk : ∀ (μn : mu_M) (q14 : Nat), In G μ μn a0 [.int 0, .ref q1, .ref q2, .ref q3, .ref q4, .ref q5, .ref q6, .ref q7, .ref q8, .ref q9, .int 1, .ref q10, .int 1, .int 0, .int 0, .ref q11, .ref q12, .ref q13, .ref q14, .null, .null, .null, .null, .null, .null, .int 0] [a0, q1, q2, q3, q4, q5, q6, q7, q8, q9, q10, q11, q12, q13, q14] → WP G M_Model_init QE [(0, .ref a0)] 130 [] μn 14 4739) : WP G M_Model_init QE [(0, .ref a0)] 122 [] μs 13 4723 := by
  refine wp_aload_n d_Model_init_122 rfl rfl ?_
  refine wp_bipush (v := 16) d_Model_init_123 (by decide) ?_
  refine wp_newI (N := 16) d_Model_init_125 ac_I (by decide) (Nat.le_of_ble_eq_true rfl) (Nat.le_of_ble_eq_true rfl) (fun q14 bq zq => ?_)
  have hJ := hI.arr (n := 14) (t := 0) (N := 16) rfl rfl rfl zq bq
  exact wp_putF d_Model_init_127 ff_Model_57 rfl hJ.1 hB rfl rfl (Nat.le_of_ble_eq_true rfl) (kk _ q14 hJ.set)
set_option maxHeartbeats 1000000 in
theorem mi_16 {QE : mt_Q} {μs : mu_M} {a0 q1 q2 q3 q4 q5 q6 q7 q8 q9 q10 q11 q12 q13 q14 : Nat} (hB : G.2.2.2.1 ≤ a0) (hI : In G μ μs a0 [.int 0, .ref q1, .ref q2, .ref q3, .ref q4, .ref q5, .ref q6, .ref q7, .ref q8, .ref q9, .int 1, .ref q10, .int 1, .int 0, .int 0, .ref q11, .ref q12, .ref q13, .ref q14, .null, .null, .null, .null, .null, .null, .int 0] [a0, q1, q2, q3, q4, q5, q6, q7, q8, q9, q10, q11, q12, q13, q14]) (kk : ∀ (μn : mu_M) (q15 : Nat), In G μ μn a0 [.int 0, .ref q1, .ref q2, .ref q3, .ref q4, .ref q5, .ref q6, .ref q7, .ref q8, .ref q9, .int 1, .ref q10, .int 1, .int 0, .int 0, .ref q11, .ref q12, .ref q13, .ref q14, .ref q15, .null, .null, .null, .null, .null, .int 0] [a0, q1, q2, q3, q4, q5, q6, q7, q8, q9, q10, q11, q12, q13, q14, q15] → WP G M_Model_init QE [(0, .ref a0)] 138 [] μn 15 4755) : WP G M_Model_init QE [(0, .ref a0)] 130 [] μs 14 4739 := by
  refine wp_aload_n d_Model_init_130 rfl rfl ?_
  refine wp_bipush (v := 16) d_Model_init_131 (by decide) ?_
  refine wp_newI (N := 16) d_Model_init_133 ac_I (by decide) (Nat.le_of_ble_eq_true rfl) (Nat.le_of_ble_eq_true rfl) (fun q15 bq zq => ?_)
  have hJ := hI.arr (n := 15) (t := 0) (N := 16) rfl rfl rfl zq bq
  exact wp_putF d_Model_init_135 ff_Model_60 rfl hJ.1 hB rfl rfl (Nat.le_of_ble_eq_true rfl) (kk _ q15 hJ.set)
set_option maxHeartbeats 1000000 in
theorem mi_17 {QE : mt_Q} {μs : mu_M} {a0 q1 q2 q3 q4 q5 q6 q7 q8 q9 q10 q11 q12 q13 q14 q15 : Nat} (hB : G.2.2.2.1 ≤ a0) (hI : In G μ μs a0 [.int 0, .ref q1, .ref q2, .ref q3, .ref q4, .ref q5, .ref q6, .ref q7, .ref q8, .ref q9, .int 1, .ref q10, .int 1, .int 0, .int 0, .ref q11, .ref q12, .ref q13, .ref q14, .ref q15, .null, .null, .null, .null, .null, .int 0] [a0, q1, q2, q3, q4, q5, q6, q7, q8, q9, q10, q11, q12, q13, q14, q15]) (kk : ∀ (μn : mu_M) (q16 : Nat), In G μ μn a0 [.int 0, .ref q1, .ref q2, .ref q3, .ref q4, .ref q5, .ref q6, .ref q7, .ref q8, .ref q9, .int 1, .ref q10, .int 1, .int 0, .int 0, .ref q11, .ref q12, .ref q13, .ref q14, .ref q15, .ref q16, .null, .null, .null, .null, .int 0] [a0, q1, q2, q3, q4, q5, q6, q7, q8, q9, q10, q11, q12, q13, q14, q15, q16] → WP G M_Model_init QE [(0, .ref a0)] 145 [] μn 16 4759) : WP G M_Model_init QE [(0, .ref a0)] 138 [] μs 15 4755 := by
  refine wp_aload_n d_Model_init_138 rfl rfl ?_
  refine wp_iconst (v := 4) d_Model_init_139 (by decide) ?_
  refine wp_newZ (N := 4) d_Model_init_140 ac_Z (by decide) (Nat.le_of_ble_eq_true rfl) (Nat.le_of_ble_eq_true rfl) (fun q16 bq zq => ?_)
  have hJ := hI.arr (n := 16) (t := 1) (N := 4) rfl rfl rfl zq bq
  exact wp_putF d_Model_init_142 ff_Model_63 rfl hJ.1 hB rfl rfl (Nat.le_of_ble_eq_true rfl) (kk _ q16 hJ.set)
set_option maxHeartbeats 1000000 in
theorem mi_18 {QE : mt_Q} {μs : mu_M} {a0 q1 q2 q3 q4 q5 q6 q7 q8 q9 q10 q11 q12 q13 q14 q15 q16 : Nat} (hB : G.2.2.2.1 ≤ a0) (hI : In G μ μs a0 [.int 0, .ref q1, .ref q2, .ref q3, .ref q4, .ref q5, .ref q6, .ref q7, .ref q8, .ref q9, .int 1, .ref q10, .int 1, .int 0, .int 0, .ref q11, .ref q12, .ref q13, .ref q14, .ref q15, .ref q16, .null, .null, .null, .null, .int 0] [a0, q1, q2, q3, q4, q5, q6, q7, q8, q9, q10, q11, q12, q13, q14, q15, q16]) (kk : ∀ (μn : mu_M) (q17 : Nat), In G μ μn a0 [.int 0, .ref q1, .ref q2, .ref q3, .ref q4, .ref q5, .ref q6, .ref q7, .ref q8, .ref q9, .int 1, .ref q10, .int 1, .int 0, .int 0, .ref q11, .ref q12, .ref q13, .ref q14, .ref q15, .ref q16, .ref q17, .null, .null, .null, .int 0] [a0, q1, q2, q3, q4, q5, q6, q7, q8, q9, q10, q11, q12, q13, q14, q15, q16, q17] → WP G M_Model_init QE [(0, .ref a0)] 152 [] μn 17 4763) : WP G M_Model_init QE [(0, .ref a0)] 145 [] μs 16 4759 := by
  refine wp_aload_n d_Model_init_145 rfl rfl ?_
  refine wp_iconst (v := 4) d_Model_init_146 (by decide) ?_
  refine wp_newI (N := 4) d_Model_init_147 ac_I (by decide) (Nat.le_of_ble_eq_true rfl) (Nat.le_of_ble_eq_true rfl) (fun q17 bq zq => ?_)
  have hJ := hI.arr (n := 17) (t := 0) (N := 4) rfl rfl rfl zq bq
  exact wp_putF d_Model_init_149 ff_Model_66 rfl hJ.1 hB rfl rfl (Nat.le_of_ble_eq_true rfl) (kk _ q17 hJ.set)
set_option maxHeartbeats 1000000 in
theorem mi_19 {QE : mt_Q} {μs : mu_M} {a0 q1 q2 q3 q4 q5 q6 q7 q8 q9 q10 q11 q12 q13 q14 q15 q16 q17 : Nat} (hB : G.2.2.2.1 ≤ a0) (hI : In G μ μs a0 [.int 0, .ref q1, .ref q2, .ref q3, .ref q4, .ref q5, .ref q6, .ref q7, .ref q8, .ref q9, .int 1, .ref q10, .int 1, .int 0, .int 0, .ref q11, .ref q12, .ref q13, .ref q14, .ref q15, .ref q16, .ref q17, .null, .null, .null, .int 0] [a0, q1, q2, q3, q4, q5, q6, q7, q8, q9, q10, q11, q12, q13, q14, q15, q16, q17]) (kk : ∀ (μn : mu_M) (q18 : Nat), In G μ μn a0 [.int 0, .ref q1, .ref q2, .ref q3, .ref q4, .ref q5, .ref q6, .ref q7, .ref q8, .ref q9, .int 1, .ref q10, .int 1, .int 0, .int 0, .ref q11, .ref q12, .ref q13, .ref q14, .ref q15, .ref q16, .ref q17, .ref q18, .null, .null, .int 0] [a0, q1, q2, q3, q4, q5, q6, q7, q8, q9, q10, q11, q12, q13, q14, q15, q16, q17, q18] → WP G M_Model_init QE [(0, .ref a0)] 160 [] μn 18 4779) : WP G M_Model_init QE [(0, .ref a0)] 152 [] μs 17 4763 := by
  refine wp_aload_n d_Model_init_152 rfl rfl ?_
  refine wp_bipush (v := 16) d_Model_init_153 (by decide) ?_
  refine wp_newI (N := 16) d_Model_init_155 ac_I (by decide) (Nat.le_of_ble_eq_true rfl) (Nat.le_of_ble_eq_true rfl) (fun q18 bq zq => ?_)
  have hJ := hI.arr (n := 18) (t := 0) (N := 16) rfl rfl rfl zq bq
  exact wp_putF d_Model_init_157 ff_Model_69 rfl hJ.1 hB rfl rfl (Nat.le_of_ble_eq_true rfl) (kk _ q18 hJ.set)
set_option maxHeartbeats 1000000 in
theorem mi_20 {QE : mt_Q} {μs : mu_M} {a0 q1 q2 q3 q4 q5 q6 q7 q8 q9 q10 q11 q12 q13 q14 q15 q16 q17 q18 : Nat} (hB : G.2.2.2.1 ≤ a0) (hI : In G μ μs a0 [.int 0, .ref q1, .ref q2, .ref q3, .ref q4, .ref q5, .ref q6, .ref q7, .ref q8, .ref q9, .int 1, .ref q10, .int 1, .int 0, .int 0, .ref q11, .ref q12, .ref q13, .ref q14, .ref q15, .ref q16, .ref q17, .ref q18, .null, .null, .int 0] [a0, q1, q2, q3, q4, q5, q6, q7, q8, q9, q10, q11, q12, q13, q14, q15, q16, q17, q18]) (kk : ∀ (μn : mu_M) (q19 : Nat), In G μ μn a0 [.int 0, .ref q1, .ref q2, .ref q3, .ref q4, .ref q5, .ref q6, .ref q7, .ref q8, .ref q9, .int 1, .ref q10, .int 1, .int 0, .int 0, .ref q11, .ref q12, .ref q13, .ref q14, .ref q15, .ref q16, .ref q17, .ref q18, .ref q19, .null, .int 0] [a0, q1, q2, q3, q4, q5, q6, q7, q8, q9, q10, q11, q12, q13, q14, q15, q16, q17, q18, q19] → WP G M_Model_init QE [(0, .ref a0)] 167 [] μn 19 4783) : WP G M_Model_init QE [(0, .ref a0)] 160 [] μs 18 4779 := by
  refine wp_aload_n d_Model_init_160 rfl rfl ?_
  refine wp_iconst (v := 4) d_Model_init_161 (by decide) ?_
  refine wp_newI (N := 4) d_Model_init_162 ac_I (by decide) (Nat.le_of_ble_eq_true rfl) (Nat.le_of_ble_eq_true rfl) (fun q19 bq zq => ?_)
  have hJ := hI.arr (n := 19) (t := 0) (N := 4) rfl rfl rfl zq bq
  exact wp_putF d_Model_init_164 ff_Model_72 rfl hJ.1 hB rfl rfl (Nat.le_of_ble_eq_true rfl) (kk _ q19 hJ.set)
set_option maxHeartbeats 1000000 in
theorem mi_21 {QE : mt_Q} {μs : mu_M} {a0 q1 q2 q3 q4 q5 q6 q7 q8 q9 q10 q11 q12 q13 q14 q15 q16 q17 q18 q19 : Nat} (hB : G.2.2.2.1 ≤ a0) (hI : In G μ μs a0 [.int 0, .ref q1, .ref q2, .ref q3, .ref q4, .ref q5, .ref q6, .ref q7, .ref q8, .ref q9, .int 1, .ref q10, .int 1, .int 0, .int 0, .ref q11, .ref q12, .ref q13, .ref q14, .ref q15, .ref q16, .ref q17, .ref q18, .ref q19, .null, .int 0] [a0, q1, q2, q3, q4, q5, q6, q7, q8, q9, q10, q11, q12, q13, q14, q15, q16, q17, q18, q19]) (kk : ∀ (μn : mu_M) (q20 : Nat), In G μ μn a0 [.int 0, .ref q1, .ref q2, .ref q3, .ref q4, .ref q5, .ref q6, .ref q7, .ref q8, .ref q9, .int 1, .ref q10, .int 1, .int 0, .int 0, .ref q11, .ref q12, .ref q13, .ref q14, .ref q15, .ref q16, .ref q17, .ref q18, .ref q19, .ref q20, .int 0] [a0, q1, q2, q3, q4, q5, q6, q7, q8, q9, q10, q11, q12, q13, q14, q15, q16, q17, q18, q19, q20] → WP G M_Model_init QE [(0, .ref a0)] 175 [] μn 20 4799) : WP G M_Model_init QE [(0, .ref a0)] 167 [] μs 19 4783 := by
  refine wp_aload_n d_Model_init_167 rfl rfl ?_
  refine wp_bipush (v := 16) d_Model_init_168 (by decide) ?_
  refine wp_newI (N := 16) d_Model_init_170 ac_I (by decide) (Nat.le_of_ble_eq_true rfl) (Nat.le_of_ble_eq_true rfl) (fun q20 bq zq => ?_)
  have hJ := hI.arr (n := 20) (t := 0) (N := 16) rfl rfl rfl zq bq
  exact wp_putF d_Model_init_172 ff_Model_75 rfl hJ.1 hB rfl rfl (Nat.le_of_ble_eq_true rfl) (kk _ q20 hJ.set)
set_option maxHeartbeats 2000000 in
theorem wp_Model_init1 {QE : mt_Q} {a0 : Nat} (hB : G.2.2.2.1 ≤ a0) (h : μ a0 = some (.inr (7, [.int 0, .null, .null, .null, .null, .null, .null, .null, .null, .null, .int 0, .null, .int 0, .int 0, .int 0, .null, .null, .null, .null, .null, .null, .null, .null, .null, .null, .int 0])))
    (kk : ∀ (μn : mu_M) (ma : Nat → Nat), ma 0 = a0 → (∀ i, 0 < i → i < 21 → μ (ma i) = none) → Mx G μ μn ma τ00 → WP G M_Model_init QE [(0, .ref a0)] 175 [] μn 20 4799) : WP G M_Model_init QE (lv_args 0 [.ref a0]) 0 [] μ 0 0 := by
  have hI : In G μ μ a0 [.int 0, .null, .null, .null, .null, .null, .null, .null, .null, .null, .int 0, .null, .int 0, .int 0, .int 0, .null, .null, .null, .null, .null, .null, .null, .null, .null, .null, .int 0] [a0] := ⟨h, rfl, fun i a b => absurd b (by show ¬ i < 1; omega), fun i j (a : i < 1) (b : j < 1) _ => by omega, fun i (a : i < 1) => by have e : i = 0 := (by omega); subst e; exact hB, fun _ _ _ z => z, fun i a b => absurd b (by show ¬ i < 1; omega), Nat.zero_lt_one⟩
  refine wp_aload_n d_Model_init_0 rfl rfl ?_
  refine wp_objInit d_Model_init_1 oi_Model oi_i oi_c (by decide) (Nat.le_of_ble_eq_true rfl) ?_
  refine WP.loc [(0, .ref a0)] rfl ?_
  refine mi_0 hB hI (fun μs q hI => ?_)
  refine mi_1 hB hI (fun μs q hI => ?_)
  refine mi_2 hB hI (fun μs q hI => ?_)
  refine mi_3 hB hI (fun μs q hI => ?_)
  refine mi_4 hB hI (fun μs q hI => ?_)
  refine mi_5 hB hI (fun μs q hI => ?_)
  refine mi_6 hB hI (fun μs q hI => ?_)
  refine mi_7 hB hI (fun μs q hI => ?_)
  refine mi_8 hB hI (fun μs q hI => ?_)
  refine mi_9 hB hI (fun μs hI => ?_)
  refine mi_10 hB hI (fun μs q hI => ?_)
  refine mi_11 hB hI (fun μs hI => ?_)
  refine mi_12 hB hI (fun μs q hI => ?_)
  refine mi_13 hB hI (fun μs q hI => ?_)
  refine mi_14 hB hI (fun μs q hI => ?_)
  refine mi_15 hB hI (fun μs q hI => ?_)
  refine mi_16 hB hI (fun μs q hI => ?_)
  refine mi_17 hB hI (fun μs q hI => ?_)
  refine mi_18 hB hI (fun μs q hI => ?_)
  refine mi_19 hB hI (fun μs q hI => ?_)
  refine mi_20 hB hI (fun μs q hI => ?_)
  refine mi_21 hB hI (fun μs q hI => ?_)
  exact kk _ _ rfl hI.2.2.2.2.2.2.1 (hI.mx rfl rfl)
end MIni1
