/-! THE CLASS'S CONSTRUCTORS -/
theorem arrV_congr {cI : ClassId} {N : Nat} {f f' : Nat → Value} (h : ∀ j, j < N → f j = f' j) : arrV cI N f = arrV cI N f' := by
  have e : (fun j : Fin N => f j.val) = fun j : Fin N => f' j.val := funext fun j => h j.val j.isLt
  unfold arrV
  rw [e]
/-- an array's picture beyond its length is free -/
theorem WP.arrq {G : mt_G} {M : mt_M} {QE : mt_Q} {lo : List (Nat × Value)} {pc : Nat} {st : List Value} {μ : mu_M} {cn sn a n : Nat} {cA : ClassId} {f f' : Nat → Option Nat} (h : μ a = some (.inl (cA, n, .inr (.inr (.inr (.inr f)))))) (hf : ∀ j, j < n → f j = f' j) (k : WP G M QE lo pc st (mu_up μ a (.inl (cA, n, .inr (.inr (.inr (.inr f')))))) cn sn) : WP G M QE lo pc st μ cn sn := by
  intro hg p e s m args below meth c H locs ls hM hV hS hL
  refine k hg p e s m args below meth c H locs ls hM (hV.set ?_ (fun _ _ => rfl)) hS hL
  have h1 : H[a]? = some (vp_cell cA (n, .inr (.inr (.inr (.inr f))))) := hV a _ h
  show H[a]? = some (vp_cell cA (n, .inr (.inr (.inr (.inr f')))))
  rw [h1, vp_cell_q, vp_cell_q, arrV_congr (fun j hj => by rw [hf j hj])]
/-- all but the cell x stays -/
def kp (x : Nat) (μ μ' : mu_M) : Prop := ∀ a e, a ≠ x → μ a = some e → μ' a = some e
theorem kp.rf (x : Nat) (μ : mu_M) : kp x μ μ := fun _ _ _ h => h
theorem kp.tr {x : Nat} {μ μ1 μ2 : mu_M} (h : kp x μ μ1) (h2 : kp x μ1 μ2) : kp x μ μ2 := fun a e n q => h2 a e n (h a e n q)
theorem kp.new {x q : Nat} {μ : mu_M} {e : va_E} (hq : μ q = none) : kp x μ (mu_up μ q e) := fun a z _ hz => (mu_up_n (mu_some_ne hz hq)).trans hz
theorem kp.put {x : Nat} {μ : mu_M} {e : va_E} : kp x μ (mu_up μ x e) := fun _ _ n hz => (mu_up_n n).trans hz
theorem kp.sub {x : Nat} {μ μ' : mu_M} (h : sub μ μ') : kp x μ μ' := fun a e _ hz => h a e hz
section Ini
variable {G : mt_G} {μ : mu_M}
set_option maxHeartbeats 1000000 in
set_option maxRecDepth 10000 in
theorem ct_Seq_init (q : Nat) (x0 x1 x2 : Value) (h : μ q = some (.inr (4, [x0, x1, x2]))) (hB : G.2.2.2.1 ≤ q) : CTI G M_Seq_init [.ref q] μ (fun v μ' => v = none ∧ μ' = mu_up μ q (.inr (4, [.int 0, .int 1, .int 0]))) := by
  refine CTI.of (by decide) rfl (Nat.le_of_ble_eq_true rfl) ?_
  refine wp_aload_n d_Seq_init_0 rfl rfl ?_
  refine wp_objInit d_Seq_init_1 oi_Seq oi_i oi_c (by decide) (Nat.le_of_ble_eq_true rfl) ?_
  refine wp_aload_n d_Seq_init_4 rfl rfl ?_
  refine wp_iconst (v := 0) d_Seq_init_5 (by decide) ?_
  refine wp_put d_Seq_init_6 fp_Seq_9 (by first | exact mu_up_s _ _ _ | exact h) (by exact hB) (by rfl) (by rfl) (Nat.le_of_ble_eq_true rfl) ?_
  refine wp_aload_n d_Seq_init_9 rfl rfl ?_
  refine wp_iconst (v := 1) d_Seq_init_10 (by decide) ?_
  refine wp_put d_Seq_init_11 fp_Seq_15 (by first | exact mu_up_s _ _ _ | exact h) (by exact hB) (by rfl) (by rfl) (Nat.le_of_ble_eq_true rfl) ?_
  refine wp_aload_n d_Seq_init_14 rfl rfl ?_
  refine wp_iconst (v := 0) d_Seq_init_15 (by decide) ?_
  refine wp_put d_Seq_init_16 fp_Seq_19 (by first | exact mu_up_s _ _ _ | exact h) (by exact hB) (by rfl) (by rfl) (Nat.le_of_ble_eq_true rfl) ?_
  exact wp_vretI d_Seq_init_19 rfl (by decide) (by decide) ⟨rfl, by rw [mu_up_up, mu_up_up]; rfl⟩
set_option maxHeartbeats 4000000 in
set_option maxRecDepth 10000 in
theorem ct_Unit_init (q en : Nat) (x0 x1 x2 : Value) (vs : List Value) (h : μ q = some (.inr (1, [x0, x1, x2]))) (hB : G.2.2.2.1 ≤ q) (hen : μ en = some (.inr (2, vs))) : CTI G M_Unit_init [.ref q, .ref en] μ (fun v μ' => v = none ∧ ∃ ca, μ ca = none ∧ G.2.2.2.1 ≤ ca ∧ μ' q = some (.inr (1, [.ref ca, .int 1, .int 0])) ∧ μ' ca = some (.inl (G.2.2.1 5, 60, .inr (.inr (.inr (.inr (fun _ => some en)))))) ∧ kp q μ μ') := by
  refine CTI.of (by decide) rfl (Nat.le_of_ble_eq_true rfl) ?_
  refine wp_aload_n d_Unit_init_0 rfl rfl ?_
  refine wp_objInit d_Unit_init_1 oi_Unit oi_i oi_c (by decide) (Nat.le_of_ble_eq_true rfl) ?_
  refine wp_aload_n d_Unit_init_4 rfl rfl ?_
  refine wp_bipush (v := 60) d_Unit_init_5 (by decide) ?_
  refine wp_newq (N := 60) (t := 5) d_Unit_init_7 al_Unit_9 (by decide) rfl (by decide) (Nat.le_of_ble_eq_true rfl) (Nat.le_of_ble_eq_true rfl) (fun ca hBc hc => ?_)
  have nq : q ≠ ca := mu_some_ne h hc
  have ne : en ≠ ca := mu_some_ne hen hc
  have neq : en ≠ q := fun z => by rw [z, h] at hen; cases hen
  refine wp_putF d_Unit_init_10 ff_Unit_11 rfl (by first | exact mu_up_s _ _ _ | exact (mu_up_n nq).trans h) (by exact hB) (by rfl) (by rfl) (Nat.le_of_ble_eq_true rfl) ?_
  refine wp_aload_n d_Unit_init_13 rfl rfl ?_
  refine wp_iconst (v := 1) d_Unit_init_14 (by decide) ?_
  refine wp_put d_Unit_init_15 fp_Unit_17 (by first | exact mu_up_s _ _ _ | exact (mu_up_n nq).trans h) (by exact hB) (by rfl) (by rfl) (Nat.le_of_ble_eq_true rfl) ?_
  refine wp_aload_n d_Unit_init_18 rfl rfl ?_
  refine wp_iconst (v := 0) d_Unit_init_19 (by decide) ?_
  refine wp_put d_Unit_init_20 fp_Unit_21 (by first | exact mu_up_s _ _ _ | exact (mu_up_n nq).trans h) (by exact hB) (by rfl) (by rfl) (Nat.le_of_ble_eq_true rfl) ?_
  refine wp_iconst (v := 0) d_Unit_init_23 (by decide) ?_
  refine wp_istore_n d_Unit_init_24 rfl (by decide) ?_
  have loop : ∀ (n i : Nat) (μ1 : mu_M), i + n = 60 → μ1 q = some (.inr (1, [.ref ca, .int 1, .int 0])) → μ1 ca = some (.inl (G.2.2.1 5, 60, .inr (.inr (.inr (.inr (fun o => if o < i then some en else none)))))) → kp q μ μ1 →
      WP G M_Unit_init (ECI G M_Unit_init (fun v μ' => v = none ∧ ∃ ca, μ ca = none ∧ G.2.2.2.1 ≤ ca ∧ μ' q = some (.inr (1, [.ref ca, .int 1, .int 0])) ∧ μ' ca = some (.inl (G.2.2.1 5, 60, .inr (.inr (.inr (.inr (fun _ => some en)))))) ∧ kp q μ μ')) [(0, .ref q), (1, .ref en), (2, .int (nI i))] 25 [] μ1 1 60 := by
    intro n
    induction n with
    | zero =>
      intro i μ1 hi h1 h2 hk
      obtain rfl : i = 60 := by omega
      refine wp_iload_n d_Unit_init_25 rfl rfl ?_
      refine wp_bipush (v := 60) d_Unit_init_26 (by decide) ?_
      refine wp_icmp_ge (tgt := 44) d_Unit_init_28 (by decide) (fun c28 => ?_) (fun c28 => ?_)
      · refine WP.arrq (f' := fun _ => some en) h2 (fun j hj => if_pos hj) ?_
        exact wp_vretI d_Unit_init_44 rfl (by decide) (by decide) ⟨rfl, ca, hc, hBc, (mu_up_n nq).trans h1, mu_up_s _ _ _, fun a e n9 h9 => (mu_up_n (mu_some_ne h9 hc)).trans (hk a e n9 h9)⟩
      · exact absurd (by decide) c28
    | succ n ih =>
      intro i μ1 hi h1 h2 hk
      refine wp_iload_n d_Unit_init_25 rfl rfl ?_
      refine wp_bipush (v := 60) d_Unit_init_26 (by decide) ?_
      refine wp_icmp_ge (tgt := 44) d_Unit_init_28 (by decide) (fun c28 => ?_) (fun c28 => ?_)
      · exact absurd ((nI_leI (a := 60) (by omega) (by omega)).mp c28) (by omega)
      refine wp_aload_n d_Unit_init_31 rfl rfl ?_
      refine wp_get d_Unit_init_32 fl_Unit_11 (by exact h1) (by rfl) ?_
      refine wp_iload_n d_Unit_init_35 rfl rfl ?_
      refine wp_aload_n d_Unit_init_36 rfl rfl ?_
      refine wp_aast d_Unit_init_37 (t := 5) (ci := 2) (r := ("SharedLog$Entry", F_Entry, 3)) rfl rfl h2 hBc (hk _ _ neq hen) rfl (show i < 60 by omega) (by omega) ?_
      refine wp_iinc d_Unit_init_38 rfl rfl (by decide) ?_
      refine wp_goto (tgt := 25) d_Unit_init_41 (by decide) ?_
      refine WP.loc [(0, .ref q), (1, .ref en), (2, .int (nI (i + 1)))] (by rw [← nI_1 i]; rfl) (ih (i + 1) _ (by omega) ((mu_up_n nq).trans h1) ?_ (fun a e n9 h9 => (mu_up_n (mu_some_ne h9 hc)).trans (hk a e n9 h9)))
      rw [mu_up_s]
      congr 8
      funext o
      by_cases ho : o = i
      · rw [ho, va_up_self, if_pos (by omega)]
      · rw [va_up_ne _ _ ho]
        by_cases h9 : o < i
        · rw [if_pos h9, if_pos (by omega)]
        · rw [if_neg h9, if_neg (by omega)]
  refine WP.loc [(0, .ref q), (1, .ref en), (2, .int (nI 0))] rfl (WP.widen (Nat.le_of_ble_eq_true rfl) (Nat.le_of_ble_eq_true rfl) (loop 60 0 _ rfl (mu_up_s _ _ _) ?_ (fun a e n9 h9 => by rw [mu_up_n n9, mu_up_n n9, mu_up_n n9, mu_up_n (mu_some_ne h9 hc)]; exact h9)))
  rw [mu_up_n nq.symm, mu_up_n nq.symm, mu_up_n nq.symm, mu_up_s]
  congr 7
set_option maxHeartbeats 4000000 in
set_option maxRecDepth 10000 in
/-- a client: eight new cells, its own, values, ages, and its work's five -/
theorem ct_Client_init (q la : Nat) (x0 x1 x2 x3 x4 x5 : Value) (h : μ q = some (.inr (6, [x0, x1, x2, x3, x4, x5]))) (hB : G.2.2.2.1 ≤ q) : CTI G M_Client_init [.ref q, .ref la] μ (fun v μ' => v = none ∧ ∃ nb : Nat → Nat, nb 0 = q ∧ (∀ k, 0 < k → k < 8 → μ (nb k) = none ∧ G.2.2.2.1 ≤ nb k) ∧ (∀ j k, j < 8 → k < 8 → nb j = nb k → j = k) ∧ μ' q = some (.inr (6, [.ref (nb 1), .ref (nb 2), .ref (nb 3), .int 0, .int 0, .ref la])) ∧
    μ' (nb 1) = some (.inl (G.2.2.1 0, 4, .inl (fun _ => 0))) ∧ μ' (nb 2) = some (.inl (G.2.2.1 0, 4, .inl (fun _ => 0))) ∧ μ' (nb 3) = some (.inr (5, [.ref (nb 4), .ref (nb 5), .ref (nb 6), .ref (nb 7)])) ∧ μ' (nb 4) = some (.inl (G.2.2.1 1, 4, .inl (fun _ => 0))) ∧ μ' (nb 5) = some (.inl (G.2.2.1 0, 4, .inl (fun _ => 0))) ∧ μ' (nb 6) = some (.inl (G.2.2.1 1, 4, .inl (fun _ => 0))) ∧ μ' (nb 7) = some (.inl (G.2.2.1 0, 4, .inl (fun _ => 0))) ∧ kp q μ μ') := by
  refine CTI.of (by decide) rfl (Nat.le_of_ble_eq_true rfl) ?_
  refine wp_aload_n d_Client_init_0 rfl rfl ?_
  refine wp_objInit d_Client_init_1 oi_Client oi_i oi_c (by decide) (Nat.le_of_ble_eq_true rfl) ?_
  refine wp_aload_n d_Client_init_4 rfl rfl ?_
  refine wp_iconst (v := 4) d_Client_init_5 (by decide) ?_
  refine wp_newI (N := 4) d_Client_init_6 ac_I (by decide) (Nat.le_of_ble_eq_true rfl) (Nat.le_of_ble_eq_true rfl) (fun va bv zv => ?_)
  have nv : q ≠ va := mu_some_ne h zv
  refine wp_putF d_Client_init_8 ff_Client_9 rfl (by exact (mu_up_n nv).trans h) (by exact hB) (by rfl) (by rfl) (Nat.le_of_ble_eq_true rfl) ?_
  refine wp_aload_n d_Client_init_11 rfl rfl ?_
  refine wp_iconst (v := 4) d_Client_init_12 (by decide) ?_
  refine wp_newI (N := 4) d_Client_init_13 ac_I (by decide) (Nat.le_of_ble_eq_true rfl) (Nat.le_of_ble_eq_true rfl) (fun aa ba za => ?_)
  obtain ⟨na, za⟩ := mu_none za
  obtain ⟨nav, za⟩ := mu_none za
  refine wp_putF d_Client_init_15 ff_Client_15 rfl (by exact (mu_up_n na.symm).trans (mu_up_s _ _ _)) (by exact hB) (by rfl) (by rfl) (Nat.le_of_ble_eq_true rfl) ?_
  refine wp_aload_n d_Client_init_18 rfl rfl ?_
  refine wp_new d_Client_init_19 nw_Client_18 (Nat.le_of_ble_eq_true rfl) (Nat.le_of_ble_eq_true rfl) (fun w bw zw => ?_)
  obtain ⟨nw, zw⟩ := mu_none zw
  obtain ⟨nwa, zw⟩ := mu_none zw
  obtain ⟨-, zw⟩ := mu_none zw
  obtain ⟨nwv, zw⟩ := mu_none zw
  refine wp_dup d_Client_init_22 rfl ?_
  refine wi_callN d_Client_init_23 cn_Client_20 cd_Work_init ⟨by decide, by decide⟩ (ct_Work_init w _ _ _ _ (mu_up_s _ _ _) bw) rfl rfl (Nat.le_of_ble_eq_true rfl) (Nat.le_of_ble_eq_true rfl) (Nat.le_of_ble_eq_true rfl) (fun v1 μ2 hq => ?_)
  obtain ⟨rfl, ⟨w0, w1, w2, w3, e, e0, e1, e2, e3, ⟨z0, z1, z2, z3⟩, ⟨b0, b1, b2, b3⟩, ⟨m0, m1, m2, m3⟩, m10, m20, m30, m21, m31, m32⟩, hk⟩ := hq
  have hq2 : μ2 q = some (.inr (6, [.ref va, .ref aa, x2, x3, x4, x5])) := by
    refine hk _ _ nw.symm ?_
    rw [mu_up_n nw.symm, mu_up_s]; rfl
  have hv2 : μ2 va = some (.inl (G.2.2.1 0, 4, .inl (fun _ => 0))) := by
    refine hk _ _ nwv.symm ?_
    rw [mu_up_n nwv.symm, mu_up_n nv.symm, mu_up_n nav.symm, mu_up_n nv.symm, mu_up_s]
  have ha2 : μ2 aa = some (.inl (G.2.2.1 0, 4, .inl (fun _ => 0))) := by
    refine hk _ _ nwa.symm ?_
    rw [mu_up_n nwa.symm, mu_up_n na, mu_up_s]
  have hz : ∀ {x : Nat}, mu_up (mu_up (mu_up (mu_up (mu_up μ va (.inl (G.2.2.1 0, 4, .inl (fun _ => 0)))) q (.inr (6, [x0, x1, x2, x3, x4, x5].set 0 (.ref va)))) aa (.inl (G.2.2.1 0, 4, .inl (fun _ => 0)))) q (.inr (6, ([x0, x1, x2, x3, x4, x5].set 0 (.ref va)).set 1 (.ref aa)))) w (.inr (5, [.null, .null, .null, .null])) x = none → x ≠ w ∧ x ≠ q ∧ x ≠ aa ∧ x ≠ va ∧ μ x = none := by
    intro x hx
    obtain ⟨t1, hx⟩ := mu_none hx
    obtain ⟨t2, hx⟩ := mu_none hx
    obtain ⟨t3, hx⟩ := mu_none hx
    obtain ⟨-, hx⟩ := mu_none hx
    obtain ⟨t4, hx⟩ := mu_none hx
    exact ⟨t1, t2, t3, t4, hx⟩
  obtain ⟨p01, p02, p03, p04, y0⟩ := hz z0
  obtain ⟨p11, p12, p13, p14, y1⟩ := hz z1
  obtain ⟨p21, p22, p23, p24, y2⟩ := hz z2
  obtain ⟨p31, p32, p33, p34, y3⟩ := hz z3
  have hkq : kp q μ μ2 := by
    intro a e9 n9 h9
    refine hk a e9 (mu_some_ne h9 zw) ?_
    rw [mu_up_n (mu_some_ne h9 zw), mu_up_n n9, mu_up_n (mu_some_ne h9 za), mu_up_n n9, mu_up_n (mu_some_ne h9 zv)]
    exact h9
  refine wp_putF d_Client_init_26 ff_Client_21 rfl (by first | exact mu_up_s _ _ _ | exact hq2) (by exact hB) (by rfl) (by rfl) (Nat.le_of_ble_eq_true rfl) ?_
  refine wp_aload_n d_Client_init_29 rfl rfl ?_
  refine wp_iconst (v := 0) d_Client_init_30 (by decide) ?_
  refine wp_put d_Client_init_31 fp_Client_25 (by first | exact mu_up_s _ _ _ | exact hq2) (by exact hB) (by rfl) (by rfl) (Nat.le_of_ble_eq_true rfl) ?_
  refine wp_aload_n d_Client_init_34 rfl rfl ?_
  refine wp_iconst (v := 0) d_Client_init_35 (by decide) ?_
  refine wp_put d_Client_init_36 fp_Client_29 (by first | exact mu_up_s _ _ _ | exact hq2) (by exact hB) (by rfl) (by rfl) (Nat.le_of_ble_eq_true rfl) ?_
  refine wp_aload_n d_Client_init_39 rfl rfl ?_
  refine wp_aload_n d_Client_init_40 rfl rfl ?_
  refine wp_put d_Client_init_41 fp_Client_33 (by first | exact mu_up_s _ _ _ | exact hq2) (by exact hB) (by rfl) (by rfl) (Nat.le_of_ble_eq_true rfl) ?_
  let nb : Nat → Nat := fun k => match k with
    | 0 => q
    | 1 => va
    | 2 => aa
    | 3 => w
    | 4 => w0
    | 5 => w1
    | 6 => w2
    | _ => w3
  refine wp_vretI d_Client_init_44 rfl (by decide) (by decide) ⟨rfl, nb, rfl, ?_, ?_, ?_, ?_, ?_, ?_, ?_, ?_, ?_, ?_, ?_⟩
  · intro k h0 hk8
    rcases (show k = 1 ∨ k = 2 ∨ k = 3 ∨ k = 4 ∨ k = 5 ∨ k = 6 ∨ k = 7 by omega) with rfl | rfl | rfl | rfl | rfl | rfl | rfl
    · exact ⟨zv, bv⟩
    · exact ⟨za, ba⟩
    · exact ⟨zw, bw⟩
    · exact ⟨y0, b0⟩
    · exact ⟨y1, b1⟩
    · exact ⟨y2, b2⟩
    · exact ⟨y3, b3⟩
  · have hnd : List.Nodup [q, va, aa, w, w0, w1, w2, w3] := by
      simp only [List.nodup_cons, List.mem_cons, List.not_mem_nil, or_false, not_or, not_false_eq_true, List.nodup_nil, and_true]
      exact ⟨⟨nv, na.symm, nw.symm, p02.symm, p12.symm, p22.symm, p32.symm⟩, ⟨nav.symm, nwv.symm, p04.symm, p14.symm, p24.symm, p34.symm⟩, ⟨nwa.symm, p03.symm, p13.symm, p23.symm, p33.symm⟩, ⟨p01.symm, p11.symm, p21.symm, p31.symm⟩, ⟨m10.symm, m20.symm, m30.symm⟩, ⟨m21.symm, m31.symm⟩, m32.symm⟩
    have hget : ∀ k, k < 8 → [q, va, aa, w, w0, w1, w2, w3][k]? = some (nb k) := by
      intro k hk8
      rcases (show k = 0 ∨ k = 1 ∨ k = 2 ∨ k = 3 ∨ k = 4 ∨ k = 5 ∨ k = 6 ∨ k = 7 by omega) with rfl | rfl | rfl | rfl | rfl | rfl | rfl | rfl <;> rfl
    intro j k hj hk8 e9
    have g1 := hget j hj
    have g2 := hget k hk8
    rw [e9, ← g2] at g1
    exact (List.getElem?_inj (by simpa using hj) hnd).mp g1
  · rw [mu_up_s]; rfl
  · show mu_up _ q _ va = _
    rw [mu_up_n nv.symm, mu_up_n nv.symm, mu_up_n nv.symm, mu_up_n nv.symm]; exact hv2
  · show mu_up _ q _ aa = _
    rw [mu_up_n na, mu_up_n na, mu_up_n na, mu_up_n na]; exact ha2
  · show mu_up _ q _ w = _
    rw [mu_up_n nw, mu_up_n nw, mu_up_n nw, mu_up_n nw]; exact e
  · show mu_up _ q _ w0 = _
    rw [mu_up_n p02, mu_up_n p02, mu_up_n p02, mu_up_n p02]; exact e0
  · show mu_up _ q _ w1 = _
    rw [mu_up_n p12, mu_up_n p12, mu_up_n p12, mu_up_n p12]; exact e1
  · show mu_up _ q _ w2 = _
    rw [mu_up_n p22, mu_up_n p22, mu_up_n p22, mu_up_n p22]; exact e2
  · show mu_up _ q _ w3 = _
    rw [mu_up_n p32, mu_up_n p32, mu_up_n p32, mu_up_n p32]; exact e3
  · intro a e9 n9 h9
    rw [mu_up_n n9, mu_up_n n9, mu_up_n n9, mu_up_n n9]
    exact hkq a e9 n9 h9
end Ini
