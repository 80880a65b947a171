/-! THE CLASS'S CONSTRUCTOR: the first state -/
def σ0 : sg := fun i k => if i = 3 ∧ k = 1 then 1 else if 4 ≤ i ∧ i < 10 ∧ k = 1 then 1 else if 500 ≤ i ∧ i < 505 ∧ k = 0 then 1 else 0
def δ0 : dg := fun _ ch => if ch = 0 then 12 else 34
theorem vr12 : vr 12 = true := by decide +kernel
theorem vr34 : vr 34 = true := by decide +kernel
/-- the places of the roles in the order of their making: 0 .. 3, two a unit, eight a client -/
def pi0 (r : Nat) : Nat := if r < 4 then r else if r < 10 then 4 + 2 * (r - 4) else if r < 16 then 5 + 2 * (r - 10) else 16 + 8 * ((r - 16) % 4) + (r - 16) / 4
theorem pi0_lt {r : Nat} (h : r < 48) : pi0 r < 48 := by
  unfold pi0
  split
  · omega
  · split
    · omega
    · split <;> omega
theorem pi0_inj {r s : Nat} (hr : r < 48) (hs : s < 48) (h : pi0 r = pi0 s) : r = s := by
  unfold pi0 at h
  split at h <;> split at h <;> (try split at h) <;> (try split at h) <;> (try split at h) <;> (try split at h) <;> omega
/-- the made cells: apart, there, and of the run's own -/
def Made (G : mt_G) (μ φ : mu_M) (AL : Nat → Nat) (N : Nat) : Prop := (∀ m n, m < N → n < N → AL m = AL n → m = n) ∧ (∀ n, n < N → (∃ e, μ (AL n) = some e) ∧ G.2.2.2.1 ≤ AL n ∧ φ (AL n) = none) ∧ sub φ μ
theorem Made.more {G : mt_G} {μ μ' φ : mu_M} {AL nb : Nat → Nat} {N m : Nat} (h : Made G μ φ AL N) (hs : ∀ n, n < N → ∃ e, μ' (AL n) = some e) (hφ : sub φ μ') (h1 : ∀ k, k < m → μ (nb k) = none ∧ G.2.2.2.1 ≤ nb k) (h2 : ∀ j k, j < m → k < m → nb j = nb k → j = k) (h3 : ∀ k, k < m → ∃ e, μ' (nb k) = some e) : Made G μ' φ (fun n => if n < N then AL n else nb (n - N)) (N + m) := by
  obtain ⟨g1, g2, g3⟩ := h
  refine ⟨fun a b ha hb e => ?_, fun n hn => ?_, hφ⟩
  · dsimp only at e
    by_cases h4 : a < N <;> by_cases h5 : b < N
    · rw [if_pos h4, if_pos h5] at e; exact g1 a b h4 h5 e
    · rw [if_pos h4, if_neg h5] at e
      obtain ⟨x, hx⟩ := (g2 a h4).1
      rw [e, (h1 (b - N) (by omega)).1] at hx; cases hx
    · rw [if_neg h4, if_pos h5] at e
      obtain ⟨x, hx⟩ := (g2 b h5).1
      rw [← e, (h1 (a - N) (by omega)).1] at hx; cases hx
    · rw [if_neg h4, if_neg h5] at e
      have := h2 (a - N) (b - N) (by omega) (by omega) e
      omega
  · dsimp only
    by_cases h4 : n < N
    · rw [if_pos h4]; exact ⟨hs n h4, (g2 n h4).2⟩
    · rw [if_neg h4]
      obtain ⟨k1, k2⟩ := h1 (n - N) (by omega)
      refine ⟨h3 (n - N) (by omega), k2, ?_⟩
      cases hz : φ (nb (n - N)) with
      | none => rfl
      | some x => rw [g3 _ _ hz] at k1; cases k1
theorem Made.ct {G : mt_G} {μ φ : mu_M} {AL : Nat → Nat} {N N' : Nat} (h : Made G μ φ AL N) (e : N = N') : Made G μ φ AL N' := e ▸ h
section Ini2
variable {G : mt_G} {μ : mu_M}
/-- the first stretch: what stands when the units are made -/
def Pre1 (G : mt_G) (μ μ1 : mu_M) (a0 ua ca sq en ej et la : Nat) (φ : mu_M) : Prop :=
  μ1 a0 = some (.inr (0, [.ref ua, .ref ca, .ref sq, .ref en, .ref ej, .ref et, .ref la])) ∧ μ1 ua = some (.inl (G.2.2.1 3, 6, .inr (.inr (.inr (.inr (fun _ => none)))))) ∧ μ1 ca = some (.inl (G.2.2.1 4, 4, .inr (.inr (.inr (.inr (fun _ => none)))))) ∧ μ1 sq = some (.inr (4, [.int 0, .int 1, .int 0])) ∧
  Made G μ1 φ (fun n => if n = 0 then a0 else if n = 1 then ua else if n = 2 then ca else sq) 4 ∧ FE G φ en vNone ∧ FE G φ ej vJunk ∧ FE G φ et vTrim ∧ FL G φ la 1 (δ0 0) ∧ ∀ a e, a ≠ a0 → μ a = some e → φ a = some e
set_option maxHeartbeats 8000000 in
set_option maxRecDepth 10000 in
theorem wp_Log_init1 (QE : mt_Q) (a0 : Nat) (x0 x1 x2 x3 x4 x5 x6 : Value) (h : μ a0 = some (.inr (0, [x0, x1, x2, x3, x4, x5, x6]))) (hB : G.2.2.2.1 ≤ a0)
    (kk : ∀ (ua ca sq en ej et la : Nat) (μ1 φ : mu_M) (lo : List (Nat × Value)), lkp lo 0 = some (.ref a0) → Pre1 G μ μ1 a0 ua ca sq en ej et la φ → WP G M_Log_init QE [(0, .ref a0)] 104 [] μ1 14 100) : WP G M_Log_init QE (lv_args 0 [.ref a0]) 0 [] μ 0 0 := by
  refine wp_aload_n d_Log_init_0 rfl rfl ?_
  refine wp_objInit d_Log_init_1 oi_Log oi_i oi_c (by decide) (Nat.le_of_ble_eq_true rfl) ?_
  refine wp_aload_n d_Log_init_4 rfl rfl ?_
  refine wp_bipush (v := 6) d_Log_init_5 (by decide) ?_
  refine wp_newq (N := 6) (t := 3) d_Log_init_7 al_Log_9 (by decide) rfl (by decide) (Nat.le_of_ble_eq_true rfl) (Nat.le_of_ble_eq_true rfl) (fun ua bua zua => ?_)
  have n1 : a0 ≠ ua := mu_some_ne h zua
  refine wp_putF d_Log_init_10 ff_Log_11 rfl (by exact (mu_up_n n1).trans h) (by exact hB) (by rfl) (by rfl) (Nat.le_of_ble_eq_true rfl) ?_
  generalize hM1 : mu_up (mu_up μ ua _) a0 _ = M1
  have A1 : M1 a0 = some (.inr (0, [.ref ua, x1, x2, x3, x4, x5, x6])) := by rw [← hM1, mu_up_s]; rfl
  have K1 : kp a0 μ M1 := by rw [← hM1]; exact (kp.new zua).tr kp.put
  have U1 : M1 ua = some (.inl (G.2.2.1 3, 6, .inr (.inr (.inr (.inr (fun _ => none)))))) := by rw [← hM1, mu_up_n n1.symm, mu_up_s]
  refine wp_aload_n d_Log_init_13 rfl rfl ?_
  refine wp_iconst (v := 4) d_Log_init_14 (by decide) ?_
  refine wp_newq (N := 4) (t := 4) d_Log_init_15 al_Log_15 (by decide) rfl (by decide) (Nat.le_of_ble_eq_true rfl) (Nat.le_of_ble_eq_true rfl) (fun ca bca zca => ?_)
  have n2 : a0 ≠ ca := mu_some_ne A1 zca
  refine wp_putF d_Log_init_18 ff_Log_17 rfl (by exact (mu_up_n n2).trans A1) (by exact hB) (by rfl) (by rfl) (Nat.le_of_ble_eq_true rfl) ?_
  generalize hM2 : mu_up (mu_up M1 ca _) a0 _ = M2
  have A2 : M2 a0 = some (.inr (0, [.ref ua, .ref ca, x2, x3, x4, x5, x6])) := by rw [← hM2, mu_up_s]; rfl
  have K2 : kp a0 M1 M2 := by rw [← hM2]; exact (kp.new zca).tr kp.put
  have C2 : M2 ca = some (.inl (G.2.2.1 4, 4, .inr (.inr (.inr (.inr (fun _ => none)))))) := by rw [← hM2, mu_up_n n2.symm, mu_up_s]
  refine wp_aload_n d_Log_init_21 rfl rfl ?_
  refine wp_new d_Log_init_22 nw_Log_21 (Nat.le_of_ble_eq_true rfl) (Nat.le_of_ble_eq_true rfl) (fun sq bsq zsq => ?_)
  have n3 : a0 ≠ sq := mu_some_ne A2 zsq
  refine wp_dup d_Log_init_25 rfl ?_
  refine wi_callN d_Log_init_26 cn_Log_23 cd_Seq_init ⟨by decide, by decide⟩ (ct_Seq_init sq _ _ _ (mu_up_s _ _ _) bsq) rfl rfl (Nat.le_of_ble_eq_true rfl) (Nat.le_of_ble_eq_true rfl) (Nat.le_of_ble_eq_true rfl) (fun v1 M9 hq => ?_)
  obtain ⟨rfl, rfl⟩ := hq
  rw [mu_up_up]
  refine wp_putF d_Log_init_29 ff_Log_24 rfl (by exact (mu_up_n n3).trans A2) (by exact hB) (by rfl) (by rfl) (Nat.le_of_ble_eq_true rfl) ?_
  generalize hM3 : mu_up (mu_up M2 sq _) a0 _ = M3
  have A3 : M3 a0 = some (.inr (0, [.ref ua, .ref ca, .ref sq, x3, x4, x5, x6])) := by rw [← hM3, mu_up_s]; rfl
  have K3 : kp a0 M2 M3 := by rw [← hM3]; exact (kp.new zsq).tr kp.put
  have S3 : M3 sq = some (.inr (4, [.int 0, .int 1, .int 0])) := by rw [← hM3, mu_up_n n3.symm, mu_up_s]
  refine wp_new d_Log_init_32 nw_Log_28 (Nat.le_of_ble_eq_true rfl) (Nat.le_of_ble_eq_true rfl) (fun w bw zw => ?_)
  refine wp_dup d_Log_init_35 rfl ?_
  refine wi_callN d_Log_init_36 cn_Log_30 cd_Work_init ⟨by decide, by decide⟩ (ct_Work_init w _ _ _ _ (mu_up_s _ _ _) bw) rfl rfl (Nat.le_of_ble_eq_true rfl) (Nat.le_of_ble_eq_true rfl) (Nat.le_of_ble_eq_true rfl) (fun v1 M4 hq => ?_)
  obtain ⟨rfl, hNW, hk4⟩ := hq
  have nw : a0 ≠ w := mu_some_ne A3 zw
  have sub4 : sub M3 M4 := fun a x hx => hk4 a x (mu_some_ne hx zw) ((mu_up_n (mu_some_ne hx zw)).trans hx)
  have A4 : M4 a0 = some (.inr (0, [.ref ua, .ref ca, .ref sq, x3, x4, x5, x6])) := sub4 _ _ A3
  have hNW : NW G M3 M4 w (fun _ => 0) (fun _ => 0) (fun _ => 0) (fun _ => 0) := hNW.of (fun a ha => (mu_none ha).2)
  refine wp_astore_n d_Log_init_39 rfl (by decide) ?_
  refine wp_aload_n d_Log_init_40 rfl rfl ?_
  refine wp_new d_Log_init_41 nw_Log_31 (Nat.le_of_ble_eq_true rfl) (Nat.le_of_ble_eq_true rfl) (fun en ben zen => ?_)
  have n5 : a0 ≠ en := mu_some_ne A4 zen
  refine wp_dup d_Log_init_44 rfl ?_
  refine wp_iconst (v := 0) d_Log_init_45 (by decide) ?_
  refine wp_iconst (v := 0) d_Log_init_46 (by decide) ?_
  refine wp_aload_n d_Log_init_47 rfl rfl ?_
  refine wi_call d_Log_init_48 ci_Log_33 cd_Entry_init ⟨by decide, by decide⟩ (ct_Entry_init en w 0 0 _ _ _ (mu_up_s _ _ _) ben) rfl rfl (Nat.le_of_ble_eq_true rfl) (Nat.le_of_ble_eq_true rfl) (Nat.le_of_ble_eq_true rfl) (fun v1 M9 hq => ?_)
  obtain ⟨rfl, rfl⟩ := hq
  rw [mu_up_up]
  refine wp_putF d_Log_init_51 ff_Log_36 rfl (by exact (mu_up_n n5).trans A4) (by exact hB) (by rfl) (by rfl) (Nat.le_of_ble_eq_true rfl) ?_
  generalize hM5 : mu_up (mu_up M4 en _) a0 _ = M5
  have A5 : M5 a0 = some (.inr (0, [.ref ua, .ref ca, .ref sq, .ref en, x4, x5, x6])) := by rw [← hM5, mu_up_s]; rfl
  have K5 : kp a0 M4 M5 := by rw [← hM5]; exact (kp.new zen).tr kp.put
  have E5 : M5 en = some (.inr (2, [.int 0, .int 0, .ref w])) := by rw [← hM5, mu_up_n n5.symm, mu_up_s]
  refine wp_aload_n d_Log_init_54 rfl rfl ?_
  refine wp_new d_Log_init_55 nw_Log_31 (Nat.le_of_ble_eq_true rfl) (Nat.le_of_ble_eq_true rfl) (fun ej bej zej => ?_)
  have n6 : a0 ≠ ej := mu_some_ne A5 zej
  refine wp_dup d_Log_init_58 rfl ?_
  refine wp_iconst (v := 3) d_Log_init_59 (by decide) ?_
  refine wp_iconst (v := 0) d_Log_init_60 (by decide) ?_
  refine wp_aload_n d_Log_init_61 rfl rfl ?_
  refine wi_call d_Log_init_62 ci_Log_33 cd_Entry_init ⟨by decide, by decide⟩ (ct_Entry_init ej w 3 0 _ _ _ (mu_up_s _ _ _) bej) rfl rfl (Nat.le_of_ble_eq_true rfl) (Nat.le_of_ble_eq_true rfl) (Nat.le_of_ble_eq_true rfl) (fun v1 M9 hq => ?_)
  obtain ⟨rfl, rfl⟩ := hq
  rw [mu_up_up]
  refine wp_putF d_Log_init_65 ff_Log_40 rfl (by exact (mu_up_n n6).trans A5) (by exact hB) (by rfl) (by rfl) (Nat.le_of_ble_eq_true rfl) ?_
  generalize hM6 : mu_up (mu_up M5 ej _) a0 _ = M6
  have A6 : M6 a0 = some (.inr (0, [.ref ua, .ref ca, .ref sq, .ref en, .ref ej, x5, x6])) := by rw [← hM6, mu_up_s]; rfl
  have K6 : kp a0 M5 M6 := by rw [← hM6]; exact (kp.new zej).tr kp.put
  have E6 : M6 ej = some (.inr (2, [.int 3, .int 0, .ref w])) := by rw [← hM6, mu_up_n n6.symm, mu_up_s]
  refine wp_aload_n d_Log_init_68 rfl rfl ?_
  refine wp_new d_Log_init_69 nw_Log_31 (Nat.le_of_ble_eq_true rfl) (Nat.le_of_ble_eq_true rfl) (fun et bet zet => ?_)
  have n7 : a0 ≠ et := mu_some_ne A6 zet
  refine wp_dup d_Log_init_72 rfl ?_
  refine wp_iconst (v := 4) d_Log_init_73 (by decide) ?_
  refine wp_iconst (v := 0) d_Log_init_74 (by decide) ?_
  refine wp_aload_n d_Log_init_75 rfl rfl ?_
  refine wi_call d_Log_init_76 ci_Log_33 cd_Entry_init ⟨by decide, by decide⟩ (ct_Entry_init et w 4 0 _ _ _ (mu_up_s _ _ _) bet) rfl rfl (Nat.le_of_ble_eq_true rfl) (Nat.le_of_ble_eq_true rfl) (Nat.le_of_ble_eq_true rfl) (fun v1 M9 hq => ?_)
  obtain ⟨rfl, rfl⟩ := hq
  rw [mu_up_up]
  refine wp_putF d_Log_init_79 ff_Log_43 rfl (by exact (mu_up_n n7).trans A6) (by exact hB) (by rfl) (by rfl) (Nat.le_of_ble_eq_true rfl) ?_
  generalize hM7 : mu_up (mu_up M6 et _) a0 _ = M7
  have A7 : M7 a0 = some (.inr (0, [.ref ua, .ref ca, .ref sq, .ref en, .ref ej, .ref et, x6])) := by rw [← hM7, mu_up_s]; rfl
  have K7 : kp a0 M6 M7 := by rw [← hM7]; exact (kp.new zet).tr kp.put
  have E7 : M7 et = some (.inr (2, [.int 4, .int 0, .ref w])) := by rw [← hM7, mu_up_n n7.symm, mu_up_s]
  refine wp_aload_n d_Log_init_82 rfl rfl ?_
  refine wp_new d_Log_init_83 nw_Log_46 (Nat.le_of_ble_eq_true rfl) (Nat.le_of_ble_eq_true rfl) (fun la bla zla => ?_)
  have n8 : a0 ≠ la := mu_some_ne A7 zla
  refine wp_dup d_Log_init_86 rfl ?_
  refine wp_iconst (v := 1) d_Log_init_87 (by decide) ?_
  refine wp_bipush (v := 12) d_Log_init_88 (by decide) ?_
  refine wx_callS d_Log_init_90 cs_Log_48 cd_Log_rowOf ⟨by decide, by decide⟩ (ct_rowOf G _ (d := 12) vr12) rfl rfl (Nat.le_of_ble_eq_true rfl) (Nat.le_of_ble_eq_true rfl) (Nat.le_of_ble_eq_true rfl) (fun E1 M8 hq => hq.elim) (fun v1 M8 hq => ?_)
  obtain ⟨r0, f0, rfl, br0, zr0, hM8, hf0⟩ := hq
  refine wp_bipush (v := 34) d_Log_init_93 (by decide) ?_
  refine wx_callS d_Log_init_95 cs_Log_48 cd_Log_rowOf ⟨by decide, by decide⟩ (ct_rowOf G _ (d := 34) vr34) rfl rfl (Nat.le_of_ble_eq_true rfl) (Nat.le_of_ble_eq_true rfl) (Nat.le_of_ble_eq_true rfl) (fun E1 M9 hq => hq.elim) (fun v1 M9 hq => ?_)
  obtain ⟨r1, f1, rfl, br1, zr1, hM9, hf1⟩ := hq
  have L9 : M9 la = some (.inr (3, [.int 0, .null, .null])) := by
    rw [hM8] at zr1
    obtain ⟨t1, zr1⟩ := mu_none zr1
    obtain ⟨t2, zr1⟩ := mu_none zr1
    obtain ⟨t3, zr0⟩ := mu_none zr0
    rw [hM9, hM8, mu_up_n t2.symm, mu_up_n t3.symm, mu_up_s]
  refine wi_call d_Log_init_98 ci_Log_52 cd_Layout_init ⟨by decide, by decide⟩ (ct_Layout_init la r0 r1 1 _ _ _ L9 bla) rfl rfl (Nat.le_of_ble_eq_true rfl) (Nat.le_of_ble_eq_true rfl) (Nat.le_of_ble_eq_true rfl) (fun v1 M10 hq => ?_)
  obtain ⟨rfl, hM10⟩ := hq
  have nlr0 : la ≠ r0 := (mu_none zr0).1.symm
  have zr0 := (mu_none zr0).2
  rw [hM8] at zr1
  have nr10 : r1 ≠ r0 := (mu_none zr1).1
  have zr1 := (mu_none zr1).2
  have nlr1 : la ≠ r1 := (mu_none zr1).1.symm
  have zr1 := (mu_none zr1).2
  have s10 : sub M7 M10 := by
    rw [hM10, hM9, hM8]
    exact sub_upd (sub_upd (sub_upd (sub_up zla) zr0) zr1) zla
  have A10 := s10 _ _ A7
  have L10 : M10 la = some (.inr (3, [.int 1, .ref r0, .ref r1])) := by rw [hM10, mu_up_s]
  have R0 : M10 r0 = some (.inl (G.2.2.1 0, ln 12, .inl f0)) := by rw [hM10, mu_up_n nlr0.symm, hM9, hM8, mu_up_n nr10.symm, mu_up_s]
  have R1 : M10 r1 = some (.inl (G.2.2.1 0, ln 34, .inl f1)) := by rw [hM10, mu_up_n nlr1.symm, hM9, mu_up_s]
  refine wp_put d_Log_init_101 fp_Log_55 (by exact A10) (by exact hB) (by rfl) (by rfl) (Nat.le_of_ble_eq_true rfl) ?_
  generalize hM11 : mu_up M10 a0 _ = M11
  have A11 : M11 a0 = some (.inr (0, [.ref ua, .ref ca, .ref sq, .ref en, .ref ej, .ref et, .ref la])) := by rw [← hM11, mu_up_s]; rfl
  have K11 : kp a0 M10 M11 := by rw [← hM11]; exact kp.put
  have k7 : kp a0 M7 M11 := (kp.sub s10).tr K11
  have k6 := K7.tr k7
  have k5 := K6.tr k6
  have k4 := K5.tr k5
  have k3 := (kp.sub sub4).tr k4
  have k2 := K3.tr k3
  have k1 := K2.tr k2
  have k0 := K1.tr k1
  -- apartness from the first four
  have fr : ∀ x, M3 x = none → x ≠ a0 ∧ x ≠ ua ∧ x ≠ ca ∧ x ≠ sq := by
    intro x hx
    refine ⟨fun z => ?_, fun z => ?_, fun z => ?_, fun z => ?_⟩
    · rw [z, A3] at hx; cases hx
    · rw [z, K3 _ _ n1.symm (K2 _ _ n1.symm U1)] at hx; cases hx
    · rw [z, K3 _ _ n2.symm C2] at hx; cases hx
    · rw [z, S3] at hx; cases hx
  have nn : ∀ {μa μb : mu_M} {x : Nat}, kp a0 μa μb → x ≠ a0 → μb x = none → μa x = none := by
    intro μa μb x hk hx hz
    cases h9 : μa x with
    | none => rfl
    | some e => rw [hk _ _ hx h9] at hz; cases hz
  let φ : mu_M := fun a => if a = a0 ∨ a = ua ∨ a = ca ∨ a = sq then none else M11 a
  have φn : ∀ {x}, M3 x = none → φ x = M11 x := fun {x} hx => by
    obtain ⟨t1, t2, t3, t4⟩ := fr x hx
    exact if_neg (fun z => by rcases z with z | z | z | z <;> contradiction)
  have k43 : kp a0 M3 M4 := kp.sub sub4
  have k53 := k43.tr K5
  have k63 := k53.tr K6
  have k73 := k63.tr K7
  obtain ⟨w0, w1, w2, w3, ew, e0, e1, e2, e3, ⟨y0, y1, y2, y3⟩, -⟩ := hNW
  have hFW : ∀ v : Nat → Int32, (∀ i, 2 ≤ i → v i = 0) → FW G φ w v := by
    intro v hv
    refine ⟨w0, w1, w2, w3, _, _, _, _, (φn zw).trans (k4 _ _ (fr w zw).1 ew), (φn y0).trans (k4 _ _ (fr _ y0).1 e0), (φn y1).trans (k4 _ _ (fr _ y1).1 e1), (φn y2).trans (k4 _ _ (fr _ y2).1 e2), (φn y3).trans (k4 _ _ (fr _ y3).1 e3), fun k hk => ⟨(hv _ (by omega)).symm, (hv _ (by omega)).symm, (hv _ (by omega)).symm, (hv _ (by omega)).symm⟩⟩
  have zen3 := nn k43 n5.symm zen
  have zej3 := nn k53 n6.symm zej
  have zet3 := nn k63 n7.symm zet
  have zla3 := nn k73 n8.symm zla
  have zr03 := nn k73 (fun z => by rw [z, A7] at zr0; cases zr0) zr0
  have zr13 := nn k73 (fun z => by rw [z, A7] at zr1; cases zr1) zr1
  refine WP.loc [(0, .ref a0)] rfl (WP.widen (k := 14) (n := 100) (Nat.le_of_ble_eq_true rfl) (Nat.le_of_ble_eq_true rfl) (kk ua ca sq en ej et la M11 φ [(0, .ref a0)] rfl ⟨A11, k1 _ _ n1.symm U1, k2 _ _ n2.symm C2, k3 _ _ n3.symm S3, ?_, ?_, ?_, ?_, ?_, ?_⟩))
  · have U3 := K3 _ _ n1.symm (K2 _ _ n1.symm U1)
    have nuc : ua ≠ ca := mu_some_ne U1 zca
    have nus : ua ≠ sq := mu_some_ne (K2 _ _ n1.symm U1) zsq
    have ncs : ca ≠ sq := mu_some_ne C2 zsq
    refine ⟨fun m n hm hn e => ?_, fun n hn => ?_, fun a e he => ?_⟩
    · rcases (show m = 0 ∨ m = 1 ∨ m = 2 ∨ m = 3 by omega) with rfl | rfl | rfl | rfl <;> rcases (show n = 0 ∨ n = 1 ∨ n = 2 ∨ n = 3 by omega) with rfl | rfl | rfl | rfl <;> first | rfl | exact absurd e n1 | exact absurd e n2 | exact absurd e n3 | exact absurd e n1.symm | exact absurd e n2.symm | exact absurd e n3.symm | exact absurd e nuc | exact absurd e nus | exact absurd e ncs | exact absurd e nuc.symm | exact absurd e nus.symm | exact absurd e ncs.symm
    · rcases (show n = 0 ∨ n = 1 ∨ n = 2 ∨ n = 3 by omega) with rfl | rfl | rfl | rfl
      · exact ⟨⟨_, A11⟩, hB, if_pos (Or.inl rfl)⟩
      · exact ⟨⟨_, k1 _ _ n1.symm U1⟩, bua, if_pos (Or.inr (Or.inl rfl))⟩
      · exact ⟨⟨_, k2 _ _ n2.symm C2⟩, bca, if_pos (Or.inr (Or.inr (Or.inl rfl)))⟩
      · exact ⟨⟨_, k3 _ _ n3.symm S3⟩, bsq, if_pos (Or.inr (Or.inr (Or.inr rfl)))⟩
    · by_cases hz : a = a0 ∨ a = ua ∨ a = ca ∨ a = sq
      · rw [show φ a = none from if_pos hz] at he; cases he
      · rw [show φ a = M11 a from if_neg hz] at he; exact he
  · exact ⟨w, (φn zen3).trans (k5 _ _ n5.symm E5), hFW _ (fun _ _ => rfl)⟩
  · exact ⟨w, (φn zej3).trans (k6 _ _ n6.symm E6), hFW _ (fun i hi => if_neg (by omega))⟩
  · exact ⟨w, (φn zet3).trans (k7 _ _ n7.symm E7), hFW _ (fun i hi => if_neg (by omega))⟩
  · exact ⟨r0, r1, f0, f1, (φn zla3).trans (K11 _ _ n8.symm L10), (φn zr03).trans (K11 _ _ (fr _ zr03).1 R0), (φn zr13).trans (K11 _ _ (fr _ zr13).1 R1), hf0, hf1⟩
  · intro a e na he
    have t1 : a ≠ ua := mu_some_ne he zua
    have t2 : a ≠ ca := mu_some_ne (K1 _ _ na he) zca
    have t3 : a ≠ sq := mu_some_ne (K2 _ _ na (K1 _ _ na he)) zsq
    rw [show φ a = M11 a from if_neg (fun z => by rcases z with z | z | z | z <;> contradiction)]
    exact k0 _ _ na he
end Ini2
