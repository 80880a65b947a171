/-! THE CLASS'S CONSTRUCTOR: units and clients -/
section Ini3
variable {G : mt_G}
/-- eight cells of client c, from place b -/
def Blk (G : mt_G) (μ : mu_M) (nb : Nat → Nat) (la : Nat) : Prop := μ (nb 0) = some (.inr (6, [.ref (nb 1), .ref (nb 2), .ref (nb 3), .int 0, .int 0, .ref la])) ∧ μ (nb 1) = some (.inl (G.2.2.1 0, 4, .inl (fun _ => 0))) ∧ μ (nb 2) = some (.inl (G.2.2.1 0, 4, .inl (fun _ => 0))) ∧ μ (nb 3) = some (.inr (5, [.ref (nb 4), .ref (nb 5), .ref (nb 6), .ref (nb 7)])) ∧ μ (nb 4) = some (.inl (G.2.2.1 1, 4, .inl (fun _ => 0))) ∧ μ (nb 5) = some (.inl (G.2.2.1 0, 4, .inl (fun _ => 0))) ∧ μ (nb 6) = some (.inl (G.2.2.1 1, 4, .inl (fun _ => 0))) ∧ μ (nb 7) = some (.inl (G.2.2.1 0, 4, .inl (fun _ => 0)))
def IU (G : mt_G) (μ : mu_M) (AL : Nat → Nat) (en : Nat) (u : Nat) : Prop := μ (AL (4 + 2 * u)) = some (.inr (1, [.ref (AL (5 + 2 * u)), .int 1, .int 0])) ∧ μ (AL (5 + 2 * u)) = some (.inl (G.2.2.1 5, 60, .inr (.inr (.inr (.inr (fun _ => some en))))))
def IC (G : mt_G) (μ : mu_M) (AL : Nat → Nat) (la c : Nat) : Prop := Blk G μ (fun k => AL (16 + 8 * c + k)) la
def Iv (G : mt_G) (μ φ : mu_M) (AL : Nat → Nat) (en ej et la nu nc : Nat) : Prop :=
  Made G μ φ AL (4 + 2 * nu + 8 * nc) ∧ μ (AL 0) = some (.inr (0, [.ref (AL 1), .ref (AL 2), .ref (AL 3), .ref en, .ref ej, .ref et, .ref la])) ∧ μ (AL 1) = some (.inl (G.2.2.1 3, 6, .inr (.inr (.inr (.inr (fun u => if u < nu then some (AL (4 + 2 * u)) else none)))))) ∧ μ (AL 2) = some (.inl (G.2.2.1 4, 4, .inr (.inr (.inr (.inr (fun c => if c < nc then some (AL (16 + 8 * c)) else none)))))) ∧ μ (AL 3) = some (.inr (4, [.int 0, .int 1, .int 0])) ∧
  (∀ u, u < nu → IU G μ AL en u) ∧ (∀ c, c < nc → IC G μ AL la c) ∧ FE G φ en vNone ∧ FE G φ ej vJunk ∧ FE G φ et vTrim ∧ FL G φ la 1 (δ0 0)
/-- a client's or a unit's cells made: all else but the list of them stays -/
theorem keepL {μ1 μ2 : mu_M} {q b : Nat} {e0 eb : va_E} (hq : μ1 q = none) (hk : kp q (mu_up μ1 q e0) μ2) : ∀ a e, a ≠ b → μ1 a = some e → (mu_up μ2 b eb) a = some e := fun a e hab ha => by
  have n := mu_some_ne ha hq
  rw [mu_up_n hab]
  exact hk a e n ((mu_up_n n).trans ha)
theorem arr_if {nu u x : Nat} {AL AL' : Nat → Nat} (p : Nat → Nat) (hu : u = nu) (h1 : ∀ j, j < nu → AL' (p j) = AL (p j)) (h2 : AL' (p nu) = x) : va_up (fun j => if j < nu then some (AL (p j)) else none) u (some x) = fun j => if j < nu + 1 then some (AL' (p j)) else none := by
  subst hu
  funext o
  by_cases ho : o = u
  · rw [ho, va_up_self, if_pos (by omega), h2]
  · rw [va_up_ne _ _ ho]
    by_cases h9 : o < u
    · rw [if_pos h9, if_pos (by omega), h1 o h9]
    · rw [if_neg h9, if_neg (by omega)]
theorem Iv.unit {μ1 μ2 φ : mu_M} {AL : Nat → Nat} {en ej et la nu q ca : Nat} {e0 : va_E} (h : Iv G μ1 φ AL en ej et la nu 0) (hn : nu < 6) (zq : μ1 q = none) (bq : G.2.2.2.1 ≤ q) (zc : mu_up μ1 q e0 ca = none) (bc : G.2.2.2.1 ≤ ca) (hq : μ2 q = some (.inr (1, [.ref ca, .int 1, .int 0]))) (hc : μ2 ca = some (.inl (G.2.2.1 5, 60, .inr (.inr (.inr (.inr (fun _ => some en))))))) (hk : kp q (mu_up μ1 q e0) μ2) :
    ∃ AL', AL' 0 = AL 0 ∧ Iv G (mu_up μ2 (AL 1) (.inl (G.2.2.1 3, 6, .inr (.inr (.inr (.inr (va_up (fun u => if u < nu then some (AL (4 + 2 * u)) else none) nu (some q)))))))) φ AL' en ej et la (nu + 1) 0 := by
  obtain ⟨hM, i0, i1, i2, i3, iu, -, f1, f2, f3, f4⟩ := h
  have hM0 := hM
  obtain ⟨g1, g2, g3⟩ := hM0
  have kL := fun eb => keepL (b := AL 1) (eb := eb) zq hk
  obtain ⟨ncq, zc1⟩ := mu_none zc
  have hq1 : q ≠ AL 1 := fun z => by rw [z, i1] at zq; cases zq
  have hc1 : ca ≠ AL 1 := fun z => by rw [z, i1] at zc1; cases zc1
  let nb : Nat → Nat := fun k => if k = 0 then q else ca
  let AL' : Nat → Nat := fun n => if n < 4 + 2 * nu then AL n else nb (n - (4 + 2 * nu))
  have a1 : ∀ n, n < 4 + 2 * nu → AL' n = AL n := fun n hn => if_pos hn
  have a2 : AL' (4 + 2 * nu) = q := by
    show (if _ then _ else nb _) = q
    rw [if_neg (by omega), Nat.sub_self]; rfl
  have a3 : AL' (5 + 2 * nu) = ca := by
    show (if _ then _ else nb _) = ca
    rw [if_neg (by omega), show 5 + 2 * nu - (4 + 2 * nu) = 1 by omega]; rfl
  have al : ∀ n, n < 4 + 2 * nu → n ≠ 1 → AL n ≠ AL 1 := fun n hn h1 z => h1 (g1 n 1 (by omega) (by omega) z)
  refine ⟨AL', a1 0 (by omega), ?_, ?_, ?_, ?_, ?_, ?_, fun c hc => absurd hc (by omega), f1, f2, f3, f4⟩
  · refine (hM.more (m := 2) (nb := nb) (fun n hn => ?_) (fun a e ha => ?_) (fun k hk => ?_) (fun j k hj hk e => ?_) (fun k hk => ?_)).ct (by omega)
    · obtain ⟨e, he⟩ := (g2 n hn).1
      by_cases hn1 : n = 1
      · rw [hn1]; exact ⟨_, mu_up_s _ _ _⟩
      · exact ⟨e, kL _ _ _ (al n hn hn1) he⟩
    · refine kL _ a e (fun z => ?_) (g3 a e ha)
      rw [z, (g2 1 (by omega)).2.2] at ha; cases ha
    · rcases (show k = 0 ∨ k = 1 by omega) with rfl | rfl
      · exact ⟨zq, bq⟩
      · exact ⟨zc1, bc⟩
    · rcases (show j = 0 ∨ j = 1 by omega) with rfl | rfl <;> rcases (show k = 0 ∨ k = 1 by omega) with rfl | rfl
      · rfl
      · exact absurd e.symm ncq
      · exact absurd e ncq
      · rfl
    · rcases (show k = 0 ∨ k = 1 by omega) with rfl | rfl
      · exact ⟨_, (mu_up_n hq1).trans hq⟩
      · exact ⟨_, (mu_up_n hc1).trans hc⟩
  · rw [a1 0 (by omega), a1 1 (by omega), a1 2 (by omega), a1 3 (by omega)]
    exact kL _ _ _ (al 0 (by omega) (by omega)) i0
  · rw [a1 1 (by omega), mu_up_s, arr_if (AL := AL) (AL' := AL') (fun u => 4 + 2 * u) rfl (fun j hj => a1 _ (by omega)) a2]
  · rw [a1 2 (by omega), kL _ _ _ (al 2 (by omega) (by omega)) i2]
    congr 8
  · rw [a1 3 (by omega)]; exact kL _ _ _ (al 3 (by omega) (by omega)) i3
  · intro u hu
    by_cases h9 : u < nu
    · obtain ⟨j1, j2⟩ := iu u h9
      unfold IU
      rw [a1 (4 + 2 * u) (by omega), a1 (5 + 2 * u) (by omega)]
      exact ⟨kL _ _ _ (al _ (by omega) (by omega)) j1, kL _ _ _ (al _ (by omega) (by omega)) j2⟩
    · obtain rfl : u = nu := by omega
      unfold IU
      rw [a2, a3]
      exact ⟨(mu_up_n hq1).trans hq, (mu_up_n hc1).trans hc⟩
theorem Iv.cli {μ1 μ2 φ : mu_M} {AL nb : Nat → Nat} {en ej et la nc q : Nat} {e0 : va_E} (h : Iv G μ1 φ AL en ej et la 6 nc) (hn : nc < 4) (n0 : nb 0 = q) (zq : μ1 q = none) (bq : G.2.2.2.1 ≤ q) (zn : ∀ k, 0 < k → k < 8 → mu_up μ1 q e0 (nb k) = none ∧ G.2.2.2.1 ≤ nb k) (inj : ∀ j k, j < 8 → k < 8 → nb j = nb k → j = k) (hb : Blk G μ2 nb la) (hk : kp q (mu_up μ1 q e0) μ2) :
    ∃ AL', AL' 0 = AL 0 ∧ Iv G (mu_up μ2 (AL 2) (.inl (G.2.2.1 4, 4, .inr (.inr (.inr (.inr (va_up (fun c => if c < nc then some (AL (16 + 8 * c)) else none) nc (some q)))))))) φ AL' en ej et la 6 (nc + 1) := by
  obtain ⟨hM, i0, i1, i2, i3, iu, ic, f1, f2, f3, f4⟩ := h
  have hM0 := hM
  obtain ⟨g1, g2, g3⟩ := hM0
  have kL := fun eb => keepL (b := AL 2) (eb := eb) zq hk
  have zz : ∀ k, k < 8 → μ1 (nb k) = none ∧ G.2.2.2.1 ≤ nb k := by
    intro k hk
    by_cases hk0 : k = 0
    · rw [hk0, n0]; exact ⟨zq, bq⟩
    · exact ⟨(mu_none (zn k (by omega) hk).1).2, (zn k (by omega) hk).2⟩
  have hc2 : ∀ k, k < 8 → nb k ≠ AL 2 := fun k hk z => by have := (zz k hk).1; rw [z, i2] at this; cases this
  let AL' : Nat → Nat := fun n => if n < 4 + 2 * 6 + 8 * nc then AL n else nb (n - (4 + 2 * 6 + 8 * nc))
  have a1 : ∀ n, n < 4 + 2 * 6 + 8 * nc → AL' n = AL n := fun n hn => if_pos hn
  have a2 : ∀ k, k < 8 → AL' (16 + 8 * nc + k) = nb k := fun k hk => by
    show (if _ then _ else nb _) = nb k
    rw [if_neg (by omega), show 16 + 8 * nc + k - (4 + 2 * 6 + 8 * nc) = k by omega]
  have al : ∀ n, n < 4 + 2 * 6 + 8 * nc → n ≠ 2 → AL n ≠ AL 2 := fun n hn h1 z => h1 (g1 n 2 (by omega) (by omega) z)
  obtain ⟨b0, b1, b2, b3, b4, b5, b6, b7⟩ := hb
  refine ⟨AL', a1 0 (by omega), ?_, ?_, ?_, ?_, ?_, ?_, ?_, f1, f2, f3, f4⟩
  · refine (hM.more (m := 8) (nb := nb) (fun n hn => ?_) (fun a e ha => ?_) zz inj (fun k hk => ?_)).ct (by omega)
    · obtain ⟨e, he⟩ := (g2 n hn).1
      by_cases hn1 : n = 2
      · rw [hn1]; exact ⟨_, mu_up_s _ _ _⟩
      · exact ⟨e, kL _ _ _ (al n hn hn1) he⟩
    · refine kL _ a e (fun z => ?_) (g3 a e ha)
      rw [z, (g2 2 (by omega)).2.2] at ha; cases ha
    · have hx : ∃ e, μ2 (nb k) = some e := by
        rcases (show k = 0 ∨ k = 1 ∨ k = 2 ∨ k = 3 ∨ k = 4 ∨ k = 5 ∨ k = 6 ∨ k = 7 by omega) with rfl | rfl | rfl | rfl | rfl | rfl | rfl | rfl
        · exact ⟨_, b0⟩
        · exact ⟨_, b1⟩
        · exact ⟨_, b2⟩
        · exact ⟨_, b3⟩
        · exact ⟨_, b4⟩
        · exact ⟨_, b5⟩
        · exact ⟨_, b6⟩
        · exact ⟨_, b7⟩
      obtain ⟨e, he⟩ := hx
      exact ⟨e, (mu_up_n (hc2 k hk)).trans he⟩
  · rw [a1 0 (by omega), a1 1 (by omega), a1 2 (by omega), a1 3 (by omega)]
    exact kL _ _ _ (al 0 (by omega) (by omega)) i0
  · rw [a1 1 (by omega), kL _ _ _ (al 1 (by omega) (by omega)) i1]
    congr 8
    funext u
    by_cases h9 : u < 6
    · rw [if_pos h9, if_pos h9, a1 _ (by omega)]
    · rw [if_neg h9, if_neg h9]
  · rw [a1 2 (by omega), mu_up_s, arr_if (AL := AL) (AL' := AL') (fun u => 16 + 8 * u) rfl (fun j hj => a1 _ (by omega)) ((a2 0 (by omega)).trans n0)]
  · rw [a1 3 (by omega)]; exact kL _ _ _ (al 3 (by omega) (by omega)) i3
  · intro u hu
    obtain ⟨j1, j2⟩ := iu u hu
    unfold IU
    rw [a1 (4 + 2 * u) (by omega), a1 (5 + 2 * u) (by omega)]
    exact ⟨kL _ _ _ (al _ (by omega) (by omega)) j1, kL _ _ _ (al _ (by omega) (by omega)) j2⟩
  · intro c hc
    by_cases h9 : c < nc
    · obtain ⟨j0, j1, j2, j3, j4, j5, j6, j7⟩ := ic c h9
      unfold IC Blk
      dsimp only
      rw [a1 (16 + 8 * c + 0) (by omega), a1 (16 + 8 * c + 1) (by omega), a1 (16 + 8 * c + 2) (by omega), a1 (16 + 8 * c + 3) (by omega), a1 (16 + 8 * c + 4) (by omega), a1 (16 + 8 * c + 5) (by omega), a1 (16 + 8 * c + 6) (by omega), a1 (16 + 8 * c + 7) (by omega)]
      exact ⟨kL _ _ _ (al _ (by omega) (by omega)) j0, kL _ _ _ (al _ (by omega) (by omega)) j1, kL _ _ _ (al _ (by omega) (by omega)) j2, kL _ _ _ (al _ (by omega) (by omega)) j3, kL _ _ _ (al _ (by omega) (by omega)) j4, kL _ _ _ (al _ (by omega) (by omega)) j5, kL _ _ _ (al _ (by omega) (by omega)) j6, kL _ _ _ (al _ (by omega) (by omega)) j7⟩
    · obtain rfl : c = nc := by omega
      unfold IC Blk
      dsimp only
      rw [a2 0 (by omega), a2 1 (by omega), a2 2 (by omega), a2 3 (by omega), a2 4 (by omega), a2 5 (by omega), a2 6 (by omega), a2 7 (by omega)]
      exact ⟨(mu_up_n (hc2 0 (by omega))).trans b0, (mu_up_n (hc2 1 (by omega))).trans b1, (mu_up_n (hc2 2 (by omega))).trans b2, (mu_up_n (hc2 3 (by omega))).trans b3, (mu_up_n (hc2 4 (by omega))).trans b4, (mu_up_n (hc2 5 (by omega))).trans b5, (mu_up_n (hc2 6 (by omega))).trans b6, (mu_up_n (hc2 7 (by omega))).trans b7⟩
def g0 (en ej et la : Nat) : dg := fun i k => if i = 0 then (if k = 3 then en else if k = 4 then ej else if k = 5 then et else la) else if i < 16 then en else la
theorem g0_0 (en ej et la : Nat) : (g0 en ej et la 0 3 = en ∧ g0 en ej et la 0 4 = ej) ∧ g0 en ej et la 0 5 = et ∧ g0 en ej et la 0 6 = la := ⟨⟨rfl, rfl⟩, rfl, rfl⟩
theorem g0_e {en ej et la i k : Nat} (h : 0 < i) (h2 : i < 16) : g0 en ej et la i k = en := by unfold g0; rw [if_neg (by omega), if_pos h2]
theorem g0_l {en ej et la i k : Nat} (h : 16 ≤ i) : g0 en ej et la i k = la := by unfold g0; rw [if_neg (by omega), if_neg (by omega)]
theorem σ0_z {i k : Nat} (h : 10 ≤ i) (h2 : i < 500 ∨ 505 ≤ i) : σ0 i k = 0 := by unfold σ0; rw [if_neg (by omega), if_neg (by omega), if_neg (by omega)]
theorem σ0_zf {i : Nat} (h : 10 ≤ i) (h2 : i < 500 ∨ 505 ≤ i) : σ0 i = fun _ => 0 := funext fun _ => σ0_z h h2
theorem σ0_u1 {u : Nat} (h : u < 6) : σ0 (4 + u) 1 = 1 := by unfold σ0; rw [if_neg (by omega), if_pos (by omega)]
theorem σ0_u2 {u : Nat} (h : u < 6) : σ0 (4 + u) 2 = 0 := by unfold σ0; rw [if_neg (by omega), if_neg (by omega), if_neg (by omega)]
theorem σ0_e {i : Nat} (h : 500 ≤ i) (h2 : i < 505) : σ0 i 0 = 1 := by unfold σ0; rw [if_neg (by omega), if_neg (by omega), if_pos (by omega)]
def ad0 (AL : Nat → Nat) (r : Nat) : Nat := AL (pi0 r)
set_option maxHeartbeats 2000000 in
theorem Iv.cx {μ φ : mu_M} {AL : Nat → Nat} {en ej et la : Nat} (hψ : ∀ a, G.2.2.2.2 a = none) (h : Iv G μ φ AL en ej et la 6 4) : Cx G (mu_up (mu_up μ (AL 1) (.inl (G.2.2.1 3, 6, .inr (.inr (.inr (.inr (fun u => some (ad0 AL (4 + u))))))))) (AL 2) (.inl (G.2.2.1 4, 4, .inr (.inr (.inr (.inr (fun c => some (ad0 AL (16 + c))))))))) φ (ad0 AL) (g0 en ej et la) σ0 δ0 := by
  obtain ⟨⟨g1, g2, g3⟩, i0, i1, i2, i3, iu, ic, f1, f2, f3, f4⟩ := h
  have p4 : ∀ u, u < 6 → pi0 (4 + u) = 4 + 2 * u := fun u hu => by unfold pi0; rw [if_neg (by omega), if_pos (by omega)]; omega
  have p10 : ∀ u, u < 6 → pi0 (10 + u) = 5 + 2 * u := fun u hu => by unfold pi0; rw [if_neg (by omega), if_neg (by omega), if_pos (by omega)]; omega
  have p16 : ∀ c k, c < 4 → k < 8 → pi0 (16 + 4 * k + c) = 16 + 8 * c + k := fun c k hc hk => by
    unfold pi0
    rw [if_neg (by omega), if_neg (by omega), if_neg (by omega)]
    omega
  have q16 : ∀ c k i, c < 4 → k < 8 → i = 16 + 4 * k + c → ad0 AL i = AL (16 + 8 * c + k) := fun c k i hc hk e => by rw [e, ad0, p16 c k hc hk]
  have al : ∀ {e1 e2 : va_E} {n : Nat}, n < 48 → n ≠ 1 → n ≠ 2 → mu_up (mu_up μ (AL 1) e1) (AL 2) e2 (AL n) = μ (AL n) := fun {e1 e2 n} hn h1 h2 => by
    rw [mu_up_n (fun z => h2 (g1 n 2 hn (by omega) z)), mu_up_n (fun z => h1 (g1 n 1 hn (by omega) z))]
  have n12 : AL 1 ≠ AL 2 := fun z => absurd (g1 1 2 (by omega) (by omega) z) (by omega)
  refine ⟨⟨fun i hi => ?_, fun i j hi hj e => pi0_inj hi hj (g1 _ _ (pi0_lt hi) (pi0_lt hj) e), fun i hi => (g2 _ (pi0_lt hi)).2.1⟩, ⟨fun a e he => ⟨⟨?_, fun i hi z => ?_⟩, hψ a⟩, fun a e he => absurd (he.symm.trans (hψ a)) (by intro q; cases q)⟩, fun u o hu ho => ?_, f1, f2, f3, f4, fun c hc => ?_⟩
  · rcases (show i < 4 ∨ (4 ≤ i ∧ i < 10) ∨ (10 ≤ i ∧ i < 16) ∨ 16 ≤ i by omega) with h | h | h | h
    · rcases (show i = 0 ∨ i = 1 ∨ i = 2 ∨ i = 3 by omega) with rfl | rfl | rfl | rfl
      · exact (al (n := 0) (by omega) (by omega) (by omega)).trans i0
      · rw [sh_uar (by omega) (by omega)]
        show mu_up _ _ _ (AL 1) = _
        rw [mu_up_n n12, mu_up_s]
      · rw [sh_car (by omega) (by omega)]
        exact mu_up_s _ _ _
      · exact (al (n := 3) (by omega) (by omega) (by omega)).trans i3
    · obtain ⟨u, rfl⟩ : ∃ u, i = 4 + u := ⟨i - 4, by omega⟩
      rw [sh_unit (by omega) (by omega), show 4 + u + 6 = 10 + u by omega, ad0, p4 u (by omega), al (by omega) (by omega) (by omega), (iu u (by omega)).1, ad0, p10 u (by omega), σ0_u1 (by omega), σ0_u2 (by omega)]
    · obtain ⟨u, rfl⟩ : ∃ u, i = 10 + u := ⟨i - 10, by omega⟩
      rw [sh_cells (by omega) (by omega), ad0, p10 u (by omega), al (by omega) (by omega) (by omega), (iu u (by omega)).2]
      congr 8
      funext o
      rw [g0_e (by omega) (by omega)]
    · have hc : (i - 16) % 4 < 4 := by omega
      have hk : (i - 16) / 4 < 8 := by omega
      generalize hcc : (i - 16) % 4 = c at hc
      generalize hkk : (i - 16) / 4 = k at hk
      obtain ⟨b0, b1, b2, b3, b4, b5, b6, b7⟩ := ic c hc
      rw [q16 c k i hc hk (by omega), al (by omega) (by omega) (by omega)]
      rcases (show k = 0 ∨ k = 1 ∨ k = 2 ∨ k = 3 ∨ k = 4 ∨ k = 5 ∨ k = 6 ∨ k = 7 by omega) with rfl | rfl | rfl | rfl | rfl | rfl | rfl | rfl
      · rw [b0, sh_cli (by omega) (by omega), q16 c 1 (i + 4) hc (by omega) (by omega), q16 c 2 (i + 8) hc (by omega) (by omega), q16 c 3 (i + 12) hc (by omega) (by omega), σ0_z (by omega) (by omega), σ0_z (by omega) (by omega), g0_l (by omega)]
      · rw [b1, sh_val (by omega) (by omega), σ0_zf (by omega) (by omega)]
      · rw [b2, sh_age (by omega) (by omega), σ0_zf (by omega) (by omega)]
      · rw [b3, sh_tx (by omega) (by omega), q16 c 4 (i + 4) hc (by omega) (by omega), q16 c 5 (i + 8) hc (by omega) (by omega), q16 c 6 (i + 12) hc (by omega) (by omega), q16 c 7 (i + 16) hc (by omega) (by omega)]
      · rw [b4, sh_tr (by omega) (by omega), σ0_zf (by omega) (by omega)]
      · rw [b5, sh_ta (by omega) (by omega), σ0_zf (by omega) (by omega)]
      · rw [b6, sh_tp (by omega) (by omega), σ0_zf (by omega) (by omega)]
      · rw [b7, sh_tv (by omega) (by omega), σ0_zf (by omega) (by omega)]
  · have hx : ∀ n, n < 48 → a ≠ AL n := fun n hn z => by rw [z, (g2 n hn).2.2] at he; cases he
    rw [mu_up_n (hx 2 (by omega)), mu_up_n (hx 1 (by omega))]
    exact g3 a e he
  · rw [z, ad0, (g2 _ (pi0_lt hi)).2.2] at he; cases he
  · rw [g0_e (by omega) (by omega), σ0_zf (by unfold eR; omega) (by unfold eR; omega)]
    exact f1
  · rw [g0_l (by omega), σ0_e (by omega) (by omega)]
    exact f4
def PNew (G : mt_G) (μ : mu_M) (a0 : Nat) : Option Value → mu_M → Prop := fun v μ' => v = none ∧ ∃ (ad : Nat → Nat) (φ : mu_M) (g : dg), ad 0 = a0 ∧ Cx G μ' φ ad g σ0 δ0 ∧ ∀ a e, a ≠ a0 → μ a = some e → φ a = some e
set_option maxHeartbeats 8000000 in
set_option maxRecDepth 10000 in
theorem ct_Log_init {μ : mu_M} (a0 : Nat) (x0 x1 x2 x3 x4 x5 x6 : Value) (h : μ a0 = some (.inr (0, [x0, x1, x2, x3, x4, x5, x6]))) (hB : G.2.2.2.1 ≤ a0) (hψ : ∀ a, G.2.2.2.2 a = none) : CTI G M_Log_init [.ref a0] μ (PNew G μ a0) := by
  refine CTI.of (by decide) rfl (Nat.le_of_ble_eq_true rfl) (wp_Log_init1 _ a0 _ _ _ _ _ _ _ h hB (fun ua ca sq en ej et la μ1 φ lo hlo hP => ?_))
  obtain ⟨p0, p1, p2, p3, pM, f1, f2, f3, f4, hφ⟩ := hP
  have hI : Iv G μ1 φ (fun n => if n = 0 then a0 else if n = 1 then ua else if n = 2 then ca else sq) en ej et la 0 0 := ⟨pM, p0, p1, p2, p3, fun u hu => absurd hu (by omega), fun u hu => absurd hu (by omega), f1, f2, f3, f4⟩
  have cl : ∀ (n c : Nat) (AL : Nat → Nat) (μ1 : mu_M), c + n = 4 → AL 0 = a0 → Iv G μ1 φ AL en ej et la 6 c → WP G M_Log_init (ECI G M_Log_init (PNew G μ a0)) [(0, .ref a0), (2, .int (nI c))] 137 [] μ1 (26 + 8 * c) (478 + 34 * c) := by
    intro n
    induction n with
    | zero =>
      intro c AL μ1 hc h0 hI
      obtain rfl : c = 4 := by omega
      have i1 := hI.2.2.1
      have i2 := hI.2.2.2.1
      have n12 : AL 2 ≠ AL 1 := fun z => absurd (hI.1.1 2 1 (by omega) (by omega) z) (by omega)
      have p4 : ∀ u, u < 6 → pi0 (4 + u) = 4 + 2 * u := fun u hu => by unfold pi0; rw [if_neg (by omega), if_pos (by omega)]; omega
      have p16 : ∀ c, c < 4 → pi0 (16 + c) = 16 + 8 * c := fun c hc => by unfold pi0; rw [if_neg (by omega), if_neg (by omega), if_neg (by omega)]; omega
      refine wp_iload_n d_Log_init_137 rfl rfl ?_
      refine wp_iconst (v := 4) d_Log_init_138 (by decide) ?_
      refine wp_icmp_ge (tgt := 165) d_Log_init_139 (by decide) (fun c139 => ?_) (fun c139 => ?_)
      · refine WP.arrq (f' := fun u => some (ad0 AL (4 + u))) i1 (fun j hj => by rw [if_pos hj, ad0, p4 j hj]) ?_
        refine WP.arrq (f' := fun u => some (ad0 AL (16 + u))) ((mu_up_n n12).trans i2) (fun j hj => by rw [if_pos hj, ad0, p16 j hj]) ?_
        exact wp_vretI d_Log_init_165 rfl (by decide) (by decide) ⟨rfl, ad0 AL, φ, g0 en ej et la, h0, hI.cx hψ, hφ⟩
      · exact absurd (by decide) c139
    | succ n ih =>
      intro c AL μ1 hc h0 hI
      have i0 := hI.2.1
      rw [h0] at i0
      have i2 := hI.2.2.2.1
      have b2 := (hI.1.2.1 2 (by omega)).2.1
      refine wp_iload_n d_Log_init_137 rfl rfl ?_
      refine wp_iconst (v := 4) d_Log_init_138 (by decide) ?_
      refine wp_icmp_ge (tgt := 165) d_Log_init_139 (by decide) (fun c139 => ?_) (fun c139 => ?_)
      · exact absurd ((nI_leI (a := 4) (by omega) (by omega)).mp c139) (by omega)
      refine wp_aload_n d_Log_init_142 rfl rfl ?_
      refine wp_get d_Log_init_143 fl_Log_17 (by exact i0) (by rfl) ?_
      refine wp_iload_n d_Log_init_146 rfl rfl ?_
      refine wp_new d_Log_init_147 nw_Log_15 (show 26 + 8 * c + 1 ≤ 71 by omega) (show 478 + 34 * c + 6 ≤ 800 by omega) (fun q bq zq => ?_)
      refine wp_dup d_Log_init_150 rfl ?_
      refine wp_aload_n d_Log_init_151 rfl rfl ?_
      refine wp_get d_Log_init_152 fl_Log_55 (by exact (mu_up_n (mu_some_ne i0 zq)).trans i0) (by rfl) ?_
      refine wi_call d_Log_init_155 ci_Log_62 cd_Client_init ⟨by decide, by decide⟩ (ct_Client_init q la _ _ _ _ _ _ (mu_up_s _ _ _) bq) rfl rfl (Nat.le_of_ble_eq_true rfl) (show 26 + 8 * c + 1 + 7 ≤ 71 by omega) (show 478 + 34 * c + 6 + 28 ≤ 800 by omega) (fun v1 μ2 hq => ?_)
      obtain ⟨rfl, nb, n0, zn, inj, b0, b1, b2', b3, b4, b5, b6, b7, hk⟩ := hq
      have nq2 : AL 2 ≠ q := mu_some_ne i2 zq
      have i2' : μ2 (AL 2) = _ := hk _ _ nq2 ((mu_up_n nq2).trans i2)
      refine wp_aast d_Log_init_158 (t := 4) (ci := 6) (r := ("SharedLog$Client", F_Client, 6)) rfl rfl i2' b2 b0 rfl (show c < 4 by omega) (by omega) ?_
      refine wp_iinc d_Log_init_159 rfl rfl (by decide) ?_
      refine wp_goto (tgt := 137) d_Log_init_162 (by decide) ?_
      obtain ⟨AL', h0', hI'⟩ := hI.cli (by omega) n0 zq bq zn inj ⟨n0 ▸ b0, b1, b2', b3, b4, b5, b6, b7⟩ hk
      refine WP.loc [(0, .ref a0), (2, .int (nI (c + 1)))] (by rw [← nI_1 c]; rfl) (WP.widen (show 26 + 8 * c + 1 + 7 ≤ 26 + 8 * (c + 1) by omega) (show 478 + 34 * c + 6 + 28 ≤ 478 + 34 * (c + 1) by omega) (ih (c + 1) AL' _ (by omega) (h0'.trans h0) hI'))
  have un : ∀ (n u : Nat) (AL : Nat → Nat) (μ1 : mu_M), u + n = 6 → AL 0 = a0 → Iv G μ1 φ AL en ej et la u 0 → WP G M_Log_init (ECI G M_Log_init (PNew G μ a0)) [(0, .ref a0), (2, .int (nI u))] 106 [] μ1 (14 + 2 * u) (100 + 63 * u) := by
    intro n
    induction n with
    | zero =>
      intro u AL μ1 hu h0 hI
      obtain rfl : u = 6 := by omega
      refine wp_iload_n d_Log_init_106 rfl rfl ?_
      refine wp_bipush (v := 6) d_Log_init_107 (by decide) ?_
      refine wp_icmp_ge (tgt := 135) d_Log_init_109 (by decide) (fun c109 => ?_) (fun c109 => ?_)
      · refine wp_iconst (v := 0) d_Log_init_135 (by decide) ?_
        refine wp_istore_n d_Log_init_136 rfl (by decide) ?_
        exact WP.loc [(0, .ref a0), (2, .int (nI 0))] rfl (cl 4 0 AL μ1 rfl h0 hI)
      · exact absurd (by decide) c109
    | succ n ih =>
      intro u AL μ1 hu h0 hI
      have i0 := hI.2.1
      rw [h0] at i0
      have i1 := hI.2.2.1
      have b1 := (hI.1.2.1 1 (by omega)).2.1
      refine wp_iload_n d_Log_init_106 rfl rfl ?_
      refine wp_bipush (v := 6) d_Log_init_107 (by decide) ?_
      refine wp_icmp_ge (tgt := 135) d_Log_init_109 (by decide) (fun c109 => ?_) (fun c109 => ?_)
      · exact absurd ((nI_leI (a := 6) (by omega) (by omega)).mp c109) (by omega)
      refine wp_aload_n d_Log_init_112 rfl rfl ?_
      refine wp_get d_Log_init_113 fl_Log_11 (by exact i0) (by rfl) ?_
      refine wp_iload_n d_Log_init_116 rfl rfl ?_
      refine wp_new d_Log_init_117 nw_Log_9 (show 14 + 2 * u + 1 ≤ 71 by omega) (show 100 + 63 * u + 3 ≤ 800 by omega) (fun q bq zq => ?_)
      refine wp_dup d_Log_init_120 rfl ?_
      refine wp_aload_n d_Log_init_121 rfl rfl ?_
      refine wp_get d_Log_init_122 fl_Log_36 (by exact (mu_up_n (mu_some_ne i0 zq)).trans i0) (by rfl) ?_
      obtain ⟨w, hen, -⟩ := hI.2.2.2.2.2.2.2.1
      have hen1 := hI.1.2.2 _ _ hen
      refine wi_call d_Log_init_125 ci_Log_59 cd_Unit_init ⟨by decide, by decide⟩ (ct_Unit_init q en _ _ _ _ (mu_up_s _ _ _) bq ((mu_up_n (mu_some_ne hen1 zq)).trans hen1)) rfl rfl (Nat.le_of_ble_eq_true rfl) (show 14 + 2 * u + 1 + 1 ≤ 71 by omega) (show 100 + 63 * u + 3 + 60 ≤ 800 by omega) (fun v1 μ2 hq => ?_)
      obtain ⟨rfl, ca', zc, bc, hq1, hq2, hk⟩ := hq
      have nq2 : AL 1 ≠ q := mu_some_ne i1 zq
      have i1' : μ2 (AL 1) = _ := hk _ _ nq2 ((mu_up_n nq2).trans i1)
      refine wp_aast d_Log_init_128 (t := 3) (ci := 1) (r := ("SharedLog$Unit", F_Unit, 3)) rfl rfl i1' b1 hq1 rfl (show u < 6 by omega) (by omega) ?_
      refine wp_iinc d_Log_init_129 rfl rfl (by decide) ?_
      refine wp_goto (tgt := 106) d_Log_init_132 (by decide) ?_
      obtain ⟨AL', h0', hI'⟩ := hI.unit (by omega) zq bq zc bc hq1 hq2 hk
      refine WP.loc [(0, .ref a0), (2, .int (nI (u + 1)))] (by rw [← nI_1 u]; rfl) (WP.widen (show 14 + 2 * u + 1 + 1 ≤ 14 + 2 * (u + 1) by omega) (show 100 + 63 * u + 3 + 60 ≤ 100 + 63 * (u + 1) by omega) (ih (u + 1) AL' _ (by omega) (h0'.trans h0) hI'))
  refine wp_iconst (v := 0) d_Log_init_104 (by decide) ?_
  refine wp_istore_n d_Log_init_105 rfl (by decide) ?_
  exact WP.loc [(0, .ref a0), (2, .int (nI 0))] rfl (un 6 0 _ μ1 rfl rfl hI)
end Ini3
