/-! THE LAW'S STATE: the class's cells, the reference's cells, the array of one long; each side keeps the other's -/
def xb (ma : Nat → Nat) (oa a : Nat) : Bool := Nat.beq oa a || (List.range 21).any (fun i => Nat.beq (ma i) a)
theorem xb_o (ma : Nat → Nat) (oa : Nat) : xb ma oa oa = true := by
  unfold xb
  rw [Nat.beq_refl]
  rfl
theorem xb_m {ma : Nat → Nat} {oa i : Nat} (hi : i < 21) : xb ma oa (ma i) = true := by
  unfold xb
  rw [Bool.or_eq_true]
  exact Or.inr (List.any_eq_true.mpr ⟨i, List.mem_range.mpr hi, Nat.beq_refl _⟩)
theorem xb_f {ma : Nat → Nat} {oa a : Nat} (h : xb ma oa a = false) : a ≠ oa ∧ ∀ i, i < 21 → a ≠ ma i :=
  ⟨fun z => absurd (h.symm.trans ((congrArg _ z).trans (xb_o ma oa))) (by decide), fun i hi z => absurd (h.symm.trans ((congrArg _ z).trans (xb_m hi))) (by decide)⟩
theorem xb_t {ma : Nat → Nat} {oa a : Nat} (h : xb ma oa a = true) : a = oa ∨ ∃ i, i < 21 ∧ a = ma i := by
  unfold xb at h
  rw [Bool.or_eq_true] at h
  rcases h with h | h
  · exact Or.inl (Nat.eq_of_beq_eq_true h).symm
  · obtain ⟨i, h1, h2⟩ := List.any_eq_true.mp h
    exact Or.inr ⟨i, List.mem_range.mp h1, (Nat.eq_of_beq_eq_true h2).symm⟩
def pX (X : Nat → Bool) (μ : mu_M) : mu_M := fun a => cond (X a) (μ a) none
def Gp (G : mt_G) (X : Nat → Bool) (μ : mu_M) : mt_G := (G.1, G.2.1, G.2.2.1, G.2.2.2.1, pX X μ)
theorem pX_t {X : Nat → Bool} {μ : mu_M} {a : Nat} (h : X a = true) : pX X μ a = μ a := by unfold pX; rw [h]; rfl
theorem pX_f {X : Nat → Bool} {μ : mu_M} {a : Nat} (h : X a = false) : pX X μ a = none := by unfold pX; rw [h]; rfl
section LS
variable {G : mt_G} {μ μ1 μ2 φ : mu_M} {ad ma : Nat → Nat} {g : dg} {σ : sg} {δ : dg} {oa : Nat} {X : Nat → Bool}
theorem CTH.gp {M : mt_M} {hh : List (Nat × Nat × Nat × Nat)} {av : List Value} {post : Option Value → mu_M → Prop} {px : String → mu_M → Prop} (h : CTH (Gp G X μ1) M hh av μ post px) : CTH G M hh av μ post px := h
theorem CT.gp {M : mt_M} {av : List Value} {post : Option Value → mu_M → Prop} {px : String → mu_M → Prop} (h : CT (Gp G X μ1) M av μ post px) : CT G M av μ post px := h
theorem Cx.mv (h : Cx (Gp G X μ) μ1 φ ad g σ δ) (hX : ∀ a, X a = true → ∃ e, μ a = some e) (hk : ∀ a e, X a = false → μ1 a = some e → μ2 a = some e) : Cx (Gp G X μ2) μ2 φ ad g σ δ := by
  have hz := h.2.1
  have hn : ∀ a, X a = true → ∀ i, i < 48 → a ≠ ad i := fun a ha i hi => by
    obtain ⟨e, he⟩ := hX a ha
    exact (hz.2 a e ((pX_t ha).trans he)).2 i hi
  have ha : ∀ i, i < 48 → X (ad i) = false := fun i hi => by
    cases hx : X (ad i) with
    | false => rfl
    | true => exact absurd rfl (hn _ hx i hi)
  refine ⟨⟨fun i hi => hk _ _ (ha i hi) (h.1.1 i hi), h.1.2⟩, ⟨fun a e he => ?_, fun a e he => ?_⟩, h.2.2⟩
  · have h9 := hz.1 a e he
    have hx : X a = false := by
      cases hx : X a with
      | false => rfl
      | true =>
        obtain ⟨e', he'⟩ := hX a hx
        exact absurd ((he'.symm.trans (pX_t hx).symm).trans h9.2) (by intro q; cases q)
    exact ⟨⟨hk a e hx h9.1.1, h9.1.2⟩, pX_f hx⟩
  · cases hx : X a with
    | false => exact absurd ((pX_f hx).symm.trans he) (by intro q; cases q)
    | true => exact ⟨(pX_t hx).symm.trans he, hn a hx⟩
def LC (G : mt_G) (μ : mu_M) (ad ma : Nat → Nat) (oa : Nat) (σ : sg) (δ : dg) : Prop := ∃ φ g, Cx (Gp G (xb ma oa) μ) μ φ ad g σ δ
def LM (G : mt_G) (μ : mu_M) (ma : Nat → Nat) (σ : sg) (δ : dg) : Prop := ∃ τ, Mx G μ μ ma τ ∧ RP τ σ δ
def LO (G : mt_G) (ma : Nat → Nat) (oa : Nat) : Prop := G.2.2.2.1 ≤ oa ∧ ∀ i, i < 21 → oa ≠ ma i
def LI (G : mt_G) (μ : mu_M) (ad ma : Nat → Nat) (oa : Nat) (σ : sg) (δ : dg) : Prop := LC G μ ad ma oa σ δ ∧ LM G μ ma σ δ ∧ (∃ f : Nat → Int64, μ oa = some (.inl (G.2.2.1 2, 1, .inr (.inl f)))) ∧ LO G ma oa
theorem LI.x (h : LI G μ ad ma oa σ δ) : ∀ a, xb ma oa a = true → ∃ e, μ a = some e := by
  obtain ⟨-, ⟨τ, hM, -⟩, ⟨f, hf⟩, -⟩ := h
  intro a ha
  rcases xb_t ha with rfl | ⟨i, hi, rfl⟩
  · exact ⟨_, hf⟩
  · exact ⟨_, hM.1 i hi⟩
/-- a step of the class: the rest stays -/
theorem LI.cls {σ' : sg} {δ' : dg} (h : LI G μ ad ma oa σ δ) (hC : Cx (Gp G (xb ma oa) μ) μ1 φ ad g σ' δ') (hk : ∀ a, a ≠ oa → μ2 a = μ1 a) : LC G μ2 ad ma oa σ' δ' ∧ LM G μ2 ma σ δ := by
  have hX := h.x
  obtain ⟨-, ⟨τ, hM, hR⟩, -, -, hne⟩ := h
  refine ⟨⟨φ, g, hC.mv hX (fun a e hx hm => by rw [hk a (xb_f hx).1]; exact hm)⟩, τ, ⟨fun i hi => ?_, hM.2.1, hM.2.2.1, fun a e _ q => q⟩, hR⟩
  rw [hk _ (fun z => hne i hi z.symm)]
  exact (hC.z.2 _ _ ((pX_t (xb_m hi)).trans (hM.1 i hi))).1
theorem LI.out (h : LI G μ ad ma oa σ δ) {σ' : sg} {δ' : dg} (hC : Cx (Gp G (xb ma oa) μ) μ1 φ ad g σ' δ') : μ1 oa = μ oa := by
  obtain ⟨-, -, ⟨f, hf⟩, -⟩ := h
  rw [hf]
  exact (hC.z.2 _ _ ((pX_t (xb_o ma oa)).trans hf)).1
theorem LI.help (h : LI G μ ad ma oa σ δ) {r : RS} {w : Option Value} (hP : PH (Gp G (xb ma oa) μ) ad oa r w μ2) : w = some (.int (nI r.1)) ∧ LC G μ2 ad ma oa r.2.2.1 r.2.2.2 ∧ LM G μ2 ma σ δ ∧ ∃ f : Nat → Int64, μ2 oa = some (.inl (G.2.2.1 2, 1, .inr (.inl f))) ∧ (r.1 = 0 → f 0 = r.2.1.toInt64) := by
  obtain ⟨hw, μ1, φ, g, f, hC, hk, hf, ha⟩ := hP
  obtain ⟨h1, h2⟩ := h.cls hC hk
  exact ⟨hw, h1, h2, f, hf, ha⟩
/-- a step of the reference: the rest stays -/
theorem LC.model {τ' : sg} {σ' : sg} {δ' : dg} (h : LC G μ1 ad ma oa σ' δ') (hX : ∀ a, xb ma oa a = true → ∃ e, μ1 a = some e) (hO : LO G ma oa) (hf : ∃ f : Nat → Int64, μ1 oa = some (.inl (G.2.2.1 2, 1, .inr (.inl f)))) (hM : Mx G μ1 μ2 ma τ') (hR : RP τ' σ' δ') : LI G μ2 ad ma oa σ' δ' := by
  obtain ⟨φ, g, hC⟩ := h
  obtain ⟨f, hf⟩ := hf
  exact ⟨⟨φ, g, hC.mv hX (fun a e hx hm => hM.2.2.2 a e (xb_f hx).2 hm)⟩, ⟨τ', ⟨hM.1, hM.2.1, hM.2.2.1, fun a e _ q => q⟩, hR⟩, ⟨f, hM.2.2.2 _ _ (fun i hi => hO.2 i hi) hf⟩, hO⟩
theorem LM.x (h : LM G μ ma σ δ) (hf : ∃ f : Nat → Int64, μ oa = some (.inl (G.2.2.1 2, 1, .inr (.inl f)))) : ∀ a, xb ma oa a = true → ∃ e, μ a = some e := by
  obtain ⟨τ, hM, -⟩ := h
  obtain ⟨f, hf⟩ := hf
  intro a ha
  rcases xb_t ha with rfl | ⟨i, hi, rfl⟩
  · exact ⟨_, hf⟩
  · exact ⟨_, hM.1 i hi⟩
end LS
theorem nI_k {i : Nat} (k : Nat) {x : Int32} (h : x = nI k) : nI i + x = nI (i + k) := by rw [h]; exact nI_add i k
theorem nI_z {n : Nat} (h : n < 2 ^ 31) (e : nI n = 0) : n = 0 := Nat.eq_zero_of_not_pos (fun q => nI_ne0 q h e)
theorem i31 (x : Int32) : ∃ k : Nat, k < 32 ∧ x &&& 31 = nI k := by
  refine ⟨(x &&& 31).toBitVec.toNat, ?_, ?_⟩
  · rw [Int32.toBitVec_and, BitVec.toNat_and]
    exact Nat.lt_of_le_of_lt Nat.and_le_right (by decide)
  · apply Int32.toBitVec_inj.mp
    show _ = (Int32.ofNat _).toBitVec
    rw [Int32.toBitVec_ofNat', BitVec.ofNat_toNat]
    simp
theorem len5 {L i : Nat} (hL : L ≤ 2560) (hi : i ≤ 2565) (h : ¬ nI L - 5 < nI i) : i + 5 ≤ L := by
  by_cases h5 : 5 ≤ L
  · obtain ⟨n, rfl⟩ : ∃ n, L = n + 5 := ⟨L - 5, by omega⟩
    have e : nI (n + 5) - 5 = nI n := by
      rw [← nI_add, show nI 5 = 5 from rfl, Int32.add_sub_cancel]
    rw [e, nI_ltI (by omega) (by omega)] at h
    omega
  · refine absurd ?_ h
    have h9 : nI L - 5 < 0 := by
      rcases (show L = 0 ∨ L = 1 ∨ L = 2 ∨ L = 3 ∨ L = 4 by omega) with rfl | rfl | rfl | rfl | rfl <;> decide
    exact Int32.lt_of_lt_of_le h9 (nI_pos' (by omega))
