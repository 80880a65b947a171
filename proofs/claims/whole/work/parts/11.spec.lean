/-! ROWS OF UNITS as digits; what an entry and a layout hold; the state's relation to the cells -/
abbrev sg : Type := Nat → Nat → Int32
abbrev dg : Type := Nat → Nat → Nat
def ln (d : Nat) : Nat := if 99 < d then 3 else if 9 < d then 2 else 1
def un (d i : Nat) : Nat := d / 10 ^ (ln d - 1 - i) % 10 - 1
def vr (d : Nat) : Bool := decide (1 ≤ d) && decide (d ≤ 666) && (List.range (ln d)).all (fun i => decide (1 ≤ d / 10 ^ (ln d - 1 - i) % 10) && decide (d / 10 ^ (ln d - 1 - i) % 10 ≤ 6)) && (List.range (ln d)).all (fun i => (List.range i).all (fun j => decide (un d i ≠ un d j)))
theorem vr_le {d : Nat} (h : vr d = true) : 1 ≤ d ∧ d ≤ 666 := by
  simp only [vr, Bool.and_eq_true, decide_eq_true_eq] at h
  exact ⟨h.1.1.1, h.1.1.2⟩
set_option maxRecDepth 100000 in
theorem vr_un0 : ∀ d, d < 667 → vr d = true → ∀ i, i < 3 → i < ln d → un d i < 6 := by decide +kernel
theorem ln_pos (d : Nat) : 1 ≤ ln d ∧ ln d ≤ 3 := by
  unfold ln
  split
  · omega
  · split <;> omega
theorem vr_un {d i : Nat} (h : vr d = true) (hi : i < ln d) : un d i < 6 := vr_un0 d (by have := vr_le h; omega) h i (by have := ln_pos d; omega) hi
theorem vr_inj {d i j : Nat} (h : vr d = true) (hi : i < ln d) (hj : j < ln d) (e : un d i = un d j) : i = j := by
  simp only [vr, Bool.and_eq_true, List.all_eq_true, List.mem_range, decide_eq_true_eq] at h
  obtain ⟨-, h4⟩ := h
  rcases Nat.lt_trichotomy i j with q | q | q
  · exact absurd e.symm (h4 j hj i q)
  · exact q
  · exact absurd e (h4 i hi j q)
/-- the row of the state that an entry's values stand in: 0 kind, 1 answer, 2+k reads, 6+k their ages, 10+k puts, 14+k values -/
def eR (u o : Nat) : Nat := 100 + 60 * u + o
def FW (G : mt_G) (φ : mu_M) (w : Nat) (v : Nat → Int32) : Prop := ∃ (a0 a1 a2 a3 : Nat) (f0 f1 f2 f3 : Nat → Int32), φ w = some (.inr (5, [.ref a0, .ref a1, .ref a2, .ref a3])) ∧ φ a0 = some (.inl (G.2.2.1 1, 4, .inl f0)) ∧ φ a1 = some (.inl (G.2.2.1 0, 4, .inl f1)) ∧ φ a2 = some (.inl (G.2.2.1 1, 4, .inl f2)) ∧ φ a3 = some (.inl (G.2.2.1 0, 4, .inl f3)) ∧ ∀ k, k < 4 → f0 k = v (2 + k) ∧ f1 k = v (6 + k) ∧ f2 k = v (10 + k) ∧ f3 k = v (14 + k)
def FE (G : mt_G) (φ : mu_M) (a : Nat) (v : Nat → Int32) : Prop := ∃ w : Nat, φ a = some (.inr (2, [.int (v 0), .int (v 1), .ref w])) ∧ FW G φ w v
def FL (G : mt_G) (φ : mu_M) (a : Nat) (ep : Int32) (dl : Nat → Nat) : Prop := ∃ (a0 a1 : Nat) (f0 f1 : Nat → Int32), φ a = some (.inr (3, [.int ep, .ref a0, .ref a1])) ∧ φ a0 = some (.inl (G.2.2.1 0, ln (dl 0), .inl f0)) ∧ φ a1 = some (.inl (G.2.2.1 0, ln (dl 1), .inl f1)) ∧ (∀ i, i < ln (dl 0) → f0 i = nI (un (dl 0) i)) ∧ ∀ i, i < ln (dl 1) → f1 i = nI (un (dl 1) i)
theorem FW.mono {G : mt_G} {φ φ' : mu_M} {w : Nat} {v : Nat → Int32} (h : FW G φ w v) (hs : sub φ φ') : FW G φ' w v := by
  obtain ⟨a0, a1, a2, a3, f0, f1, f2, f3, h0, h1, h2, h3, h4, h5⟩ := h
  exact ⟨a0, a1, a2, a3, f0, f1, f2, f3, hs _ _ h0, hs _ _ h1, hs _ _ h2, hs _ _ h3, hs _ _ h4, h5⟩
theorem FE.mono {G : mt_G} {φ φ' : mu_M} {a : Nat} {v : Nat → Int32} (h : FE G φ a v) (hs : sub φ φ') : FE G φ' a v := by
  obtain ⟨w, h0, h1⟩ := h
  exact ⟨w, hs _ _ h0, h1.mono hs⟩
theorem FL.mono {G : mt_G} {φ φ' : mu_M} {a : Nat} {ep : Int32} {dl : Nat → Nat} (h : FL G φ a ep dl) (hs : sub φ φ') : FL G φ' a ep dl := by
  obtain ⟨a0, a1, f0, f1, h0, h1, h2, h3, h4⟩ := h
  exact ⟨a0, a1, f0, f1, hs _ _ h0, hs _ _ h1, hs _ _ h2, h3, h4⟩
def vNone : Nat → Int32 := fun _ => 0
def vJunk : Nat → Int32 := fun i => if i = 0 then 3 else 0
def vTrim : Nat → Int32 := fun i => if i = 0 then 4 else 0
/-- the cells hold the state σ, δ: rows 0 .. 47 of σ are the roles, eR u o the entries, 501 + c the layout that client c knows (500: the installed one): its epoch at 0; δ (1 + c) (δ 0): its two rows as digits -/
def Cx (G : mt_G) (μ φ : mu_M) (ad : Nat → Nat) (g : dg) (σ : sg) (δ : dg) : Prop :=
  Rp G μ ad σ g ∧ Fz G μ φ ad ∧ (∀ u o, u < 6 → o < 60 → FE G φ (g (10 + u) o) (σ (eR u o))) ∧ FE G φ (g 0 3) vNone ∧ FE G φ (g 0 4) vJunk ∧ FE G φ (g 0 5) vTrim ∧ FL G φ (g 0 6) (σ 500 0) (δ 0) ∧ ∀ c, c < 4 → FL G φ (g (16 + c) 5) (σ (501 + c) 0) (δ (1 + c))
theorem Fz.sub {G : mt_G} {μ φ : mu_M} {ad : Nat → Nat} (h : Fz G μ φ ad) : sub φ μ := fun a e q => (h.1 a e q).1.1
section CxGet
variable {G : mt_G} {μ φ : mu_M} {ad : Nat → Nat} {g : dg} {σ : sg} {δ : dg}
theorem Cx.R (h : Cx G μ φ ad g σ δ) : Rp G μ ad σ g := h.1
theorem Cx.z (h : Cx G μ φ ad g σ δ) : Fz G μ φ ad := h.2.1
theorem Cx.ent (h : Cx G μ φ ad g σ δ) {u o : Nat} (hu : u < 6) (ho : o < 60) : ∃ w : Nat, μ (g (10 + u) o) = some (.inr (2, [.int (σ (eR u o) 0), .int (σ (eR u o) 1), .ref w])) ∧ FW G φ w (σ (eR u o)) := by
  obtain ⟨w, h0, h1⟩ := h.2.2.1 u o hu ho
  exact ⟨w, (h.2.1.1 _ _ h0).1.1, h1⟩
theorem Cx.kn (h : Cx G μ φ ad g σ δ) {c : Nat} (hc : c < 4) : ∃ (a0 a1 : Nat) (f0 f1 : Nat → Int32), μ (g (16 + c) 5) = some (.inr (3, [.int (σ (501 + c) 0), .ref a0, .ref a1])) ∧ μ a0 = some (.inl (G.2.2.1 0, ln (δ (1 + c) 0), .inl f0)) ∧ μ a1 = some (.inl (G.2.2.1 0, ln (δ (1 + c) 1), .inl f1)) ∧ (∀ i, i < ln (δ (1 + c) 0) → f0 i = nI (un (δ (1 + c) 0) i)) ∧ ∀ i, i < ln (δ (1 + c) 1) → f1 i = nI (un (δ (1 + c) 1) i) :=
  (h.2.2.2.2.2.2.2 c hc).mono h.2.1.sub
theorem Cx.row (h : Cx G μ φ ad g σ δ) {c : Nat} (hc : c < 4) (o : Nat) : ∃ (a0 a1 rw : Nat) (f : Nat → Int32), μ (g (16 + c) 5) = some (.inr (3, [.int (σ (501 + c) 0), .ref a0, .ref a1])) ∧ (if o % 2 = 0 then a0 else a1) = rw ∧ μ rw = some (.inl (G.2.2.1 0, ln (δ (1 + c) (o % 2)), .inl f)) ∧ ∀ i, i < ln (δ (1 + c) (o % 2)) → f i = nI (un (δ (1 + c) (o % 2)) i) := by
  obtain ⟨a0, a1, f0, f1, h0, h1, h2, h3, h4⟩ := h.kn hc
  rcases (show o % 2 = 0 ∨ o % 2 = 1 by omega) with e | e
  · refine ⟨a0, a1, a0, f0, h0, if_pos e, ?_, ?_⟩ <;> rw [e] <;> assumption
  · refine ⟨a0, a1, a1, f1, h0, if_neg (by omega), ?_, ?_⟩ <;> rw [e] <;> assumption
theorem Cx.rowφ (h : Cx G μ φ ad g σ δ) {c : Nat} (hc : c < 4) (o : Nat) : ∃ (a0 a1 rw : Nat) (f : Nat → Int32), φ (g (16 + c) 5) = some (.inr (3, [.int (σ (501 + c) 0), .ref a0, .ref a1])) ∧ (if o % 2 = 0 then a0 else a1) = rw ∧ φ rw = some (.inl (G.2.2.1 0, ln (δ (1 + c) (o % 2)), .inl f)) ∧ ∀ i, i < ln (δ (1 + c) (o % 2)) → f i = nI (un (δ (1 + c) (o % 2)) i) := by
  obtain ⟨a0, a1, f0, f1, h0, h1, h2, h3, h4⟩ := h.2.2.2.2.2.2.2 c hc
  rcases (show o % 2 = 0 ∨ o % 2 = 1 by omega) with e | e
  · refine ⟨a0, a1, a0, f0, h0, if_pos e, ?_, ?_⟩ <;> rw [e] <;> assumption
  · refine ⟨a0, a1, a1, f1, h0, if_neg (by omega), ?_, ?_⟩ <;> rw [e] <;> assumption
theorem Cx.at (h : Cx G μ φ ad g σ δ) {a : Nat} {e : va_E} (hq : φ a = some e) : μ a = some e := (h.2.1.1 a e hq).1.1
theorem Cx.B (h : Cx G μ φ ad g σ δ) {i : Nat} (hi : i < 48) : G.2.2.2.1 ≤ ad i := h.1.2.2 i hi
end CxGet
/-- an update of a number in a role 3 .. 47 -/
theorem Cx.reg {G : mt_G} {μ μ' φ : mu_M} {ad : Nat → Nat} {g : dg} {σ : sg} {δ : dg} {i k : Nat} {x : Int32} (h : Cx G μ φ ad g σ δ) (hi : i < 48) (hR : Rp G μ' ad (up2 σ i k x) g) (hz : Fz G μ' φ ad) : Cx G μ' φ ad g (up2 σ i k x) δ := by
  obtain ⟨-, -, h3, h4, h5, h6, h7, h8⟩ := h
  refine ⟨hR, hz, fun u o hu ho => ?_, h4, h5, h6, ?_, fun c hc => ?_⟩
  · rw [up2_n (by unfold eR; omega)]; exact h3 u o hu ho
  · rw [up2_n (by omega)]; exact h7
  · rw [up2_n (by omega)]; exact h8 c hc
/-- an entry is put at a unit's offset -/
theorem Cx.cell {G : mt_G} {μ μ' φ : mu_M} {ad : Nat → Nat} {g : dg} {σ : sg} {δ : dg} {u o a : Nat} {v : Nat → Int32} (h : Cx G μ φ ad g σ δ) (hu : u < 6) (ho : o < 60) (hR : Rp G μ' ad σ (up2 g (10 + u) o a)) (hz : Fz G μ' φ ad) (hE : FE G φ a v) : Cx G μ' φ ad (up2 g (10 + u) o a) (va_up σ (eR u o) v) δ := by
  obtain ⟨-, -, h3, h4, h5, h6, h7, h8⟩ := h
  have hlow : ∀ i, i < 48 → (va_up σ (eR u o) v) i = σ i := fun i hi => va_up_ne _ _ (by unfold eR; omega)
  refine ⟨⟨fun i hi => ?_, hR.2.1, hR.2.2⟩, hz, fun u1 o1 hu1 ho1 => ?_, ?_, ?_, ?_, ?_, fun c hc => ?_⟩
  · rw [hR.1 i hi, sh_congr (hlow i hi) rfl]
  · by_cases hu2 : u1 = u
    · subst hu2
      rw [up2_s]
      by_cases ho2 : o1 = o
      · subst ho2
        rw [va_up_self, va_up_self]
        exact hE
      · rw [va_up_ne _ _ ho2, va_up_ne _ _ (by unfold eR; omega)]
        exact h3 u1 o1 hu ho1
    · rw [up2_n (by omega), va_up_ne _ _ (by unfold eR; omega)]
      exact h3 u1 o1 hu1 ho1
  · rw [up2_n (by omega)]; exact h4
  · rw [up2_n (by omega)]; exact h5
  · rw [up2_n (by omega)]; exact h6
  · rw [up2_n (by omega), va_up_ne _ _ (by unfold eR; omega)]; exact h7
  · rw [up2_n (by omega), va_up_ne _ _ (by unfold eR; omega)]; exact h8 c hc
/-- a cell is new, and is not seen from the state -/
theorem Cx.new {G : mt_G} {μ φ : mu_M} {ad : Nat → Nat} {g : dg} {σ : sg} {δ : dg} {q : Nat} {e : va_E} (h : Cx G μ φ ad g σ δ) (hq : μ q = none) : Cx G (mu_up μ q e) φ ad g σ δ :=
  ⟨h.1.new hq, h.2.1.new hq, h.2.2⟩
/-- what is never changed grows -/
theorem Cx.grow {G : mt_G} {μ φ φ' : mu_M} {ad : Nat → Nat} {g : dg} {σ : sg} {δ : dg} (h : Cx G μ φ ad g σ δ) (hz : Fz G μ φ' ad) (hs : sub φ φ') : Cx G μ φ' ad g σ δ :=
  ⟨h.1, hz, fun u o hu ho => (h.2.2.1 u o hu ho).mono hs, h.2.2.2.1.mono hs, h.2.2.2.2.1.mono hs, h.2.2.2.2.2.1.mono hs, h.2.2.2.2.2.2.1.mono hs, fun c hc => (h.2.2.2.2.2.2.2 c hc).mono hs⟩
