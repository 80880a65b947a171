/-! THE REFERENCE: entries, places, writing, playing -/
theorem Ent.congr {τ τ' : sg} {j j' : Nat} {v : Nat → Int32} (h : Ent τ j v) (h1 : ∀ i, 1 ≤ i → i ≤ 5 → τ' i j' = τ i j) (h6 : ∀ k, k < 4 → τ' 6 (4 * j' + k) = τ 6 (4 * j + k) ∧ τ' 7 (4 * j' + k) = τ 7 (4 * j + k)) : Ent τ' j' v := by
  unfold Ent at h ⊢
  rw [h1 1 (by omega) (by omega), h1 2 (by omega) (by omega), h1 3 (by omega) (by omega), h1 4 (by omega) (by omega), h1 5 (by omega) (by omega)]
  rcases h with h | h | h | h
  · exact Or.inl h
  · exact Or.inr (Or.inl h)
  · refine Or.inr (Or.inr (Or.inl ⟨h.1, h.2.1, h.2.2.1, h.2.2.2.1, h.2.2.2.2.1, fun k hk => ?_⟩))
    rw [(h6 k hk).1, (h6 k hk).2]
    exact h.2.2.2.2.2 k hk
  · exact Or.inr (Or.inr (Or.inr h))
theorem Ent.kd {τ : sg} {j : Nat} {v : Nat → Int32} (h : Ent τ j v) : τ 1 j = v 0 := by
  rcases h with h | h | h | h | h
  · rw [h.1, h.2]
  · obtain ⟨h1, k, -, -, h2⟩ := h
    rw [h1, h2]; rfl
  · rw [h.1, h.2.1]
  · rw [h.1, h.2]; rfl
  · rw [h.1, h.2]
theorem RP.low {τ τ' σ : sg} {δ : dg} (h : RP τ σ δ) (h0 : ∀ i, i = 0 ∨ 8 ≤ i → τ' i = τ i) (h1 : ∀ i j, 1 ≤ i → i ≤ 5 → j < 360 → τ' i j = τ i j) (h6 : ∀ j, j < 1440 → τ' 6 j = τ 6 j ∧ τ' 7 j = τ 7 j) : RP τ' σ δ :=
  h.cong h0 (fun _ _ => rfl) (fun u o hu ho => (h.en u o hu ho).congr (fun i a b => h1 i _ a b (by omega)) (fun k hk => h6 _ (by omega))) h.p8
/-- what copy does -/
def CP (τ τ' : sg) (fr to : Nat) : Prop := (∀ i, i = 0 ∨ 8 ≤ i → τ' i = τ i) ∧ (∀ i, 1 ≤ i → i ≤ 5 → τ' i = va_up (τ i) to (τ i fr)) ∧ ∀ j k, j < 361 → k < 4 → τ' 6 (4 * j + k) = τ 6 (4 * (if j = to then fr else j) + k) ∧ τ' 7 (4 * j + k) = τ 7 (4 * (if j = to then fr else j) + k)
theorem CP.ent {τ τ' : sg} {fr to : Nat} {v : Nat → Int32} (h : CP τ τ' fr to) (ht : to < 361) (hE : Ent τ fr v) : Ent τ' to v :=
  hE.congr (fun i a b => by rw [h.2.1 i a b, va_up_self]) (fun k hk => by
    have q := h.2.2 to k ht hk
    rw [if_pos rfl] at q; exact q)
theorem CP.off {τ τ' : sg} {fr to j : Nat} {v : Nat → Int32} (h : CP τ τ' fr to) (hj : j < 361) (hne : j ≠ to) (hE : Ent τ j v) : Ent τ' j v :=
  hE.congr (fun i a b => by rw [h.2.1 i a b, va_up_ne _ _ hne]) (fun k hk => by
    have q := h.2.2 j k hj hk
    rw [if_neg hne] at q; exact q)
theorem RP.scr {τ τ' σ : sg} {δ : dg} {fr : Nat} (h : RP τ σ δ) (hC : CP τ τ' fr 360) : RP τ' σ δ :=
  h.cong hC.1 (fun _ _ => rfl) (fun u o hu ho => hC.off (by omega) (by omega) (h.en u o hu ho)) h.p8
def vB (v : Nat → Int32) : Prop := ∀ k, k < 4 → (v (2 + k) = 0 ∨ v (2 + k) = 1) ∧ (v (10 + k) = 0 ∨ v (10 + k) = 1)
theorem RP.cell {τ τ' σ : sg} {δ : dg} {u o : Nat} {v : Nat → Int32} (h : RP τ σ δ) (hu : u < 6) (ho : o < 60) (h0 : ∀ i, i = 0 ∨ 8 ≤ i → τ' i = τ i) (hE : Ent τ' (60 * u + o) v) (hoff : ∀ j w, j < 360 → j ≠ 60 * u + o → Ent τ j w → Ent τ' j w) (hb : vB v) : RP τ' (va_up σ (eR u o) v) δ := by
  refine h.cong h0 (fun i hi => va_up_ne _ _ (by unfold eR; omega)) (fun u1 o1 hu1 ho1 => ?_) (fun u1 o1 hu1 ho1 => ?_)
  · by_cases e : u1 = u ∧ o1 = o
    · obtain ⟨rfl, rfl⟩ := e
      rw [va_up_self]; exact hE
    · rw [va_up_ne _ _ (by unfold eR; omega)]
      exact hoff _ _ (by omega) (by omega) (h.en u1 o1 hu1 ho1)
  · by_cases e : u1 = u ∧ o1 = o
    · obtain ⟨rfl, rfl⟩ := e
      rw [va_up_self]; exact hb
    · rw [va_up_ne _ _ (by unfold eR; omega)]
      exact h.p8 u1 o1 hu1 ho1
theorem RP.copy {τ τ' σ : sg} {δ : dg} {u o fr : Nat} {v : Nat → Int32} (h : RP τ σ δ) (hu : u < 6) (ho : o < 60) (hC : CP τ τ' fr (60 * u + o)) (hE : Ent τ fr v) (hb : vB v) : RP τ' (va_up σ (eR u o) v) δ :=
  h.cell hu ho hC.1 (hC.ent (by omega) hE) (fun j w hj hne hw => hC.off (by omega) hne hw) hb
theorem vB_junk : vB vJunk := fun k _ => ⟨Or.inl (if_neg (by omega)), Or.inl (if_neg (by omega))⟩
theorem vB_trim : vB vTrim := fun k _ => ⟨Or.inl (if_neg (by omega)), Or.inl (if_neg (by omega))⟩
theorem vB_none : vB vNone := fun k _ => ⟨Or.inl rfl, Or.inl rfl⟩
theorem vB_put (k : Nat) (hk : k < 4) (x : Int32) : vB (vPut k x) := by
  intro j hj
  unfold vPut
  rw [if_neg (by omega), if_neg (by omega), if_neg (by omega), if_neg (by omega), if_neg (by omega), if_neg (by omega)]
  refine ⟨Or.inl rfl, ?_⟩
  by_cases e : 10 + j = 10 + k
  · rw [if_pos e]; exact Or.inr rfl
  · rw [if_neg e, if_neg (by omega)]; exact Or.inl rfl
theorem RP.kind3 {τ σ : sg} {δ : dg} {u o : Nat} (h : RP τ σ δ) (hu : u < 6) (ho : o < 60) : RP (up2 τ 1 (60 * u + o) 3) (va_up σ (eR u o) vJunk) δ :=
  h.cell hu ho (fun i hi => up2_n (by omega)) (Or.inr (Or.inr (Or.inr (Or.inl ⟨by rw [up2_s, va_up_self], rfl⟩)))) (fun j w hj hne hw => hw.congr (fun i a b => by
    by_cases e : i = 1
    · rw [e, up2_s, va_up_ne _ _ hne]
    · rw [up2_n e]) (fun k hk => ⟨rfl, rfl⟩)) vB_junk
theorem RP.kind4 {τ σ : sg} {δ : dg} {u o : Nat} (h : RP τ σ δ) (hu : u < 6) (ho : o < 60) : RP (up2 τ 1 (60 * u + o) 4) (va_up σ (eR u o) vTrim) δ :=
  h.cell hu ho (fun i hi => up2_n (by omega)) (Or.inr (Or.inr (Or.inr (Or.inr ⟨by rw [up2_s, va_up_self], rfl⟩)))) (fun j w hj hne hw => hw.congr (fun i a b => by
    by_cases e : i = 1
    · rw [e, up2_s, va_up_ne _ _ hne]
    · rw [up2_n e]) (fun k hk => ⟨rfl, rfl⟩)) vB_trim
section RPup
variable {τ σ : sg} {δ : dg}
theorem RP.f0 (hR : RP τ σ δ) (x : Int32) : RP (up2 τ 0 0 x) σ δ := ⟨(fun u9 o9 hu9 ho9 => by have q9 := hR.en u9 o9 hu9 ho9; first | exact q9 | (simp (disch := omega) only [up2_n, up2_s, va_up_ne, va_up_self] ; exact q9) | (simp (disch := omega) only [eR, up2_n, up2_s, va_up_ne, va_up_self] at q9 ⊢ ; exact q9)), (fun u9 hu9 => by have q9 := hR.dn u9 hu9; first | exact q9 | (simp (disch := omega) only [up2_n, up2_s, va_up_ne, va_up_self] ; exact q9) | (simp (disch := omega) only [eR, up2_n, up2_s, va_up_ne, va_up_self] at q9 ⊢ ; exact q9)), (fun u9 hu9 => by have q9 := hR.sl u9 hu9; first | exact q9 | (simp (disch := omega) only [up2_n, up2_s, va_up_ne, va_up_self] ; exact q9) | (simp (disch := omega) only [eR, up2_n, up2_s, va_up_ne, va_up_self] at q9 ⊢ ; exact q9)), (by have q9 := hR.ep; first | exact q9 | (simp (disch := omega) only [up2_n, up2_s, va_up_ne, va_up_self] ; exact q9) | (simp (disch := omega) only [eR, up2_n, up2_s, va_up_ne, va_up_self] at q9 ⊢ ; exact q9)), (fun b9 hb9 => by have q9 := hR.rw b9 hb9; first | exact q9 | (simp (disch := omega) only [up2_n, up2_s, va_up_ne, va_up_self] ; exact q9) | (simp (disch := omega) only [eR, up2_n, up2_s, va_up_ne, va_up_self] at q9 ⊢ ; exact q9)), (by have q9 := hR.sq; first | exact q9 | (simp (disch := omega) only [up2_n, up2_s, va_up_ne, va_up_self] ; exact q9) | (simp (disch := omega) only [eR, up2_n, up2_s, va_up_ne, va_up_self] at q9 ⊢ ; exact q9)), (by have q9 := hR.ls; first | exact q9 | (simp (disch := omega) only [up2_n, up2_s, va_up_ne, va_up_self] ; exact q9) | (simp (disch := omega) only [eR, up2_n, up2_s, va_up_ne, va_up_self] at q9 ⊢ ; exact q9)), (by have q9 := hR.nx; first | exact q9 | (simp (disch := omega) only [up2_n, up2_s, va_up_ne, va_up_self] ; exact q9) | (simp (disch := omega) only [eR, up2_n, up2_s, va_up_ne, va_up_self] at q9 ⊢ ; exact q9)), (fun c9 hc9 => by have q9 := hR.kn c9 hc9; first | exact q9 | (simp (disch := omega) only [up2_n, up2_s, va_up_ne, va_up_self] ; exact q9) | (simp (disch := omega) only [eR, up2_n, up2_s, va_up_ne, va_up_self] at q9 ⊢ ; exact q9)), (fun c9 b9 hc9 hb9 => by have q9 := hR.kr c9 b9 hc9 hb9; first | exact q9 | (simp (disch := omega) only [up2_n, up2_s, va_up_ne, va_up_self] ; exact q9) | (simp (disch := omega) only [eR, up2_n, up2_s, va_up_ne, va_up_self] at q9 ⊢ ; exact q9)), (fun c9 hc9 => by have q9 := hR.po c9 hc9; first | exact q9 | (simp (disch := omega) only [up2_n, up2_s, va_up_ne, va_up_self] ; exact q9) | (simp (disch := omega) only [eR, up2_n, up2_s, va_up_ne, va_up_self] at q9 ⊢ ; exact q9)), (fun c9 k9 hc9 hk9 => by have q9 := hR.nw c9 k9 hc9 hk9; first | exact q9 | (simp (disch := omega) only [up2_n, up2_s, va_up_ne, va_up_self] ; exact q9) | (simp (disch := omega) only [eR, up2_n, up2_s, va_up_ne, va_up_self] at q9 ⊢ ; exact q9)), (fun c9 k9 hc9 hk9 => by have q9 := hR.ag c9 k9 hc9 hk9; first | exact q9 | (simp (disch := omega) only [up2_n, up2_s, va_up_ne, va_up_self] ; exact q9) | (simp (disch := omega) only [eR, up2_n, up2_s, va_up_ne, va_up_self] at q9 ⊢ ; exact q9)), (fun c9 hc9 => by have q9 := hR.op c9 hc9; first | exact q9 | (simp (disch := omega) only [up2_n, up2_s, va_up_ne, va_up_self] ; exact q9) | (simp (disch := omega) only [eR, up2_n, up2_s, va_up_ne, va_up_self] at q9 ⊢ ; exact q9)), (fun c9 hc9 => by have q9 := hR.se c9 hc9; first | exact q9 | (simp (disch := omega) only [up2_n, up2_s, va_up_ne, va_up_self] ; exact q9) | (simp (disch := omega) only [eR, up2_n, up2_s, va_up_ne, va_up_self] at q9 ⊢ ; exact q9)), (fun c9 k9 hc9 hk9 => by have q9 := hR.sa c9 k9 hc9 hk9; first | exact q9 | (simp (disch := omega) only [up2_n, up2_s, va_up_ne, va_up_self] ; exact q9) | (simp (disch := omega) only [eR, up2_n, up2_s, va_up_ne, va_up_self] at q9 ⊢ ; exact q9)), (fun c9 hc9 => by have q9 := hR.gi c9 hc9; first | exact q9 | (simp (disch := omega) only [up2_n, up2_s, va_up_ne, va_up_self] ; exact q9) | (simp (disch := omega) only [eR, up2_n, up2_s, va_up_ne, va_up_self] at q9 ⊢ ; exact q9)), (fun c9 k9 hc9 hk9 => by have q9 := hR.gv c9 k9 hc9 hk9; first | exact q9 | (simp (disch := omega) only [up2_n, up2_s, va_up_ne, va_up_self] ; exact q9) | (simp (disch := omega) only [eR, up2_n, up2_s, va_up_ne, va_up_self] at q9 ⊢ ; exact q9)), (fun k9 b9 hk9 hb9 => by have q9 := hR.p1 k9 b9 hk9 hb9; first | exact q9 | (simp (disch := omega) only [up2_n, up2_s, va_up_ne, va_up_self] ; exact q9) | (simp (disch := omega) only [eR, up2_n, up2_s, va_up_ne, va_up_self] at q9 ⊢ ; exact q9)), (by have q9 := hR.p2; first | exact q9 | (simp (disch := omega) only [up2_n, up2_s, va_up_ne, va_up_self] ; exact q9) | (simp (disch := omega) only [eR, up2_n, up2_s, va_up_ne, va_up_self] at q9 ⊢ ; exact q9)), (fun c9 hc9 => by have q9 := hR.p3 c9 hc9; first | exact q9 | (simp (disch := omega) only [up2_n, up2_s, va_up_ne, va_up_self] ; exact q9) | (simp (disch := omega) only [eR, up2_n, up2_s, va_up_ne, va_up_self] at q9 ⊢ ; exact q9)), (by have q9 := hR.p4; first | exact q9 | (simp (disch := omega) only [up2_n, up2_s, va_up_ne, va_up_self] ; exact q9) | (simp (disch := omega) only [eR, up2_n, up2_s, va_up_ne, va_up_self] at q9 ⊢ ; exact q9)), (fun u9 hu9 => by have q9 := hR.p5 u9 hu9; first | exact q9 | (simp (disch := omega) only [up2_n, up2_s, va_up_ne, va_up_self] ; exact q9) | (simp (disch := omega) only [eR, up2_n, up2_s, va_up_ne, va_up_self] at q9 ⊢ ; exact q9)), (fun c9 hc9 => by have q9 := hR.p6 c9 hc9; first | exact q9 | (simp (disch := omega) only [up2_n, up2_s, va_up_ne, va_up_self] ; exact q9) | (simp (disch := omega) only [eR, up2_n, up2_s, va_up_ne, va_up_self] at q9 ⊢ ; exact q9)), (fun c9 k9 hc9 hk9 => by have q9 := hR.p7 c9 k9 hc9 hk9; first | exact q9 | (simp (disch := omega) only [up2_n, up2_s, va_up_ne, va_up_self] ; exact q9) | (simp (disch := omega) only [eR, up2_n, up2_s, va_up_ne, va_up_self] at q9 ⊢ ; exact q9)), (fun u9 o9 hu9 ho9 => by have q9 := hR.p8 u9 o9 hu9 ho9; first | exact q9 | (simp (disch := omega) only [up2_n, up2_s, va_up_ne, va_up_self] ; exact q9) | (simp (disch := omega) only [eR, up2_n, up2_s, va_up_ne, va_up_self] at q9 ⊢ ; exact q9))⟩
theorem RP.f5 (hR : RP τ σ δ) (x : Int32) : RP (up2 τ 0 5 x) σ δ := ⟨(fun u9 o9 hu9 ho9 => by have q9 := hR.en u9 o9 hu9 ho9; first | exact q9 | (simp (disch := omega) only [up2_n, up2_s, va_up_ne, va_up_self] ; exact q9) | (simp (disch := omega) only [eR, up2_n, up2_s, va_up_ne, va_up_self] at q9 ⊢ ; exact q9)), (fun u9 hu9 => by have q9 := hR.dn u9 hu9; first | exact q9 | (simp (disch := omega) only [up2_n, up2_s, va_up_ne, va_up_self] ; exact q9) | (simp (disch := omega) only [eR, up2_n, up2_s, va_up_ne, va_up_self] at q9 ⊢ ; exact q9)), (fun u9 hu9 => by have q9 := hR.sl u9 hu9; first | exact q9 | (simp (disch := omega) only [up2_n, up2_s, va_up_ne, va_up_self] ; exact q9) | (simp (disch := omega) only [eR, up2_n, up2_s, va_up_ne, va_up_self] at q9 ⊢ ; exact q9)), (by have q9 := hR.ep; first | exact q9 | (simp (disch := omega) only [up2_n, up2_s, va_up_ne, va_up_self] ; exact q9) | (simp (disch := omega) only [eR, up2_n, up2_s, va_up_ne, va_up_self] at q9 ⊢ ; exact q9)), (fun b9 hb9 => by have q9 := hR.rw b9 hb9; first | exact q9 | (simp (disch := omega) only [up2_n, up2_s, va_up_ne, va_up_self] ; exact q9) | (simp (disch := omega) only [eR, up2_n, up2_s, va_up_ne, va_up_self] at q9 ⊢ ; exact q9)), (by have q9 := hR.sq; first | exact q9 | (simp (disch := omega) only [up2_n, up2_s, va_up_ne, va_up_self] ; exact q9) | (simp (disch := omega) only [eR, up2_n, up2_s, va_up_ne, va_up_self] at q9 ⊢ ; exact q9)), (by have q9 := hR.ls; first | exact q9 | (simp (disch := omega) only [up2_n, up2_s, va_up_ne, va_up_self] ; exact q9) | (simp (disch := omega) only [eR, up2_n, up2_s, va_up_ne, va_up_self] at q9 ⊢ ; exact q9)), (by have q9 := hR.nx; first | exact q9 | (simp (disch := omega) only [up2_n, up2_s, va_up_ne, va_up_self] ; exact q9) | (simp (disch := omega) only [eR, up2_n, up2_s, va_up_ne, va_up_self] at q9 ⊢ ; exact q9)), (fun c9 hc9 => by have q9 := hR.kn c9 hc9; first | exact q9 | (simp (disch := omega) only [up2_n, up2_s, va_up_ne, va_up_self] ; exact q9) | (simp (disch := omega) only [eR, up2_n, up2_s, va_up_ne, va_up_self] at q9 ⊢ ; exact q9)), (fun c9 b9 hc9 hb9 => by have q9 := hR.kr c9 b9 hc9 hb9; first | exact q9 | (simp (disch := omega) only [up2_n, up2_s, va_up_ne, va_up_self] ; exact q9) | (simp (disch := omega) only [eR, up2_n, up2_s, va_up_ne, va_up_self] at q9 ⊢ ; exact q9)), (fun c9 hc9 => by have q9 := hR.po c9 hc9; first | exact q9 | (simp (disch := omega) only [up2_n, up2_s, va_up_ne, va_up_self] ; exact q9) | (simp (disch := omega) only [eR, up2_n, up2_s, va_up_ne, va_up_self] at q9 ⊢ ; exact q9)), (fun c9 k9 hc9 hk9 => by have q9 := hR.nw c9 k9 hc9 hk9; first | exact q9 | (simp (disch := omega) only [up2_n, up2_s, va_up_ne, va_up_self] ; exact q9) | (simp (disch := omega) only [eR, up2_n, up2_s, va_up_ne, va_up_self] at q9 ⊢ ; exact q9)), (fun c9 k9 hc9 hk9 => by have q9 := hR.ag c9 k9 hc9 hk9; first | exact q9 | (simp (disch := omega) only [up2_n, up2_s, va_up_ne, va_up_self] ; exact q9) | (simp (disch := omega) only [eR, up2_n, up2_s, va_up_ne, va_up_self] at q9 ⊢ ; exact q9)), (fun c9 hc9 => by have q9 := hR.op c9 hc9; first | exact q9 | (simp (disch := omega) only [up2_n, up2_s, va_up_ne, va_up_self] ; exact q9) | (simp (disch := omega) only [eR, up2_n, up2_s, va_up_ne, va_up_self] at q9 ⊢ ; exact q9)), (fun c9 hc9 => by have q9 := hR.se c9 hc9; first | exact q9 | (simp (disch := omega) only [up2_n, up2_s, va_up_ne, va_up_self] ; exact q9) | (simp (disch := omega) only [eR, up2_n, up2_s, va_up_ne, va_up_self] at q9 ⊢ ; exact q9)), (fun c9 k9 hc9 hk9 => by have q9 := hR.sa c9 k9 hc9 hk9; first | exact q9 | (simp (disch := omega) only [up2_n, up2_s, va_up_ne, va_up_self] ; exact q9) | (simp (disch := omega) only [eR, up2_n, up2_s, va_up_ne, va_up_self] at q9 ⊢ ; exact q9)), (fun c9 hc9 => by have q9 := hR.gi c9 hc9; first | exact q9 | (simp (disch := omega) only [up2_n, up2_s, va_up_ne, va_up_self] ; exact q9) | (simp (disch := omega) only [eR, up2_n, up2_s, va_up_ne, va_up_self] at q9 ⊢ ; exact q9)), (fun c9 k9 hc9 hk9 => by have q9 := hR.gv c9 k9 hc9 hk9; first | exact q9 | (simp (disch := omega) only [up2_n, up2_s, va_up_ne, va_up_self] ; exact q9) | (simp (disch := omega) only [eR, up2_n, up2_s, va_up_ne, va_up_self] at q9 ⊢ ; exact q9)), (fun k9 b9 hk9 hb9 => by have q9 := hR.p1 k9 b9 hk9 hb9; first | exact q9 | (simp (disch := omega) only [up2_n, up2_s, va_up_ne, va_up_self] ; exact q9) | (simp (disch := omega) only [eR, up2_n, up2_s, va_up_ne, va_up_self] at q9 ⊢ ; exact q9)), (by have q9 := hR.p2; first | exact q9 | (simp (disch := omega) only [up2_n, up2_s, va_up_ne, va_up_self] ; exact q9) | (simp (disch := omega) only [eR, up2_n, up2_s, va_up_ne, va_up_self] at q9 ⊢ ; exact q9)), (fun c9 hc9 => by have q9 := hR.p3 c9 hc9; first | exact q9 | (simp (disch := omega) only [up2_n, up2_s, va_up_ne, va_up_self] ; exact q9) | (simp (disch := omega) only [eR, up2_n, up2_s, va_up_ne, va_up_self] at q9 ⊢ ; exact q9)), (by have q9 := hR.p4; first | exact q9 | (simp (disch := omega) only [up2_n, up2_s, va_up_ne, va_up_self] ; exact q9) | (simp (disch := omega) only [eR, up2_n, up2_s, va_up_ne, va_up_self] at q9 ⊢ ; exact q9)), (fun u9 hu9 => by have q9 := hR.p5 u9 hu9; first | exact q9 | (simp (disch := omega) only [up2_n, up2_s, va_up_ne, va_up_self] ; exact q9) | (simp (disch := omega) only [eR, up2_n, up2_s, va_up_ne, va_up_self] at q9 ⊢ ; exact q9)), (fun c9 hc9 => by have q9 := hR.p6 c9 hc9; first | exact q9 | (simp (disch := omega) only [up2_n, up2_s, va_up_ne, va_up_self] ; exact q9) | (simp (disch := omega) only [eR, up2_n, up2_s, va_up_ne, va_up_self] at q9 ⊢ ; exact q9)), (fun c9 k9 hc9 hk9 => by have q9 := hR.p7 c9 k9 hc9 hk9; first | exact q9 | (simp (disch := omega) only [up2_n, up2_s, va_up_ne, va_up_self] ; exact q9) | (simp (disch := omega) only [eR, up2_n, up2_s, va_up_ne, va_up_self] at q9 ⊢ ; exact q9)), (fun u9 o9 hu9 ho9 => by have q9 := hR.p8 u9 o9 hu9 ho9; first | exact q9 | (simp (disch := omega) only [up2_n, up2_s, va_up_ne, va_up_self] ; exact q9) | (simp (disch := omega) only [eR, up2_n, up2_s, va_up_ne, va_up_self] at q9 ⊢ ; exact q9))⟩
theorem RP.pos (hR : RP τ σ δ) {c q : Nat} (hc : c < 4) (hq : q ≤ 60) : RP (up2 τ 13 c (nI q)) (up2 σ (16 + c) 4 (nI q)) δ := by
  have e1 : ∀ i, i < 4 → up2 σ (16 + c) 4 (nI q) (16 + i) 3 = σ (16 + i) 3 := fun i hi => by
    by_cases e : i = c
    · rw [e, up2_s, va_up_ne _ _ (by omega)]
    · rw [up2_n (by omega)]
  have e2 : ∀ i, i < 4 → i ≠ c → up2 σ (16 + c) 4 (nI q) (16 + i) 4 = σ (16 + i) 4 := fun i hi e => by rw [up2_n (by omega)]
  exact ⟨(fun u9 o9 hu9 ho9 => by have q9 := hR.en u9 o9 hu9 ho9; first | exact q9 | (simp (disch := omega) only [up2_n, up2_s, va_up_ne, va_up_self] ; exact q9) | (simp (disch := omega) only [eR, up2_n, up2_s, va_up_ne, va_up_self] at q9 ⊢ ; exact q9)), (fun u9 hu9 => by have q9 := hR.dn u9 hu9; first | exact q9 | (simp (disch := omega) only [up2_n, up2_s, va_up_ne, va_up_self] ; exact q9) | (simp (disch := omega) only [eR, up2_n, up2_s, va_up_ne, va_up_self] at q9 ⊢ ; exact q9)), (fun u9 hu9 => by have q9 := hR.sl u9 hu9; first | exact q9 | (simp (disch := omega) only [up2_n, up2_s, va_up_ne, va_up_self] ; exact q9) | (simp (disch := omega) only [eR, up2_n, up2_s, va_up_ne, va_up_self] at q9 ⊢ ; exact q9)), (by have q9 := hR.ep; first | exact q9 | (simp (disch := omega) only [up2_n, up2_s, va_up_ne, va_up_self] ; exact q9) | (simp (disch := omega) only [eR, up2_n, up2_s, va_up_ne, va_up_self] at q9 ⊢ ; exact q9)), (fun b9 hb9 => by have q9 := hR.rw b9 hb9; first | exact q9 | (simp (disch := omega) only [up2_n, up2_s, va_up_ne, va_up_self] ; exact q9) | (simp (disch := omega) only [eR, up2_n, up2_s, va_up_ne, va_up_self] at q9 ⊢ ; exact q9)), (by have q9 := hR.sq; first | exact q9 | (simp (disch := omega) only [up2_n, up2_s, va_up_ne, va_up_self] ; exact q9) | (simp (disch := omega) only [eR, up2_n, up2_s, va_up_ne, va_up_self] at q9 ⊢ ; exact q9)), (by have q9 := hR.ls; first | exact q9 | (simp (disch := omega) only [up2_n, up2_s, va_up_ne, va_up_self] ; exact q9) | (simp (disch := omega) only [eR, up2_n, up2_s, va_up_ne, va_up_self] at q9 ⊢ ; exact q9)), (by have q9 := hR.nx; first | exact q9 | (simp (disch := omega) only [up2_n, up2_s, va_up_ne, va_up_self] ; exact q9) | (simp (disch := omega) only [eR, up2_n, up2_s, va_up_ne, va_up_self] at q9 ⊢ ; exact q9)), (fun c9 hc9 => by have q9 := hR.kn c9 hc9; first | exact q9 | (simp (disch := omega) only [up2_n, up2_s, va_up_ne, va_up_self] ; exact q9) | (simp (disch := omega) only [eR, up2_n, up2_s, va_up_ne, va_up_self] at q9 ⊢ ; exact q9)), (fun c9 b9 hc9 hb9 => by have q9 := hR.kr c9 b9 hc9 hb9; first | exact q9 | (simp (disch := omega) only [up2_n, up2_s, va_up_ne, va_up_self] ; exact q9) | (simp (disch := omega) only [eR, up2_n, up2_s, va_up_ne, va_up_self] at q9 ⊢ ; exact q9)), (fun i hi => (Decidable.em (i = c)).elim (fun e => by rw [e, up2_s, up2_s, va_up_self, va_up_self]) (fun e => by rw [e2 i hi e, up2_s, va_up_ne _ _ e]; exact hR.po i hi)), (fun c9 k9 hc9 hk9 => by have q9 := hR.nw c9 k9 hc9 hk9; first | exact q9 | (simp (disch := omega) only [up2_n, up2_s, va_up_ne, va_up_self] ; exact q9) | (simp (disch := omega) only [eR, up2_n, up2_s, va_up_ne, va_up_self] at q9 ⊢ ; exact q9)), (fun c9 k9 hc9 hk9 => by have q9 := hR.ag c9 k9 hc9 hk9; first | exact q9 | (simp (disch := omega) only [up2_n, up2_s, va_up_ne, va_up_self] ; exact q9) | (simp (disch := omega) only [eR, up2_n, up2_s, va_up_ne, va_up_self] at q9 ⊢ ; exact q9)), (fun i hi => by rw [e1 i hi]; exact hR.op i hi), (fun c9 hc9 => by have q9 := hR.se c9 hc9; first | exact q9 | (simp (disch := omega) only [up2_n, up2_s, va_up_ne, va_up_self] ; exact q9) | (simp (disch := omega) only [eR, up2_n, up2_s, va_up_ne, va_up_self] at q9 ⊢ ; exact q9)), (fun c9 k9 hc9 hk9 => by have q9 := hR.sa c9 k9 hc9 hk9; first | exact q9 | (simp (disch := omega) only [up2_n, up2_s, va_up_ne, va_up_self] ; exact q9) | (simp (disch := omega) only [eR, up2_n, up2_s, va_up_ne, va_up_self] at q9 ⊢ ; exact q9)), (fun c9 hc9 => by have q9 := hR.gi c9 hc9; first | exact q9 | (simp (disch := omega) only [up2_n, up2_s, va_up_ne, va_up_self] ; exact q9) | (simp (disch := omega) only [eR, up2_n, up2_s, va_up_ne, va_up_self] at q9 ⊢ ; exact q9)), (fun c9 k9 hc9 hk9 => by have q9 := hR.gv c9 k9 hc9 hk9; first | exact q9 | (simp (disch := omega) only [up2_n, up2_s, va_up_ne, va_up_self] ; exact q9) | (simp (disch := omega) only [eR, up2_n, up2_s, va_up_ne, va_up_self] at q9 ⊢ ; exact q9)), (fun k9 b9 hk9 hb9 => by have q9 := hR.p1 k9 b9 hk9 hb9; first | exact q9 | (simp (disch := omega) only [up2_n, up2_s, va_up_ne, va_up_self] ; exact q9) | (simp (disch := omega) only [eR, up2_n, up2_s, va_up_ne, va_up_self] at q9 ⊢ ; exact q9)), (by have q9 := hR.p2; first | exact q9 | (simp (disch := omega) only [up2_n, up2_s, va_up_ne, va_up_self] ; exact q9) | (simp (disch := omega) only [eR, up2_n, up2_s, va_up_ne, va_up_self] at q9 ⊢ ; exact q9)), (fun i hi => (Decidable.em (i = c)).elim (fun e => by rw [e, up2_s, va_up_self]; exact ⟨q, hq, rfl⟩) (fun e => by rw [e2 i hi e]; exact hR.p3 i hi)), (by have q9 := hR.p4; first | exact q9 | (simp (disch := omega) only [up2_n, up2_s, va_up_ne, va_up_self] ; exact q9) | (simp (disch := omega) only [eR, up2_n, up2_s, va_up_ne, va_up_self] at q9 ⊢ ; exact q9)), (fun u9 hu9 => by have q9 := hR.p5 u9 hu9; first | exact q9 | (simp (disch := omega) only [up2_n, up2_s, va_up_ne, va_up_self] ; exact q9) | (simp (disch := omega) only [eR, up2_n, up2_s, va_up_ne, va_up_self] at q9 ⊢ ; exact q9)), (fun i hi => by rw [e1 i hi]; exact hR.p6 i hi), (fun c9 k9 hc9 hk9 => by have q9 := hR.p7 c9 k9 hc9 hk9; first | exact q9 | (simp (disch := omega) only [up2_n, up2_s, va_up_ne, va_up_self] ; exact q9) | (simp (disch := omega) only [eR, up2_n, up2_s, va_up_ne, va_up_self] at q9 ⊢ ; exact q9)), (fun u9 o9 hu9 ho9 => by have q9 := hR.p8 u9 o9 hu9 ho9; first | exact q9 | (simp (disch := omega) only [up2_n, up2_s, va_up_ne, va_up_self] ; exact q9) | (simp (disch := omega) only [eR, up2_n, up2_s, va_up_ne, va_up_self] at q9 ⊢ ; exact q9))⟩
theorem RP.place (hR : RP τ σ δ) {c k : Nat} (hc : c < 4) (hk : k < 4) (x y : Int32) : RP (up2 (up2 τ 14 (4 * c + k) x) 15 (4 * c + k) y) (up2 (up2 σ (20 + c) k x) (24 + c) k y) δ := by
  have e1 : ∀ i j, i < 4 → j < 4 → up2 (up2 σ (20 + c) k x) (24 + c) k y (20 + i) j = va_up (τ 14) (4 * c + k) x (4 * i + j) := fun i j hi hj => by
    rw [up2_n (by omega)]
    by_cases e : i = c
    · rw [e, up2_s]
      by_cases e3 : j = k
      · rw [e3, va_up_self, va_up_self]
      · rw [va_up_ne _ _ e3, va_up_ne _ _ (by omega)]; exact (hR.nw c j hc hj).symm
    · rw [up2_n (by omega), va_up_ne _ _ (by omega)]; exact (hR.nw i j hi hj).symm
  have e2 : ∀ i j, i < 4 → j < 4 → up2 (up2 σ (20 + c) k x) (24 + c) k y (24 + i) j = va_up (τ 15) (4 * c + k) y (4 * i + j) := fun i j hi hj => by
    by_cases e : i = c
    · rw [e, up2_s, up2_n (by omega)]
      by_cases e3 : j = k
      · rw [e3, va_up_self, va_up_self]
      · rw [va_up_ne _ _ e3, va_up_ne _ _ (by omega)]; exact (hR.ag c j hc hj).symm
    · rw [up2_n (by omega), up2_n (by omega), va_up_ne _ _ (by omega)]; exact (hR.ag i j hi hj).symm
  exact ⟨(fun u9 o9 hu9 ho9 => by have q9 := hR.en u9 o9 hu9 ho9; first | exact q9 | (simp (disch := omega) only [up2_n, up2_s, va_up_ne, va_up_self] ; exact q9) | (simp (disch := omega) only [eR, up2_n, up2_s, va_up_ne, va_up_self] at q9 ⊢ ; exact q9)), (fun u9 hu9 => by have q9 := hR.dn u9 hu9; first | exact q9 | (simp (disch := omega) only [up2_n, up2_s, va_up_ne, va_up_self] ; exact q9) | (simp (disch := omega) only [eR, up2_n, up2_s, va_up_ne, va_up_self] at q9 ⊢ ; exact q9)), (fun u9 hu9 => by have q9 := hR.sl u9 hu9; first | exact q9 | (simp (disch := omega) only [up2_n, up2_s, va_up_ne, va_up_self] ; exact q9) | (simp (disch := omega) only [eR, up2_n, up2_s, va_up_ne, va_up_self] at q9 ⊢ ; exact q9)), (by have q9 := hR.ep; first | exact q9 | (simp (disch := omega) only [up2_n, up2_s, va_up_ne, va_up_self] ; exact q9) | (simp (disch := omega) only [eR, up2_n, up2_s, va_up_ne, va_up_self] at q9 ⊢ ; exact q9)), (fun b9 hb9 => by have q9 := hR.rw b9 hb9; first | exact q9 | (simp (disch := omega) only [up2_n, up2_s, va_up_ne, va_up_self] ; exact q9) | (simp (disch := omega) only [eR, up2_n, up2_s, va_up_ne, va_up_self] at q9 ⊢ ; exact q9)), (by have q9 := hR.sq; first | exact q9 | (simp (disch := omega) only [up2_n, up2_s, va_up_ne, va_up_self] ; exact q9) | (simp (disch := omega) only [eR, up2_n, up2_s, va_up_ne, va_up_self] at q9 ⊢ ; exact q9)), (by have q9 := hR.ls; first | exact q9 | (simp (disch := omega) only [up2_n, up2_s, va_up_ne, va_up_self] ; exact q9) | (simp (disch := omega) only [eR, up2_n, up2_s, va_up_ne, va_up_self] at q9 ⊢ ; exact q9)), (by have q9 := hR.nx; first | exact q9 | (simp (disch := omega) only [up2_n, up2_s, va_up_ne, va_up_self] ; exact q9) | (simp (disch := omega) only [eR, up2_n, up2_s, va_up_ne, va_up_self] at q9 ⊢ ; exact q9)), (fun c9 hc9 => by have q9 := hR.kn c9 hc9; first | exact q9 | (simp (disch := omega) only [up2_n, up2_s, va_up_ne, va_up_self] ; exact q9) | (simp (disch := omega) only [eR, up2_n, up2_s, va_up_ne, va_up_self] at q9 ⊢ ; exact q9)), (fun c9 b9 hc9 hb9 => by have q9 := hR.kr c9 b9 hc9 hb9; first | exact q9 | (simp (disch := omega) only [up2_n, up2_s, va_up_ne, va_up_self] ; exact q9) | (simp (disch := omega) only [eR, up2_n, up2_s, va_up_ne, va_up_self] at q9 ⊢ ; exact q9)), (fun c9 hc9 => by have q9 := hR.po c9 hc9; first | exact q9 | (simp (disch := omega) only [up2_n, up2_s, va_up_ne, va_up_self] ; exact q9) | (simp (disch := omega) only [eR, up2_n, up2_s, va_up_ne, va_up_self] at q9 ⊢ ; exact q9)), (fun i j hi hj => (e1 i j hi hj).symm), (fun i j hi hj => (e2 i j hi hj).symm), (fun c9 hc9 => by have q9 := hR.op c9 hc9; first | exact q9 | (simp (disch := omega) only [up2_n, up2_s, va_up_ne, va_up_self] ; exact q9) | (simp (disch := omega) only [eR, up2_n, up2_s, va_up_ne, va_up_self] at q9 ⊢ ; exact q9)), (fun c9 hc9 => by have q9 := hR.se c9 hc9; first | exact q9 | (simp (disch := omega) only [up2_n, up2_s, va_up_ne, va_up_self] ; exact q9) | (simp (disch := omega) only [eR, up2_n, up2_s, va_up_ne, va_up_self] at q9 ⊢ ; exact q9)), (fun c9 k9 hc9 hk9 => by have q9 := hR.sa c9 k9 hc9 hk9; first | exact q9 | (simp (disch := omega) only [up2_n, up2_s, va_up_ne, va_up_self] ; exact q9) | (simp (disch := omega) only [eR, up2_n, up2_s, va_up_ne, va_up_self] at q9 ⊢ ; exact q9)), (fun c9 hc9 => by have q9 := hR.gi c9 hc9; first | exact q9 | (simp (disch := omega) only [up2_n, up2_s, va_up_ne, va_up_self] ; exact q9) | (simp (disch := omega) only [eR, up2_n, up2_s, va_up_ne, va_up_self] at q9 ⊢ ; exact q9)), (fun c9 k9 hc9 hk9 => by have q9 := hR.gv c9 k9 hc9 hk9; first | exact q9 | (simp (disch := omega) only [up2_n, up2_s, va_up_ne, va_up_self] ; exact q9) | (simp (disch := omega) only [eR, up2_n, up2_s, va_up_ne, va_up_self] at q9 ⊢ ; exact q9)), (fun k9 b9 hk9 hb9 => by have q9 := hR.p1 k9 b9 hk9 hb9; first | exact q9 | (simp (disch := omega) only [up2_n, up2_s, va_up_ne, va_up_self] ; exact q9) | (simp (disch := omega) only [eR, up2_n, up2_s, va_up_ne, va_up_self] at q9 ⊢ ; exact q9)), (by have q9 := hR.p2; first | exact q9 | (simp (disch := omega) only [up2_n, up2_s, va_up_ne, va_up_self] ; exact q9) | (simp (disch := omega) only [eR, up2_n, up2_s, va_up_ne, va_up_self] at q9 ⊢ ; exact q9)), (fun c9 hc9 => by have q9 := hR.p3 c9 hc9; first | exact q9 | (simp (disch := omega) only [up2_n, up2_s, va_up_ne, va_up_self] ; exact q9) | (simp (disch := omega) only [eR, up2_n, up2_s, va_up_ne, va_up_self] at q9 ⊢ ; exact q9)), (by have q9 := hR.p4; first | exact q9 | (simp (disch := omega) only [up2_n, up2_s, va_up_ne, va_up_self] ; exact q9) | (simp (disch := omega) only [eR, up2_n, up2_s, va_up_ne, va_up_self] at q9 ⊢ ; exact q9)), (fun u9 hu9 => by have q9 := hR.p5 u9 hu9; first | exact q9 | (simp (disch := omega) only [up2_n, up2_s, va_up_ne, va_up_self] ; exact q9) | (simp (disch := omega) only [eR, up2_n, up2_s, va_up_ne, va_up_self] at q9 ⊢ ; exact q9)), (fun c9 hc9 => by have q9 := hR.p6 c9 hc9; first | exact q9 | (simp (disch := omega) only [up2_n, up2_s, va_up_ne, va_up_self] ; exact q9) | (simp (disch := omega) only [eR, up2_n, up2_s, va_up_ne, va_up_self] at q9 ⊢ ; exact q9)), (fun c9 k9 hc9 hk9 => by have q9 := hR.p7 c9 k9 hc9 hk9; first | exact q9 | (simp (disch := omega) only [up2_n, up2_s, va_up_ne, va_up_self] ; exact q9) | (simp (disch := omega) only [eR, up2_n, up2_s, va_up_ne, va_up_self] at q9 ⊢ ; exact q9)), (fun u9 o9 hu9 ho9 => by have q9 := hR.p8 u9 o9 hu9 ho9; first | exact q9 | (simp (disch := omega) only [up2_n, up2_s, va_up_ne, va_up_self] ; exact q9) | (simp (disch := omega) only [eR, up2_n, up2_s, va_up_ne, va_up_self] at q9 ⊢ ; exact q9))⟩
end RPup
section MMid
variable {G : mt_G} {μ0 μ : mu_M} {ma : Nat → Nat} {τ σ : sg} {δ : dg}
theorem ix1440 (fr k : Nat) : (4 : Int32) * nI fr + nI k = nI (4 * fr + k) := ix4 fr k
set_option maxHeartbeats 4000000 in
set_option maxRecDepth 10000 in
theorem cm_copy (hM : Mx G μ0 μ ma τ) {fr to : Nat} (hf : fr < 361) (ht : to < 361) : CT G M_Model_copy [.ref (ma 0), .int (nI fr), .int (nI to)] μ (fun v μ' => v = none ∧ ∃ τ', Mx G μ0 μ' ma τ' ∧ CP τ τ' fr to) (fun _ _ => False) := by
  refine CT.of (by decide) rfl (Nat.le_of_ble_eq_true rfl) ?_
  refine wp_aload_n d_Model_copy_0 rfl rfl ?_
  refine wp_get d_Model_copy_1 fl_Model_7 hM.obj (by rfl) ?_
  refine wp_iload_n d_Model_copy_4 rfl rfl ?_
  refine wp_aload_n d_Model_copy_5 rfl rfl ?_
  refine wp_get d_Model_copy_6 fl_Model_7 hM.obj (by rfl) ?_
  refine wp_iload_n d_Model_copy_9 rfl rfl ?_
  refine wm_ald (i := 1) (n := 361) hM (by decide) (by decide) rfl rfl d_Model_copy_10 (by first | with_reducible exact ixc0 | with_reducible exact ixc1 | with_reducible exact ixc360 | with_reducible rfl | with_reducible exact ix4 _ _ | with_reducible exact ix21 _ | with_reducible exact ix2 _ | with_reducible exact ix4a _ | assumption) (by omega) ?_
  refine wm_ast (i := 1) (n := 361) hM (by decide) (by decide) rfl rfl d_Model_copy_11 (by first | with_reducible exact ixc0 | with_reducible exact ixc1 | with_reducible exact ixc360 | with_reducible rfl | with_reducible exact ix4 _ _ | with_reducible exact ix21 _ | with_reducible exact ix2 _ | with_reducible exact ix4a _ | assumption) (by omega) (fun μ1 hM => ?_)
  refine wp_aload_n d_Model_copy_12 rfl rfl ?_
  refine wp_get d_Model_copy_13 fl_Model_13 hM.obj (by rfl) ?_
  refine wp_iload_n d_Model_copy_16 rfl rfl ?_
  refine wp_aload_n d_Model_copy_17 rfl rfl ?_
  refine wp_get d_Model_copy_18 fl_Model_13 hM.obj (by rfl) ?_
  refine wp_iload_n d_Model_copy_21 rfl rfl ?_
  refine wm_ald (i := 2) (n := 361) hM (by decide) (by decide) rfl rfl d_Model_copy_22 (by first | with_reducible exact ixc0 | with_reducible exact ixc1 | with_reducible exact ixc360 | with_reducible rfl | with_reducible exact ix4 _ _ | with_reducible exact ix21 _ | with_reducible exact ix2 _ | with_reducible exact ix4a _ | assumption) (by omega) ?_
  refine wm_ast (i := 2) (n := 361) hM (by decide) (by decide) rfl rfl d_Model_copy_23 (by first | with_reducible exact ixc0 | with_reducible exact ixc1 | with_reducible exact ixc360 | with_reducible rfl | with_reducible exact ix4 _ _ | with_reducible exact ix21 _ | with_reducible exact ix2 _ | with_reducible exact ix4a _ | assumption) (by omega) (fun μ1 hM => ?_)
  refine wp_aload_n d_Model_copy_24 rfl rfl ?_
  refine wp_get d_Model_copy_25 fl_Model_16 hM.obj (by rfl) ?_
  refine wp_iload_n d_Model_copy_28 rfl rfl ?_
  refine wp_aload_n d_Model_copy_29 rfl rfl ?_
  refine wp_get d_Model_copy_30 fl_Model_16 hM.obj (by rfl) ?_
  refine wp_iload_n d_Model_copy_33 rfl rfl ?_
  refine wm_ald (i := 3) (n := 361) hM (by decide) (by decide) rfl rfl d_Model_copy_34 (by first | with_reducible exact ixc0 | with_reducible exact ixc1 | with_reducible exact ixc360 | with_reducible rfl | with_reducible exact ix4 _ _ | with_reducible exact ix21 _ | with_reducible exact ix2 _ | with_reducible exact ix4a _ | assumption) (by omega) ?_
  refine wm_ast (i := 3) (n := 361) hM (by decide) (by decide) rfl rfl d_Model_copy_35 (by first | with_reducible exact ixc0 | with_reducible exact ixc1 | with_reducible exact ixc360 | with_reducible rfl | with_reducible exact ix4 _ _ | with_reducible exact ix21 _ | with_reducible exact ix2 _ | with_reducible exact ix4a _ | assumption) (by omega) (fun μ1 hM => ?_)
  refine wp_aload_n d_Model_copy_36 rfl rfl ?_
  refine wp_get d_Model_copy_37 fl_Model_19 hM.obj (by rfl) ?_
  refine wp_iload_n d_Model_copy_40 rfl rfl ?_
  refine wp_aload_n d_Model_copy_41 rfl rfl ?_
  refine wp_get d_Model_copy_42 fl_Model_19 hM.obj (by rfl) ?_
  refine wp_iload_n d_Model_copy_45 rfl rfl ?_
  refine wm_ald (i := 4) (n := 361) hM (by decide) (by decide) rfl rfl d_Model_copy_46 (by first | with_reducible exact ixc0 | with_reducible exact ixc1 | with_reducible exact ixc360 | with_reducible rfl | with_reducible exact ix4 _ _ | with_reducible exact ix21 _ | with_reducible exact ix2 _ | with_reducible exact ix4a _ | assumption) (by omega) ?_
  refine wm_ast (i := 4) (n := 361) hM (by decide) (by decide) rfl rfl d_Model_copy_47 (by first | with_reducible exact ixc0 | with_reducible exact ixc1 | with_reducible exact ixc360 | with_reducible rfl | with_reducible exact ix4 _ _ | with_reducible exact ix21 _ | with_reducible exact ix2 _ | with_reducible exact ix4a _ | assumption) (by omega) (fun μ1 hM => ?_)
  refine wp_aload_n d_Model_copy_48 rfl rfl ?_
  refine wp_get d_Model_copy_49 fl_Model_22 hM.obj (by rfl) ?_
  refine wp_iload_n d_Model_copy_52 rfl rfl ?_
  refine wp_aload_n d_Model_copy_53 rfl rfl ?_
  refine wp_get d_Model_copy_54 fl_Model_22 hM.obj (by rfl) ?_
  refine wp_iload_n d_Model_copy_57 rfl rfl ?_
  refine wm_ald (i := 5) (n := 361) hM (by decide) (by decide) rfl rfl d_Model_copy_58 (by first | with_reducible exact ixc0 | with_reducible exact ixc1 | with_reducible exact ixc360 | with_reducible rfl | with_reducible exact ix4 _ _ | with_reducible exact ix21 _ | with_reducible exact ix2 _ | with_reducible exact ix4a _ | assumption) (by omega) ?_
  refine wm_ast (i := 5) (n := 361) hM (by decide) (by decide) rfl rfl d_Model_copy_59 (by first | with_reducible exact ixc0 | with_reducible exact ixc1 | with_reducible exact ixc360 | with_reducible rfl | with_reducible exact ix4 _ _ | with_reducible exact ix21 _ | with_reducible exact ix2 _ | with_reducible exact ix4a _ | assumption) (by omega) (fun μ1 hM => ?_)
  have loop : ∀ (n k : Nat) (τ1 : sg) (μ1 : mu_M), k + n = 4 → Mx G μ0 μ1 ma τ1 → (∀ i, i = 0 ∨ 8 ≤ i → τ1 i = τ i) → (∀ i, 1 ≤ i → i ≤ 5 → τ1 i = va_up (τ i) to (τ i fr)) → (∀ j l, j < 361 → l < 4 → τ1 6 (4 * j + l) = τ 6 (4 * (if j = to ∧ l < k then fr else j) + l) ∧ τ1 7 (4 * j + l) = τ 7 (4 * (if j = to ∧ l < k then fr else j) + l)) → WP G M_Model_copy (EC G M_Model_copy (fun v μ' => v = none ∧ ∃ τ', Mx G μ0 μ' ma τ' ∧ CP τ τ' fr to) (fun _ _ => False)) [(0, .ref (ma 0)), (1, .int (nI fr)), (2, .int (nI to)), (3, .int (nI k))] 62 [] μ1 0 0 := by
    intro n
    induction n with
    | zero =>
      intro k τ1 μ1 hk hM h0 h1 h2
      obtain rfl : k = 4 := by omega
      refine wp_iload_n d_Model_copy_62 rfl rfl ?_
      refine wp_iconst (v := 4) d_Model_copy_63 (by decide) ?_
      refine wp_icmp_ge (tgt := 113) d_Model_copy_64 (by decide) (fun c64 => ?_) (fun c64 => ?_)
      · refine wp_vret d_Model_copy_113 rfl (by decide) (by decide) ⟨rfl, τ1, hM, h0, h1, fun j l hj hl => ?_⟩
        have q := h2 j l hj hl
        by_cases e : j = to
        · rw [if_pos ⟨e, hl⟩] at q; rw [if_pos e]; exact q
        · rw [if_neg (fun z => e z.1)] at q; rw [if_neg e]; exact q
      · exact absurd (by decide) c64
    | succ n ih =>
      intro k τ1 μ1 hk hM h0 h1 h2
      refine wp_iload_n d_Model_copy_62 rfl rfl ?_
      refine wp_iconst (v := 4) d_Model_copy_63 (by decide) ?_
      refine wp_icmp_ge (tgt := 113) d_Model_copy_64 (by decide) (fun c64 => ?_) (fun c64 => ?_)
      · exact absurd ((nI_leI (a := 4) (by omega) (by omega)).mp c64) (by omega)
      · refine wp_aload_n d_Model_copy_67 rfl rfl ?_
        refine wp_get d_Model_copy_68 fl_Model_25 hM.obj (by rfl) ?_
        refine wp_iconst (v := 4) d_Model_copy_71 (by decide) ?_
        refine wp_iload_n d_Model_copy_72 rfl rfl ?_
        refine wp_imul d_Model_copy_73 ?_
        refine wp_iload_n d_Model_copy_74 rfl rfl ?_
        refine wp_iadd d_Model_copy_75 ?_
        refine wp_aload_n d_Model_copy_76 rfl rfl ?_
        refine wp_get d_Model_copy_77 fl_Model_25 hM.obj (by rfl) ?_
        refine wp_iconst (v := 4) d_Model_copy_80 (by decide) ?_
        refine wp_iload_n d_Model_copy_81 rfl rfl ?_
        refine wp_imul d_Model_copy_82 ?_
        refine wp_iload_n d_Model_copy_83 rfl rfl ?_
        refine wp_iadd d_Model_copy_84 ?_
        refine wm_ald (i := 6) (n := 1444) hM (by decide) (by decide) rfl rfl d_Model_copy_85 (by first | with_reducible exact ixc0 | with_reducible exact ixc1 | with_reducible exact ixc360 | with_reducible rfl | with_reducible exact ix4 _ _ | with_reducible exact ix21 _ | with_reducible exact ix2 _ | with_reducible exact ix4a _ | assumption) (by omega) ?_
        refine wm_ast (i := 6) (n := 1444) hM (by decide) (by decide) rfl rfl d_Model_copy_86 (by first | with_reducible exact ixc0 | with_reducible exact ixc1 | with_reducible exact ixc360 | with_reducible rfl | with_reducible exact ix4 _ _ | with_reducible exact ix21 _ | with_reducible exact ix2 _ | with_reducible exact ix4a _ | assumption) (by omega) (fun μ1 hM => ?_)
        refine wp_aload_n d_Model_copy_87 rfl rfl ?_
        refine wp_get d_Model_copy_88 fl_Model_28 hM.obj (by rfl) ?_
        refine wp_iconst (v := 4) d_Model_copy_91 (by decide) ?_
        refine wp_iload_n d_Model_copy_92 rfl rfl ?_
        refine wp_imul d_Model_copy_93 ?_
        refine wp_iload_n d_Model_copy_94 rfl rfl ?_
        refine wp_iadd d_Model_copy_95 ?_
        refine wp_aload_n d_Model_copy_96 rfl rfl ?_
        refine wp_get d_Model_copy_97 fl_Model_28 hM.obj (by rfl) ?_
        refine wp_iconst (v := 4) d_Model_copy_100 (by decide) ?_
        refine wp_iload_n d_Model_copy_101 rfl rfl ?_
        refine wp_imul d_Model_copy_102 ?_
        refine wp_iload_n d_Model_copy_103 rfl rfl ?_
        refine wp_iadd d_Model_copy_104 ?_
        refine wm_ald (i := 7) (n := 1444) hM (by decide) (by decide) rfl rfl d_Model_copy_105 (by first | with_reducible exact ixc0 | with_reducible exact ixc1 | with_reducible exact ixc360 | with_reducible rfl | with_reducible exact ix4 _ _ | with_reducible exact ix21 _ | with_reducible exact ix2 _ | with_reducible exact ix4a _ | assumption) (by omega) ?_
        refine wm_ast (i := 7) (n := 1444) hM (by decide) (by decide) rfl rfl d_Model_copy_106 (by first | with_reducible exact ixc0 | with_reducible exact ixc1 | with_reducible exact ixc360 | with_reducible rfl | with_reducible exact ix4 _ _ | with_reducible exact ix21 _ | with_reducible exact ix2 _ | with_reducible exact ix4a _ | assumption) (by omega) (fun μ1 hM => ?_)
        refine wp_iinc d_Model_copy_107 rfl rfl (by decide) ?_
        refine wp_goto (tgt := 62) d_Model_copy_110 (by decide) ?_
        have e6 : τ1 6 (4 * fr + k) = τ 6 (4 * fr + k) ∧ τ1 7 (4 * fr + k) = τ 7 (4 * fr + k) := by
          have q := h2 fr k hf (by omega)
          rw [if_neg (by omega)] at q; exact q
        refine WP.loc [(0, .ref (ma 0)), (1, .int (nI fr)), (2, .int (nI to)), (3, .int (nI (k + 1)))] (by rw [← nI_1 k]; rfl) (ih (k + 1) _ _ (by omega) hM (fun i hi => ?_) (fun i a b => ?_) (fun j l hj hl => ?_))
        · rw [up2_n (by omega), up2_n (by omega)]; exact h0 i hi
        · rw [up2_n (by omega), up2_n (by omega)]; exact h1 i a b
        · have q := h2 j l hj hl
          rw [up2_n (show 6 ≠ 7 by decide), up2_s, up2_s]
          rw [show up2 τ1 6 (4 * to + k) (τ1 6 (4 * fr + k)) 7 = τ1 7 from up2_n (by decide)]
          by_cases e : j = to ∧ l = k
          · obtain ⟨rfl, rfl⟩ := e
            rw [va_up_self, va_up_self, if_pos ⟨rfl, by omega⟩]; exact e6
          · rw [va_up_ne _ _ (by omega), va_up_ne _ _ (by omega)]
            by_cases e3 : j = to ∧ l < k
            · rw [if_pos e3] at q; rw [if_pos ⟨e3.1, by omega⟩]; exact q
            · rw [if_neg e3] at q; rw [if_neg (by omega)]; exact q
  refine wp_iconst (v := 0) d_Model_copy_60 (by decide) ?_
  refine wp_istore_n d_Model_copy_61 rfl (by decide) ?_
  refine WP.loc [(0, .ref (ma 0)), (1, .int (nI fr)), (2, .int (nI to)), (3, .int (nI 0))] rfl (WP.widen (Nat.le_of_ble_eq_true rfl) (Nat.le_of_ble_eq_true rfl) (loop 4 0 _ _ rfl hM (fun i hi => ?_) (fun i a b => ?_) (fun j l hj hl => ?_)))
  · rw [up2_n (by omega), up2_n (by omega), up2_n (by omega), up2_n (by omega), up2_n (by omega)]
  · rcases (show i = 1 ∨ i = 2 ∨ i = 3 ∨ i = 4 ∨ i = 5 by omega) with rfl | rfl | rfl | rfl | rfl <;> rfl
  · rw [if_neg (by omega)]; exact ⟨rfl, rfl⟩
set_option maxHeartbeats 1000000 in
theorem cm_lastCell (hM : Mx G μ0 μ ma τ) (hR : RP τ σ δ) {c o : Nat} (hc : c < 4) (ho : o < 60) : CT G M_Model_lastCell [.ref (ma 0), .int (nI c), .int (nI o)] μ (fun v μ' => v = some (.int (if usb σ c (uL (δ (1 + c) (o % 2))) = true then nI (60 * uL (δ (1 + c) (o % 2)) + o) else -1)) ∧ μ' = μ) (fun _ _ => False) := by
  refine CT.of (by decide) rfl (Nat.le_of_ble_eq_true rfl) ?_
  have hd := hR.p1 (1 + c) (o % 2) (by omega) (by omega)
  generalize hdd : δ (1 + c) (o % 2) = d at hd
  have hl := ln_pos d
  have hv := vr_le hd
  refine wp_aload_n d_Model_lastCell_0 rfl rfl ?_
  refine wp_iload_n d_Model_lastCell_1 rfl rfl ?_
  refine wp_iload_n d_Model_lastCell_2 rfl rfl ?_
  refine wx_callV d_Model_lastCell_3 cv_Model_89 cd_Model_rowFor ⟨by decide, by decide⟩ (cm_rowFor hM hR hc ho) hM.obj rfl rfl (Nat.le_of_ble_eq_true rfl) (Nat.le_of_ble_eq_true rfl) (Nat.le_of_ble_eq_true rfl) (fun E1 μ1 hq => hq.elim) (fun v1 μ1 hq => ?_)
  obtain ⟨rfl, rfl⟩ := hq
  rw [hdd]
  refine wp_istore_n d_Model_lastCell_6 rfl (by decide) ?_
  refine wp_aload_n d_Model_lastCell_7 rfl rfl ?_
  refine wp_iload_n d_Model_lastCell_8 rfl rfl ?_
  refine wp_aload_n d_Model_lastCell_9 rfl rfl ?_
  refine wp_iload_n d_Model_lastCell_10 rfl rfl ?_
  refine wx_callV d_Model_lastCell_11 cv_Model_85 cd_Model_length ⟨by decide, by decide⟩ (cm_length G μ1 (ma 0) (d := d) (by omega)) hM.obj rfl rfl (Nat.le_of_ble_eq_true rfl) (Nat.le_of_ble_eq_true rfl) (Nat.le_of_ble_eq_true rfl) (fun E1 μ1 hq => hq.elim) (fun v1 μ1 hq => ?_)
  obtain ⟨rfl, rfl⟩ := hq
  refine wp_iconst (v := 1) d_Model_lastCell_14 (by decide) ?_
  refine wp_isub d_Model_lastCell_15 ?_
  rw [nI_m1 (show 1 ≤ ln d by omega)]
  refine wx_callV d_Model_lastCell_16 cv_Model_93 cd_Model_unit ⟨by decide, by decide⟩ (cm_unit hM hd (i := ln d - 1) (by omega)) hM.obj rfl rfl (Nat.le_of_ble_eq_true rfl) (Nat.le_of_ble_eq_true rfl) (Nat.le_of_ble_eq_true rfl) (fun E1 μ1 hq => hq.elim) (fun v1 μ1 hq => ?_)
  obtain ⟨rfl, rfl⟩ := hq
  refine wp_istore d_Model_lastCell_19 (by decide) ?_
  refine wp_aload_n d_Model_lastCell_21 rfl rfl ?_
  refine wp_iload_n d_Model_lastCell_22 rfl rfl ?_
  refine wp_iload d_Model_lastCell_23 rfl ?_
  refine wx_callV d_Model_lastCell_25 cv_Model_96 cd_Model_usable ⟨by decide, by decide⟩ (cm_usable hM hR hc (uL_lt hd)) hM.obj rfl rfl (Nat.le_of_ble_eq_true rfl) (Nat.le_of_ble_eq_true rfl) (Nat.le_of_ble_eq_true rfl) (fun E1 μ1 hq => hq.elim) (fun v1 μ1 hq => ?_)
  obtain ⟨rfl, rfl⟩ := hq
  refine wp_if_eq (tgt := 41) d_Model_lastCell_28 (by decide) (fun c28 => ?_) (fun c28 => ?_)
  · rw [if_neg (fun z => by rw [if_pos z] at c28; exact absurd c28 (by decide))]
    refine wp_iconst (v := (-1)) d_Model_lastCell_41 (by decide) ?_
    exact wp_iret d_Model_lastCell_42 rfl (by decide) (by decide) ⟨rfl, rfl⟩
  · rw [if_pos (by
      cases h : usb σ c (uL d)
      · rw [if_neg (by rw [h]; decide)] at c28; exact absurd rfl c28
      · rfl)]
    refine wp_aload_n d_Model_lastCell_31 rfl rfl ?_
    refine wp_iload d_Model_lastCell_32 rfl ?_
    refine wp_iload_n d_Model_lastCell_34 rfl rfl ?_
    refine wx_callV d_Model_lastCell_35 cv_Model_100 cd_Model_cell ⟨by decide, by decide⟩ (cm_cell G μ1 (ma 0) (uL d) o) hM.obj rfl rfl (Nat.le_of_ble_eq_true rfl) (Nat.le_of_ble_eq_true rfl) (Nat.le_of_ble_eq_true rfl) (fun E1 μ1 hq => hq.elim) (fun v1 μ1 hq => ?_)
    obtain ⟨rfl, rfl⟩ := hq
    refine wp_goto (tgt := 42) d_Model_lastCell_38 (by decide) ?_
    exact wp_iret d_Model_lastCell_42 rfl (by decide) (by decide) ⟨rfl, rfl⟩
end MMid
