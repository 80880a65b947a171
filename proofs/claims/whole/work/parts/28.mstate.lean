/-! THE REFERENCE'S CELLS: 0 the object (τ 0: failed, epoch, sequencer, lost, next, took), 1 kind, 2 register, 3 value, 4 reads, 5 puts, 6 readAge, 7 putValue, 8 down, 9 seal, 10 row, 11 knows, 12 knownRow, 13 position, 14 now, 15 age, 16 open, 17 seen, 18 seenAge, 19 given, 20 givenValue -/
def tyM (i : Nat) : Nat := if i = 8 then 1 else if i = 16 then 1 else 0
def lnM (i : Nat) : Nat := if i < 6 then 361 else if i < 8 then 1444 else if i < 10 then 6 else if i = 10 then 2 else if i = 11 then 4 else if i = 12 then 8 else if i = 13 then 4 else if i < 16 then 16 else if i < 18 then 4 else if i = 18 then 16 else if i = 19 then 4 else 16
theorem lnM_lt (i : Nat) : lnM i < 2 ^ 31 := by
  unfold lnM
  repeat' split
  all_goals decide
def shM (G : mt_G) (ma : Nat → Nat) (f : Nat → Int32) (i : Nat) : va_E := if i = 0 then .inr (7, [.int (f 0), .ref (ma 1), .ref (ma 2), .ref (ma 3), .ref (ma 4), .ref (ma 5), .ref (ma 6), .ref (ma 7), .ref (ma 8), .ref (ma 9), .int (f 1), .ref (ma 10), .int (f 2), .int (f 3), .int (f 4), .ref (ma 11), .ref (ma 12), .ref (ma 13), .ref (ma 14), .ref (ma 15), .ref (ma 16), .ref (ma 17), .ref (ma 18), .ref (ma 19), .ref (ma 20), .int (f 5)]) else .inl (G.2.2.1 (tyM i), lnM i, .inl f)
/-- the map holds τ; off the reference's cells it keeps what μ0 has -/
def Mx (G : mt_G) (μ0 μ : mu_M) (ma : Nat → Nat) (τ : sg) : Prop := (∀ i, i < 21 → μ (ma i) = some (shM G ma (τ i) i)) ∧ (∀ i j, i < 21 → j < 21 → ma i = ma j → i = j) ∧ (∀ i, i < 21 → G.2.2.2.1 ≤ ma i) ∧ ∀ a e, (∀ i, i < 21 → a ≠ ma i) → μ0 a = some e → μ a = some e
section MX
variable {G : mt_G} {μ0 μ : mu_M} {ma : Nat → Nat} {τ : sg}
theorem Mx.obj (h : Mx G μ0 μ ma τ) : μ (ma 0) = some (.inr (7, [.int (τ 0 0), .ref (ma 1), .ref (ma 2), .ref (ma 3), .ref (ma 4), .ref (ma 5), .ref (ma 6), .ref (ma 7), .ref (ma 8), .ref (ma 9), .int (τ 0 1), .ref (ma 10), .int (τ 0 2), .int (τ 0 3), .int (τ 0 4), .ref (ma 11), .ref (ma 12), .ref (ma 13), .ref (ma 14), .ref (ma 15), .ref (ma 16), .ref (ma 17), .ref (ma 18), .ref (ma 19), .ref (ma 20), .int (τ 0 5)])) := h.1 0 (by decide)
theorem Mx.b (h : Mx G μ0 μ ma τ) {i : Nat} (hi : i < 21) : G.2.2.2.1 ≤ ma i := h.2.2.1 i hi
theorem Mx.arr (h : Mx G μ0 μ ma τ) {i : Nat} (h0 : 0 < i) (hi : i < 21) : μ (ma i) = some (.inl (G.2.2.1 (tyM i), lnM i, .inl (τ i))) := by rw [h.1 i hi, shM, if_neg (by omega)]
theorem Mx.set (h : Mx G μ0 μ ma τ) {i : Nat} {e : va_E} {τ' : sg} (hi : i < 21) (he : e = shM G ma (τ' i) i) (hr : ∀ j, j ≠ i → τ' j = τ j) : Mx G μ0 (mu_up μ (ma i) e) ma τ' := by
  refine ⟨fun j hj => ?_, h.2.1, h.2.2.1, fun a x ha hx => ?_⟩
  · by_cases hji : j = i
    · subst hji
      rw [mu_up_s, he]
    · rw [mu_up_n (fun q => hji (h.2.1 j i hj hi q)), h.1 j hj, hr j hji]
  · rw [mu_up_n (ha i hi)]
    exact h.2.2.2 a x ha hx
theorem Mx.st (h : Mx G μ0 μ ma τ) {i k : Nat} {x : Int32} (h0 : 0 < i) (hi : i < 21) : Mx G μ0 (mu_up μ (ma i) (.inl (G.2.2.1 (tyM i), lnM i, .inl (upd (τ i) k x)))) ma (up2 τ i k x) :=
  h.set hi (by rw [shM, if_neg (by omega), up2_s, upd_va]) (fun j hj => up2_n hj)
end MX
section WM
variable {G : mt_G} {M : mt_M} {QE : mt_Q} {lo : List (Nat × Value)} {pc : Nat} {rest : List Value} {μ0 μ : mu_M} {ma : Nat → Nat} {τ : sg} {cn sn : Nat}
theorem wm_ald {i n j : Nat} {ix : Int32} (hM : Mx G μ0 μ ma τ) (h0 : 0 < i) (hi : i < 21) (ht : tyM i = 0) (hl : lnM i = n) (hdg : decode (mt_c M) pc = .ok (.iaload, 1)) (hix : ix = nI j) (hj : j < n) (kk : WP G M QE lo (pc + 1) (.int (τ i j) :: rest) μ cn sn) : WP G M QE lo pc (.int ix :: .ref (ma i) :: rest) μ cn sn := by
  subst hl
  have e := hM.arr h0 hi
  rw [ht] at e
  exact wp_iald hdg e hix hj (lnM_lt i) kk
theorem wm_zld {i n j : Nat} {ix : Int32} (hM : Mx G μ0 μ ma τ) (h0 : 0 < i) (hi : i < 21) (ht : tyM i = 1) (hl : lnM i = n) (hdg : decode (mt_c M) pc = .ok (.baload, 1)) (hix : ix = nI j) (hj : j < n) (kk : WP G M QE lo (pc + 1) (.int (τ i j) :: rest) μ cn sn) : WP G M QE lo pc (.int ix :: .ref (ma i) :: rest) μ cn sn := by
  subst hl
  have e := hM.arr h0 hi
  rw [ht] at e
  exact wp_zald hdg e hix hj (lnM_lt i) kk
theorem wm_ast {i n j : Nat} {ix x : Int32} (hM : Mx G μ0 μ ma τ) (h0 : 0 < i) (hi : i < 21) (ht : tyM i = 0) (hl : lnM i = n) (hdg : decode (mt_c M) pc = .ok (.iastore, 1)) (hix : ix = nI j) (hj : j < n) (kk : ∀ μ' : mu_M, Mx G μ0 μ' ma (up2 τ i j x) → WP G M QE lo (pc + 1) rest μ' cn sn) : WP G M QE lo pc (.int x :: .int ix :: .ref (ma i) :: rest) μ cn sn := by
  subst hl
  have e := hM.arr h0 hi
  have s := hM.st (k := j) (x := x) h0 hi
  rw [ht] at e s
  exact wp_iast hdg e (hM.b hi) hix hj (lnM_lt i) (kk _ s)
theorem wm_zst {i n j : Nat} {ix x : Int32} (hM : Mx G μ0 μ ma τ) (h0 : 0 < i) (hi : i < 21) (ht : tyM i = 1) (hl : lnM i = n) (hdg : decode (mt_c M) pc = .ok (.bastore, 1)) (hix : ix = nI j) (hj : j < n) (hx : vp_nar .boolean x = x) (kk : ∀ μ' : mu_M, Mx G μ0 μ' ma (up2 τ i j x) → WP G M QE lo (pc + 1) rest μ' cn sn) : WP G M QE lo pc (.int x :: .int ix :: .ref (ma i) :: rest) μ cn sn := by
  subst hl
  have e := hM.arr h0 hi
  have s := hM.st (k := j) (x := x) h0 hi
  rw [ht] at e s
  exact wp_zast hdg e (hM.b hi) hix hj (lnM_lt i) hx (kk _ s)
theorem wm_put0 {x : Int32} (hM : Mx G μ0 μ ma τ) (hdg : decode (mt_c M) pc = .ok (.putfield 82, 3)) (hf : fp_P (mt_y M).cls 82 7 0 .int) (kk : ∀ μ' : mu_M, Mx G μ0 μ' ma (up2 τ 0 0 x) → WP G M QE lo (pc + 3) rest μ' cn sn) : WP G M QE lo pc (.int x :: .ref (ma 0) :: rest) μ cn sn :=
  wp_put hdg hf hM.obj (hM.b (by decide)) rfl rfl (Nat.le_of_ble_eq_true rfl) (kk _ (hM.set (by decide) (by rw [up2_s]; rfl) (fun j hj => up2_n hj)))
theorem wm_put1 {x : Int32} (hM : Mx G μ0 μ ma τ) (hdg : decode (mt_c M) pc = .ok (.putfield 38, 3)) (hf : fp_P (mt_y M).cls 38 7 10 .int) (kk : ∀ μ' : mu_M, Mx G μ0 μ' ma (up2 τ 0 1 x) → WP G M QE lo (pc + 3) rest μ' cn sn) : WP G M QE lo pc (.int x :: .ref (ma 0) :: rest) μ cn sn :=
  wp_put hdg hf hM.obj (hM.b (by decide)) rfl rfl (Nat.le_of_ble_eq_true rfl) (kk _ (hM.set (by decide) (by rw [up2_s]; rfl) (fun j hj => up2_n hj)))
theorem wm_put2 {x : Int32} (hM : Mx G μ0 μ ma τ) (hdg : decode (mt_c M) pc = .ok (.putfield 45, 3)) (hf : fp_P (mt_y M).cls 45 7 12 .int) (kk : ∀ μ' : mu_M, Mx G μ0 μ' ma (up2 τ 0 2 x) → WP G M QE lo (pc + 3) rest μ' cn sn) : WP G M QE lo pc (.int x :: .ref (ma 0) :: rest) μ cn sn :=
  wp_put hdg hf hM.obj (hM.b (by decide)) rfl rfl (Nat.le_of_ble_eq_true rfl) (kk _ (hM.set (by decide) (by rw [up2_s]; rfl) (fun j hj => up2_n hj)))
theorem wm_put3 {x : Int32} (hM : Mx G μ0 μ ma τ) (hdg : decode (mt_c M) pc = .ok (.putfield 107, 3)) (hf : fp_P (mt_y M).cls 107 7 13 .boolean) (hb : x = 0 ∨ x = 1) (kk : ∀ μ' : mu_M, Mx G μ0 μ' ma (up2 τ 0 3 x) → WP G M QE lo (pc + 3) rest μ' cn sn) : WP G M QE lo pc (.int x :: .ref (ma 0) :: rest) μ cn sn :=
  wp_put hdg hf hM.obj (hM.b (by decide)) (by rcases hb with rfl | rfl <;> rfl) (by rcases hb with rfl | rfl <;> rfl) (Nat.le_of_ble_eq_true rfl) (kk _ (hM.set (by decide) (by rw [up2_s]; rfl) (fun j hj => up2_n hj)))
theorem wm_put4 {x : Int32} (hM : Mx G μ0 μ ma τ) (hdg : decode (mt_c M) pc = .ok (.putfield 121, 3)) (hf : fp_P (mt_y M).cls 121 7 14 .int) (kk : ∀ μ' : mu_M, Mx G μ0 μ' ma (up2 τ 0 4 x) → WP G M QE lo (pc + 3) rest μ' cn sn) : WP G M QE lo pc (.int x :: .ref (ma 0) :: rest) μ cn sn :=
  wp_put hdg hf hM.obj (hM.b (by decide)) rfl rfl (Nat.le_of_ble_eq_true rfl) (kk _ (hM.set (by decide) (by rw [up2_s]; rfl) (fun j hj => up2_n hj)))
theorem wm_put5 {x : Int32} (hM : Mx G μ0 μ ma τ) (hdg : decode (mt_c M) pc = .ok (.putfield 151, 3)) (hf : fp_P (mt_y M).cls 151 7 25 .boolean) (hb : x = 0 ∨ x = 1) (kk : ∀ μ' : mu_M, Mx G μ0 μ' ma (up2 τ 0 5 x) → WP G M QE lo (pc + 3) rest μ' cn sn) : WP G M QE lo pc (.int x :: .ref (ma 0) :: rest) μ cn sn :=
  wp_put hdg hf hM.obj (hM.b (by decide)) (by rcases hb with rfl | rfl <;> rfl) (by rcases hb with rfl | rfl <;> rfl) (Nat.le_of_ble_eq_true rfl) (kk _ (hM.set (by decide) (by rw [up2_s]; rfl) (fun j hj => up2_n hj)))
end WM
/-! THE RELATION of the reference's numbers τ to the state σ, δ -/
def mk (f : Nat → Int32) : Nat := (if f 0 = 0 then 0 else 1) + (if f 1 = 0 then 0 else 2) + (if f 2 = 0 then 0 else 4) + (if f 3 = 0 then 0 else 8)
def Ent (τ : sg) (j : Nat) (v : Nat → Int32) : Prop :=
  (τ 1 j = 0 ∧ v 0 = 0) ∨ (τ 1 j = 1 ∧ ∃ k, k < 4 ∧ τ 2 j = nI k ∧ v = vPut k (τ 3 j)) ∨ (τ 1 j = 2 ∧ v 0 = 2 ∧ τ 4 j = nI (mk (fun k => v (2 + k))) ∧ τ 5 j = nI (mk (fun k => v (10 + k))) ∧ v 1 = nI (pcN (fun k => v (10 + k)) 4) ∧ ∀ k, k < 4 → τ 6 (4 * j + k) = v (6 + k) ∧ τ 7 (4 * j + k) = v (14 + k)) ∨ (τ 1 j = 3 ∧ v = vJunk) ∨ (τ 1 j = 4 ∧ v 0 = 4)
def RP (τ σ : sg) (δ : dg) : Prop :=
  (∀ u o, u < 6 → o < 60 → Ent τ (60 * u + o) (σ (eR u o))) ∧
  (∀ u, u < 6 → τ 8 u = (if σ (4 + u) 1 = 0 then 1 else 0)) ∧
  (∀ u, u < 6 → τ 9 u = σ (4 + u) 2) ∧
  (τ 0 1 = σ 500 0) ∧
  (∀ b, b < 2 → τ 10 b = nI (δ 0 b)) ∧
  (τ 0 2 = σ 3 1) ∧
  (τ 0 3 = σ 3 0) ∧
  (τ 0 4 = σ 3 2) ∧
  (∀ c, c < 4 → τ 11 c = σ (501 + c) 0) ∧
  (∀ c b, c < 4 → b < 2 → τ 12 (2 * c + b) = nI (δ (1 + c) b)) ∧
  (∀ c, c < 4 → τ 13 c = σ (16 + c) 4) ∧
  (∀ c k, c < 4 → k < 4 → τ 14 (4 * c + k) = σ (20 + c) k) ∧
  (∀ c k, c < 4 → k < 4 → τ 15 (4 * c + k) = σ (24 + c) k) ∧
  (∀ c, c < 4 → τ 16 c = σ (16 + c) 3) ∧
  (∀ c, c < 4 → τ 17 c = nI (mk (σ (32 + c)))) ∧
  (∀ c k, c < 4 → k < 4 → τ 18 (4 * c + k) = σ (36 + c) k) ∧
  (∀ c, c < 4 → τ 19 c = nI (mk (σ (40 + c)))) ∧
  (∀ c k, c < 4 → k < 4 → τ 20 (4 * c + k) = σ (44 + c) k) ∧
  (∀ k b, k < 5 → b < 2 → vr (δ k b) = true) ∧
  (∃ n, n ≤ 60 ∧ σ 3 2 = nI n) ∧
  (∀ c, c < 4 → ∃ p, p ≤ 60 ∧ σ (16 + c) 4 = nI p) ∧
  (σ 3 0 = 0 ∨ σ 3 0 = 1) ∧
  (∀ u, u < 6 → σ (4 + u) 1 = 0 ∨ σ (4 + u) 1 = 1) ∧
  (∀ c, c < 4 → σ (16 + c) 3 = 0 ∨ σ (16 + c) 3 = 1) ∧
  (∀ c k, c < 4 → k < 4 → (σ (32 + c) k = 0 ∨ σ (32 + c) k = 1) ∧ (σ (40 + c) k = 0 ∨ σ (40 + c) k = 1)) ∧
  (∀ u o, u < 6 → o < 60 → ∀ k, k < 4 → (σ (eR u o) (2 + k) = 0 ∨ σ (eR u o) (2 + k) = 1) ∧ (σ (eR u o) (10 + k) = 0 ∨ σ (eR u o) (10 + k) = 1))
section RPget
variable {τ σ : sg} {δ : dg}
theorem RP.en (h : RP τ σ δ) : ∀ u o, u < 6 → o < 60 → Ent τ (60 * u + o) (σ (eR u o)) := h.1
theorem RP.dn (h : RP τ σ δ) : ∀ u, u < 6 → τ 8 u = (if σ (4 + u) 1 = 0 then 1 else 0) := h.2.1
theorem RP.sl (h : RP τ σ δ) : ∀ u, u < 6 → τ 9 u = σ (4 + u) 2 := h.2.2.1
theorem RP.ep (h : RP τ σ δ) : τ 0 1 = σ 500 0 := h.2.2.2.1
theorem RP.rw (h : RP τ σ δ) : ∀ b, b < 2 → τ 10 b = nI (δ 0 b) := h.2.2.2.2.1
theorem RP.sq (h : RP τ σ δ) : τ 0 2 = σ 3 1 := h.2.2.2.2.2.1
theorem RP.ls (h : RP τ σ δ) : τ 0 3 = σ 3 0 := h.2.2.2.2.2.2.1
theorem RP.nx (h : RP τ σ δ) : τ 0 4 = σ 3 2 := h.2.2.2.2.2.2.2.1
theorem RP.kn (h : RP τ σ δ) : ∀ c, c < 4 → τ 11 c = σ (501 + c) 0 := h.2.2.2.2.2.2.2.2.1
theorem RP.kr (h : RP τ σ δ) : ∀ c b, c < 4 → b < 2 → τ 12 (2 * c + b) = nI (δ (1 + c) b) := h.2.2.2.2.2.2.2.2.2.1
theorem RP.po (h : RP τ σ δ) : ∀ c, c < 4 → τ 13 c = σ (16 + c) 4 := h.2.2.2.2.2.2.2.2.2.2.1
theorem RP.nw (h : RP τ σ δ) : ∀ c k, c < 4 → k < 4 → τ 14 (4 * c + k) = σ (20 + c) k := h.2.2.2.2.2.2.2.2.2.2.2.1
theorem RP.ag (h : RP τ σ δ) : ∀ c k, c < 4 → k < 4 → τ 15 (4 * c + k) = σ (24 + c) k := h.2.2.2.2.2.2.2.2.2.2.2.2.1
theorem RP.op (h : RP τ σ δ) : ∀ c, c < 4 → τ 16 c = σ (16 + c) 3 := h.2.2.2.2.2.2.2.2.2.2.2.2.2.1
theorem RP.se (h : RP τ σ δ) : ∀ c, c < 4 → τ 17 c = nI (mk (σ (32 + c))) := h.2.2.2.2.2.2.2.2.2.2.2.2.2.2.1
theorem RP.sa (h : RP τ σ δ) : ∀ c k, c < 4 → k < 4 → τ 18 (4 * c + k) = σ (36 + c) k := h.2.2.2.2.2.2.2.2.2.2.2.2.2.2.2.1
theorem RP.gi (h : RP τ σ δ) : ∀ c, c < 4 → τ 19 c = nI (mk (σ (40 + c))) := h.2.2.2.2.2.2.2.2.2.2.2.2.2.2.2.2.1
theorem RP.gv (h : RP τ σ δ) : ∀ c k, c < 4 → k < 4 → τ 20 (4 * c + k) = σ (44 + c) k := h.2.2.2.2.2.2.2.2.2.2.2.2.2.2.2.2.2.1
theorem RP.p1 (h : RP τ σ δ) : ∀ k b, k < 5 → b < 2 → vr (δ k b) = true := h.2.2.2.2.2.2.2.2.2.2.2.2.2.2.2.2.2.2.1
theorem RP.p2 (h : RP τ σ δ) : ∃ n, n ≤ 60 ∧ σ 3 2 = nI n := h.2.2.2.2.2.2.2.2.2.2.2.2.2.2.2.2.2.2.2.1
theorem RP.p3 (h : RP τ σ δ) : ∀ c, c < 4 → ∃ p, p ≤ 60 ∧ σ (16 + c) 4 = nI p := h.2.2.2.2.2.2.2.2.2.2.2.2.2.2.2.2.2.2.2.2.1
theorem RP.p4 (h : RP τ σ δ) : σ 3 0 = 0 ∨ σ 3 0 = 1 := h.2.2.2.2.2.2.2.2.2.2.2.2.2.2.2.2.2.2.2.2.2.1
theorem RP.p5 (h : RP τ σ δ) : ∀ u, u < 6 → σ (4 + u) 1 = 0 ∨ σ (4 + u) 1 = 1 := h.2.2.2.2.2.2.2.2.2.2.2.2.2.2.2.2.2.2.2.2.2.2.1
theorem RP.p6 (h : RP τ σ δ) : ∀ c, c < 4 → σ (16 + c) 3 = 0 ∨ σ (16 + c) 3 = 1 := h.2.2.2.2.2.2.2.2.2.2.2.2.2.2.2.2.2.2.2.2.2.2.2.1
theorem RP.p7 (h : RP τ σ δ) : ∀ c k, c < 4 → k < 4 → (σ (32 + c) k = 0 ∨ σ (32 + c) k = 1) ∧ (σ (40 + c) k = 0 ∨ σ (40 + c) k = 1) := h.2.2.2.2.2.2.2.2.2.2.2.2.2.2.2.2.2.2.2.2.2.2.2.2.1
theorem RP.p8 (h : RP τ σ δ) : ∀ u o, u < 6 → o < 60 → ∀ k, k < 4 → (σ (eR u o) (2 + k) = 0 ∨ σ (eR u o) (2 + k) = 1) ∧ (σ (eR u o) (10 + k) = 0 ∨ σ (eR u o) (10 + k) = 1) := h.2.2.2.2.2.2.2.2.2.2.2.2.2.2.2.2.2.2.2.2.2.2.2.2.2
theorem RP.pi (h : RP τ σ δ) : PI σ δ := ⟨h.p1, h.p2, h.p3, h.p4, h.p5, h.p6, h.p7, h.p8⟩
end RPget
theorem RP.cong {τ τ' σ σ' : sg} {δ : dg} (h : RP τ σ δ) (h0 : ∀ i, i = 0 ∨ 8 ≤ i → τ' i = τ i) (hs : ∀ i, i < 100 ∨ 460 ≤ i → σ' i = σ i) (hen : ∀ u o, u < 6 → o < 60 → Ent τ' (60 * u + o) (σ' (eR u o))) (hp8 : ∀ u o, u < 6 → o < 60 → ∀ k, k < 4 → (σ' (eR u o) (2 + k) = 0 ∨ σ' (eR u o) (2 + k) = 1) ∧ (σ' (eR u o) (10 + k) = 0 ∨ σ' (eR u o) (10 + k) = 1)) : RP τ' σ' δ :=
  ⟨hen, (fun u hu => by have q := h.dn u hu; rw [← h0 8 (by omega), ← hs (4 + u) (by omega)] at q; exact q), (fun u hu => by have q := h.sl u hu; rw [← h0 9 (by omega), ← hs (4 + u) (by omega)] at q; exact q), (by have q := h.ep; rw [← h0 0 (by omega), ← hs 500 (by omega)] at q; exact q), (fun b hb => by have q := h.rw b hb; rw [← h0 10 (by omega)] at q; exact q), (by have q := h.sq; rw [← h0 0 (by omega), ← hs 3 (by omega)] at q; exact q), (by have q := h.ls; rw [← h0 0 (by omega), ← hs 3 (by omega)] at q; exact q), (by have q := h.nx; rw [← h0 0 (by omega), ← hs 3 (by omega)] at q; exact q), (fun c hc => by have q := h.kn c hc; rw [← h0 11 (by omega), ← hs (501 + c) (by omega)] at q; exact q), (fun c b hc hb => by have q := h.kr c b hc hb; rw [← h0 12 (by omega)] at q; exact q), (fun c hc => by have q := h.po c hc; rw [← h0 13 (by omega), ← hs (16 + c) (by omega)] at q; exact q), (fun c k hc hk => by have q := h.nw c k hc hk; rw [← h0 14 (by omega), ← hs (20 + c) (by omega)] at q; exact q), (fun c k hc hk => by have q := h.ag c k hc hk; rw [← h0 15 (by omega), ← hs (24 + c) (by omega)] at q; exact q), (fun c hc => by have q := h.op c hc; rw [← h0 16 (by omega), ← hs (16 + c) (by omega)] at q; exact q), (fun c hc => by have q := h.se c hc; rw [← h0 17 (by omega), ← hs (32 + c) (by omega)] at q; exact q), (fun c k hc hk => by have q := h.sa c k hc hk; rw [← h0 18 (by omega), ← hs (36 + c) (by omega)] at q; exact q), (fun c hc => by have q := h.gi c hc; rw [← h0 19 (by omega), ← hs (40 + c) (by omega)] at q; exact q), (fun c k hc hk => by have q := h.gv c k hc hk; rw [← h0 20 (by omega), ← hs (44 + c) (by omega)] at q; exact q), (fun k b hk hb => h.p1 k b hk hb), (by have q := h.p2; rw [← hs 3 (by omega)] at q; exact q), (fun c hc => by have q := h.p3 c hc; rw [← hs (16 + c) (by omega)] at q; exact q), (by have q := h.p4; rw [← hs 3 (by omega)] at q; exact q), (fun u hu => by have q := h.p5 u hu; rw [← hs (4 + u) (by omega)] at q; exact q), (fun c hc => by have q := h.p6 c hc; rw [← hs (16 + c) (by omega)] at q; exact q), (fun c k hc hk => by have q := h.p7 c k hc hk; rw [← hs (32 + c) (by omega), ← hs (40 + c) (by omega)] at q; exact q), hp8⟩
