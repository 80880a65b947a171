/-! THE CLASS'S STATE: 48 cells that are changed (roles), at addresses ad i; all else that it makes (entries, their work, layouts) is never changed once it is made. r i k: the number in field or place k of role i; g i k: the address there. -/
def up2 {α : Type} (r : Nat → Nat → α) (i k : Nat) (v : α) : Nat → Nat → α := fun j => if j = i then va_up (r i) k v else r j
theorem up2_s {α : Type} (r : Nat → Nat → α) (i k : Nat) (v : α) : up2 r i k v i = va_up (r i) k v := if_pos rfl
theorem up2_n {α : Type} {r : Nat → Nat → α} {i j k : Nat} {v : α} (h : j ≠ i) : up2 r i k v j = r j := if_neg h
theorem upd_va (f : Nat → Int32) (k : Nat) (x : Int32) : upd f k x = va_up f k x := rfl
theorem va_up_some (f : Nat → Nat) (k x : Nat) : va_up (fun o => some (f o)) k (some x) = fun o => some (va_up f k x o) := by
  funext o
  by_cases h : o = k
  · subst h; rw [va_up_self, va_up_self]
  · rw [va_up_ne _ _ h, va_up_ne _ _ h]
def sh (G : mt_G) (ad : Nat → Nat) (r : Nat → Nat → Int32) (g : Nat → Nat → Nat) (i : Nat) : va_E :=
  if i < 1 then .inr (0, [.ref (ad 1), .ref (ad 2), .ref (ad 3), .ref (g i 3), .ref (g i 4), .ref (g i 5), .ref (g i 6)])
  else if i < 2 then .inl (G.2.2.1 3, 6, .inr (.inr (.inr (.inr (fun u => some (ad (4 + u)))))))
  else if i < 3 then .inl (G.2.2.1 4, 4, .inr (.inr (.inr (.inr (fun c => some (ad (16 + c)))))))
  else if i < 4 then .inr (4, [.int (r i 0), .int (r i 1), .int (r i 2)])
  else if i < 10 then .inr (1, [.ref (ad (i + 6)), .int (r i 1), .int (r i 2)])
  else if i < 16 then .inl (G.2.2.1 5, 60, .inr (.inr (.inr (.inr (fun o => some (g i o))))))
  else if i < 20 then .inr (6, [.ref (ad (i + 4)), .ref (ad (i + 8)), .ref (ad (i + 12)), .int (r i 3), .int (r i 4), .ref (g i 5)])
  else if i < 24 then .inl (G.2.2.1 0, 4, .inl (r i))
  else if i < 28 then .inl (G.2.2.1 0, 4, .inl (r i))
  else if i < 32 then .inr (5, [.ref (ad (i + 4)), .ref (ad (i + 8)), .ref (ad (i + 12)), .ref (ad (i + 16))])
  else if i < 36 then .inl (G.2.2.1 1, 4, .inl (r i))
  else if i < 40 then .inl (G.2.2.1 0, 4, .inl (r i))
  else if i < 44 then .inl (G.2.2.1 1, 4, .inl (r i))
  else .inl (G.2.2.1 0, 4, .inl (r i))
theorem sh_log {G : mt_G} {ad : Nat → Nat} {r : Nat → Nat → Int32} {g : Nat → Nat → Nat} {i : Nat} (h1 : 0 ≤ i) (h2 : i < 1) : sh G ad r g i = .inr (0, [.ref (ad 1), .ref (ad 2), .ref (ad 3), .ref (g i 3), .ref (g i 4), .ref (g i 5), .ref (g i 6)]) := by
  rw [sh, if_pos (by omega)]
theorem sh_uar {G : mt_G} {ad : Nat → Nat} {r : Nat → Nat → Int32} {g : Nat → Nat → Nat} {i : Nat} (h1 : 1 ≤ i) (h2 : i < 2) : sh G ad r g i = .inl (G.2.2.1 3, 6, .inr (.inr (.inr (.inr (fun u => some (ad (4 + u))))))) := by
  rw [sh, if_neg (by omega), if_pos (by omega)]
theorem sh_car {G : mt_G} {ad : Nat → Nat} {r : Nat → Nat → Int32} {g : Nat → Nat → Nat} {i : Nat} (h1 : 2 ≤ i) (h2 : i < 3) : sh G ad r g i = .inl (G.2.2.1 4, 4, .inr (.inr (.inr (.inr (fun c => some (ad (16 + c))))))) := by
  rw [sh, if_neg (by omega), if_neg (by omega), if_pos (by omega)]
theorem sh_seq {G : mt_G} {ad : Nat → Nat} {r : Nat → Nat → Int32} {g : Nat → Nat → Nat} {i : Nat} (h1 : 3 ≤ i) (h2 : i < 4) : sh G ad r g i = .inr (4, [.int (r i 0), .int (r i 1), .int (r i 2)]) := by
  rw [sh, if_neg (by omega), if_neg (by omega), if_neg (by omega), if_pos (by omega)]
theorem sh_unit {G : mt_G} {ad : Nat → Nat} {r : Nat → Nat → Int32} {g : Nat → Nat → Nat} {i : Nat} (h1 : 4 ≤ i) (h2 : i < 10) : sh G ad r g i = .inr (1, [.ref (ad (i + 6)), .int (r i 1), .int (r i 2)]) := by
  rw [sh, if_neg (by omega), if_neg (by omega), if_neg (by omega), if_neg (by omega), if_pos (by omega)]
theorem sh_cells {G : mt_G} {ad : Nat → Nat} {r : Nat → Nat → Int32} {g : Nat → Nat → Nat} {i : Nat} (h1 : 10 ≤ i) (h2 : i < 16) : sh G ad r g i = .inl (G.2.2.1 5, 60, .inr (.inr (.inr (.inr (fun o => some (g i o)))))) := by
  rw [sh, if_neg (by omega), if_neg (by omega), if_neg (by omega), if_neg (by omega), if_neg (by omega), if_pos (by omega)]
theorem sh_cli {G : mt_G} {ad : Nat → Nat} {r : Nat → Nat → Int32} {g : Nat → Nat → Nat} {i : Nat} (h1 : 16 ≤ i) (h2 : i < 20) : sh G ad r g i = .inr (6, [.ref (ad (i + 4)), .ref (ad (i + 8)), .ref (ad (i + 12)), .int (r i 3), .int (r i 4), .ref (g i 5)]) := by
  rw [sh, if_neg (by omega), if_neg (by omega), if_neg (by omega), if_neg (by omega), if_neg (by omega), if_neg (by omega), if_pos (by omega)]
theorem sh_val {G : mt_G} {ad : Nat → Nat} {r : Nat → Nat → Int32} {g : Nat → Nat → Nat} {i : Nat} (h1 : 20 ≤ i) (h2 : i < 24) : sh G ad r g i = .inl (G.2.2.1 0, 4, .inl (r i)) := by
  rw [sh, if_neg (by omega), if_neg (by omega), if_neg (by omega), if_neg (by omega), if_neg (by omega), if_neg (by omega), if_neg (by omega), if_pos (by omega)]
theorem sh_age {G : mt_G} {ad : Nat → Nat} {r : Nat → Nat → Int32} {g : Nat → Nat → Nat} {i : Nat} (h1 : 24 ≤ i) (h2 : i < 28) : sh G ad r g i = .inl (G.2.2.1 0, 4, .inl (r i)) := by
  rw [sh, if_neg (by omega), if_neg (by omega), if_neg (by omega), if_neg (by omega), if_neg (by omega), if_neg (by omega), if_neg (by omega), if_neg (by omega), if_pos (by omega)]
theorem sh_tx {G : mt_G} {ad : Nat → Nat} {r : Nat → Nat → Int32} {g : Nat → Nat → Nat} {i : Nat} (h1 : 28 ≤ i) (h2 : i < 32) : sh G ad r g i = .inr (5, [.ref (ad (i + 4)), .ref (ad (i + 8)), .ref (ad (i + 12)), .ref (ad (i + 16))]) := by
  rw [sh, if_neg (by omega), if_neg (by omega), if_neg (by omega), if_neg (by omega), if_neg (by omega), if_neg (by omega), if_neg (by omega), if_neg (by omega), if_neg (by omega), if_pos (by omega)]
theorem sh_tr {G : mt_G} {ad : Nat → Nat} {r : Nat → Nat → Int32} {g : Nat → Nat → Nat} {i : Nat} (h1 : 32 ≤ i) (h2 : i < 36) : sh G ad r g i = .inl (G.2.2.1 1, 4, .inl (r i)) := by
  rw [sh, if_neg (by omega), if_neg (by omega), if_neg (by omega), if_neg (by omega), if_neg (by omega), if_neg (by omega), if_neg (by omega), if_neg (by omega), if_neg (by omega), if_neg (by omega), if_pos (by omega)]
theorem sh_ta {G : mt_G} {ad : Nat → Nat} {r : Nat → Nat → Int32} {g : Nat → Nat → Nat} {i : Nat} (h1 : 36 ≤ i) (h2 : i < 40) : sh G ad r g i = .inl (G.2.2.1 0, 4, .inl (r i)) := by
  rw [sh, if_neg (by omega), if_neg (by omega), if_neg (by omega), if_neg (by omega), if_neg (by omega), if_neg (by omega), if_neg (by omega), if_neg (by omega), if_neg (by omega), if_neg (by omega), if_neg (by omega), if_pos (by omega)]
theorem sh_tp {G : mt_G} {ad : Nat → Nat} {r : Nat → Nat → Int32} {g : Nat → Nat → Nat} {i : Nat} (h1 : 40 ≤ i) (h2 : i < 44) : sh G ad r g i = .inl (G.2.2.1 1, 4, .inl (r i)) := by
  rw [sh, if_neg (by omega), if_neg (by omega), if_neg (by omega), if_neg (by omega), if_neg (by omega), if_neg (by omega), if_neg (by omega), if_neg (by omega), if_neg (by omega), if_neg (by omega), if_neg (by omega), if_neg (by omega), if_pos (by omega)]
theorem sh_tv {G : mt_G} {ad : Nat → Nat} {r : Nat → Nat → Int32} {g : Nat → Nat → Nat} {i : Nat} (h1 : 44 ≤ i) (h2 : i < 48) : sh G ad r g i = .inl (G.2.2.1 0, 4, .inl (r i)) := by
  rw [sh, if_neg (by omega), if_neg (by omega), if_neg (by omega), if_neg (by omega), if_neg (by omega), if_neg (by omega), if_neg (by omega), if_neg (by omega), if_neg (by omega), if_neg (by omega), if_neg (by omega), if_neg (by omega), if_neg (by omega)]
def Rp (G : mt_G) (μ : mu_M) (ad : Nat → Nat) (r : Nat → Nat → Int32) (g : Nat → Nat → Nat) : Prop :=
  (∀ i, i < 48 → μ (ad i) = some (sh G ad r g i)) ∧ (∀ i j, i < 48 → j < 48 → ad i = ad j → i = j) ∧ ∀ i, i < 48 → G.2.2.2.1 ≤ ad i
theorem sh_congr {G : mt_G} {ad : Nat → Nat} {r r' : Nat → Nat → Int32} {g g' : Nat → Nat → Nat} {i : Nat} (h1 : r' i = r i) (h2 : g' i = g i) : sh G ad r g i = sh G ad r' g' i := by
  unfold sh
  rw [h1, h2]
theorem Rp.set {G : mt_G} {μ : mu_M} {ad : Nat → Nat} {r r' : Nat → Nat → Int32} {g g' : Nat → Nat → Nat} (h : Rp G μ ad r g) {i : Nat} {e : va_E} (hi : i < 48) (he : e = sh G ad r' g' i) (hr : ∀ j, j ≠ i → r' j = r j) (hg : ∀ j, j ≠ i → g' j = g j) : Rp G (mu_up μ (ad i) e) ad r' g' := by
  refine ⟨fun j hj => ?_, h.2.1, h.2.2⟩
  by_cases hji : j = i
  · subst hji
    rw [mu_up_s, he]
  · rw [mu_up_n (fun q => hji (h.2.1 j i hj hi q)), h.1 j hj, sh_congr (hr j hji) (hg j hji)]
theorem Rp.new {G : mt_G} {μ : mu_M} {ad : Nat → Nat} {r : Nat → Nat → Int32} {g : Nat → Nat → Nat} (h : Rp G μ ad r g) {q : Nat} {e : va_E} (hq : μ q = none) : Rp G (mu_up μ q e) ad r g := by
  refine ⟨fun j hj => ?_, h.2.1, h.2.2⟩
  rw [mu_up_n (fun z => by have := h.1 j hj; rw [z, hq] at this; cases this)]
  exact h.1 j hj
section RpGet
variable {G : mt_G} {μ : mu_M} {ad : Nat → Nat} {r : Nat → Nat → Int32} {g : Nat → Nat → Nat}
theorem Rp.log (h : Rp G μ ad r g) : μ (ad 0) = some (.inr (0, [.ref (ad 1), .ref (ad 2), .ref (ad 3), .ref (g 0 3), .ref (g 0 4), .ref (g 0 5), .ref (g 0 6)])) := (h.1 0 (by decide)).trans (congrArg some (sh_log (by decide) (by decide)))
theorem Rp.uar (h : Rp G μ ad r g) : μ (ad 1) = some (.inl (G.2.2.1 3, 6, .inr (.inr (.inr (.inr (fun u => some (ad (4 + u)))))))) := (h.1 1 (by decide)).trans (congrArg some (sh_uar (by decide) (by decide)))
theorem Rp.car (h : Rp G μ ad r g) : μ (ad 2) = some (.inl (G.2.2.1 4, 4, .inr (.inr (.inr (.inr (fun c => some (ad (16 + c)))))))) := (h.1 2 (by decide)).trans (congrArg some (sh_car (by decide) (by decide)))
theorem Rp.seq (h : Rp G μ ad r g) : μ (ad 3) = some (.inr (4, [.int (r 3 0), .int (r 3 1), .int (r 3 2)])) := (h.1 3 (by decide)).trans (congrArg some (sh_seq (by decide) (by decide)))
theorem Rp.unit (h : Rp G μ ad r g) {u : Nat} (hv : u < 6) : μ (ad (4 + u)) = some (.inr (1, [.ref (ad (10 + u)), .int (r (4 + u) 1), .int (r (4 + u) 2)])) := by
  rw [h.1 (4 + u) (by omega), sh_unit (by omega) (by omega), show 4 + u + 6 = 10 + u by omega]
theorem Rp.cells (h : Rp G μ ad r g) {u : Nat} (hv : u < 6) : μ (ad (10 + u)) = some (.inl (G.2.2.1 5, 60, .inr (.inr (.inr (.inr (fun o => some (g (10 + u) o))))))) := by
  rw [h.1 (10 + u) (by omega), sh_cells (by omega) (by omega)]
theorem Rp.cli (h : Rp G μ ad r g) {c : Nat} (hv : c < 4) : μ (ad (16 + c)) = some (.inr (6, [.ref (ad (20 + c)), .ref (ad (24 + c)), .ref (ad (28 + c)), .int (r (16 + c) 3), .int (r (16 + c) 4), .ref (g (16 + c) 5)])) := by
  rw [h.1 (16 + c) (by omega), sh_cli (by omega) (by omega), show 16 + c + 4 = 20 + c by omega, show 16 + c + 8 = 24 + c by omega, show 16 + c + 12 = 28 + c by omega]
theorem Rp.val (h : Rp G μ ad r g) {c : Nat} (hv : c < 4) : μ (ad (20 + c)) = some (.inl (G.2.2.1 0, 4, .inl (r (20 + c)))) := by
  rw [h.1 (20 + c) (by omega), sh_val (by omega) (by omega)]
theorem Rp.age (h : Rp G μ ad r g) {c : Nat} (hv : c < 4) : μ (ad (24 + c)) = some (.inl (G.2.2.1 0, 4, .inl (r (24 + c)))) := by
  rw [h.1 (24 + c) (by omega), sh_age (by omega) (by omega)]
theorem Rp.tx (h : Rp G μ ad r g) {c : Nat} (hv : c < 4) : μ (ad (28 + c)) = some (.inr (5, [.ref (ad (32 + c)), .ref (ad (36 + c)), .ref (ad (40 + c)), .ref (ad (44 + c))])) := by
  rw [h.1 (28 + c) (by omega), sh_tx (by omega) (by omega), show 28 + c + 4 = 32 + c by omega, show 28 + c + 8 = 36 + c by omega, show 28 + c + 12 = 40 + c by omega, show 28 + c + 16 = 44 + c by omega]
theorem Rp.tr (h : Rp G μ ad r g) {c : Nat} (hv : c < 4) : μ (ad (32 + c)) = some (.inl (G.2.2.1 1, 4, .inl (r (32 + c)))) := by
  rw [h.1 (32 + c) (by omega), sh_tr (by omega) (by omega)]
theorem Rp.ta (h : Rp G μ ad r g) {c : Nat} (hv : c < 4) : μ (ad (36 + c)) = some (.inl (G.2.2.1 0, 4, .inl (r (36 + c)))) := by
  rw [h.1 (36 + c) (by omega), sh_ta (by omega) (by omega)]
theorem Rp.tp (h : Rp G μ ad r g) {c : Nat} (hv : c < 4) : μ (ad (40 + c)) = some (.inl (G.2.2.1 1, 4, .inl (r (40 + c)))) := by
  rw [h.1 (40 + c) (by omega), sh_tp (by omega) (by omega)]
theorem Rp.tv (h : Rp G μ ad r g) {c : Nat} (hv : c < 4) : μ (ad (44 + c)) = some (.inl (G.2.2.1 0, 4, .inl (r (44 + c)))) := by
  rw [h.1 (44 + c) (by omega), sh_tv (by omega) (by omega)]
theorem Rp.pInt {i k : Nat} {x : Int32} (h : Rp G μ ad r g) (h1 : 20 ≤ i) (h2 : i < 28 ∨ (36 ≤ i ∧ i < 40) ∨ (44 ≤ i ∧ i < 48)) : Rp G (mu_up μ (ad i) (.inl (G.2.2.1 0, 4, .inl (upd (r i) k x)))) ad (up2 r i k x) g := by
  refine h.set (by omega) ?_ (fun j hj => up2_n hj) (fun _ _ => rfl)
  rcases h2 with h2 | h2 | h2
  · rcases Nat.lt_or_ge i 24 with h3 | h3
    · rw [sh_val (by omega) (by omega), up2_s, upd_va]
    · rw [sh_age (by omega) (by omega), up2_s, upd_va]
  · rw [sh_ta (by omega) (by omega), up2_s, upd_va]
  · rw [sh_tv (by omega) (by omega), up2_s, upd_va]
theorem Rp.pBool {i k : Nat} {x : Int32} (h : Rp G μ ad r g) (h2 : (32 ≤ i ∧ i < 36) ∨ (40 ≤ i ∧ i < 44)) : Rp G (mu_up μ (ad i) (.inl (G.2.2.1 1, 4, .inl (upd (r i) k x)))) ad (up2 r i k x) g := by
  refine h.set (by omega) ?_ (fun j hj => up2_n hj) (fun _ _ => rfl)
  rcases h2 with h2 | h2
  · rw [sh_tr (by omega) (by omega), up2_s, upd_va]
  · rw [sh_tp (by omega) (by omega), up2_s, upd_va]
theorem Rp.pCell {u k x : Nat} (h : Rp G μ ad r g) (hu : u < 6) : Rp G (mu_up μ (ad (10 + u)) (.inl (G.2.2.1 5, 60, .inr (.inr (.inr (.inr (va_up (fun o => some (g (10 + u) o)) k (some x)))))))) ad r (up2 g (10 + u) k x) := by
  refine h.set (by omega) ?_ (fun _ _ => rfl) (fun j hj => up2_n hj)
  rw [sh_cells (by omega) (by omega), up2_s, va_up_some]
theorem Rp.pSeq0 {x : Int32} (h : Rp G μ ad r g) : Rp G (mu_up μ (ad 3) (.inr (4, [.int x, .int (r 3 1), .int (r 3 2)]))) ad (up2 r 3 0 x) g :=
  h.set (by omega) (by rw [sh_seq (by omega) (by omega), up2_s]; rfl) (fun j hj => up2_n hj) (fun _ _ => rfl)
theorem Rp.pSeq1 {x : Int32} (h : Rp G μ ad r g) : Rp G (mu_up μ (ad 3) (.inr (4, [.int (r 3 0), .int x, .int (r 3 2)]))) ad (up2 r 3 1 x) g :=
  h.set (by omega) (by rw [sh_seq (by omega) (by omega), up2_s]; rfl) (fun j hj => up2_n hj) (fun _ _ => rfl)
theorem Rp.pSeq2 {x : Int32} (h : Rp G μ ad r g) : Rp G (mu_up μ (ad 3) (.inr (4, [.int (r 3 0), .int (r 3 1), .int x]))) ad (up2 r 3 2 x) g :=
  h.set (by omega) (by rw [sh_seq (by omega) (by omega), up2_s]; rfl) (fun j hj => up2_n hj) (fun _ _ => rfl)
theorem Rp.pUp {u : Nat} {x : Int32} (h : Rp G μ ad r g) (hu : u < 6) : Rp G (mu_up μ (ad (4 + u)) (.inr (1, [.ref (ad (10 + u)), .int x, .int (r (4 + u) 2)]))) ad (up2 r (4 + u) 1 x) g :=
  h.set (by omega) (by rw [sh_unit (by omega) (by omega), up2_s, show 4 + u + 6 = 10 + u by omega]; rfl) (fun j hj => up2_n hj) (fun _ _ => rfl)
theorem Rp.pSeal {u : Nat} {x : Int32} (h : Rp G μ ad r g) (hu : u < 6) : Rp G (mu_up μ (ad (4 + u)) (.inr (1, [.ref (ad (10 + u)), .int (r (4 + u) 1), .int x]))) ad (up2 r (4 + u) 2 x) g :=
  h.set (by omega) (by rw [sh_unit (by omega) (by omega), up2_s, show 4 + u + 6 = 10 + u by omega]; rfl) (fun j hj => up2_n hj) (fun _ _ => rfl)
theorem Rp.pTxn {c : Nat} {x : Int32} (h : Rp G μ ad r g) (hc : c < 4) : Rp G (mu_up μ (ad (16 + c)) (.inr (6, [.ref (ad (20 + c)), .ref (ad (24 + c)), .ref (ad (28 + c)), .int x, .int (r (16 + c) 4), .ref (g (16 + c) 5)]))) ad (up2 r (16 + c) 3 x) g :=
  h.set (by omega) (by rw [sh_cli (by omega) (by omega), up2_s, show 16 + c + 4 = 20 + c by omega, show 16 + c + 8 = 24 + c by omega, show 16 + c + 12 = 28 + c by omega]; rfl) (fun j hj => up2_n hj) (fun _ _ => rfl)
theorem Rp.pPos {c : Nat} {x : Int32} (h : Rp G μ ad r g) (hc : c < 4) : Rp G (mu_up μ (ad (16 + c)) (.inr (6, [.ref (ad (20 + c)), .ref (ad (24 + c)), .ref (ad (28 + c)), .int (r (16 + c) 3), .int x, .ref (g (16 + c) 5)]))) ad (up2 r (16 + c) 4 x) g :=
  h.set (by omega) (by rw [sh_cli (by omega) (by omega), up2_s, show 16 + c + 4 = 20 + c by omega, show 16 + c + 8 = 24 + c by omega, show 16 + c + 12 = 28 + c by omega]; rfl) (fun j hj => up2_n hj) (fun _ _ => rfl)
theorem Rp.pKn {c x : Nat} (h : Rp G μ ad r g) (hc : c < 4) : Rp G (mu_up μ (ad (16 + c)) (.inr (6, [.ref (ad (20 + c)), .ref (ad (24 + c)), .ref (ad (28 + c)), .int (r (16 + c) 3), .int (r (16 + c) 4), .ref x]))) ad r (up2 g (16 + c) 5 x) :=
  h.set (by omega) (by rw [sh_cli (by omega) (by omega), up2_s, show 16 + c + 4 = 20 + c by omega, show 16 + c + 8 = 24 + c by omega, show 16 + c + 12 = 28 + c by omega]; rfl) (fun _ _ => rfl) (fun j hj => up2_n hj)
theorem Rp.pIns {x : Nat} (h : Rp G μ ad r g) : Rp G (mu_up μ (ad 0) (.inr (0, [.ref (ad 1), .ref (ad 2), .ref (ad 3), .ref (g 0 3), .ref (g 0 4), .ref (g 0 5), .ref x]))) ad r (up2 g 0 6 x) :=
  h.set (by omega) (by rw [sh_log (by omega) (by omega), up2_s]; rfl) (fun _ _ => rfl) (fun j hj => up2_n hj)
end RpGet
/-! what is never changed: φ is a part of the map, off the roles; the strangers' cells G.2.2.2.2 are kept, and φ is off them -/
def Fz (G : mt_G) (μ φ : mu_M) (ad : Nat → Nat) : Prop := (∀ (a : Nat) (e : va_E), φ a = some e → (μ a = some e ∧ ∀ i, i < 48 → a ≠ ad i) ∧ G.2.2.2.2 a = none) ∧ ∀ (a : Nat) (e : va_E), G.2.2.2.2 a = some e → μ a = some e ∧ ∀ i, i < 48 → a ≠ ad i
def sub (φ φ' : mu_M) : Prop := ∀ (a : Nat) (e : va_E), φ a = some e → φ' a = some e
theorem sub.rf (φ : mu_M) : sub φ φ := fun _ _ h => h
theorem sub.tr {φ φ1 φ2 : mu_M} (h : sub φ φ1) (h2 : sub φ1 φ2) : sub φ φ2 := fun a e q => h2 a e (h a e q)
theorem Fz.mv {G : mt_G} {μ μ' φ : mu_M} {ad : Nat → Nat} (h : Fz G μ φ ad) (hk : ∀ a e, (∀ i, i < 48 → a ≠ ad i) → μ a = some e → μ' a = some e) : Fz G μ' φ ad :=
  ⟨fun a e he => ⟨⟨hk a e (h.1 a e he).1.2 (h.1 a e he).1.1, (h.1 a e he).1.2⟩, (h.1 a e he).2⟩, fun a e he => ⟨hk a e (h.2 a e he).2 (h.2 a e he).1, (h.2 a e he).2⟩⟩
theorem Fz.up {G : mt_G} {μ φ : mu_M} {ad : Nat → Nat} {i : Nat} {e : va_E} (h : Fz G μ φ ad) (hi : i < 48) : Fz G (mu_up μ (ad i) e) φ ad := h.mv fun a x ha hx => by rw [mu_up_n (ha i hi)]; exact hx
theorem Fz.new {G : mt_G} {μ φ : mu_M} {ad : Nat → Nat} {q : Nat} {e : va_E} (h : Fz G μ φ ad) (hq : μ q = none) : Fz G (mu_up μ q e) φ ad := h.mv fun a x ha hx => by rw [mu_up_n (fun z => by rw [z, hq] at hx; cases hx)]; exact hx
theorem sub.add {φ : mu_M} {q : Nat} {e : va_E} (hq : φ q = none) : sub φ (mu_up φ q e) := fun a x hx => by
  rw [mu_up_n (fun z => by rw [z, hq] at hx; cases hx)]
  exact hx
