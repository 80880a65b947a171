/-! THE CLAIM OUT OF ONE WALK OF THE LAW'S BODY. Your part is whole_start (and what it stands on); all else here is the same for every law, but numbers. -/
def R_law : String := "SharedLogLaw"
def lw_P (b : Addr) (xs : List Int32) (args : Array Value) (s : State) : Prop := args = #[.ref b] ∧ s.IntsAt b xs ∧ xs.length ≤ 2560 ∧ (Jvm.Cond.and given_1 narrow_1).before args s = true
def lw_Q (_ : Array Value) (s : State) (o : Outcome) (t : State) : Prop := o = .returned (some (.int 1)) ∧ Framed s o t [] 671412 7081867
def lw_Z (below : List Frame) (a : Array Value) (s : State) : State → Prop := fun t => ∃ o, t.status = .running ∧ Ended t below o ∧ lw_Q a s o t
/-- the law's own end, with 1 on the stack, nothing written that was there before, its room as the claim has it -/
theorem lw_ret {p : Program} {l : Launch} {e : Env} {s : State} {m : MethodId} {below : List Frame} {meth : Method} {c : Code} {b : Nat} (hx : p.tables.exec = Jvm.exec) (hb : c.code = code) (hr : meth.sig.returnType = ret) (hlocks : meth.locks = false) {pc : Nat} {H : Heap} {ls : Array Slot} (hdg : decode code pc = .ok (.ireturn, 1)) : W p l e room_1 s m #[Value.ref b] below meth c H [] 671412 7081867 (lw_Z below #[Value.ref b] s) (F0 m pc ls [.int 1]) := by
  intro T hT X
  obtain ⟨fs, hret, hrun, hended, hW, hframe⟩ := X.leave (v := some (.int 1)) (hlocks := hlocks) (fun h => by rw [hr] at h; cases h)
  have hmeth' : T.vm.method? m = some meth := X.method'
  refine ⟨T.setFrames fs, ?_, .returned (some (.int 1)), hrun, hended, rfl, ⟨_, rfl⟩, hW, hframe⟩
  jvm_step X.here [X.here.top, hx, hb, hdg, hmeth', hr, ret, narrow_b1]
  (try refine ⟨rfl, ?_⟩); (try refine ⟨rfl, ?_⟩)
  first | (intro acts; rw [hret _ acts rfl rfl rfl]) | rw [hret _ _ rfl rfl rfl]
  exact Steps.refl _
/-- what holds at the law's entry: the machine, the code, the tables' words (any of lw_tbl by 'hts w (by decide +kernel)'), the script of L ints xs at the cell b, what the Statement gives of the start (any of its parts by flat_of_before) -/
def lw_At (p : Program) (s : State) (m : MethodId) (meth : Method) (c : Code) (b L : Nat) (xs : Nat → Int32) : Prop :=
  p.tables.exec = Jvm.exec ∧ c.code = code ∧ meth.sig.returnType = ret ∧ c.maxLocals = 7 ∧ s.vm.findClass R_law = some m.cls ∧ (∀ w ∈ lw_tbl, w.before #[Value.ref b] s = true) ∧ va_X b L xs s s.heap ∧ b < s.heap.size ∧ meth.locks = false ∧ (Jvm.Cond.and given_1 narrow_1).before #[Value.ref b] s = true
/-! THE LAW'S OWN METHOD; the script is read through what is owed at the end -/
def M_law : mt_M := (x, code, 7, ret, none, room_1)
def QL (G : mt_G) (b L : Nat) (xs : Nat → Int32) : mt_Q := fun below args s t => (args = #[Value.ref b] ∧ G.2.2.2.1 = s.heap.size ∧ va_X b L xs s s.heap ∧ b < s.heap.size) → lw_Z below args s t
section LW
variable {G : mt_G} {lo : List (Nat × Value)} {pc : Nat} {rest : List Value} {μ : mu_M} {cn sn b L : Nat} {xs : Nat → Int32}
theorem wl_sld {j : Nat} {ix : Int32} (hdg : decode code pc = .ok (.iaload, 1)) (hi : ix = nI j) (hj : j < L) (hL : L < 2 ^ 31) (kk : WP G M_law (QL G b L xs) lo (pc + 1) (.int (xs j) :: rest) μ cn sn) : WP G M_law (QL G b L xs) lo pc (.int ix :: .ref b :: rest) μ cn sn := by
  subst hi
  intro hg p e s m args below meth c H locs ls hM hV hS hL'
  by_cases K : (args = #[Value.ref b] ∧ G.2.2.2.1 = s.heap.size ∧ va_X b L xs s s.heap ∧ b < s.heap.size)
  · refine va_sld (A := AA G.2.2.2.1) (H0 := s.heap) hM.1 hM.2.1 K.2.2.1 K.2.2.2 (fun h => absurd K.2.2.2 (by have h9 : G.2.2.2.1 ≤ b := h; have h8 := K.2.1; omega)) hS (vp_in_nI hj hL) hdg ?_
    rw [nI_clamp (Nat.lt_trans hj hL)]
    exact kk hg p e s m args below meth c H locs ls hM hV hS hL'
  · exact fun T hT X => ⟨_, Steps.refl _, fun h => absurd h K⟩
theorem wl_slen (hdg : decode code pc = .ok (.arraylength, 1)) (kk : WP G M_law (QL G b L xs) lo (pc + 1) (.int (nI L) :: rest) μ cn sn) : WP G M_law (QL G b L xs) lo pc (.ref b :: rest) μ cn sn := by
  intro hg p e s m args below meth c H locs ls hM hV hS hL'
  by_cases K : (args = #[Value.ref b] ∧ G.2.2.2.1 = s.heap.size ∧ va_X b L xs s s.heap ∧ b < s.heap.size)
  · exact va_slen (A := AA G.2.2.2.1) (H0 := s.heap) hM.1 hM.2.1 K.2.2.1 K.2.2.2 (fun h => absurd K.2.2.2 (by have h9 : G.2.2.2.1 ≤ b := h; have h8 := K.2.1; omega)) hS hdg (kk hg p e s m args below meth c H locs ls hM hV hS hL')
  · exact fun T hT X => ⟨_, Steps.refl _, fun h => absurd h K⟩
theorem wl_ret (hdg : decode code pc = .ok (.ireturn, 1)) (hc : cn ≤ (mt_R M_law).cells) (hs : sn ≤ (mt_R M_law).slots) : WP G M_law (QL G b L xs) lo pc [.int 1] μ cn sn := by
  intro hg p e s m args below meth c H locs ls hM hV hS hL'
  by_cases K : (args = #[Value.ref b] ∧ G.2.2.2.1 = s.heap.size ∧ va_X b L xs s s.heap ∧ b < s.heap.size)
  · obtain ⟨rfl, hB, -⟩ := K
    refine va_forget (fun q hq => ?_) (W.widen hc hs ?_)
    · have h9 : G.2.2.2.1 ≤ q.base := hS.2.2 q hq
      exact Nat.le_trans (Nat.le_of_eq hB.symm) h9
    · intro T hT X
      obtain ⟨t, a1, b1⟩ := lw_ret hM.1 hM.2.1 hM.2.2.1 hM.2.2.2.2.2.1 hdg T hT X
      exact ⟨t, a1, fun _ => b1⟩
  · exact fun T hT X => ⟨_, Steps.refl _, fun h => absurd h K⟩
end LW
