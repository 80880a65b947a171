/-! CONTRACTS AND WALKS over whole maps. WALL (good words), classes, TYS, STRS, NSTS, AOS are named ahead. -/
def AA (B0 : Nat) : Nat → Prop := fun q => B0 ≤ q
def mc_Q (D : va_G) (cl : List vw_C) (A : Nat → Prop) (post : Option Value → mu_M → Prop) : Array Value → State → Outcome → State → Prop := fun _ st oc t => (∃ (v : Option Value) (μ : mu_M), oc = .returned v ∧ post v μ ∧ mu_V D cl μ t.heap) ∧ va_F A st t
def mc_X (D : va_G) (cl : List vw_C) (A : Nat → Prop) (px : String → mu_M → Prop) : String → State → State → Prop := fun E st t => ∃ μ : mu_M, px E μ ∧ mu_V D cl μ t.heap ∧ va_F A st t
theorem bad_warm {s U : State} (hW : s.WarmedH U.vm) {w : Cond} (hb : isBad w = true) (h : va_Nw w s) : va_Nw w U := by
  cases w <;> first | exact va_Nw.warmC hW h | exact va_Nw.warmD hW h | (simp [isBad] at hb; done)
theorem bad_use {A : Array Value} {U : State} {w : Cond} (hb : isBad w = true) (h : va_Nw w U) : w.before A U = true := by
  cases w <;> first | exact va_Nw.use rfl h | (simp [isBad] at hb; done)
/-- what holds all through the run: tables' words, classes, the throwables' statics, string constants -/
def Amb (D : va_G) (cT : Nat → ClassId) (B0 : Nat) (U : State) : Prop :=
  va_K D classes (TYS cT) U ∧ (∀ w ∈ WALL, w.before #[] U = true) ∧ vx_Zq Bundle.tN "UNASSIGNED_STACK" Bundle.steD (AA B0) U U.heap ∧ vx_Zq Bundle.tN "SUPPRESSED_SENTINEL" Bundle.listD (AA B0) U U.heap ∧
  (∀ q ∈ STRS, ∃ sa : Nat, vk_R q.1 q.2.1 q.2.2 sa U) ∧ (∀ q ∈ NSTS, va_Nw (.methodLinkNest q.1 q.2.1 q.2.2.1 q.2.2.2) U) ∧ (∀ C ∈ AOS, va_AO C U) ∧ (∀ w ∈ WBAD, va_Nw w U) ∧ (∀ q ∈ NCS, va_Nc q.1 q.2 U) ∧ B0 ≤ U.heap.size
theorem Amb.warm {D : va_G} {cT : Nat → ClassId} {B0 : Nat} {s U : State} (hW : s.WarmedH U.vm) (hz : s.heap.size ≤ U.heap.size) (hh : ∀ q : Nat, q < s.heap.size → ¬ AA B0 q → U.heap[q]? = s.heap[q]?) (h : Amb D cT B0 s) : Amb D cT B0 U := by
  obtain ⟨h1, h2, h3, h4, h5, h6, h7, h9, h10, h8⟩ := h
  refine ⟨va_K.moved hW.alike h1, fun w hw => word_at hW (good_of_word (List.all_eq_true.mp WALL_good w hw)) (h2 w hw), (vx_Zq.moved hW.alike h3).kept hh, (vx_Zq.moved hW.alike h4).kept hh, fun q hq => ?_, fun q hq => va_Nw.warmM hW (h6 q hq), fun C hC => va_AO.moved hW.alike (h7 C hC), fun w hw => bad_warm hW (List.mem_filter.mp hw).2 (h9 w hw), fun q hq => va_Nc.moved hW.alike (h10 q hq), Nat.le_trans h8 hz⟩
  obtain ⟨sa, hsa⟩ := h5 q hq
  exact ⟨sa, vk_R.warm hW hsa⟩
theorem Amb.ts {D : va_G} {cT : Nat → ClassId} {B0 : Nat} {s : State} (h : Amb D cT B0 s) (args : Array Value) : ∀ w ∈ WALL, w.before args s = true := fun w hw => word_at (State.WarmedH.refl s) (good_of_word (List.all_eq_true.mp WALL_good w hw)) (h.2.1 w hw)
theorem Amb.at {D : va_G} {cT : Nat → ClassId} {B0 : Nat} {s U : State} {H : Heap} {locs : List Loc} (h : Amb D cT B0 s) (hS : va_S (AA B0) s.heap H locs) (hU : U.heap = H) (hW : s.WarmedH U.vm) : Amb D cT B0 U :=
  h.warm hW (by rw [hU]; exact hS.1) (fun q h1 h2 => by rw [hU]; exact hS.2.1 q h1 h2)
def mc_P (D : va_G) (cT : Nat → ClassId) (B0 : Nat) (av : List Value) (μ : mu_M) : Array Value → State → Prop := va_Pc av (fun U => Amb D cT B0 U ∧ mu_V D classes μ U.heap)
theorem mc_blind (D : va_G) (cT : Nat → ClassId) (B0 : Nat) (av : List Value) (μ : mu_M) : FrameBlind (mc_P D cT B0 av μ) := by
  intro a U g mk h
  obtain ⟨h1, h2, h3⟩ := h
  exact ⟨h1, Amb.warm (s := U) (U := U.calling g mk a) (State.WarmedH.refl U) (Nat.le_refl _) (fun _ _ _ => rfl) h2, h3⟩
/-- a method: its name, code, locals, result, handlers (none: not asked), room -/
abbrev mt_M : Type := MethodName × ByteArray × Nat × Option FieldType × Option (List (Nat × Nat × Nat × Nat)) × Room
abbrev mt_y (M : mt_M) : MethodName := M.1
abbrev mt_c (M : mt_M) : ByteArray := M.2.1
abbrev mt_l (M : mt_M) : Nat := M.2.2.1
abbrev mt_r (M : mt_M) : Option FieldType := M.2.2.2.1
abbrev mt_h (M : mt_M) : Option (List (Nat × Nat × Nat × Nat)) := M.2.2.2.2.1
abbrev mt_R (M : mt_M) : Room := M.2.2.2.2.2
/-- the run: launch, classes' numbers and slots, array classes, the heap's size at its start -/
abbrev mt_G : Type := Launch × va_G × (Nat → ClassId) × Nat × mu_M
abbrev mt_Q : Type := List Frame → Array Value → State → State → Prop
def mt_S (G : mt_G) (M : mt_M) (p : Program) (s : State) (m : MethodId) (args : Array Value) (meth : Method) (c : Code) : Prop :=
  p.tables.exec = Jvm.exec ∧ c.code = mt_c M ∧ meth.sig.returnType = mt_r M ∧ c.maxLocals = mt_l M ∧ s.vm.findClass (mt_y M).cls = some m.cls ∧ meth.locks = false ∧ (∀ h, mt_h M = some h → c.exceptionTable.toList = tableOf h) ∧ ((mt_y M).name = "<init>" → meth.name = "<init>") ∧ Amb G.2.1 G.2.2.1 G.2.2.2.1 s
/-- the machine, in a frame of M at pc with locals lo and stack st, over the map μ, comes to an end with QE -/
def WP (G : mt_G) (M : mt_M) (QE : mt_Q) (lo : List (Nat × Value)) (pc : Nat) (st : List Value) (μ : mu_M) (cn sn : Nat) : Prop :=
  G.1.stackTraces = false → ∀ (p : Program) (e : Env) (s : State) (m : MethodId) (args : Array Value) (below : List Frame) (meth : Method) (c : Code) (H : Heap) (locs : List Loc) (ls : Array Slot), mt_S G M p s m args meth c → mu_V G.2.1 classes μ H → va_S (AA G.2.2.2.1) s.heap H locs → lv_has ls (mt_l M) lo →
    W p G.1 e (mt_R M) s m args below meth c H locs cn sn (QE below args s) (F0 m pc ls st)
/-- a contract: M called with av over μ returns v with post v μ', or throws E with px E μ' -/
def CT (G : mt_G) (M : mt_M) (av : List Value) (μ : mu_M) (post : Option Value → mu_M → Prop) (px : String → mu_M → Prop) : Prop :=
  G.1.stackTraces = false → vx_Met G.1 (mt_y M) [.code (mt_y M) (mt_c M) (mt_l M) (mt_r M)] (mt_R M) (mc_P G.2.1 G.2.2.1 G.2.2.2.1 av μ) (mc_Q G.2.1 classes (AA G.2.2.2.1) post) (mc_X G.2.1 classes (AA G.2.2.2.1) px) (mt_R M).cells (mt_R M).slots (AA G.2.2.2.1)
def CTH (G : mt_G) (M : mt_M) (hh : List (Nat × Nat × Nat × Nat)) (av : List Value) (μ : mu_M) (post : Option Value → mu_M → Prop) (px : String → mu_M → Prop) : Prop :=
  G.1.stackTraces = false → vx_Met G.1 (mt_y M) [.codeWith (mt_y M) (mt_c M) (mt_l M) (mt_r M) hh] (mt_R M) (mc_P G.2.1 G.2.2.1 G.2.2.2.1 av μ) (mc_Q G.2.1 classes (AA G.2.2.2.1) post) (mc_X G.2.1 classes (AA G.2.2.2.1) px) (mt_R M).cells (mt_R M).slots (AA G.2.2.2.1)
def EC (G : mt_G) (M : mt_M) (post : Option Value → mu_M → Prop) (px : String → mu_M → Prop) : mt_Q := fun below args s =>
  vx_MQ below (mc_Q G.2.1 classes (AA G.2.2.2.1) post) (mc_X G.2.1 classes (AA G.2.2.2.1) px) args s (mt_R M).cells (mt_R M).slots (AA G.2.2.2.1)
theorem CT.of {G : mt_G} {M : mt_M} {av : List Value} {μ : mu_M} {post : Option Value → mu_M → Prop} {px : String → mu_M → Prop} (hy : plainName (mt_y M).cls = true) (hh : mt_h M = some []) (hlen : (lg_sl av).length ≤ mt_l M)
    (body : WP G M (EC G M post px) (lv_args 0 av) 0 [] μ 0 0) : CT G M av μ post px := by
  intro hg
  refine vx_ofW (cc := mt_c M) (maxL := mt_l M) (ret := mt_r M) hy rfl ?_
  intro p e s m args below meth c s₁ B hml hno hv
  obtain ⟨rfl, hAm, hV⟩ := hv
  rw [lg_entry_eq]
  refine body hg p e s m av.toArray below meth c s.heap [] _ ⟨B.exec, B.bytes, B.returns, hml, findClass_of_methodNamed B.named, B.notSynchronized, fun h h9 => ?_, fun h => (name_of_methodNamed B.named B.method).1.trans h, hAm⟩ hV va_S.rf (lv_entry av hlen)
  rw [hh] at h9
  cases h9
  exact List.eq_nil_iff_forall_not_mem.mpr hno
theorem CTH.of {G : mt_G} {M : mt_M} {hh : List (Nat × Nat × Nat × Nat)} {av : List Value} {μ : mu_M} {post : Option Value → mu_M → Prop} {px : String → mu_M → Prop} (hy : plainName (mt_y M).cls = true) (hhm : mt_h M = some hh) (hlen : (lg_sl av).length ≤ mt_l M)
    (body : WP G M (EC G M post px) (lv_args 0 av) 0 [] μ 0 0) : CTH G M hh av μ post px := by
  intro hg
  refine vx_ofWH (cc := mt_c M) (maxL := mt_l M) (ret := mt_r M) (hh := hh) hy rfl ?_
  intro p e s m args below meth c s₁ B hml hv
  obtain ⟨rfl, hAm, hV⟩ := hv
  rw [lg_entry_eq]
  refine body hg p e s m av.toArray below meth c s.heap [] _ ⟨B.exec, B.bytes, B.returns, hml, findClass_of_methodNamed B.named, B.notSynchronized, fun h h9 => ?_, fun h => (name_of_methodNamed B.named B.method).1.trans h, hAm⟩ hV va_S.rf (lv_entry av hlen)
  rw [hhm] at h9
  cases h9
  exact vx_table (x := mt_y M) B (atoms_spec (ws := [Cond.codeWith (mt_y M) (mt_c M) (mt_l M) (mt_r M) hh]) B.pre _ List.mem_cons_self)
/-- a constructor's contract: it returns -/
def CTI (G : mt_G) (M : mt_M) (av : List Value) (μ : mu_M) (post : Option Value → mu_M → Prop) : Prop :=
  G.1.stackTraces = false → Met G.1 (mt_y M) [.code (mt_y M) (mt_c M) (mt_l M) (mt_r M)] (mt_R M) (mc_P G.2.1 G.2.2.1 G.2.2.2.1 av μ) (mc_Q G.2.1 classes (AA G.2.2.2.1) post) (mt_R M).cells (mt_R M).slots (AA G.2.2.2.1)
def ECI (G : mt_G) (M : mt_M) (post : Option Value → mu_M → Prop) : mt_Q := fun below args s =>
  MQ below (mc_Q G.2.1 classes (AA G.2.2.2.1) post) args s (mt_R M).cells (mt_R M).slots (AA G.2.2.2.1)
theorem CTI.of {G : mt_G} {M : mt_M} {av : List Value} {μ : mu_M} {post : Option Value → mu_M → Prop} (hy : plainName (mt_y M).cls = true) (hh : mt_h M = some []) (hlen : (lg_sl av).length ≤ mt_l M)
    (body : WP G M (ECI G M post) (lv_args 0 av) 0 [] μ 0 0) : CTI G M av μ post := by
  intro hg
  refine Met.ofW (cc := mt_c M) (maxL := mt_l M) (ret := mt_r M) hy rfl ?_
  intro p e s m args below meth c s₁ B hml hv
  obtain ⟨rfl, hAm, hV⟩ := hv
  rw [lg_entry_eq]
  refine body hg p e s m av.toArray below meth c s.heap [] _ ⟨B.exec, B.bytes, B.returns, hml, findClass_of_methodNamed B.named, B.notSynchronized, fun h h9 => ?_, fun h => (name_of_methodNamed B.named B.method).1.trans h, hAm⟩ hV va_S.rf (lv_entry av hlen)
  rw [hh] at h9
  cases h9
  obtain ⟨meth9, c9, h1, h2, -, -, -, -, h7, -⟩ := Cond.code_spec B.named (atoms_spec (ws := [Cond.code (mt_y M) (mt_c M) (mt_l M) (mt_r M)]) B.pre _ List.mem_cons_self)
  cases Option.some.inj (h1.symm.trans B.method)
  cases Option.some.inj (h2.symm.trans (Stand.of_body B).code)
  rw [Array.isEmpty_iff.mp h7]
  rfl
/-- locals by their number -/
def lkp : List (Nat × Value) → Nat → Option Value
  | [], _ => none
  | q :: t, i => cond (Nat.beq q.1 i) (some q.2) (lkp t i)
theorem lkp_mem : ∀ {lo : List (Nat × Value)} {i : Nat} {v : Value}, lkp lo i = some v → (i, v) ∈ lo
  | [], _, _, h => by cases h
  | q :: t, i, v, h => by
    unfold lkp at h
    cases hb : Nat.beq q.1 i with
    | true =>
      rw [hb] at h
      have e1 : q.1 = i := Nat.eq_of_beq_eq_true hb
      have e2 : q.2 = v := Option.some.inj h
      rw [← e1, ← e2]
      exact List.mem_cons_self
    | false =>
      rw [hb] at h
      exact List.mem_cons_of_mem _ (lkp_mem h)
theorem lkp_at {ls : Array Slot} {nL : Nat} {lo : List (Nat × Value)} (h : lv_has ls nL lo) {i : Nat} {v : Value} (hk : lkp lo i = some v) : ls[i]? = some (.val v) := h.2.2 (i, v) (lkp_mem hk)
def lst (lo : List (Nat × Value)) (i : Nat) (v : Value) : List (Nat × Value) := (i, v) :: lo.filter (fun q => !(q.1 == i) && !(q.1 + 1 == i && q.2.category == 2))
def lstL (lo : List (Nat × Value)) (i : Nat) (v : Value) : List (Nat × Value) := (i, v) :: lo.filter (fun q => !(q.1 == i) && (!(q.1 == i + 1) && !(q.1 + 1 == i && q.2.category == 2)))
/-- a field's place: the pool's number idx of class own names field k of class ci -/
def fl_P (own : String) (idx ci k : Nat) : Prop := ∃ (C : String) (T : u_T) (N : Nat) (ty : Nat → FieldType), mk_C WALL classes ci C T N ty ∧ k < N ∧ Cond.fieldLink own idx (T k).1 (T k).2.1 (T k).2.2.1 ∈ WALL
def fp_P (own : String) (idx ci k : Nat) (t : FieldType) : Prop := ∃ (C : String) (T : u_T) (N : Nat) (ty : Nat → FieldType), mk_C WALL classes ci C T N ty ∧ k < N ∧ Cond.fieldLink own idx (T k).1 (T k).2.1 (T k).2.2.1 ∈ WALL ∧ (T k).2.2.2 = false ∧ ty k = t
def ff_P (own : String) (idx ci k : Nat) (t : FieldType) : Prop := ∃ (C : String) (T : u_T) (N : Nat) (ty : Nat → FieldType), mk_C WALL classes ci C T N ty ∧ k < N ∧ Cond.fieldLink own idx (T k).1 (T k).2.1 (T k).2.2.1 ∈ WALL ∧ (T k).2.2.2 = true ∧ (T k).1 = own ∧ ty k = t
def nw_P (own : String) (idx ci N : Nat) (fs : List Value) : Prop := ∃ (C : String) (T : u_T) (ty : Nat → FieldType), mk_C WALL classes ci C T N ty ∧ Cond.classLink own idx C ∈ WALL ∧ Cond.instantiable C N ∈ WALL ∧ Cond.initialized C ∈ WALL ∧ ∀ j, j < N → defaultValue (ty j) = vp_V fs j
def cb_P (own : String) (idx : Nat) (M : mt_M) (n : Nat) : Prop := Cond.methodLink own idx (mt_y M) ∈ WALL ∧ Cond.initialized (mt_y M).cls ∈ WALL ∧ ((mt_y M).cls ≠ "java/lang/invoke/MethodHandle" ∧ (mt_y M).cls ≠ "java/lang/invoke/VarHandle") ∧ (parseMethodDescriptor (mt_y M).desc).map (fun d => d.parameters.length) = some n
def cd_P (M : mt_M) : Prop := Cond.code (mt_y M) (mt_c M) (mt_l M) (mt_r M) ∈ WALL
def cv_P (own : String) (idx ci : Nat) (M : mt_M) (n : Nat) : Prop := cb_P own idx M n ∧ Cond.instanceMethod (mt_y M) ∈ WALL ∧ ∃ (C : String) (T : u_T) (N : Nat), classes[ci]? = some (C, T, N) ∧ Cond.selects C (mt_y M) (mt_y M) ∈ WALL
def cs_P (own : String) (idx : Nat) (M : mt_M) (n : Nat) : Prop := cb_P own idx M n ∧ Cond.static (mt_y M) ∈ WALL
def ci_P (own : String) (idx : Nat) (M : mt_M) (n : Nat) : Prop := cb_P own idx M n ∧ Cond.instanceMethod (mt_y M) ∈ WALL ∧ (mt_y M).name = "<init>" ∧ mt_r M = none
def cn_P (own : String) (idx : Nat) (M : mt_M) (host : String) (n : Nat) : Prop := (own, idx, mt_y M, host) ∈ NSTS ∧ Cond.initialized (mt_y M).cls ∈ WALL ∧ ((mt_y M).cls ≠ "java/lang/invoke/MethodHandle" ∧ (mt_y M).cls ≠ "java/lang/invoke/VarHandle") ∧ (parseMethodDescriptor (mt_y M).desc).map (fun d => d.parameters.length) = some n ∧ Cond.instanceMethod (mt_y M) ∈ WALL ∧ (mt_y M).name = "<init>" ∧ mt_r M = none
/-- the callee's frames and locals Bundle.fit -/
def rf_P (M' M : mt_M) : Prop := (mt_R M').frames + 1 ≤ (mt_R M).frames ∧ 8 + (mt_l M' + 11) + (mt_R M').locals ≤ (mt_R M).locals
def th_P (own cls text : String) (ik is ic : Nat) (names : List String) : Prop := Bundle.fit cls = true ∧ (∀ n ∈ names, Bundle.fit n = true) ∧ Cond.classLink own ik cls ∈ WALL ∧ Cond.initialized cls ∈ WALL ∧ (own, is, text) ∈ STRS ∧ (∀ w ∈ vx_atS own ic cls names, w ∈ WALL ∨ w ∈ WBAD) ∧ ∀ w ∈ Cond.classLink own ik cls :: Cond.initialized cls :: vx_atS own ic cls names, vx_ot w = true
section WPR
variable {G : mt_G} {M : mt_M} {QE : mt_Q} {lo : List (Nat × Value)} {pc : Nat} {rest : List Value} {μ : mu_M} {cn sn : Nat}
theorem WP.loc {st : List Value} (lo' : List (Nat × Value)) (h : lo'.map (fun q => lkp lo q.1) = lo'.map (fun q => some q.2)) (k : WP G M QE lo' pc st μ cn sn) : WP G M QE lo pc st μ cn sn :=
  fun hg p e s m args below meth c H locs ls hM hV hS hL => k hg p e s m args below meth c H locs ls hM hV hS ⟨hL.1, hL.2.1, fun q hq => lkp_at hL (List.map_inj_left.mp h q hq)⟩
theorem WP.widen {st : List Value} {k n : Nat} (h1 : cn ≤ k) (h2 : sn ≤ n) (kk : WP G M QE lo pc st μ k n) : WP G M QE lo pc st μ cn sn :=
  fun hg p e s m args below meth c H locs ls hM hV hS hL => W.widen h1 h2 (kk hg p e s m args below meth c H locs ls hM hV hS hL)
theorem WP.at {st st' : List Value} {pc' : Nat} (h1 : pc = pc') (h2 : st = st') (kk : WP G M QE lo pc' st' μ cn sn) : WP G M QE lo pc st μ cn sn := by
  rw [h1, h2]; exact kk
theorem wp_iload_n {k : Fin 4} {i : Nat} {x : Int32} (hdg : decode (mt_c M) pc = .ok (.iload_n k, 1)) (hi : (k : Nat) = i) (h : lkp lo i = some (.int x)) (kk : WP G M QE lo (pc + 1) (.int x :: rest) μ cn sn) : WP G M QE lo pc rest μ cn sn :=
  fun hg p e s m args below meth c H locs ls hM hV hS hL => lv_iload_n hM.1 hM.2.1 hdg hi (lkp_at hL h) (kk hg p e s m args below meth c H locs ls hM hV hS hL)
theorem wp_iload {i : Nat} {x : Int32} (hdg : decode (mt_c M) pc = .ok (.iload i, 2)) (h : lkp lo i = some (.int x)) (kk : WP G M QE lo (pc + 2) (.int x :: rest) μ cn sn) : WP G M QE lo pc rest μ cn sn :=
  fun hg p e s m args below meth c H locs ls hM hV hS hL => lv_iload hM.1 hM.2.1 hdg (lkp_at hL h) (kk hg p e s m args below meth c H locs ls hM hV hS hL)
theorem wp_lload_n {k : Fin 4} {i : Nat} {x : Int64} (hdg : decode (mt_c M) pc = .ok (.lload_n k, 1)) (hi : (k : Nat) = i) (h : lkp lo i = some (.long x)) (kk : WP G M QE lo (pc + 1) (.long x :: rest) μ cn sn) : WP G M QE lo pc rest μ cn sn :=
  fun hg p e s m args below meth c H locs ls hM hV hS hL => lv_lload_n hM.1 hM.2.1 hdg hi (lkp_at hL h) (kk hg p e s m args below meth c H locs ls hM hV hS hL)
theorem wp_lload {i : Nat} {x : Int64} (hdg : decode (mt_c M) pc = .ok (.lload i, 2)) (h : lkp lo i = some (.long x)) (kk : WP G M QE lo (pc + 2) (.long x :: rest) μ cn sn) : WP G M QE lo pc rest μ cn sn :=
  fun hg p e s m args below meth c H locs ls hM hV hS hL => lv_lload hM.1 hM.2.1 hdg (lkp_at hL h) (kk hg p e s m args below meth c H locs ls hM hV hS hL)
theorem wp_aload_n {k : Fin 4} {i : Nat} {x : Nat} (hdg : decode (mt_c M) pc = .ok (.aload_n k, 1)) (hi : (k : Nat) = i) (h : lkp lo i = some (.ref x)) (kk : WP G M QE lo (pc + 1) (.ref x :: rest) μ cn sn) : WP G M QE lo pc rest μ cn sn :=
  fun hg p e s m args below meth c H locs ls hM hV hS hL => lv_aload_n hM.1 hM.2.1 hdg hi (lkp_at hL h) (kk hg p e s m args below meth c H locs ls hM hV hS hL)
theorem wp_aload {i : Nat} {x : Nat} (hdg : decode (mt_c M) pc = .ok (.aload i, 2)) (h : lkp lo i = some (.ref x)) (kk : WP G M QE lo (pc + 2) (.ref x :: rest) μ cn sn) : WP G M QE lo pc rest μ cn sn :=
  fun hg p e s m args below meth c H locs ls hM hV hS hL => lv_aload hM.1 hM.2.1 hdg (lkp_at hL h) (kk hg p e s m args below meth c H locs ls hM hV hS hL)
theorem wp_istore_n {k : Fin 4} {i : Nat} {x : Int32} (hdg : decode (mt_c M) pc = .ok (.istore_n k, 1)) (hi : (k : Nat) = i) (hn : i < mt_l M) (kk : WP G M QE (lst lo i (.int x)) (pc + 1) rest μ cn sn) : WP G M QE lo pc (.int x :: rest) μ cn sn :=
  fun hg p e s m args below meth c H locs ls hM hV hS hL => lv_istore_n hM.1 hM.2.1 hdg hi hL hn rfl (fun ls hL => kk hg p e s m args below meth c H locs ls hM hV hS hL)
theorem wp_istore {i : Nat} {x : Int32} (hdg : decode (mt_c M) pc = .ok (.istore i, 2)) (hn : i < mt_l M) (kk : WP G M QE (lst lo i (.int x)) (pc + 2) rest μ cn sn) : WP G M QE lo pc (.int x :: rest) μ cn sn :=
  fun hg p e s m args below meth c H locs ls hM hV hS hL => lv_istore hM.1 hM.2.1 hdg hL hn rfl (fun ls hL => kk hg p e s m args below meth c H locs ls hM hV hS hL)
theorem wp_lstore_n {k : Fin 4} {i : Nat} {x : Int64} (hdg : decode (mt_c M) pc = .ok (.lstore_n k, 1)) (hi : (k : Nat) = i) (hn : i + 1 < mt_l M) (kk : WP G M QE (lstL lo i (.long x)) (pc + 1) rest μ cn sn) : WP G M QE lo pc (.long x :: rest) μ cn sn :=
  fun hg p e s m args below meth c H locs ls hM hV hS hL => lv_lstore_n hM.1 hM.2.1 hdg hi hL hn rfl (fun ls hL => kk hg p e s m args below meth c H locs ls hM hV hS hL)
theorem wp_lstore {i : Nat} {x : Int64} (hdg : decode (mt_c M) pc = .ok (.lstore i, 2)) (hn : i + 1 < mt_l M) (kk : WP G M QE (lstL lo i (.long x)) (pc + 2) rest μ cn sn) : WP G M QE lo pc (.long x :: rest) μ cn sn :=
  fun hg p e s m args below meth c H locs ls hM hV hS hL => lv_lstore hM.1 hM.2.1 hdg hL hn rfl (fun ls hL => kk hg p e s m args below meth c H locs ls hM hV hS hL)
theorem wp_astore_n {k : Fin 4} {i : Nat} {x : Nat} (hdg : decode (mt_c M) pc = .ok (.astore_n k, 1)) (hi : (k : Nat) = i) (hn : i < mt_l M) (kk : WP G M QE (lst lo i (.ref x)) (pc + 1) rest μ cn sn) : WP G M QE lo pc (.ref x :: rest) μ cn sn :=
  fun hg p e s m args below meth c H locs ls hM hV hS hL => lv_astore_n hM.1 hM.2.1 hdg hi hL hn rfl (fun ls hL => kk hg p e s m args below meth c H locs ls hM hV hS hL)
theorem wp_astore {i : Nat} {x : Nat} (hdg : decode (mt_c M) pc = .ok (.astore i, 2)) (hn : i < mt_l M) (kk : WP G M QE (lst lo i (.ref x)) (pc + 2) rest μ cn sn) : WP G M QE lo pc (.ref x :: rest) μ cn sn :=
  fun hg p e s m args below meth c H locs ls hM hV hS hL => lv_astore hM.1 hM.2.1 hdg hL hn rfl (fun ls hL => kk hg p e s m args below meth c H locs ls hM hV hS hL)
theorem wp_iinc {i : Nat} {d : Int} {x v : Int32} (hdg : decode (mt_c M) pc = .ok (.iinc i d, 3)) (h : lkp lo i = some (.int x)) (hv : x + Int32.ofInt d = v) (hn : i < mt_l M) (kk : WP G M QE (lst lo i (.int v)) (pc + 3) rest μ cn sn) : WP G M QE lo pc rest μ cn sn := by
  intro hg p e s m args below meth c H locs ls hM hV hS hL
  obtain ⟨k, hk⟩ := List.getElem?_of_mem (lkp_mem h)
  exact lv_iinc hM.1 hM.2.1 hdg hL hk hv hn rfl (fun ls hL => kk hg p e s m args below meth c H locs ls hM hV hS hL)
theorem wp_ishl {x y : Int32} (hdg : decode (mt_c M) pc = .ok (.ishl, 1)) (k : WP G M QE lo (pc + 1) (.int (x <<< (y &&& 31)) :: rest) μ cn sn) : WP G M QE lo pc (.int y :: .int x :: rest) μ cn sn :=
  fun hg p e s m args below meth c H locs ls hM hV hS hL => lv_ishl hM.1 hM.2.1 hdg (k hg p e s m args below meth c H locs ls hM hV hS hL)
theorem wp_ishr {x y : Int32} (hdg : decode (mt_c M) pc = .ok (.ishr, 1)) (k : WP G M QE lo (pc + 1) (.int (x >>> (y &&& 31)) :: rest) μ cn sn) : WP G M QE lo pc (.int y :: .int x :: rest) μ cn sn :=
  fun hg p e s m args below meth c H locs ls hM hV hS hL => lv_ishr hM.1 hM.2.1 hdg (k hg p e s m args below meth c H locs ls hM hV hS hL)
theorem wp_tableIn {dflt lo9 hi9 : Int} {offs : Array Int} {len : Nat} {x : Int32} {off : Int} {tgt : Nat} (hdg : decode (mt_c M) pc = .ok (.tableswitch dflt lo9 hi9 offs, len)) (h1 : ¬ x.toInt < lo9) (h2 : ¬ hi9 < x.toInt) (ho : offs[(x.toInt - lo9).toNat]? = some off) (ht : (pc : Int) + off = (tgt : Int)) (k : WP G M QE lo tgt rest μ cn sn) : WP G M QE lo pc (.int x :: rest) μ cn sn :=
  fun hg p e s m args below meth c H locs ls hM hV hS hL => lv_tableIn hM.1 hM.2.1 hdg h1 h2 ho ht (k hg p e s m args below meth c H locs ls hM hV hS hL)
theorem wp_tableOut {dflt lo9 hi9 : Int} {offs : Array Int} {len : Nat} {x : Int32} {tgt : Nat} (hdg : decode (mt_c M) pc = .ok (.tableswitch dflt lo9 hi9 offs, len)) (h : x.toInt < lo9 ∨ hi9 < x.toInt) (ht : (pc : Int) + dflt = (tgt : Int)) (k : WP G M QE lo tgt rest μ cn sn) : WP G M QE lo pc (.int x :: rest) μ cn sn :=
  fun hg p e s m args below meth c H locs ls hM hV hS hL => lv_tableOut hM.1 hM.2.1 hdg h ht (k hg p e s m args below meth c H locs ls hM hV hS hL)
theorem wp_lookup {dflt : Int} {ps : Array (Int × Int)} {len : Nat} {x : Int32} {off : Int} {tgt : Nat} (hdg : decode (mt_c M) pc = .ok (.lookupswitch dflt ps, len)) (hp : (ps.toList.zip (ps.toList.drop 1)).all (fun (a, next) => a.1 < next.1) = true) (ho : Op.lookupswitch.offset ps.toList dflt x.toInt = off) (ht : (pc : Int) + off = (tgt : Int)) (k : WP G M QE lo tgt rest μ cn sn) : WP G M QE lo pc (.int x :: rest) μ cn sn :=
  fun hg p e s m args below meth c H locs ls hM hV hS hL => lv_lookup hM.1 hM.2.1 hdg hp ho ht (k hg p e s m args below meth c H locs ls hM hV hS hL)
theorem wp_iconst {n : Int} {v : Int32} (hdg : decode (mt_c M) pc = .ok (.iconst n, 1)) (hv : Int32.ofInt n = v) (k : WP G M QE lo (pc + 1) (.int v :: rest) μ cn sn) : WP G M QE lo pc (rest) μ cn sn :=
  fun hg p e s m args below meth c H locs ls hM hV hS hL => lv_iconst hM.1 hM.2.1 hdg hv (k hg p e s m args below meth c H locs ls hM hV hS hL)
theorem wp_bipush {n : Int} {v : Int32} (hdg : decode (mt_c M) pc = .ok (.bipush n, 2)) (hv : (Int8.ofInt n).toInt32 = v) (k : WP G M QE lo (pc + 2) (.int v :: rest) μ cn sn) : WP G M QE lo pc (rest) μ cn sn :=
  fun hg p e s m args below meth c H locs ls hM hV hS hL => lv_bipush hM.1 hM.2.1 hdg hv (k hg p e s m args below meth c H locs ls hM hV hS hL)
theorem wp_sipush {n : Int} {v : Int32} (hdg : decode (mt_c M) pc = .ok (.sipush n, 3)) (hv : (Int16.ofInt n).toInt32 = v) (k : WP G M QE lo (pc + 3) (.int v :: rest) μ cn sn) : WP G M QE lo pc (rest) μ cn sn :=
  fun hg p e s m args below meth c H locs ls hM hV hS hL => lv_sipush hM.1 hM.2.1 hdg hv (k hg p e s m args below meth c H locs ls hM hV hS hL)
theorem wp_lconst {n : Fin 2} {v : Int64} (hdg : decode (mt_c M) pc = .ok (.lconst n, 1)) (hv : Int64.ofNat (n : Nat) = v) (k : WP G M QE lo (pc + 1) (.long v :: rest) μ cn sn) : WP G M QE lo pc (rest) μ cn sn :=
  fun hg p e s m args below meth c H locs ls hM hV hS hL => lv_lconst hM.1 hM.2.1 hdg hv (k hg p e s m args below meth c H locs ls hM hV hS hL)
theorem wp_iadd {x y : Int32} (hdg : decode (mt_c M) pc = .ok (.iadd, 1)) (k : WP G M QE lo (pc + 1) (.int (x + y) :: rest) μ cn sn) : WP G M QE lo pc (.int y :: .int x :: rest) μ cn sn :=
  fun hg p e s m args below meth c H locs ls hM hV hS hL => lv_iadd hM.1 hM.2.1 hdg (k hg p e s m args below meth c H locs ls hM hV hS hL)
theorem wp_isub {x y : Int32} (hdg : decode (mt_c M) pc = .ok (.isub, 1)) (k : WP G M QE lo (pc + 1) (.int (x - y) :: rest) μ cn sn) : WP G M QE lo pc (.int y :: .int x :: rest) μ cn sn :=
  fun hg p e s m args below meth c H locs ls hM hV hS hL => lv_isub hM.1 hM.2.1 hdg (k hg p e s m args below meth c H locs ls hM hV hS hL)
theorem wp_imul {x y : Int32} (hdg : decode (mt_c M) pc = .ok (.imul, 1)) (k : WP G M QE lo (pc + 1) (.int (x * y) :: rest) μ cn sn) : WP G M QE lo pc (.int y :: .int x :: rest) μ cn sn :=
  fun hg p e s m args below meth c H locs ls hM hV hS hL => lv_imul hM.1 hM.2.1 hdg (k hg p e s m args below meth c H locs ls hM hV hS hL)
theorem wp_iand {x y : Int32} (hdg : decode (mt_c M) pc = .ok (.iand, 1)) (k : WP G M QE lo (pc + 1) (.int (x &&& y) :: rest) μ cn sn) : WP G M QE lo pc (.int y :: .int x :: rest) μ cn sn :=
  fun hg p e s m args below meth c H locs ls hM hV hS hL => lv_iand hM.1 hM.2.1 hdg (k hg p e s m args below meth c H locs ls hM hV hS hL)
theorem wp_ior {x y : Int32} (hdg : decode (mt_c M) pc = .ok (.ior, 1)) (k : WP G M QE lo (pc + 1) (.int (x ||| y) :: rest) μ cn sn) : WP G M QE lo pc (.int y :: .int x :: rest) μ cn sn :=
  fun hg p e s m args below meth c H locs ls hM hV hS hL => lv_ior hM.1 hM.2.1 hdg (k hg p e s m args below meth c H locs ls hM hV hS hL)
theorem wp_ixor {x y : Int32} (hdg : decode (mt_c M) pc = .ok (.ixor, 1)) (k : WP G M QE lo (pc + 1) (.int (x ^^^ y) :: rest) μ cn sn) : WP G M QE lo pc (.int y :: .int x :: rest) μ cn sn :=
  fun hg p e s m args below meth c H locs ls hM hV hS hL => lv_ixor hM.1 hM.2.1 hdg (k hg p e s m args below meth c H locs ls hM hV hS hL)
theorem wp_idiv {x y : Int32} (hdg : decode (mt_c M) pc = .ok (.idiv, 1)) (hne : ¬ y = 0) (k : WP G M QE lo (pc + 1) (.int (x / y) :: rest) μ cn sn) : WP G M QE lo pc (.int y :: .int x :: rest) μ cn sn :=
  fun hg p e s m args below meth c H locs ls hM hV hS hL => lv_idiv hM.1 hM.2.1 hdg hne (k hg p e s m args below meth c H locs ls hM hV hS hL)
theorem wp_irem {x y : Int32} (hdg : decode (mt_c M) pc = .ok (.irem, 1)) (hne : ¬ y = 0) (k : WP G M QE lo (pc + 1) (.int (x - x / y * y) :: rest) μ cn sn) : WP G M QE lo pc (.int y :: .int x :: rest) μ cn sn :=
  fun hg p e s m args below meth c H locs ls hM hV hS hL => lv_irem hM.1 hM.2.1 hdg hne (k hg p e s m args below meth c H locs ls hM hV hS hL)
theorem wp_ineg {x : Int32} (hdg : decode (mt_c M) pc = .ok (.ineg, 1)) (k : WP G M QE lo (pc + 1) (.int (-x) :: rest) μ cn sn) : WP G M QE lo pc (.int x :: rest) μ cn sn :=
  fun hg p e s m args below meth c H locs ls hM hV hS hL => lv_ineg hM.1 hM.2.1 hdg (k hg p e s m args below meth c H locs ls hM hV hS hL)
theorem wp_ladd {x y : Int64} (hdg : decode (mt_c M) pc = .ok (.ladd, 1)) (k : WP G M QE lo (pc + 1) (.long (x + y) :: rest) μ cn sn) : WP G M QE lo pc (.long y :: .long x :: rest) μ cn sn :=
  fun hg p e s m args below meth c H locs ls hM hV hS hL => lv_ladd hM.1 hM.2.1 hdg (k hg p e s m args below meth c H locs ls hM hV hS hL)
theorem wp_lsub {x y : Int64} (hdg : decode (mt_c M) pc = .ok (.lsub, 1)) (k : WP G M QE lo (pc + 1) (.long (x - y) :: rest) μ cn sn) : WP G M QE lo pc (.long y :: .long x :: rest) μ cn sn :=
  fun hg p e s m args below meth c H locs ls hM hV hS hL => lv_lsub hM.1 hM.2.1 hdg (k hg p e s m args below meth c H locs ls hM hV hS hL)
theorem wp_iushr {x y v : Int32} (hdg : decode (mt_c M) pc = .ok (.iushr, 1)) (hv : (x.toUInt32 >>> (y.toUInt32 &&& Int32.toUInt32 31)).toInt32 = v) (k : WP G M QE lo (pc + 1) (.int v :: rest) μ cn sn) : WP G M QE lo pc (.int y :: .int x :: rest) μ cn sn :=
  fun hg p e s m args below meth c H locs ls hM hV hS hL => lv_iushr hM.1 hM.2.1 hdg hv (k hg p e s m args below meth c H locs ls hM hV hS hL)
theorem wp_i2l {x : Int32} {v : Int64} (hdg : decode (mt_c M) pc = .ok (.i2l, 1)) (hv : x.toInt64 = v) (k : WP G M QE lo (pc + 1) (.long v :: rest) μ cn sn) : WP G M QE lo pc (.int x :: rest) μ cn sn :=
  fun hg p e s m args below meth c H locs ls hM hV hS hL => lv_i2l hM.1 hM.2.1 hdg hv (k hg p e s m args below meth c H locs ls hM hV hS hL)
theorem wp_l2i {x : Int64} {v : Int32} (hdg : decode (mt_c M) pc = .ok (.l2i, 1)) (hv : x.toInt32 = v) (k : WP G M QE lo (pc + 1) (.int v :: rest) μ cn sn) : WP G M QE lo pc (.long x :: rest) μ cn sn :=
  fun hg p e s m args below meth c H locs ls hM hV hS hL => lv_l2i hM.1 hM.2.1 hdg hv (k hg p e s m args below meth c H locs ls hM hV hS hL)
theorem wp_dup {va : Value} (hdg : decode (mt_c M) pc = .ok (.dup, 1)) (hva : va.category = 1) (k : WP G M QE lo (pc + 1) (va :: va :: rest) μ cn sn) : WP G M QE lo pc (va :: rest) μ cn sn :=
  fun hg p e s m args below meth c H locs ls hM hV hS hL => lv_dup hM.1 hM.2.1 hdg hva (k hg p e s m args below meth c H locs ls hM hV hS hL)
theorem wp_pop {va : Value} (hdg : decode (mt_c M) pc = .ok (.pop, 1)) (hva : va.category = 1) (k : WP G M QE lo (pc + 1) (rest) μ cn sn) : WP G M QE lo pc (va :: rest) μ cn sn :=
  fun hg p e s m args below meth c H locs ls hM hV hS hL => lv_pop hM.1 hM.2.1 hdg hva (k hg p e s m args below meth c H locs ls hM hV hS hL)
theorem wp_dup_x1 {va vb : Value} (hdg : decode (mt_c M) pc = .ok (.dup_x1, 1)) (hva : va.category = 1) (hvb : vb.category = 1) (k : WP G M QE lo (pc + 1) (va :: vb :: va :: rest) μ cn sn) : WP G M QE lo pc (va :: vb :: rest) μ cn sn :=
  fun hg p e s m args below meth c H locs ls hM hV hS hL => lv_dup_x1 hM.1 hM.2.1 hdg hva hvb (k hg p e s m args below meth c H locs ls hM hV hS hL)
theorem wp_dup_x2 {va vb vd : Value} (hdg : decode (mt_c M) pc = .ok (.dup_x2, 1)) (hva : va.category = 1) (hvb : vb.category = 1) (hvd : vd.category = 1) (k : WP G M QE lo (pc + 1) (va :: vb :: vd :: va :: rest) μ cn sn) : WP G M QE lo pc (va :: vb :: vd :: rest) μ cn sn :=
  fun hg p e s m args below meth c H locs ls hM hV hS hL => lv_dup_x2 hM.1 hM.2.1 hdg hva hvb hvd (k hg p e s m args below meth c H locs ls hM hV hS hL)
theorem wp_dup2_11 {va vb : Value} (hdg : decode (mt_c M) pc = .ok (.dup2, 1)) (hva : va.category = 1) (hvb : vb.category = 1) (k : WP G M QE lo (pc + 1) (va :: vb :: va :: vb :: rest) μ cn sn) : WP G M QE lo pc (va :: vb :: rest) μ cn sn :=
  fun hg p e s m args below meth c H locs ls hM hV hS hL => lv_dup2_11 hM.1 hM.2.1 hdg hva hvb (k hg p e s m args below meth c H locs ls hM hV hS hL)
theorem wp_pop2_2 {va : Value} (hdg : decode (mt_c M) pc = .ok (.pop2, 1)) (hva : va.category = 2) (k : WP G M QE lo (pc + 1) (rest) μ cn sn) : WP G M QE lo pc (va :: rest) μ cn sn :=
  fun hg p e s m args below meth c H locs ls hM hV hS hL => lv_pop2_2 hM.1 hM.2.1 hdg hva (k hg p e s m args below meth c H locs ls hM hV hS hL)
theorem wp_pop2_11 {va vb : Value} (hdg : decode (mt_c M) pc = .ok (.pop2, 1)) (hva : va.category = 1) (hvb : vb.category = 1) (k : WP G M QE lo (pc + 1) (rest) μ cn sn) : WP G M QE lo pc (va :: vb :: rest) μ cn sn :=
  fun hg p e s m args below meth c H locs ls hM hV hS hL => lv_pop2_11 hM.1 hM.2.1 hdg hva hvb (k hg p e s m args below meth c H locs ls hM hV hS hL)
theorem wp_goto {off : Int} {tgt : Nat} (hdg : decode (mt_c M) pc = .ok (.goto off, 3)) (ht : (pc : Int) + off = (tgt : Int)) (k : WP G M QE lo tgt rest μ cn sn) : WP G M QE lo pc rest μ cn sn :=
  fun hg p e s m args below meth c H locs ls hM hV hS hL => lv_goto hM.1 hM.2.1 hdg ht (k hg p e s m args below meth c H locs ls hM hV hS hL)
theorem wp_null (hdg : decode (mt_c M) pc = .ok (.aconst_null, 1)) (k : WP G M QE lo (pc + 1) (.null :: rest) μ cn sn) : WP G M QE lo pc rest μ cn sn :=
  fun hg p e s m args below meth c H locs ls hM hV hS hL => lv_null hM.1 hM.2.1 hdg (k hg p e s m args below meth c H locs ls hM hV hS hL)
theorem wp_if_eq {x : Int32} {off : Int} {tgt : Nat} (hdg : decode (mt_c M) pc = .ok (.ifCond .eq off, 3)) (ht : (pc : Int) + off = (tgt : Int)) (kt : x = 0 → WP G M QE lo tgt rest μ cn sn) (kf : ¬ x = 0 → WP G M QE lo (pc + 3) rest μ cn sn) : WP G M QE lo pc (.int x :: rest) μ cn sn :=
  fun hg p e s m args below meth c H locs ls hM hV hS hL => lv_if_eq hM.1 hM.2.1 hdg ht (fun h9 => kt h9 hg p e s m args below meth c H locs ls hM hV hS hL) (fun h9 => kf h9 hg p e s m args below meth c H locs ls hM hV hS hL)
theorem wp_if_ne {x : Int32} {off : Int} {tgt : Nat} (hdg : decode (mt_c M) pc = .ok (.ifCond .ne off, 3)) (ht : (pc : Int) + off = (tgt : Int)) (kt : ¬ x = 0 → WP G M QE lo tgt rest μ cn sn) (kf : x = 0 → WP G M QE lo (pc + 3) rest μ cn sn) : WP G M QE lo pc (.int x :: rest) μ cn sn :=
  fun hg p e s m args below meth c H locs ls hM hV hS hL => lv_if_ne hM.1 hM.2.1 hdg ht (fun h9 => kt h9 hg p e s m args below meth c H locs ls hM hV hS hL) (fun h9 => kf h9 hg p e s m args below meth c H locs ls hM hV hS hL)
theorem wp_if_lt {x : Int32} {off : Int} {tgt : Nat} (hdg : decode (mt_c M) pc = .ok (.ifCond .lt off, 3)) (ht : (pc : Int) + off = (tgt : Int)) (kt : x < 0 → WP G M QE lo tgt rest μ cn sn) (kf : ¬ x < 0 → WP G M QE lo (pc + 3) rest μ cn sn) : WP G M QE lo pc (.int x :: rest) μ cn sn :=
  fun hg p e s m args below meth c H locs ls hM hV hS hL => lv_if_lt hM.1 hM.2.1 hdg ht (fun h9 => kt h9 hg p e s m args below meth c H locs ls hM hV hS hL) (fun h9 => kf h9 hg p e s m args below meth c H locs ls hM hV hS hL)
theorem wp_if_ge {x : Int32} {off : Int} {tgt : Nat} (hdg : decode (mt_c M) pc = .ok (.ifCond .ge off, 3)) (ht : (pc : Int) + off = (tgt : Int)) (kt : 0 ≤ x → WP G M QE lo tgt rest μ cn sn) (kf : ¬ 0 ≤ x → WP G M QE lo (pc + 3) rest μ cn sn) : WP G M QE lo pc (.int x :: rest) μ cn sn :=
  fun hg p e s m args below meth c H locs ls hM hV hS hL => lv_if_ge hM.1 hM.2.1 hdg ht (fun h9 => kt h9 hg p e s m args below meth c H locs ls hM hV hS hL) (fun h9 => kf h9 hg p e s m args below meth c H locs ls hM hV hS hL)
theorem wp_if_gt {x : Int32} {off : Int} {tgt : Nat} (hdg : decode (mt_c M) pc = .ok (.ifCond .gt off, 3)) (ht : (pc : Int) + off = (tgt : Int)) (kt : 0 < x → WP G M QE lo tgt rest μ cn sn) (kf : ¬ 0 < x → WP G M QE lo (pc + 3) rest μ cn sn) : WP G M QE lo pc (.int x :: rest) μ cn sn :=
  fun hg p e s m args below meth c H locs ls hM hV hS hL => lv_if_gt hM.1 hM.2.1 hdg ht (fun h9 => kt h9 hg p e s m args below meth c H locs ls hM hV hS hL) (fun h9 => kf h9 hg p e s m args below meth c H locs ls hM hV hS hL)
theorem wp_if_le {x : Int32} {off : Int} {tgt : Nat} (hdg : decode (mt_c M) pc = .ok (.ifCond .le off, 3)) (ht : (pc : Int) + off = (tgt : Int)) (kt : x ≤ 0 → WP G M QE lo tgt rest μ cn sn) (kf : ¬ x ≤ 0 → WP G M QE lo (pc + 3) rest μ cn sn) : WP G M QE lo pc (.int x :: rest) μ cn sn :=
  fun hg p e s m args below meth c H locs ls hM hV hS hL => lv_if_le hM.1 hM.2.1 hdg ht (fun h9 => kt h9 hg p e s m args below meth c H locs ls hM hV hS hL) (fun h9 => kf h9 hg p e s m args below meth c H locs ls hM hV hS hL)
theorem wp_icmp_eq {x y : Int32} {off : Int} {tgt : Nat} (hdg : decode (mt_c M) pc = .ok (.if_icmp .eq off, 3)) (ht : (pc : Int) + off = (tgt : Int)) (kt : x = y → WP G M QE lo tgt rest μ cn sn) (kf : ¬ x = y → WP G M QE lo (pc + 3) rest μ cn sn) : WP G M QE lo pc (.int y :: .int x :: rest) μ cn sn :=
  fun hg p e s m args below meth c H locs ls hM hV hS hL => lv_icmp_eq hM.1 hM.2.1 hdg ht (fun h9 => kt h9 hg p e s m args below meth c H locs ls hM hV hS hL) (fun h9 => kf h9 hg p e s m args below meth c H locs ls hM hV hS hL)
theorem wp_icmp_ne {x y : Int32} {off : Int} {tgt : Nat} (hdg : decode (mt_c M) pc = .ok (.if_icmp .ne off, 3)) (ht : (pc : Int) + off = (tgt : Int)) (kt : ¬ x = y → WP G M QE lo tgt rest μ cn sn) (kf : x = y → WP G M QE lo (pc + 3) rest μ cn sn) : WP G M QE lo pc (.int y :: .int x :: rest) μ cn sn :=
  fun hg p e s m args below meth c H locs ls hM hV hS hL => lv_icmp_ne hM.1 hM.2.1 hdg ht (fun h9 => kt h9 hg p e s m args below meth c H locs ls hM hV hS hL) (fun h9 => kf h9 hg p e s m args below meth c H locs ls hM hV hS hL)
theorem wp_icmp_lt {x y : Int32} {off : Int} {tgt : Nat} (hdg : decode (mt_c M) pc = .ok (.if_icmp .lt off, 3)) (ht : (pc : Int) + off = (tgt : Int)) (kt : x < y → WP G M QE lo tgt rest μ cn sn) (kf : ¬ x < y → WP G M QE lo (pc + 3) rest μ cn sn) : WP G M QE lo pc (.int y :: .int x :: rest) μ cn sn :=
  fun hg p e s m args below meth c H locs ls hM hV hS hL => lv_icmp_lt hM.1 hM.2.1 hdg ht (fun h9 => kt h9 hg p e s m args below meth c H locs ls hM hV hS hL) (fun h9 => kf h9 hg p e s m args below meth c H locs ls hM hV hS hL)
theorem wp_icmp_ge {x y : Int32} {off : Int} {tgt : Nat} (hdg : decode (mt_c M) pc = .ok (.if_icmp .ge off, 3)) (ht : (pc : Int) + off = (tgt : Int)) (kt : y ≤ x → WP G M QE lo tgt rest μ cn sn) (kf : ¬ y ≤ x → WP G M QE lo (pc + 3) rest μ cn sn) : WP G M QE lo pc (.int y :: .int x :: rest) μ cn sn :=
  fun hg p e s m args below meth c H locs ls hM hV hS hL => lv_icmp_ge hM.1 hM.2.1 hdg ht (fun h9 => kt h9 hg p e s m args below meth c H locs ls hM hV hS hL) (fun h9 => kf h9 hg p e s m args below meth c H locs ls hM hV hS hL)
theorem wp_icmp_gt {x y : Int32} {off : Int} {tgt : Nat} (hdg : decode (mt_c M) pc = .ok (.if_icmp .gt off, 3)) (ht : (pc : Int) + off = (tgt : Int)) (kt : y < x → WP G M QE lo tgt rest μ cn sn) (kf : ¬ y < x → WP G M QE lo (pc + 3) rest μ cn sn) : WP G M QE lo pc (.int y :: .int x :: rest) μ cn sn :=
  fun hg p e s m args below meth c H locs ls hM hV hS hL => lv_icmp_gt hM.1 hM.2.1 hdg ht (fun h9 => kt h9 hg p e s m args below meth c H locs ls hM hV hS hL) (fun h9 => kf h9 hg p e s m args below meth c H locs ls hM hV hS hL)
theorem wp_icmp_le {x y : Int32} {off : Int} {tgt : Nat} (hdg : decode (mt_c M) pc = .ok (.if_icmp .le off, 3)) (ht : (pc : Int) + off = (tgt : Int)) (kt : x ≤ y → WP G M QE lo tgt rest μ cn sn) (kf : ¬ x ≤ y → WP G M QE lo (pc + 3) rest μ cn sn) : WP G M QE lo pc (.int y :: .int x :: rest) μ cn sn :=
  fun hg p e s m args below meth c H locs ls hM hV hS hL => lv_icmp_le hM.1 hM.2.1 hdg ht (fun h9 => kt h9 hg p e s m args below meth c H locs ls hM hV hS hL) (fun h9 => kf h9 hg p e s m args below meth c H locs ls hM hV hS hL)
theorem wp_get {idx ci k a : Nat} {fs : List Value} {v : Value} (hdg : decode (mt_c M) pc = .ok (.getfield idx, 3)) (hf : fl_P (mt_y M).cls idx ci k) (he : μ a = some (.inr (ci, fs))) (hv : fs[k]? = some v) (kk : WP G M QE lo (pc + 3) (v :: rest) μ cn sn) : WP G M QE lo pc (.ref a :: rest) μ cn sn := by
  obtain ⟨C, T, N, ty, h1, h2, h3⟩ := hf
  intro hg p e s m args below meth c H locs ls hM hV hS hL
  exact mv_get hM.1 hM.2.1 (hM.2.2.2.2.2.2.2.2.ts args) h1 hM.2.2.2.2.1 hM.2.2.2.2.2.2.2.2.1 hV he k h2 h3 hv hdg (kk hg p e s m args below meth c H locs ls hM hV hS hL)
theorem wp_put {idx ci k a : Nat} {t : FieldType} {fs : List Value} {v : Value} (hdg : decode (mt_c M) pc = .ok (.putfield idx, 3)) (hf : fp_P (mt_y M).cls idx ci k t) (he : μ a = some (.inr (ci, fs))) (hB : G.2.2.2.1 ≤ a) (hn : narrow t v = v) (hfit : fits t v = true) (hl : k < fs.length) (kk : WP G M QE lo (pc + 3) rest (mu_up μ a (.inr (ci, fs.set k v))) cn sn) : WP G M QE lo pc (v :: .ref a :: rest) μ cn sn := by
  obtain ⟨C, T, N, ty, h1, h2, h3, h4, h5⟩ := hf
  subst h5
  intro hg p e s m args below meth c H locs ls hM hV hS hL
  exact mv_put hM.1 hM.2.1 (hM.2.2.2.2.2.2.2.2.ts args) h1 hM.2.2.2.2.1 hM.2.2.2.2.2.2.2.2.1 hV hS he hB k h2 h3 h4 hn hfit hl hdg (fun H locs hV hS => kk hg p e s m args below meth c H locs ls hM hV hS hL)
theorem wp_putF {idx ci k a : Nat} {t : FieldType} {fs : List Value} {v : Value} (hdg : decode (mt_c M) pc = .ok (.putfield idx, 3)) (hf : ff_P (mt_y M).cls idx ci k t) (hin : (mt_y M).name = "<init>") (he : μ a = some (.inr (ci, fs))) (hB : G.2.2.2.1 ≤ a) (hn : narrow t v = v) (hfit : fits t v = true) (hl : k < fs.length) (kk : WP G M QE lo (pc + 3) rest (mu_up μ a (.inr (ci, fs.set k v))) cn sn) : WP G M QE lo pc (v :: .ref a :: rest) μ cn sn := by
  obtain ⟨C, T, N, ty, h1, h2, h3, h4, h6, h5⟩ := hf
  subst h5
  intro hg p e s m args below meth c H locs ls hM hV hS hL
  exact mv_putF hM.1 hM.2.1 (hM.2.2.2.2.2.2.2.2.ts args) h1 hM.2.2.2.2.1 hM.2.2.2.2.2.2.2.2.1 hV hS he hB k h2 h3 h4 (hM.2.2.2.2.2.2.2.1 hin) h6 hn hfit hl hdg (fun H locs hV hS => kk hg p e s m args below meth c H locs ls hM hV hS hL)
theorem wp_iald {a n j : Nat} {f : Nat → Int32} {i : Int32} (hdg : decode (mt_c M) pc = .ok (.iaload, 1)) (he : μ a = some (.inl (G.2.2.1 0, n, .inl f))) (hi : i = nI j) (hj : j < n) (hn : n < 2 ^ 31) (kk : WP G M QE lo (pc + 1) (.int (f j) :: rest) μ cn sn) : WP G M QE lo pc (.int i :: .ref a :: rest) μ cn sn := by
  subst hi
  intro hg p e s m args below meth c H locs ls hM hV hS hL
  refine mv_iald hM.1 hM.2.1 hM.2.2.2.2.2.2.2.2.1 hV 0 he rfl (vp_in_nI hj hn) hdg ?_
  rw [nI_clamp (Nat.lt_trans hj hn)]
  exact kk hg p e s m args below meth c H locs ls hM hV hS hL
theorem wp_zald {a n j : Nat} {f : Nat → Int32} {i : Int32} (hdg : decode (mt_c M) pc = .ok (.baload, 1)) (he : μ a = some (.inl (G.2.2.1 1, n, .inl f))) (hi : i = nI j) (hj : j < n) (hn : n < 2 ^ 31) (kk : WP G M QE lo (pc + 1) (.int (f j) :: rest) μ cn sn) : WP G M QE lo pc (.int i :: .ref a :: rest) μ cn sn := by
  subst hi
  intro hg p e s m args below meth c H locs ls hM hV hS hL
  refine mv_zald hM.1 hM.2.1 hM.2.2.2.2.2.2.2.2.1 hV 1 he rfl (vp_in_nI hj hn) hdg ?_
  rw [nI_clamp (Nat.lt_trans hj hn)]
  exact kk hg p e s m args below meth c H locs ls hM hV hS hL
theorem wp_lald {a n j : Nat} {f : Nat → Int64} {i : Int32} (hdg : decode (mt_c M) pc = .ok (.laload, 1)) (he : μ a = some (.inl (G.2.2.1 2, n, .inr (.inl f)))) (hi : i = nI j) (hj : j < n) (hn : n < 2 ^ 31) (kk : WP G M QE lo (pc + 1) (.long (f j) :: rest) μ cn sn) : WP G M QE lo pc (.int i :: .ref a :: rest) μ cn sn := by
  subst hi
  intro hg p e s m args below meth c H locs ls hM hV hS hL
  refine va_lald hM.1 hM.2.1 hM.2.2.2.2.2.2.2.2.1 (hV.one he) 0 2 rfl rfl (vp_in_nI hj hn) hdg ?_
  rw [nI_clamp (Nat.lt_trans hj hn)]
  exact kk hg p e s m args below meth c H locs ls hM hV hS hL
theorem wp_aald {a n j t x : Nat} {C : String} {f : Nat → Option Nat} {i : Int32} (hdg : decode (mt_c M) pc = .ok (.aaload, 1)) (ht : (TYS G.2.2.1)[t]? = some (G.2.2.1 t, .object C)) (he : μ a = some (.inl (G.2.2.1 t, n, .inr (.inr (.inr (.inr f)))))) (hi : i = nI j) (hj : j < n) (hn : n < 2 ^ 31) (hx : f j = some x) (kk : WP G M QE lo (pc + 1) (.ref x :: rest) μ cn sn) : WP G M QE lo pc (.int i :: .ref a :: rest) μ cn sn := by
  subst hi
  intro hg p e s m args below meth c H locs ls hM hV hS hL
  exact mv_aald hM.1 hM.2.1 hM.2.2.2.2.2.2.2.2.1 hV t he ht (vp_in_nI hj hn) (by rw [nI_clamp (Nat.lt_trans hj hn)]; exact hx) hdg (kk hg p e s m args below meth c H locs ls hM hV hS hL)
theorem wp_alen {a n t : Nat} {ty : FieldType} {x : (Nat → Int32) ⊕ (Nat → Int64) ⊕ (Nat → UInt32) ⊕ (Nat → UInt64) ⊕ (Nat → Option Nat)} (hdg : decode (mt_c M) pc = .ok (.arraylength, 1)) (ht : (TYS G.2.2.1)[t]? = some (G.2.2.1 t, ty)) (he : μ a = some (.inl (G.2.2.1 t, n, x))) (kk : WP G M QE lo (pc + 1) (.int (nI n) :: rest) μ cn sn) : WP G M QE lo pc (.ref a :: rest) μ cn sn := by
  intro hg p e s m args below meth c H locs ls hM hV hS hL
  exact mv_alen hM.1 hM.2.1 hM.2.2.2.2.2.2.2.2.1 hV t he ht rfl hdg (kk hg p e s m args below meth c H locs ls hM hV hS hL)
theorem wp_iast {a n j : Nat} {f : Nat → Int32} {i x : Int32} (hdg : decode (mt_c M) pc = .ok (.iastore, 1)) (he : μ a = some (.inl (G.2.2.1 0, n, .inl f))) (hB : G.2.2.2.1 ≤ a) (hi : i = nI j) (hj : j < n) (hn : n < 2 ^ 31) (kk : WP G M QE lo (pc + 1) rest (mu_up μ a (.inl (G.2.2.1 0, n, .inl (upd f j x)))) cn sn) : WP G M QE lo pc (.int x :: .int i :: .ref a :: rest) μ cn sn := by
  subst hi
  intro hg p e s m args below meth c H locs ls hM hV hS hL
  refine mv_iast hM.1 hM.2.1 hM.2.2.2.2.2.2.2.2.1 hV hS 0 he hB rfl (vp_in_nI hj hn) hdg (fun H locs hV hS => ?_)
  rw [nI_clamp (Nat.lt_trans hj hn)] at hV
  exact kk hg p e s m args below meth c H locs ls hM hV hS hL
theorem wp_zast {a n j : Nat} {f : Nat → Int32} {i x : Int32} (hdg : decode (mt_c M) pc = .ok (.bastore, 1)) (he : μ a = some (.inl (G.2.2.1 1, n, .inl f))) (hB : G.2.2.2.1 ≤ a) (hi : i = nI j) (hj : j < n) (hn : n < 2 ^ 31) (hx : vp_nar .boolean x = x) (kk : WP G M QE lo (pc + 1) rest (mu_up μ a (.inl (G.2.2.1 1, n, .inl (upd f j x)))) cn sn) : WP G M QE lo pc (.int x :: .int i :: .ref a :: rest) μ cn sn := by
  subst hi
  intro hg p e s m args below meth c H locs ls hM hV hS hL
  refine mv_zast hM.1 hM.2.1 hM.2.2.2.2.2.2.2.2.1 hV hS 1 he hB rfl (vp_in_nI hj hn) hx hdg (fun H locs hV hS => ?_)
  rw [nI_clamp (Nat.lt_trans hj hn)] at hV
  exact kk hg p e s m args below meth c H locs ls hM hV hS hL
theorem wp_aast {a n j t v ci : Nat} {r : vw_C} {f : Nat → Option Nat} {vs : List Value} {i : Int32} (hdg : decode (mt_c M) pc = .ok (.aastore, 1)) (ht : (TYS G.2.2.1)[t]? = some (G.2.2.1 t, .object r.1)) (hc : classes[ci]? = some r) (he : μ a = some (.inl (G.2.2.1 t, n, .inr (.inr (.inr (.inr f)))))) (hB : G.2.2.2.1 ≤ a) (hv : μ v = some (.inr (ci, vs))) (hi : i = nI j) (hj : j < n) (hn : n < 2 ^ 31) (kk : WP G M QE lo (pc + 1) rest (mu_up μ a (.inl (G.2.2.1 t, n, .inr (.inr (.inr (.inr (va_up f j (some v)))))))) cn sn) : WP G M QE lo pc (.ref v :: .int i :: .ref a :: rest) μ cn sn := by
  subst hi
  intro hg p e s m args below meth c H locs ls hM hV hS hL
  refine mv_aast hM.1 hM.2.1 hM.2.2.2.2.2.2.2.2.1 hV hS t ci he hB ht hv hc (vp_in_nI hj hn) hdg (fun H locs hV hS => ?_)
  rw [nI_clamp (Nat.lt_trans hj hn)] at hV
  exact kk hg p e s m args below meth c H locs ls hM hV hS hL
theorem wp_newI {N : Nat} (hdg : decode (mt_c M) pc = .ok (.newarray .int, 2)) (hw : Cond.arrayClass .int ∈ WALL) (hN : N < 10000) (hc : cn + 1 ≤ (mt_R M).cells) (hs : sn + N ≤ (mt_R M).slots) (kk : ∀ q : Nat, G.2.2.2.1 ≤ q → μ q = none → WP G M QE lo (pc + 2) (.ref q :: rest) (mu_up μ q (.inl (G.2.2.1 0, N, .inl (fun _ => 0)))) (cn + 1) (sn + N)) : WP G M QE lo pc (.int (nI N) :: rest) μ cn sn := by
  intro hg p e s m args below meth c H locs ls hM hV hS hL
  have hAm := hM.2.2.2.2.2.2.2.2
  exact mv_newa (atype := .int) (ty := .int) (a0 := (N, .inl (fun _ => 0))) hM.1 hM.2.1 hw (hAm.ts args) rfl hAm.1 hV hS 0 rfl (fun _ h => h) (fun _ => rfl) (nI_pos (by omega)) (nI_clamp (by omega)) (by show N * 4 ≤ _; omega) hc hs hdg (fun q H h1 h2 hV hS => kk q (Nat.le_trans hAm.2.2.2.2.2.2.2.2.2 h1) h2 hg p e s m args below meth c H locs ls hM hV hS hL)
theorem wp_newZ {N : Nat} (hdg : decode (mt_c M) pc = .ok (.newarray .boolean, 2)) (hw : Cond.arrayClass .boolean ∈ WALL) (hN : N < 10000) (hc : cn + 1 ≤ (mt_R M).cells) (hs : sn + N ≤ (mt_R M).slots) (kk : ∀ q : Nat, G.2.2.2.1 ≤ q → μ q = none → WP G M QE lo (pc + 2) (.ref q :: rest) (mu_up μ q (.inl (G.2.2.1 1, N, .inl (fun _ => 0)))) (cn + 1) (sn + N)) : WP G M QE lo pc (.int (nI N) :: rest) μ cn sn := by
  intro hg p e s m args below meth c H locs ls hM hV hS hL
  have hAm := hM.2.2.2.2.2.2.2.2
  exact mv_newa (atype := .boolean) (ty := .boolean) (a0 := (N, .inl (fun _ => 0))) hM.1 hM.2.1 hw (hAm.ts args) rfl hAm.1 hV hS 1 rfl (fun _ h => h) (fun _ => rfl) (nI_pos (by omega)) (nI_clamp (by omega)) (by show N * 1 ≤ _; omega) hc hs hdg (fun q H h1 h2 hV hS => kk q (Nat.le_trans hAm.2.2.2.2.2.2.2.2.2 h1) h2 hg p e s m args below meth c H locs ls hM hV hS hL)
theorem wp_newq {N t idx : Nat} {C : String} (hdg : decode (mt_c M) pc = .ok (.anewarray idx, 3)) (hw : Cond.classLink (mt_y M).cls idx C ∈ WALL) (ho : C ∈ AOS) (ht : (TYS G.2.2.1)[t]? = some (G.2.2.1 t, .object C)) (hN : N < 10000) (hc : cn + 1 ≤ (mt_R M).cells) (hs : sn + N ≤ (mt_R M).slots) (kk : ∀ q : Nat, G.2.2.2.1 ≤ q → μ q = none → WP G M QE lo (pc + 3) (.ref q :: rest) (mu_up μ q (.inl (G.2.2.1 t, N, .inr (.inr (.inr (.inr (fun _ => none))))))) (cn + 1) (sn + N)) : WP G M QE lo pc (.int (nI N) :: rest) μ cn sn := by
  intro hg p e s m args below meth c H locs ls hM hV hS hL
  have hAm := hM.2.2.2.2.2.2.2.2
  exact mv_newq hM.1 hM.2.1 (hAm.ts args) hM.2.2.2.2.1 hw (hAm.2.2.2.2.2.2.1 C ho) hAm.1 hV hS t ht (nI_pos (by omega)) (nI_clamp (by omega)) (by omega) hc hs hdg (fun q H h1 h2 hV hS => kk q (Nat.le_trans hAm.2.2.2.2.2.2.2.2.2 h1) h2 hg p e s m args below meth c H locs ls hM hV hS hL)
theorem wp_new {idx ci N : Nat} {fs : List Value} (hdg : decode (mt_c M) pc = .ok (.new idx, 3)) (hw : nw_P (mt_y M).cls idx ci N fs) (hc : cn + 1 ≤ (mt_R M).cells) (hs : sn + N ≤ (mt_R M).slots) (kk : ∀ q : Nat, G.2.2.2.1 ≤ q → μ q = none → WP G M QE lo (pc + 3) (.ref q :: rest) (mu_up μ q (.inr (ci, fs))) (cn + 1) (sn + N)) : WP G M QE lo pc rest μ cn sn := by
  obtain ⟨C, T, ty, h1, h2, h3, h4, h5⟩ := hw
  intro hg p e s m args below meth c H locs ls hM hV hS hL
  have hAm := hM.2.2.2.2.2.2.2.2
  exact mv_new hM.1 hM.2.1 (hAm.ts args) h1 hM.2.2.2.2.1 h2 h3 h4 hAm.1 hV hS h5 hc hs hdg (fun q H h1 h2 hV hS => kk q (Nat.le_trans hAm.2.2.2.2.2.2.2.2.2 h1) h2 hg p e s m args below meth c H locs ls hM hV hS hL)
theorem wp_objInit {idx a : Nat} (hdg : decode (mt_c M) pc = .ok (.invokespecial idx, 3)) (h1 : Cond.methodLink (mt_y M).cls idx objectInit ∈ WALL) (h2 : Cond.instanceMethod objectInit ∈ WALL) (h3 : Cond.code objectInit ⟨#[0xb1]⟩ 1 none ∈ WALL) (hf : 1 ≤ (mt_R M).frames) (hl : (rest.map fun v => v.category).sum + 12 ≤ (mt_R M).locals) (kk : WP G M QE lo (pc + 3) rest μ cn sn) : WP G M QE lo pc (.ref a :: rest) μ cn sn := by
  intro hg p e s m args below meth c H locs ls hM hV hS hL
  have hts := hM.2.2.2.2.2.2.2.2.ts args
  exact W.objInit hM.1 hM.2.1 hM.2.2.2.2.1 (hts _ h1) (hts _ h2) (hts _ h3) rfl (hL.1.trans hM.2.2.2.1.symm) rfl hdg hf (by show 2 * 0 + _ + 12 ≤ _; omega) (kk hg p e s m args below meth c H locs ls hM hV hS hL)
theorem mc_call {p : Program} {l : Launch} {e : Env} {R : Room} {s : State} {m : MethodId} {args : Array Value} {below : List Frame} {meth : Method} {c : Code} {H : Heap} {locs : List Loc} {cells slots : Nat} {Q : State → Prop} {D : va_G} {cl : List vw_C} {A : Nat → Prop} {ls : Array Slot} {st0 : List Value} {post : Option Value → mu_M → Prop} {px : String → mu_M → Prop} {mc ms : Nat} {a : Array Value}
    (hr : vx_Run p l e R s m args below meth c H locs cells slots mc ms (F0 m pc ls st0) rest (mc_Q D cl A post a) (mc_X D cl A px) A) (hS : va_S A s.heap H locs)
    (kx : ∀ (E : String) (ce : Cell) (q9 : Addr) (μ' : mu_M) (H1 : Heap) (locs1 : List Loc), px E μ' → mu_V D cl μ' H1 → va_S A s.heap H1 locs1 → H1[q9]? = some ce → ce.vm = .none → s.vm.findClass E = some ce.cls → vx_W p l e R s m args below meth c H1 locs1 (cells + mc) (slots + ms) Q (F0 m pc ls rest) q9)
    (kk : ∀ (v : Option Value) (μ' : mu_M) (H1 : Heap) (locs1 : List Loc), post v μ' → mu_V D cl μ' H1 → va_S A s.heap H1 locs1 → W p l e R s m args below meth c H1 locs1 (cells + mc) (slots + ms) Q (F0 m (pc + 3) ls (v.toList ++ rest))) :
    W p l e R s m args below meth c H locs cells slots Q (F0 m pc ls st0) := by
  intro T hT X
  rcases hr T hT X with ⟨v, st₀, t, T', L, h0, X', hL, e1, e2, ⟨⟨v', μ', hv, hp, hb⟩, hF⟩, st⟩ | ⟨q, st₀, t, T', L, E, ce, h0, X', hL, e1, e2, ⟨μ', hp, hb, hF⟩, hce, hcv, hcl, st⟩
  · cases hv
    obtain ⟨k1, k2, k3⟩ := vx_keep h0 e1 hS (fun _ _ h => h) (fun _ h => h) hL hF
    obtain ⟨t2, a1, b1⟩ := kk v μ' T'.heap (locs ++ L) hp (by rw [e1]; exact hb) k3 T' rfl X'
    exact ⟨t2, st t2 a1, b1⟩
  · obtain ⟨k1, k2, k3⟩ := vx_keep h0 e1 hS (fun _ _ h => h) (fun _ h => h) hL hF
    obtain ⟨t2, a1, b1⟩ := kx E ce q μ' T'.heap (locs ++ L) hp (by rw [e1]; exact hb) k3 (by rw [e1]; exact hce) hcv hcl T' rfl X'
    exact ⟨t2, st.trans a1, b1⟩
/-- a call, before its throw is looked at: what goes on behind it, and what a throw comes to (vx_W) -/
def WX (G : mt_G) (M : mt_M) (QE : mt_Q) (lo : List (Nat × Value)) (pc : Nat) (st : List Value) (E : String) (μ : mu_M) (cn sn : Nat) : Prop :=
  G.1.stackTraces = false → ∀ (p : Program) (e : Env) (s : State) (m : MethodId) (args : Array Value) (below : List Frame) (meth : Method) (c : Code) (H : Heap) (locs : List Loc) (ls : Array Slot) (ce : Cell) (q9 : Addr), mt_S G M p s m args meth c → mu_V G.2.1 classes μ H → va_S (AA G.2.2.2.1) s.heap H locs → lv_has ls (mt_l M) lo → H[q9]? = some ce → ce.vm = .none → s.vm.findClass E = some ce.cls →
    vx_W p G.1 e (mt_R M) s m args below meth c H locs cn sn (QE below args s) (F0 m pc ls st) q9
theorem WX.out {st : List Value} {E : String} {post : Option Value → mu_M → Prop} {px : String → mu_M → Prop} {hh : List (Nat × Nat × Nat × Nat)} (hh0 : mt_h M = some hh) (hcov : ∀ x ∈ tableOf hh, covers x pc = false) (hc : cn ≤ (mt_R M).cells) (hs : sn ≤ (mt_R M).slots) (hpx : px E μ) : WX G M (EC G M post px) lo pc st E μ cn sn := by
  intro hg p e s m args below meth c H locs ls ce q9 hM hV hS hL h1 h2 h3
  exact vx_out (E := E) (fun x hx => hcov x (by rw [← hM.2.2.2.2.2.2.1 hh hh0]; exact hx)) hM.2.2.2.2.2.1 h1 h2 h3 (fun t ht _ => ⟨μ, hpx, by rw [ht]; exact hV, hS.F ht⟩) hS.2.2 hc hs
theorem mc_cb {D : va_G} {cT : Nat → ClassId} {B0 : Nat} {R : Room} {s : State} {args : Array Value} {own : String} {index n : Nat} {M' : mt_M} (hAm : Amb D cT B0 s) (hw : cb_P own index M' n) (hc : cd_P M') (hR : (mt_R M').frames + 1 ≤ R.frames ∧ 8 + (mt_l M' + 11) + (mt_R M').locals ≤ R.locals) :
    CallB R s args own index (mt_y M') (mt_c M') (mt_l M') (mt_r M') [Cond.code (mt_y M') (mt_c M') (mt_l M') (mt_r M')] (mt_R M') (mt_R M').cells (mt_R M').slots n := by
  obtain ⟨hl, hi, hy, hd⟩ := hw
  refine ⟨rfl, rfl, hR.1, hR.2, fun w hw a' U hW => ?_, List.mem_cons_self, hAm.ts _ _ hc, hAm.ts _ _ hi, hy, fun sig h => ?_, hAm.ts _ _ hl⟩
  · rw [List.mem_singleton.mp hw]
    exact word_at hW (good_of_word (List.all_eq_true.mp WALL_good _ hc)) (hAm.2.1 _ hc)
  · rw [h] at hd
    exact (Option.some.inj hd).symm
theorem mc_pre {D : va_G} {cT : Nat → ClassId} {B0 : Nat} {s : State} {H : Heap} {locs : List Loc} {av : List Value} (hAm : Amb D cT B0 s) (hV : mu_V D classes μ H) (hS : va_S (AA B0) s.heap H locs) : ∀ U : State, U.heap = H → s.WarmedH U.vm → mc_P D cT B0 av μ av.toArray U :=
  fun U hU hW => ⟨rfl, hAm.at hS hU hW, by rw [hU]; exact hV⟩
section CallRows
variable {M' : mt_M} {st As : List Value} {b ci n idx : Nat} {fs : List Value} {post : Option Value → mu_M → Prop} {px : String → mu_M → Prop}
theorem wx_callV (hdg : decode (mt_c M) pc = .ok (.invokevirtual idx, 3)) (hw : cv_P (mt_y M).cls idx ci M' n) (hcd : cd_P M') (hR : rf_P M' M) (hM' : CT G M' (.ref b :: As) μ post px) (hb : μ b = some (.inr (ci, fs))) (hn : As.length = n) (hst : st = As.reverse ++ .ref b :: rest) (hroom : (rest.map fun v => v.category).sum ≤ 8) (hc : cn + (mt_R M').cells ≤ (mt_R M).cells) (hs : sn + (mt_R M').slots ≤ (mt_R M).slots)
    (kx : ∀ (E : String) (μ' : mu_M), px E μ' → WX G M QE lo pc rest E μ' (cn + (mt_R M').cells) (sn + (mt_R M').slots))
    (kk : ∀ (v : Option Value) (μ' : mu_M), post v μ' → WP G M QE lo (pc + 3) (v.toList ++ rest) μ' (cn + (mt_R M').cells) (sn + (mt_R M').slots)) : WP G M QE lo pc st μ cn sn := by
  obtain ⟨w1, w2, C, T, N, w3, w4⟩ := hw
  intro hg p e s m args below meth c H locs ls hM hV hS hL
  have hAm := hM.2.2.2.2.2.2.2.2
  exact mc_call (vx_runV (As := As) (b := b) (rest := rest) ⟨hM.1, hM.2.1, hM.2.2.2.1, hM.2.2.2.2.1, hAm.ts args⟩ (hM' hg) ⟨mc_cb hAm w1 hcd hR, hAm.ts _ _ w2, hAm.ts _ _ w4⟩ ⟨mc_blind _ _ _ _ μ, va_recv hAm.1 (hV.one hb) w3 (q0 := 0) rfl, mc_pre hAm hV hS⟩ rfl hn hL.1 hst (lv_room hroom) hdg ⟨hc, hs⟩) hS (fun E ce q9 μ' H1 locs1 h1 h2 h3 h4 h5 h6 => kx E μ' h1 hg p e s m args below meth c H1 locs1 ls ce q9 hM h2 h3 hL h4 h5 h6) (fun v μ' H locs h1 hV hS => kk v μ' h1 hg p e s m args below meth c H locs ls hM hV hS hL)
theorem wx_callS (hdg : decode (mt_c M) pc = .ok (.invokestatic idx, 3)) (hw : cs_P (mt_y M).cls idx M' n) (hcd : cd_P M') (hR : rf_P M' M) (hM' : CT G M' As μ post px) (hn : As.length = n) (hst : st = As.reverse ++ rest) (hroom : (rest.map fun v => v.category).sum ≤ 8) (hc : cn + (mt_R M').cells ≤ (mt_R M).cells) (hs : sn + (mt_R M').slots ≤ (mt_R M).slots)
    (kx : ∀ (E : String) (μ' : mu_M), px E μ' → WX G M QE lo pc rest E μ' (cn + (mt_R M').cells) (sn + (mt_R M').slots))
    (kk : ∀ (v : Option Value) (μ' : mu_M), post v μ' → WP G M QE lo (pc + 3) (v.toList ++ rest) μ' (cn + (mt_R M').cells) (sn + (mt_R M').slots)) : WP G M QE lo pc st μ cn sn := by
  obtain ⟨w1, w2⟩ := hw
  intro hg p e s m args below meth c H locs ls hM hV hS hL
  have hAm := hM.2.2.2.2.2.2.2.2
  exact mc_call (vx_runS (As := As) (rest := rest) ⟨hM.1, hM.2.1, hM.2.2.2.1, hM.2.2.2.2.1, hAm.ts args⟩ (hM' hg) ⟨mc_cb hAm w1 hcd hR, hAm.ts _ _ w2⟩ ⟨mc_blind _ _ _ _ μ, mc_pre hAm hV hS⟩ rfl hn hL.1 hst (lv_room hroom) hdg ⟨hc, hs⟩) hS (fun E ce q9 μ' H1 locs1 h1 h2 h3 h4 h5 h6 => kx E μ' h1 hg p e s m args below meth c H1 locs1 ls ce q9 hM h2 h3 hL h4 h5 h6) (fun v μ' H locs h1 hV hS => kk v μ' h1 hg p e s m args below meth c H locs ls hM hV hS hL)
theorem mc_callM {p : Program} {l : Launch} {e : Env} {R : Room} {s : State} {m : MethodId} {args : Array Value} {below : List Frame} {meth : Method} {c : Code} {H : Heap} {locs : List Loc} {cells slots : Nat} {Q : State → Prop} {D : va_G} {cl : List vw_C} {A : Nat → Prop} {ls : Array Slot} {st0 : List Value} {mc ms : Nat} {a : Array Value}
    (hr : va_Run p l e R s m args below meth c H locs cells slots mc ms (F0 m pc ls st0) rest (mc_Q D cl A post a) A) (hS : va_S A s.heap H locs)
    (kk : ∀ (v : Option Value) (μ' : mu_M) (H1 : Heap) (locs1 : List Loc), post v μ' → mu_V D cl μ' H1 → va_S A s.heap H1 locs1 → W p l e R s m args below meth c H1 locs1 (cells + mc) (slots + ms) Q (F0 m (pc + 3) ls (v.toList ++ rest))) :
    W p l e R s m args below meth c H locs cells slots Q (F0 m pc ls st0) := by
  intro T hT X
  obtain ⟨v, st₀, t, T', L, h0, X', hL, e1, e2, ⟨⟨v', μ', hv, hp, hb⟩, hF⟩, st⟩ := hr T hT X
  cases hv
  obtain ⟨k1, k2, k3⟩ := vx_keep h0 e1 hS (fun _ _ h => h) (fun _ h => h) hL hF
  obtain ⟨t2, a1, b1⟩ := kk v μ' T'.heap (locs ++ L) hp (by rw [e1]; exact hb) k3 T' rfl X'
  exact ⟨t2, st t2 a1, b1⟩
theorem wi_call (hdg : decode (mt_c M) pc = .ok (.invokespecial idx, 3)) (hw : ci_P (mt_y M).cls idx M' n) (hcd : cd_P M') (hR : rf_P M' M) (hM' : CTI G M' (.ref b :: As) μ post) (hn : As.length = n) (hst : st = As.reverse ++ .ref b :: rest) (hroom : (rest.map fun v => v.category).sum ≤ 8) (hc : cn + (mt_R M').cells ≤ (mt_R M).cells) (hs : sn + (mt_R M').slots ≤ (mt_R M).slots)
    (kk : ∀ (v : Option Value) (μ' : mu_M), post v μ' → WP G M QE lo (pc + 3) (v.toList ++ rest) μ' (cn + (mt_R M').cells) (sn + (mt_R M').slots)) : WP G M QE lo pc st μ cn sn := by
  obtain ⟨w1, w2, w3, w4⟩ := hw
  intro hg p e s m args below meth c H locs ls hM hV hS hL
  have hAm := hM.2.2.2.2.2.2.2.2
  have h9 := hM' hg
  have hcb := mc_cb (R := mt_R M) (args := args) hAm w1 hcd hR
  rw [w4] at h9 hcb
  exact mc_callM (va_runI (As := As) (b := b) (rest := rest) ⟨hM.1, hM.2.1, hM.2.2.2.1, hM.2.2.2.2.1, hAm.ts args⟩ h9 ⟨hcb, w3, hAm.ts _ _ w2⟩ ⟨mc_blind _ _ _ _ μ, mc_pre hAm hV hS⟩ rfl hn hL.1 hst (lv_room hroom) hdg ⟨hc, hs⟩) hS (fun v μ' H locs h1 hV hS => kk v μ' h1 hg p e s m args below meth c H locs ls hM hV hS hL)
theorem wi_callN {host : String} (hdg : decode (mt_c M) pc = .ok (.invokespecial idx, 3)) (hw : cn_P (mt_y M).cls idx M' host n) (hcd : cd_P M') (hR : rf_P M' M) (hM' : CTI G M' (.ref b :: As) μ post) (hn : As.length = n) (hst : st = As.reverse ++ .ref b :: rest) (hroom : (rest.map fun v => v.category).sum ≤ 8) (hc : cn + (mt_R M').cells ≤ (mt_R M).cells) (hs : sn + (mt_R M').slots ≤ (mt_R M).slots)
    (kk : ∀ (v : Option Value) (μ' : mu_M), post v μ' → WP G M QE lo (pc + 3) (v.toList ++ rest) μ' (cn + (mt_R M').cells) (sn + (mt_R M').slots)) : WP G M QE lo pc st μ cn sn := by
  obtain ⟨w1, w2, w3, w4, w5, w6, w7⟩ := hw
  intro hg p e s m args below meth c H locs ls hM hV hS hL
  have hAm := hM.2.2.2.2.2.2.2.2
  have h9 := hM' hg
  have hcd9 : Cond.code (mt_y M') (mt_c M') (mt_l M') none ∈ WALL := by have h8 := hcd; unfold cd_P at h8; rw [w7] at h8; exact h8
  rw [w7] at h9
  refine mc_callM (va_runIN (host := host) (As := As) (b := b) (rest := rest) ⟨hM.1, hM.2.1, hM.2.2.2.1, hM.2.2.2.2.1, hAm.ts args⟩ h9 ⟨⟨⟨rfl, rfl, hR.1, hR.2, fun w hw a' U hW => ?_, List.mem_cons_self⟩, hAm.ts _ _ hcd9, hAm.ts _ _ w2, w3, fun sig h => ?_, va_Nw.use rfl (hAm.2.2.2.2.2.1 _ w1)⟩, w6, hAm.ts _ _ w5⟩ ⟨mc_blind _ _ _ _ μ, mc_pre hAm hV hS⟩ rfl hn hL.1 hst (lv_room hroom) hdg ⟨hc, hs⟩) hS (fun v μ' H locs h1 hV hS => kk v μ' h1 hg p e s m args below meth c H locs ls hM hV hS hL)
  · rw [List.mem_singleton.mp hw]
    exact word_at hW (good_of_word (List.all_eq_true.mp WALL_good _ hcd9)) (hAm.2.1 _ hcd9)
  · rw [h] at w4
    exact (Option.some.inj w4).symm
end CallRows
section Ends
variable {post : Option Value → mu_M → Prop} {px : String → mu_M → Prop}
theorem wp_iret {v : Int32} (hdg : decode (mt_c M) pc = .ok (.ireturn, 1)) (hr : mt_r M = some .int) (hc : cn ≤ (mt_R M).cells) (hs : sn ≤ (mt_R M).slots) (hp : post (some (.int v)) μ) : WP G M (EC G M post px) lo pc [.int v] μ cn sn :=
  fun hg p e s m args below meth c H locs ls hM hV hS hL => W.widen hc hs (vx_ret (W.iret hM.1 hM.2.1 (hM.2.2.1.trans hr) (fun t ht _ => ⟨⟨_, μ, rfl, hp, by rw [ht]; exact hV⟩, hS.F ht⟩) hS.2.2 hdg hM.2.2.2.2.2.1))
theorem wp_zret {v : Int32} (hdg : decode (mt_c M) pc = .ok (.ireturn, 1)) (hr : mt_r M = some .boolean) (hn : narrow .boolean (.int v) = .int v) (hc : cn ≤ (mt_R M).cells) (hs : sn ≤ (mt_R M).slots) (hp : post (some (.int v)) μ) : WP G M (EC G M post px) lo pc [.int v] μ cn sn :=
  fun hg p e s m args below meth c H locs ls hM hV hS hL => W.widen hc hs (vx_ret (W.zret hM.1 hM.2.1 (hM.2.2.1.trans hr) hn (fun t ht _ => ⟨⟨_, μ, rfl, hp, by rw [ht]; exact hV⟩, hS.F ht⟩) hS.2.2 hdg hM.2.2.2.2.2.1))
theorem wp_vret (hdg : decode (mt_c M) pc = .ok (.return_, 1)) (hr : mt_r M = none) (hc : cn ≤ (mt_R M).cells) (hs : sn ≤ (mt_R M).slots) (hp : post none μ) : WP G M (EC G M post px) lo pc [] μ cn sn :=
  fun hg p e s m args below meth c H locs ls hM hV hS hL => W.widen hc hs (vx_ret (W.vret hM.1 hM.2.1 (hM.2.2.1.trans hr) (fun t ht _ => ⟨⟨_, μ, rfl, hp, by rw [ht]; exact hV⟩, hS.F ht⟩) hS.2.2 hdg hM.2.2.2.2.2.1))
theorem wp_vretI (hdg : decode (mt_c M) pc = .ok (.return_, 1)) (hr : mt_r M = none) (hc : cn ≤ (mt_R M).cells) (hs : sn ≤ (mt_R M).slots) (hp : post none μ) : WP G M (ECI G M post) lo pc [] μ cn sn :=
  fun hg p e s m args below meth c H locs ls hM hV hS hL => W.widen hc hs (W.vret hM.1 hM.2.1 (hM.2.2.1.trans hr) (fun t ht _ => ⟨⟨_, μ, rfl, hp, by rw [ht]; exact hV⟩, hS.F ht⟩) hS.2.2 hdg hM.2.2.2.2.2.1)
theorem wp_aret {q : Nat} {rt : FieldType} (hdg : decode (mt_c M) pc = .ok (.areturn, 1)) (hr : mt_r M = some rt) (hrt : (∃ n, rt = .object n) ∨ ∃ t, rt = .array t) (hc : cn ≤ (mt_R M).cells) (hs : sn ≤ (mt_R M).slots) (hp : post (some (.ref q)) μ) : WP G M (EC G M post px) lo pc [.ref q] μ cn sn :=
  fun hg p e s m args below meth c H locs ls hM hV hS hL => W.widen hc hs (vx_ret (W.aret hM.1 hM.2.1 (hM.2.2.1.trans hr) hrt (Or.inr ⟨q, rfl⟩) (fun t ht _ => ⟨⟨_, μ, rfl, hp, by rw [ht]; exact hV⟩, hS.F ht⟩) hS.2.2 hdg hM.2.2.2.2.2.1))
theorem wp_throw {cls text : String} {names : List String} {ik is ic : Nat} {hh : List (Nat × Nat × Nat × Nat)} (hw : th_P (mt_y M).cls cls text ik is ic names) (hh0 : mt_h M = some hh) (hcov : ∀ x ∈ tableOf hh, covers x (pc + 9) = false)
    (d0 : decode (mt_c M) pc = .ok (.new ik, 3)) (d3 : decode (mt_c M) (pc + 3) = .ok (.dup, 1)) (d4 : decode (mt_c M) (pc + 4) = .ok (.ldc is, 2)) (d6 : decode (mt_c M) (pc + 6) = .ok (.invokespecial ic, 3)) (d9 : decode (mt_c M) (pc + 9) = .ok (.athrow, 1))
    (hRf : names.length + 3 < (mt_R M).frames) (hRl : (rest.map fun v => v.category).sum + (13 * (names.length + 1) + 43) ≤ (mt_R M).locals) (hc : cn + 1 ≤ (mt_R M).cells) (hs : sn + 6 ≤ (mt_R M).slots) (hp : px cls μ) : WP G M (EC G M post px) lo pc rest μ cn sn := by
  obtain ⟨w1, w2, w3, w4, w5, w6, w7⟩ := hw
  intro hg p e s m args below meth c H locs ls hM hV hS hL
  have hAm := hM.2.2.2.2.2.2.2.2
  obtain ⟨sa, hsa⟩ := hAm.2.2.2.2.1 _ w5
  exact vx_throwS (A := AA G.2.2.2.1) (names := names) hM.1 hM.2.1 hg hM.2.2.2.2.1 w1 w2 (hAm.ts _ _ w3) (hAm.ts _ _ w4) hsa (fun w hw => (w6 w hw).elim (hAm.ts _ _) (fun z => bad_use (List.mem_filter.mp z).2 (hAm.2.2.2.2.2.2.2.1 _ z))) w7 hAm.2.2.1 hAm.2.2.2.1 hS (hL.1.trans hM.2.2.2.1.symm) d0 d3 d4 d6 d9 (fun x hx => hcov x (by rw [← hM.2.2.2.2.2.2.1 hh hh0]; exact hx)) hRf hRl hc hs hM.2.2.2.2.2.1
    (fun t _ hz ho => ⟨μ, hp, hV.kept ho, Nat.le_trans hS.1 hz, fun q h1 h2 => (ho q (Nat.lt_of_lt_of_le h1 hS.1)).trans (hS.2.1 q h1 h2)⟩) hS.2.2 hc hs
theorem wp_throwW {cls text : String} {names : List String} {ik is ic : Nat} {hh : List (Nat × Nat × Nat × Nat)} (hw : th_P (mt_y M).cls cls text ik is ic names) (hh0 : mt_h M = some hh) (hcov : ∀ x ∈ tableOf hh, covers x (pc + 10) = false)
    (d0 : decode (mt_c M) pc = .ok (.new ik, 3)) (d3 : decode (mt_c M) (pc + 3) = .ok (.dup, 1)) (d4 : decode (mt_c M) (pc + 4) = .ok (.ldc_w is, 3)) (d7 : decode (mt_c M) (pc + 7) = .ok (.invokespecial ic, 3)) (d10 : decode (mt_c M) (pc + 10) = .ok (.athrow, 1))
    (hRf : names.length + 3 < (mt_R M).frames) (hRl : (rest.map fun v => v.category).sum + (13 * (names.length + 1) + 43) ≤ (mt_R M).locals) (hc : cn + 1 ≤ (mt_R M).cells) (hs : sn + 6 ≤ (mt_R M).slots) (hp : px cls μ) : WP G M (EC G M post px) lo pc rest μ cn sn := by
  obtain ⟨w1, w2, w3, w4, w5, w6, w7⟩ := hw
  intro hg p e s m args below meth c H locs ls hM hV hS hL
  have hAm := hM.2.2.2.2.2.2.2.2
  obtain ⟨sa, hsa⟩ := hAm.2.2.2.2.1 _ w5
  exact vx_throwSW (A := AA G.2.2.2.1) (names := names) hM.1 hM.2.1 hg hM.2.2.2.2.1 w1 w2 (hAm.ts _ _ w3) (hAm.ts _ _ w4) hsa (fun w hw => (w6 w hw).elim (hAm.ts _ _) (fun z => bad_use (List.mem_filter.mp z).2 (hAm.2.2.2.2.2.2.2.1 _ z))) w7 hAm.2.2.1 hAm.2.2.2.1 hS (hL.1.trans hM.2.2.2.1.symm) d0 d3 d4 d7 d10 (fun x hx => hcov x (by rw [← hM.2.2.2.2.2.2.1 hh hh0]; exact hx)) hRf hRl hc hs hM.2.2.2.2.2.1
    (fun t _ hz ho => ⟨μ, hp, hV.kept ho, Nat.le_trans hS.1 hz, fun q h1 h2 => (ho q (Nat.lt_of_lt_of_le h1 hS.1)).trans (hS.2.1 q h1 h2)⟩) hS.2.2 hc hs
end Ends
end WPR
