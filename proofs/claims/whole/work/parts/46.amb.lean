/-! AT THE LAW'S START: what holds all through -/
section AM
variable {s : State} {b : Nat}
theorem st_wall (hts : ∀ w ∈ lw_tbl, w.before #[Value.ref b] s = true) : ∀ w ∈ WALL, w.before #[] s = true := fun w hw => word_at (State.WarmedH.refl s) (good_of_word (List.all_eq_true.mp WALL_good w hw)) (hts w (WALL_in w hw))
theorem in_Log : Cond.instantiable "SharedLog" 7 ∈ WALL := by decide +kernel
theorem in_Unit : Cond.instantiable "SharedLog$Unit" 3 ∈ WALL := by decide +kernel
theorem in_Entry : Cond.instantiable "SharedLog$Entry" 3 ∈ WALL := by decide +kernel
theorem in_Layout : Cond.instantiable "SharedLog$Layout" 3 ∈ WALL := by decide +kernel
theorem in_Seq : Cond.instantiable "SharedLog$Sequencer" 3 ∈ WALL := by decide +kernel
theorem in_Work : Cond.instantiable "SharedLog$Work" 4 ∈ WALL := by decide +kernel
theorem in_Client : Cond.instantiable "SharedLog$Client" 6 ∈ WALL := by decide +kernel
theorem in_Model : Cond.instantiable "SharedLogModel" 26 ∈ WALL := by decide +kernel
theorem st_cls (hw : ∀ w ∈ WALL, w.before #[] s = true) : ∀ c : Nat, ∃ x : ClassId × (Nat → Nat), ∀ q : vw_C, classes[c]? = some q → u_Kn s q.1 q.2.1 q.2.2 x.1 x.2 := by
  have h0 : ∀ {C : String} {T : u_T} {N : Nat} (c : Nat), classes[c]? = some (C, T, N) → (∀ w ∈ u_ws C T N, w ∈ WALL) → Cond.instantiable C N ∈ WALL → ∃ x : ClassId × (Nat → Nat), ∀ q : vw_C, classes[c]? = some q → u_Kn s q.1 q.2.1 q.2.2 x.1 x.2 := by
    intro C T N c hc hin hi
    obtain ⟨cC, iS, h⟩ := u_known hw hin (hw _ hi)
    refine ⟨(cC, iS), fun q hq => ?_⟩
    cases Option.some.inj (hc.symm.trans hq)
    exact h
  intro c
  by_cases h8 : c < 8
  · rcases (show c = 0 ∨ c = 1 ∨ c = 2 ∨ c = 3 ∨ c = 4 ∨ c = 5 ∨ c = 6 ∨ c = 7 by omega) with rfl | rfl | rfl | rfl | rfl | rfl | rfl | rfl
    · exact h0 0 rfl cu_Log in_Log
    · exact h0 1 rfl cu_Unit in_Unit
    · exact h0 2 rfl cu_Entry in_Entry
    · exact h0 3 rfl cu_Layout in_Layout
    · exact h0 4 rfl cu_Seq in_Seq
    · exact h0 5 rfl cu_Work in_Work
    · exact h0 6 rfl cu_Client in_Client
    · exact h0 7 rfl cu_Model in_Model
  · refine ⟨(0, fun _ => 0), fun q hq => ?_⟩
    have h9 := (List.getElem?_eq_some_iff.mp hq).1
    exact absurd h9 (by show ¬ c < 8; omega)
theorem st_prim {ty : FieldType} (h : (Cond.arrayClass ty).before #[] s = true) (hr : ∀ c, s.vm.findClass ("[" ++ ty.toString) = some c → va_RA s c ty) : ∃ cA : ClassId, ArrOfT s cA ty ∧ va_RA s cA ty := by
  obtain ⟨cA, kA, comp, h1, h2, h3⟩ := Cond.arrayClass_spec h
  exact ⟨cA, fun n z => ⟨(fun k h => by cases h), kA, h2, comp, h3⟩, hr cA h1⟩
theorem st_obj {C : String} (h : (Cond.arrayOver (.object C)).before #[] s = true) : ∃ cA : ClassId, ArrOfT s cA (.object C) ∧ va_RA s cA (.object C) := by
  obtain ⟨comp, cA, kA, h1, h2, h3, h4, h5⟩ := Cond.arrayOver_spec h
  exact ⟨cA, fun n z => ⟨(fun k h => by cases h), kA, h3, comp, h4⟩, kA, comp, h3, h4, h1, h5⟩
theorem ac_I0 : Cond.arrayClass .int ∈ WALL := by decide +kernel
theorem ac_Z0 : Cond.arrayClass .boolean ∈ WALL := by decide +kernel
theorem ao_in : ∀ C ∈ AOS, Cond.arrayOver (.object C) ∈ lw_tbl := by decide +kernel
theorem st_arr (hw : ∀ w ∈ WALL, w.before #[] s = true) (ha : ∀ C ∈ AOS, va_AO C s) : ∃ cT : Nat → ClassId, ∀ (k : Nat) (q : ClassId × FieldType), (TYS cT)[k]? = some q → ArrOfT s q.1 q.2 ∧ va_RA s q.1 q.2 := by
  obtain ⟨c0, h0⟩ := st_prim (hw _ ac_I0) (fun c h => h)
  obtain ⟨c1, h1⟩ := st_prim (hw _ ac_Z0) (fun c h => h)
  obtain ⟨c2, h2⟩ := st_prim (hw _ ac_J0) (fun c h => h)
  obtain ⟨c3, h3⟩ := st_obj (ha "SharedLog$Unit" (by decide))
  obtain ⟨c4, h4⟩ := st_obj (ha "SharedLog$Client" (by decide))
  obtain ⟨c5, h5⟩ := st_obj (ha "SharedLog$Entry" (by decide))
  refine ⟨fun k => if k = 0 then c0 else if k = 1 then c1 else if k = 2 then c2 else if k = 3 then c3 else if k = 4 then c4 else c5, fun k q hq => ?_⟩
  by_cases h6 : k < 6
  · rcases (show k = 0 ∨ k = 1 ∨ k = 2 ∨ k = 3 ∨ k = 4 ∨ k = 5 by omega) with rfl | rfl | rfl | rfl | rfl | rfl
    · cases Option.some.inj hq; exact h0
    · cases Option.some.inj hq; exact h1
    · cases Option.some.inj hq; exact h2
    · cases Option.some.inj hq; exact h3
    · cases Option.some.inj hq; exact h4
    · cases Option.some.inj hq; exact h5
  · have h9 := (List.getElem?_eq_some_iff.mp hq).1
    exact absurd h9 (by show ¬ k < 6; omega)
theorem sr_in : ∀ q ∈ STRS, Cond.stringRef q.1 q.2.1 q.2.2 ∈ lw_tbl ∧ q.1 = "SharedLog" := by decide +kernel
theorem ns_in : ∀ q ∈ NSTS, Cond.methodLinkNest q.1 q.2.1 q.2.2.1 q.2.2.2 ∈ lw_tbl := by decide +kernel
theorem nc_in : ∀ q ∈ NCS, Cond.not (.castable q.1 q.2) ∈ flatC (Jvm.Cond.and given_1 narrow_1) := by decide +kernel
theorem lay_u : Cond.laysStatic Bundle.tN "UNASSIGNED_STACK" Bundle.steD ∈ lw_tbl := by decide +kernel
theorem lay_s : Cond.laysStatic Bundle.tN "SUPPRESSED_SENTINEL" Bundle.listD ∈ lw_tbl := by decide +kernel
theorem ini_t : Cond.initialized Bundle.tN ∈ lw_tbl := by decide +kernel
theorem ref_u : Cond.isRef (.static Bundle.tN "UNASSIGNED_STACK" Bundle.steD) ∈ flatC (Jvm.Cond.and given_1 narrow_1) := by decide +kernel
theorem ref_s : Cond.isRef (.static Bundle.tN "SUPPRESSED_SENTINEL" Bundle.listD) ∈ flatC (Jvm.Cond.and given_1 narrow_1) := by decide +kernel
theorem bad_of {w : Cond} (hb : isBad w = true) {A : Array Value} {U : State} (h : w.before A U = true) : va_Nw w U := by
  cases w <;> first | exact va_Nw.of rfl h | (simp [isBad] at hb; done)
theorem amb0 (hts : ∀ w ∈ lw_tbl, w.before #[Value.ref b] s = true) (hgv : (Jvm.Cond.and given_1 narrow_1).before #[Value.ref b] s = true) : ∃ (D : va_G) (cT : Nat → ClassId), Amb D cT s.heap.size s := by
  have hw := st_wall hts
  have hfl := flat_of_before _ hgv
  have hao : ∀ C ∈ AOS, va_AO C s := fun C hC => va_AO.of (hts _ (ao_in C hC))
  obtain ⟨cT, hT⟩ := st_arr hw hao
  obtain ⟨f, hf⟩ := Classical.axiomOfChoice (st_cls hw)
  have hA : ∀ a : Nat, a < s.heap.size → ¬ AA s.heap.size a := fun a h1 h2 => Nat.not_le.mpr h1 h2
  refine ⟨(fun c => (f c).1, fun c => (f c).2), cT, ⟨hf, hT⟩, hw, vx_Zqof (hts _ lay_u) (hts _ ini_t) (hfl _ ref_u) hA, vx_Zqof (hts _ lay_s) (hts _ ini_t) (hfl _ ref_s) hA, fun q hq => ?_, fun q hq => va_Nw.of rfl (hts _ (ns_in q hq)), hao, fun w hw9 => bad_of (List.mem_filter.mp hw9).2 (hts w (WBAD_in w hw9)), fun q hq => va_Nc.of (hfl _ (nc_in q hq)), Nat.le_refl _⟩
  obtain ⟨h1, h2⟩ := sr_in q hq
  have hcur : s.vm.findClass q.1 = some (f 0).1 := by rw [h2]; exact (hf 0 _ rfl).2.1
  obtain ⟨-, -, -, sa, -, -, -, -, -, hev⟩ := Cond.stringRef_spec hcur (hts _ h1)
  exact ⟨sa, vk_R.of (hts _ h1) hev⟩
end AM
