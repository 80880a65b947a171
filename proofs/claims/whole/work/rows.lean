section
-- ===== PART A: goes FIRST, ahead of the names: the tables' words, and 'selects' of the private methods out of them =====
/-- a private method of a class that the tables say can be made, by its rows of tables_1 -/
def lw_okq (q : MethodName × Nat) : Prop := (q.1.cls ≠ "java/lang/invoke/MethodHandle" ∧ q.1.cls ≠ "java/lang/invoke/VarHandle") ∧ Cond.instantiable q.1.cls q.2 ∈ tables_1 ∧ Cond.privateMethod q.1 ∈ tables_1 ∧ Cond.instanceMethod q.1 ∈ tables_1
theorem lw_p0 : lw_okq (⟨"java/lang/Throwable", "fillInStackTrace", "(I)Ljava/lang/Throwable;"⟩, 6) := ⟨⟨by decide +kernel, by decide +kernel⟩, List.mem_of_getElem? (i := 248) (by decide +kernel), List.mem_of_getElem? (i := 246) (by decide +kernel), List.mem_of_getElem? (i := 247) (by decide +kernel)⟩
theorem lw_p1 : lw_okq (⟨"SharedLog", "takeToken", "(LSharedLog$Client;)I"⟩, 7) := ⟨⟨by decide +kernel, by decide +kernel⟩, List.mem_of_getElem? (i := 18) (by decide +kernel), List.mem_of_getElem? (i := 278) (by decide +kernel), List.mem_of_getElem? (i := 279) (by decide +kernel)⟩
theorem lw_p2 : lw_okq (⟨"SharedLog", "requireSequencer", "(LSharedLog$Client;)V"⟩, 7) := ⟨⟨by decide +kernel, by decide +kernel⟩, List.mem_of_getElem? (i := 18) (by decide +kernel), List.mem_of_getElem? (i := 282) (by decide +kernel), List.mem_of_getElem? (i := 283) (by decide +kernel)⟩
theorem lw_p3 : lw_okq (⟨"SharedLog", "write", "(LSharedLog$Client;ILSharedLog$Entry;I)V"⟩, 7) := ⟨⟨by decide +kernel, by decide +kernel⟩, List.mem_of_getElem? (i := 18) (by decide +kernel), List.mem_of_getElem? (i := 322) (by decide +kernel), List.mem_of_getElem? (i := 323) (by decide +kernel)⟩
theorem lw_p4 : lw_okq (⟨"SharedLog", "use", "(LSharedLog$Client;I)LSharedLog$Unit;"⟩, 7) := ⟨⟨by decide +kernel, by decide +kernel⟩, List.mem_of_getElem? (i := 18) (by decide +kernel), List.mem_of_getElem? (i := 334) (by decide +kernel), List.mem_of_getElem? (i := 335) (by decide +kernel)⟩
theorem lw_p5 : lw_okq (⟨"SharedLog", "entryAtEnd", "(LSharedLog$Client;I)LSharedLog$Entry;"⟩, 7) := ⟨⟨by decide +kernel, by decide +kernel⟩, List.mem_of_getElem? (i := 18) (by decide +kernel), List.mem_of_getElem? (i := 367) (by decide +kernel), List.mem_of_getElem? (i := 368) (by decide +kernel)⟩
theorem lw_p6 : lw_okq (⟨"SharedLog", "trimOne", "(LSharedLog$Client;I)I"⟩, 7) := ⟨⟨by decide +kernel, by decide +kernel⟩, List.mem_of_getElem? (i := 18) (by decide +kernel), List.mem_of_getElem? (i := 403) (by decide +kernel), List.mem_of_getElem? (i := 404) (by decide +kernel)⟩
theorem lw_p7 : lw_okq (⟨"SharedLog", "requireChangeable", "(LSharedLog$Client;[I)V"⟩, 7) := ⟨⟨by decide +kernel, by decide +kernel⟩, List.mem_of_getElem? (i := 18) (by decide +kernel), List.mem_of_getElem? (i := 428) (by decide +kernel), List.mem_of_getElem? (i := 429) (by decide +kernel)⟩
theorem lw_p8 : lw_okq (⟨"SharedLog", "upCount", "([I)I"⟩, 7) := ⟨⟨by decide +kernel, by decide +kernel⟩, List.mem_of_getElem? (i := 18) (by decide +kernel), List.mem_of_getElem? (i := 433) (by decide +kernel), List.mem_of_getElem? (i := 434) (by decide +kernel)⟩
theorem lw_p9 : lw_okq (⟨"SharedLog", "sealAll", "(LSharedLog$Layout;[II)V"⟩, 7) := ⟨⟨by decide +kernel, by decide +kernel⟩, List.mem_of_getElem? (i := 18) (by decide +kernel), List.mem_of_getElem? (i := 446) (by decide +kernel), List.mem_of_getElem? (i := 447) (by decide +kernel)⟩
theorem lw_p10 : lw_okq (⟨"SharedLog", "sealRow", "([II)V"⟩, 7) := ⟨⟨by decide +kernel, by decide +kernel⟩, List.mem_of_getElem? (i := 18) (by decide +kernel), List.mem_of_getElem? (i := 450) (by decide +kernel), List.mem_of_getElem? (i := 451) (by decide +kernel)⟩
theorem lw_p11 : lw_okq (⟨"SharedLog", "merge", "([I[II)V"⟩, 7) := ⟨⟨by decide +kernel, by decide +kernel⟩, List.mem_of_getElem? (i := 18) (by decide +kernel), List.mem_of_getElem? (i := 454) (by decide +kernel), List.mem_of_getElem? (i := 455) (by decide +kernel)⟩
theorem lw_p12 : lw_okq (⟨"SharedLog", "firstHeld", "([II)LSharedLog$Entry;"⟩, 7) := ⟨⟨by decide +kernel, by decide +kernel⟩, List.mem_of_getElem? (i := 18) (by decide +kernel), List.mem_of_getElem? (i := 458) (by decide +kernel), List.mem_of_getElem? (i := 459) (by decide +kernel)⟩
theorem lw_p13 : lw_okq (⟨"SharedLog", "firstFreeOffset", "()I"⟩, 7) := ⟨⟨by decide +kernel, by decide +kernel⟩, List.mem_of_getElem? (i := 18) (by decide +kernel), List.mem_of_getElem? (i := 462) (by decide +kernel), List.mem_of_getElem? (i := 463) (by decide +kernel)⟩
theorem lw_p14 : lw_okq (⟨"SharedLog", "play", "(LSharedLog$Client;I)Z"⟩, 7) := ⟨⟨by decide +kernel, by decide +kernel⟩, List.mem_of_getElem? (i := 18) (by decide +kernel), List.mem_of_getElem? (i := 484) (by decide +kernel), List.mem_of_getElem? (i := 485) (by decide +kernel)⟩
theorem lw_p15 : lw_okq (⟨"SharedLog", "writeAndPlayCommit", "(LSharedLog$Client;)Z"⟩, 7) := ⟨⟨by decide +kernel, by decide +kernel⟩, List.mem_of_getElem? (i := 18) (by decide +kernel), List.mem_of_getElem? (i := 549) (by decide +kernel), List.mem_of_getElem? (i := 550) (by decide +kernel)⟩
def lw_privs_1 : List (MethodName × Nat) := [(⟨"java/lang/Throwable", "fillInStackTrace", "(I)Ljava/lang/Throwable;"⟩, 6), (⟨"SharedLog", "takeToken", "(LSharedLog$Client;)I"⟩, 7), (⟨"SharedLog", "requireSequencer", "(LSharedLog$Client;)V"⟩, 7), (⟨"SharedLog", "write", "(LSharedLog$Client;ILSharedLog$Entry;I)V"⟩, 7), (⟨"SharedLog", "use", "(LSharedLog$Client;I)LSharedLog$Unit;"⟩, 7), (⟨"SharedLog", "entryAtEnd", "(LSharedLog$Client;I)LSharedLog$Entry;"⟩, 7), (⟨"SharedLog", "trimOne", "(LSharedLog$Client;I)I"⟩, 7), (⟨"SharedLog", "requireChangeable", "(LSharedLog$Client;[I)V"⟩, 7), (⟨"SharedLog", "upCount", "([I)I"⟩, 7), (⟨"SharedLog", "sealAll", "(LSharedLog$Layout;[II)V"⟩, 7), (⟨"SharedLog", "sealRow", "([II)V"⟩, 7), (⟨"SharedLog", "merge", "([I[II)V"⟩, 7), (⟨"SharedLog", "firstHeld", "([II)LSharedLog$Entry;"⟩, 7), (⟨"SharedLog", "firstFreeOffset", "()I"⟩, 7), (⟨"SharedLog", "play", "(LSharedLog$Client;I)Z"⟩, 7), (⟨"SharedLog", "writeAndPlayCommit", "(LSharedLog$Client;)Z"⟩, 7)]
theorem lw_r1 : ∀ q ∈ lw_privs_1, lw_okq q := List.forall_mem_cons.mpr ⟨lw_p0, List.forall_mem_cons.mpr ⟨lw_p1, List.forall_mem_cons.mpr ⟨lw_p2, List.forall_mem_cons.mpr ⟨lw_p3, List.forall_mem_cons.mpr ⟨lw_p4, List.forall_mem_cons.mpr ⟨lw_p5, List.forall_mem_cons.mpr ⟨lw_p6, List.forall_mem_cons.mpr ⟨lw_p7, List.forall_mem_cons.mpr ⟨lw_p8, List.forall_mem_cons.mpr ⟨lw_p9, List.forall_mem_cons.mpr ⟨lw_p10, List.forall_mem_cons.mpr ⟨lw_p11, List.forall_mem_cons.mpr ⟨lw_p12, List.forall_mem_cons.mpr ⟨lw_p13, List.forall_mem_cons.mpr ⟨lw_p14, List.forall_mem_cons.mpr ⟨lw_p15, fun _ h => absurd h List.not_mem_nil⟩⟩⟩⟩⟩⟩⟩⟩⟩⟩⟩⟩⟩⟩⟩⟩
theorem lw_p16 : lw_okq (⟨"SharedLogModel", "learnNow", "(I)V"⟩, 26) := ⟨⟨by decide +kernel, by decide +kernel⟩, List.mem_of_getElem? (i := 590) (by decide +kernel), List.mem_of_getElem? (i := 596) (by decide +kernel), List.mem_of_getElem? (i := 597) (by decide +kernel)⟩
theorem lw_p17 : lw_okq (⟨"SharedLogModel", "out", "(II)Z"⟩, 26) := ⟨⟨by decide +kernel, by decide +kernel⟩, List.mem_of_getElem? (i := 590) (by decide +kernel), List.mem_of_getElem? (i := 687) (by decide +kernel), List.mem_of_getElem? (i := 688) (by decide +kernel)⟩
theorem lw_p18 : lw_okq (⟨"SharedLogModel", "fail", "(I)I"⟩, 26) := ⟨⟨by decide +kernel, by decide +kernel⟩, List.mem_of_getElem? (i := 590) (by decide +kernel), List.mem_of_getElem? (i := 691) (by decide +kernel), List.mem_of_getElem? (i := 692) (by decide +kernel)⟩
theorem lw_p19 : lw_okq (⟨"SharedLogModel", "noToken", "(I)Z"⟩, 26) := ⟨⟨by decide +kernel, by decide +kernel⟩, List.mem_of_getElem? (i := 590) (by decide +kernel), List.mem_of_getElem? (i := 695) (by decide +kernel), List.mem_of_getElem? (i := 696) (by decide +kernel)⟩
theorem lw_p20 : lw_okq (⟨"SharedLogModel", "write", "(III)I"⟩, 26) := ⟨⟨by decide +kernel, by decide +kernel⟩, List.mem_of_getElem? (i := 590) (by decide +kernel), List.mem_of_getElem? (i := 699) (by decide +kernel), List.mem_of_getElem? (i := 700) (by decide +kernel)⟩
theorem lw_p21 : lw_okq (⟨"SharedLogModel", "rowFor", "(II)I"⟩, 26) := ⟨⟨by decide +kernel, by decide +kernel⟩, List.mem_of_getElem? (i := 590) (by decide +kernel), List.mem_of_getElem? (i := 703) (by decide +kernel), List.mem_of_getElem? (i := 704) (by decide +kernel)⟩
theorem lw_p22 : lw_okq (⟨"SharedLogModel", "length", "(I)I"⟩, 26) := ⟨⟨by decide +kernel, by decide +kernel⟩, List.mem_of_getElem? (i := 590) (by decide +kernel), List.mem_of_getElem? (i := 707) (by decide +kernel), List.mem_of_getElem? (i := 708) (by decide +kernel)⟩
theorem lw_p23 : lw_okq (⟨"SharedLogModel", "unit", "(II)I"⟩, 26) := ⟨⟨by decide +kernel, by decide +kernel⟩, List.mem_of_getElem? (i := 590) (by decide +kernel), List.mem_of_getElem? (i := 711) (by decide +kernel), List.mem_of_getElem? (i := 712) (by decide +kernel)⟩
theorem lw_p24 : lw_okq (⟨"SharedLogModel", "usable", "(II)Z"⟩, 26) := ⟨⟨by decide +kernel, by decide +kernel⟩, List.mem_of_getElem? (i := 590) (by decide +kernel), List.mem_of_getElem? (i := 715) (by decide +kernel), List.mem_of_getElem? (i := 716) (by decide +kernel)⟩
theorem lw_p25 : lw_okq (⟨"SharedLogModel", "cell", "(II)I"⟩, 26) := ⟨⟨by decide +kernel, by decide +kernel⟩, List.mem_of_getElem? (i := 590) (by decide +kernel), List.mem_of_getElem? (i := 719) (by decide +kernel), List.mem_of_getElem? (i := 720) (by decide +kernel)⟩
theorem lw_p26 : lw_okq (⟨"SharedLogModel", "copy", "(II)V"⟩, 26) := ⟨⟨by decide +kernel, by decide +kernel⟩, List.mem_of_getElem? (i := 590) (by decide +kernel), List.mem_of_getElem? (i := 723) (by decide +kernel), List.mem_of_getElem? (i := 724) (by decide +kernel)⟩
theorem lw_p27 : lw_okq (⟨"SharedLogModel", "lastCell", "(II)I"⟩, 26) := ⟨⟨by decide +kernel, by decide +kernel⟩, List.mem_of_getElem? (i := 590) (by decide +kernel), List.mem_of_getElem? (i := 731) (by decide +kernel), List.mem_of_getElem? (i := 732) (by decide +kernel)⟩
theorem lw_p28 : lw_okq (⟨"SharedLogModel", "ones", "(I)I"⟩, 26) := ⟨⟨by decide +kernel, by decide +kernel⟩, List.mem_of_getElem? (i := 590) (by decide +kernel), List.mem_of_getElem? (i := 735) (by decide +kernel), List.mem_of_getElem? (i := 736) (by decide +kernel)⟩
theorem lw_p29 : lw_okq (⟨"SharedLogModel", "badRow", "(I)Z"⟩, 26) := ⟨⟨by decide +kernel, by decide +kernel⟩, List.mem_of_getElem? (i := 590) (by decide +kernel), List.mem_of_getElem? (i := 755) (by decide +kernel), List.mem_of_getElem? (i := 756) (by decide +kernel)⟩
theorem lw_p30 : lw_okq (⟨"SharedLogModel", "upUnits", "(I)I"⟩, 26) := ⟨⟨by decide +kernel, by decide +kernel⟩, List.mem_of_getElem? (i := 590) (by decide +kernel), List.mem_of_getElem? (i := 759) (by decide +kernel), List.mem_of_getElem? (i := 760) (by decide +kernel)⟩
theorem lw_p31 : lw_okq (⟨"SharedLogModel", "sealRow", "(I)V"⟩, 26) := ⟨⟨by decide +kernel, by decide +kernel⟩, List.mem_of_getElem? (i := 590) (by decide +kernel), List.mem_of_getElem? (i := 763) (by decide +kernel), List.mem_of_getElem? (i := 764) (by decide +kernel)⟩
def lw_privs_2 : List (MethodName × Nat) := [(⟨"SharedLogModel", "learnNow", "(I)V"⟩, 26), (⟨"SharedLogModel", "out", "(II)Z"⟩, 26), (⟨"SharedLogModel", "fail", "(I)I"⟩, 26), (⟨"SharedLogModel", "noToken", "(I)Z"⟩, 26), (⟨"SharedLogModel", "write", "(III)I"⟩, 26), (⟨"SharedLogModel", "rowFor", "(II)I"⟩, 26), (⟨"SharedLogModel", "length", "(I)I"⟩, 26), (⟨"SharedLogModel", "unit", "(II)I"⟩, 26), (⟨"SharedLogModel", "usable", "(II)Z"⟩, 26), (⟨"SharedLogModel", "cell", "(II)I"⟩, 26), (⟨"SharedLogModel", "copy", "(II)V"⟩, 26), (⟨"SharedLogModel", "lastCell", "(II)I"⟩, 26), (⟨"SharedLogModel", "ones", "(I)I"⟩, 26), (⟨"SharedLogModel", "badRow", "(I)Z"⟩, 26), (⟨"SharedLogModel", "upUnits", "(I)I"⟩, 26), (⟨"SharedLogModel", "sealRow", "(I)V"⟩, 26)]
theorem lw_r2 : ∀ q ∈ lw_privs_2, lw_okq q := List.forall_mem_cons.mpr ⟨lw_p16, List.forall_mem_cons.mpr ⟨lw_p17, List.forall_mem_cons.mpr ⟨lw_p18, List.forall_mem_cons.mpr ⟨lw_p19, List.forall_mem_cons.mpr ⟨lw_p20, List.forall_mem_cons.mpr ⟨lw_p21, List.forall_mem_cons.mpr ⟨lw_p22, List.forall_mem_cons.mpr ⟨lw_p23, List.forall_mem_cons.mpr ⟨lw_p24, List.forall_mem_cons.mpr ⟨lw_p25, List.forall_mem_cons.mpr ⟨lw_p26, List.forall_mem_cons.mpr ⟨lw_p27, List.forall_mem_cons.mpr ⟨lw_p28, List.forall_mem_cons.mpr ⟨lw_p29, List.forall_mem_cons.mpr ⟨lw_p30, List.forall_mem_cons.mpr ⟨lw_p31, fun _ h => absurd h List.not_mem_nil⟩⟩⟩⟩⟩⟩⟩⟩⟩⟩⟩⟩⟩⟩⟩⟩
theorem lw_p32 : lw_okq (⟨"SharedLogModel", "merge", "(III)V"⟩, 26) := ⟨⟨by decide +kernel, by decide +kernel⟩, List.mem_of_getElem? (i := 590) (by decide +kernel), List.mem_of_getElem? (i := 767) (by decide +kernel), List.mem_of_getElem? (i := 768) (by decide +kernel)⟩
theorem lw_p33 : lw_okq (⟨"SharedLogModel", "play", "(II)I"⟩, 26) := ⟨⟨by decide +kernel, by decide +kernel⟩, List.mem_of_getElem? (i := 590) (by decide +kernel), List.mem_of_getElem? (i := 783) (by decide +kernel), List.mem_of_getElem? (i := 784) (by decide +kernel)⟩
theorem lw_p34 : lw_okq (⟨"SharedLogModel", "sameAges", "(II[II)Z"⟩, 26) := ⟨⟨by decide +kernel, by decide +kernel⟩, List.mem_of_getElem? (i := 590) (by decide +kernel), List.mem_of_getElem? (i := 787) (by decide +kernel), List.mem_of_getElem? (i := 788) (by decide +kernel)⟩
theorem lw_p35 : lw_okq (⟨"SharedLogModel", "place", "(III)V"⟩, 26) := ⟨⟨by decide +kernel, by decide +kernel⟩, List.mem_of_getElem? (i := 590) (by decide +kernel), List.mem_of_getElem? (i := 791) (by decide +kernel), List.mem_of_getElem? (i := 792) (by decide +kernel)⟩
def lw_privs_3 : List (MethodName × Nat) := [(⟨"SharedLogModel", "merge", "(III)V"⟩, 26), (⟨"SharedLogModel", "play", "(II)I"⟩, 26), (⟨"SharedLogModel", "sameAges", "(II[II)Z"⟩, 26), (⟨"SharedLogModel", "place", "(III)V"⟩, 26)]
theorem lw_r3 : ∀ q ∈ lw_privs_3, lw_okq q := List.forall_mem_cons.mpr ⟨lw_p32, List.forall_mem_cons.mpr ⟨lw_p33, List.forall_mem_cons.mpr ⟨lw_p34, List.forall_mem_cons.mpr ⟨lw_p35, fun _ h => absurd h List.not_mem_nil⟩⟩⟩⟩
def lw_privs : List (MethodName × Nat) := lw_privs_1 ++ (lw_privs_2 ++ (lw_privs_3))
def lw_tbl : List Cond := k2_sels lw_privs ++ tables_1
theorem lw_privs_ok : ∀ q ∈ lw_privs, lw_okq q := by
  show ∀ q ∈ lw_privs_1 ++ (lw_privs_2 ++ (lw_privs_3)), lw_okq q
  exact List.forall_mem_append.mpr ⟨lw_r1, List.forall_mem_append.mpr ⟨lw_r2, lw_r3⟩⟩
end
section
/-! ===== BEGIN words of one list among another's, by their places ===== -/
theorem goodIn_r {big : List Cond} (ws : List Cond) (ps : List Nat) (hp : ws = ps.filterMap (fun i => big[i]?)) (h : ws.all goodWord = true) : GoodIn big ws := by
  intro w hw
  have h1 := List.all_eq_true.mp h w hw
  rw [hp] at hw
  obtain ⟨i, -, hi⟩ := List.mem_filterMap.mp hw
  have hm : w ∈ big := by first | exact List.mem_of_getElem? hi | exact List.getElem?_mem hi
  exact ⟨hm, good_of_word h1⟩
theorem goodIn_app {big a b : List Cond} (ha : GoodIn big a) (hb : GoodIn big b) : GoodIn big (a ++ b) := fun w h => (List.mem_append.mp h).elim (ha w) (hb w)
theorem goodIn_ca {big a b : List Cond} {c : Cond} (ha : GoodIn big (c :: a)) (hb : GoodIn big b) : GoodIn big (c :: (a ++ b)) := fun w h => (List.mem_cons.mp h).elim (fun e => ha w (List.mem_cons.mpr (Or.inl e))) (fun h => (List.mem_append.mp h).elim (fun h => ha w (List.mem_cons.mpr (Or.inr h))) (hb w))
theorem goodIn_sub {big ws : List Cond} (hm : ∀ w ∈ ws, w ∈ big) (h : ws.all goodWord = true) : GoodIn big ws := fun w hw => ⟨hm w hw, good_of_word (List.all_eq_true.mp h w hw)⟩
/-! ===== END ===== -/

/-! ===== BEGIN exceptions that leave a method, and their catching by the caller (launches without stack traces) ===== -/
section VXA
/-! The laws vx_back, vx_callV, vx_callS, vx_callSW, vx_throw0, vx_throwS follow proofs of the library, with one case more: JvmDerived/Free/Laws.lean (Back.of_free), Shelf42/LK1.lean (callV, callS), Shelf/KitTraced.lean (throwNew0V, throwNewS). -/
/-- where a method has thrown q: the class by its name, the cell, what was written, the world -/
def vx_T (XC : String → State → State → Prop) (st : State) (q : Addr) (t : State) (mc ms : Nat) (free : Addr → Prop) : Prop :=
  ∃ (E : String) (ce : Cell) (L : List Loc), XC E st t ∧ t.heap[q]? = some ce ∧ ce.vm = .none ∧ st.vm.findClass E = some ce.cls ∧ st.WarmedH t.vm ∧ st.sameButNew ({ t with vm := st.vm } : State) L mc ms ∧ ∀ z ∈ L, free z.base
def vx_Q (Qc : Array Value → State → Outcome → State → Prop) (XC : String → State → State → Prop) (mc ms : Nat) (free : Addr → Prop) : Array Value → State → Outcome → State → Prop := fun a st o t =>
  (Qc a st o t ∧ ∃ L, FrameEnd st o t L mc ms ∧ ∀ q ∈ L, free q.base) ∨ ∃ q, o = .threw q ∧ vx_T XC st q t mc ms free
/-- a callee that returns or throws -/
def vx_Met (l : Launch) (y : MethodName) (ws : List Cond) (rm : Room) (Pc : Array Value → State → Prop) (Qc : Array Value → State → Outcome → State → Prop) (XC : String → State → State → Prop) (mc ms : Nat) (free : Addr → Prop) : Prop :=
  MetFree l y (headSpec ws rm) Pc (fun _ _ _ _ _ => True) (vx_Q Qc XC mc ms free)
def vx_Post (XC : String → State → State → Prop) (mc ms : Nat) (free : Addr → Prop) : Pt → Array Value → Addr → Pt → Prop := fun A a q B =>
  ∃ (g : JFrame) (mk : MethodId) (t : State) (L : List Loc) (E : String) (ce : Cell), B.U.heap = t.heap ∧ B.U.vm = t.vm ∧ XC E (A.U.calling g mk a) t ∧ t.heap[q]? = some ce ∧ ce.vm = .none ∧ A.U.vm.findClass E = some ce.cls ∧ B.locs = A.locs ++ L ∧ (∀ z ∈ L, free z.base) ∧ B.cells = A.cells + mc ∧ B.slots = A.slots + ms
def vx_Back (l : Launch) (R : Room) (p : Program) (e : Env) (below : List Frame) (s : State) (sargs : Array Value) (y : MethodName) (len W9 : Nat)
    (Pre : Pt → Array Value → Prop) (Post : Pt → Array Value → Option Value → Pt → Prop) (PostX : Pt → Array Value → Addr → Pt → Prop) : Prop :=
  ∀ (m : MethodId) (meth : Method) (c : Code) (A : Pt) (g : JFrame) (ig : Instr) (mk : MethodId) (a : Array Value),
    Stand p l e R s m sargs below meth c A.U A.locs A.cells A.slots → g.method = m → g.locals.size = c.maxLocals → decode c.code g.pc = .ok (ig, len) →
    2 * g.monitorRoom + (g.stack.map fun v => v.category).sum ≤ W9 → A.U.methodNamed? y = some mk → Pre A a →
    (∃ (v : Option Value) (B : Pt), Stand p l e R s m sargs below meth c B.U B.locs B.cells B.slots ∧ Post A a v B ∧
      Steps p.tables e below (doInvoke e (A.U.setTop g) [] mk a).1 (B.U.setTop { g with pc := g.pc + len, stack := v.toList ++ g.stack })) ∨
    (∃ (q : Addr) (B : Pt), Stand p l e R s m sargs below meth c B.U B.locs B.cells B.slots ∧ PostX A a q B ∧
      Steps p.tables e below (doInvoke e (A.U.setTop g) [] mk a).1 ((B.U.setTop g).pushFrame (.throwing q)))
section Payer
variable {l : Launch} {R : Room} {p : Program} {e : Env} {below : List Frame} {s : State} {sargs : Array Value} {y : MethodName} {len W9 : Nat}
theorem vx_back {ws : List Cond} {rm : Room} {Pc : Array Value → State → Prop} {Qc : Array Value → State → Outcome → State → Prop} {XC : String → State → State → Prop} {mc ms : Nat} {free : Addr → Prop} {bytes : ByteArray} {maxL : Nat} {ret : Option FieldType}
    (hM : vx_Met l y ws rm Pc Qc XC mc ms free) (hblind : FrameBlind Pc) (hrc : rm.cells = mc) (hrs : rm.slots = ms)
    (hframes : rm.frames + 1 ≤ R.frames) (hlocals : W9 + (maxL + 11) + rm.locals ≤ R.locals)
    (hws : ∀ w ∈ ws, ∀ a' U, s.WarmedH U.vm → w.before a' U = true) (hcode : Cond.code y bytes maxL ret ∈ ws) (hinit : ∀ a' U, s.WarmedH U.vm → (Cond.initialized y.cls).before a' U = true) :
    vx_Back l R p e below s sargs y len W9 (PreOf R mc ms Pc) (PostOf Qc mc ms free) (vx_Post XC mc ms free) := by
  intro m meth c A g ig mk a X hg hsize hdg hW hn hp
  have h1 : (headSpec ws rm).pre.before a A.U = true := atoms_intro fun w hw => hws w hw _ _ X.warmed
  have h2 : (Cond.code y bytes maxL ret).before a A.U = true := hws _ hcode _ _ X.warmed
  have h3 : (Cond.initialized y.cls).before a A.U = true := hinit _ _ X.warmed
  have h4 : A.cells + (headSpec ws rm).room.cells ≤ R.cells := by rw [show (headSpec ws rm).room.cells = mc from hrc]; exact hp.1
  have h5 : A.slots + (headSpec ws rm).room.slots ≤ R.slots := by rw [show (headSpec ws rm).room.slots = ms from hrs]; exact hp.2.1
  have hPc : Pc a (A.U.calling g mk a) := hblind _ _ _ _ hp.2.2
  obtain ⟨U, Ls, c0, s0⟩ := A
  dsimp only [Pt.U, Pt.locs, Pt.cells, Pt.slots] at h1 h2 h3 h4 h5 X hn hPc ⊢
  obtain ⟨methY, cY, hmY, hcY, -, hlY, -, -, -, -⟩ := Cond.code_spec hn h2
  obtain ⟨kY, hkY, -⟩ := className_of_methodNamed hn
  have hinitY : kY.init = .initialized := Cond.initialized_spec (findClass_of_methodNamed hn) hkY h3
  have h : At U g.method c below := by rw [hg]; exact X.here
  have hlocals9 : W9 + (maxL + 11) + (headSpec ws rm).room.locals ≤ R.locals := hlocals
  have happ : (headSpec ws rm).appliesLoose y e.platform (U.calling g mk a) = true :=
    Spec.appliesLoose_calling (g := g) h hdg hn hkY hinitY
      (X.room_calling (g := g) (R' := (headSpec ws rm).room) hsize hmY hcY hframes (by rw [hlY]; omega) h4 h5) h1
  obtain ⟨mid, hmid⟩ := h.above
  have hfr : (U.setTop g).frames = (.java g :: mid) ++ below := by rw [State.frames_setTop' g h.top, hmid]; rfl
  obtain ⟨o, s₂, hsteps, -, hend, hq⟩ := Steps.callFree hM p X.admits X.cas X.clock (acts := []) hfr happ hPc trivial
  have hq' : vx_Q Qc XC mc ms free a (U.calling g mk a) o s₂ := hq
  rw [State.frames_setTop' g h.top] at hend
  obtain ⟨g₀, hg0⟩ := Option.isSome_iff_exists.mp h.top
  obtain ⟨r, hr⟩ := State.topJava?_eq_some.mp hg0
  have hr' : (({ U with heap := s₂.heap, slotsUsed := s₂.slotsUsed } : State).setVm s₂.vm).frames = .java g₀ :: r := hr
  rcases hq' with ⟨hqc, L, hfe, hL⟩ | ⟨q, rfl, E, ce, L, hx, hce, hcv, hcl, hW₂, hsm, hL⟩
  · obtain ⟨⟨v, rfl⟩, hW₂, e2, q2, q3, q4, q5, q6⟩ := id hfe
    have e3 : s₂ = ({ (U.calling g mk a).setFrames s₂.frames with heap := s₂.heap, slotsUsed := s₂.slotsUsed } : State).setVm s₂.vm := by
      have : s₂ = ({ s₂ with vm := (U.calling g mk a).vm } : State).setVm s₂.vm := rfl
      rw [e2] at this
      exact this
    obtain ⟨c₂, i₂, len₂, hc₂, hd₂, hf₂⟩ := hend
    have hW' : U.WarmedH s₂.vm := hW₂
    have hcc : c₂ = c := by
      have h1 : s₂.code? g.method = U.code? g.method := by
        rw [State.code?_eq, State.code?_eq, hW'.alike.method?]
      exact Option.some.inj (hc₂.symm.trans (h1.trans h.code))
    subst hcc
    have hlen : len₂ = len := by rw [hdg] at hd₂; cases hd₂; rfl
    subst hlen
    have hs₂ : s₂ = (({ U with heap := s₂.heap, slotsUsed := s₂.slotsUsed } : State).setVm s₂.vm).setTop { g with pc := g.pc + len₂, stack := v.toList ++ g.stack } := by
      refine e3.trans ?_
      rw [hf₂, State.calling_eq h.top, State.setFrames_setFrames, State.setTop_of_frames _ hr', hr]
      rfl
    have hsame : U.sameButNew ({ U with heap := s₂.heap, slotsUsed := s₂.slotsUsed } : State) L mc ms := by
      refine ⟨?_, q2, q3, q4, q5, q6⟩
      obtain ⟨t, ht, -⟩ := State.frames_cons hr
      show ({ U with heap := s₂.heap, slotsUsed := s₂.slotsUsed } : State) = { U.setFrames U.frames with heap := s₂.heap, slotsUsed := s₂.slotsUsed }
      rw [State.setFrames_self ht]
    subst hg
    refine Or.inl ⟨v, ⟨(({ U with heap := s₂.heap, slotsUsed := s₂.slotsUsed } : State).setVm s₂.vm), Ls ++ L, c0 + mc, s0 + ms⟩,
      ⟨X.admits, X.cas, X.clock, X.frames, X.room, X.hears, X.method, X.code, (X.here.setHeapUsed s₂.heap s₂.slotsUsed).setVm hW'.alike, X.tail, State.WarmedH.trans X.warmed hW', X.limits, X.bytes, X.same.trans (hsame.setVm s.vm)⟩,
      ⟨g, mk, s₂, L, rfl, rfl, hqc, rfl, hL, rfl, rfl⟩, ?_⟩
    show Steps p.tables e below _ ((({ U with heap := s₂.heap, slotsUsed := s₂.slotsUsed } : State).setVm s₂.vm).setTop { g with pc := g.pc + len₂, stack := v.toList ++ g.stack })
    rw [← hs₂]
    exact hsteps
  · obtain ⟨e2, q2, q3, q4, q5, q6⟩ := id hsm
    have e3 : s₂ = ({ (U.calling g mk a).setFrames s₂.frames with heap := s₂.heap, slotsUsed := s₂.slotsUsed } : State).setVm s₂.vm := by
      have : s₂ = ({ s₂ with vm := (U.calling g mk a).vm } : State).setVm s₂.vm := rfl
      rw [e2] at this
      exact this
    have hf₂ : s₂.frames = .throwing q :: .java g :: U.frames.tail := hend
    have hW' : U.WarmedH s₂.vm := hW₂
    have hs₂ : s₂ = ((({ U with heap := s₂.heap, slotsUsed := s₂.slotsUsed } : State).setVm s₂.vm).setTop g).pushFrame (.throwing q) := by
      refine e3.trans ?_
      rw [hf₂, State.calling_eq h.top, State.setFrames_setFrames, State.pushFrame, State.frames_setTop _ hr', State.setTop_of_frames _ hr', State.setFrames_setFrames, hr]
      rfl
    have hsame : U.sameButNew ({ U with heap := s₂.heap, slotsUsed := s₂.slotsUsed } : State) L mc ms := by
      refine ⟨?_, q2, q3, q4, q5, q6⟩
      obtain ⟨t, ht, -⟩ := State.frames_cons hr
      show ({ U with heap := s₂.heap, slotsUsed := s₂.slotsUsed } : State) = { U.setFrames U.frames with heap := s₂.heap, slotsUsed := s₂.slotsUsed }
      rw [State.setFrames_self ht]
    subst hg
    refine Or.inr ⟨q, ⟨(({ U with heap := s₂.heap, slotsUsed := s₂.slotsUsed } : State).setVm s₂.vm), Ls ++ L, c0 + mc, s0 + ms⟩,
      ⟨X.admits, X.cas, X.clock, X.frames, X.room, X.hears, X.method, X.code, (X.here.setHeapUsed s₂.heap s₂.slotsUsed).setVm hW'.alike, X.tail, State.WarmedH.trans X.warmed hW', X.limits, X.bytes, X.same.trans (hsame.setVm s.vm)⟩,
      ⟨g, mk, s₂, L, E, ce, rfl, rfl, hx, hce, hcv, hcl, rfl, hL, rfl, rfl⟩, ?_⟩
    show Steps p.tables e below _ (((({ U with heap := s₂.heap, slotsUsed := s₂.slotsUsed } : State).setVm s₂.vm).setTop g).pushFrame (.throwing q))
    rw [← hs₂]
    exact hsteps
end Payer
section Calls
variable {p : Program} {l : Launch} {e : Env} {R : Room} {s : State} {m : MethodId} {args : Array Value} {below : List Frame} {meth : Method} {c : Code} {T : State} {locs : List Loc} {cells slots : Nat}
theorem vx_callV (X : Stand p l e R s m args below meth c T locs cells slots) (hexec : p.tables.exec = Jvm.exec) {own C : String} {index : Nat} {y : MethodName} {bytes : ByteArray} {maxL : Nat} {ret : Option FieldType}
    (hown : s.vm.findClass own = some m.cls) (hlink : (Cond.methodLink own index y).before args s = true) (hinst : (Cond.instanceMethod y).before args s = true) (hsel : (Cond.selects C y y).before args s = true)
    (hcode : (Cond.code y bytes maxL ret).before args s = true) (hy : y.cls ≠ "java/lang/invoke/MethodHandle" ∧ y.cls ≠ "java/lang/invoke/VarHandle")
    {W9 : Nat} {Pre : Pt → Array Value → Prop} {Post : Pt → Array Value → Option Value → Pt → Prop} {PostX : Pt → Array Value → Addr → Pt → Prop} (hK : vx_Back l R p e below s args y 3 W9 Pre Post PostX)
    {b : Addr} {cellB : Cell} (hcell : T.heap[b]? = some cellB) (hobj : cellB.vm.isStatics = false) (hcls : s.vm.findClass C = some cellB.cls)
    {g : JFrame} (hg : g.method = m) (hsize : g.locals.size = c.maxLocals) {argsL rest : List Value} (hlen : ∀ sig, parseMethodDescriptor y.desc = some sig → argsL.length = sig.parameters.length)
    (hstack : g.stack = argsL.reverse ++ .ref b :: rest) (hW : 2 * g.monitorRoom + (rest.map fun v => v.category).sum ≤ W9) (hdg : decode c.code g.pc = .ok (.invokevirtual index, 3))
    (hpre : ∀ vm₁, s.WarmedH vm₁ → Pre ⟨T.setVm vm₁, locs, cells, slots⟩ (Value.ref b :: argsL).toArray) :
    (∃ (v : Option Value) (vm₁ : Vm) (B : Pt), s.WarmedH vm₁ ∧ Stand p l e R s m args below meth c B.U B.locs B.cells B.slots ∧ Post ⟨T.setVm vm₁, locs, cells, slots⟩ (Value.ref b :: argsL).toArray v B ∧
      ∀ target, Steps p.tables e below (B.U.setTop { g with pc := g.pc + 3, stack := v.toList ++ rest }) target → Steps p.tables e below (T.setTop g) target) ∨
    (∃ (q : Addr) (vm₁ : Vm) (B : Pt), s.WarmedH vm₁ ∧ Stand p l e R s m args below meth c B.U B.locs B.cells B.slots ∧ PostX ⟨T.setVm vm₁, locs, cells, slots⟩ (Value.ref b :: argsL).toArray q B ∧
      Steps p.tables e below (T.setTop g) ((B.U.setTop { g with stack := rest }).pushFrame (.throwing q))) := by
  obtain ⟨mk, methM, hnamed, hmethM, hstM, habM⟩ := Cond.instanceMethod_spec hinst
  obtain ⟨methM', cM, hmethM', -, -, -, -, -, -, hsigM⟩ := Cond.code_spec hnamed hcode
  cases hmethM.symm.trans hmethM'
  obtain ⟨c2, r2, m2, q1, q2, q3, q4, kP, hkP, hkPi⟩ := Cond.selects_spec hsel
  cases hcls.symm.trans q1
  cases (State.methodFound?_of_named hnamed hy).symm.trans q2
  cases hnamed.symm.trans q3
  have hselP : selectMethod e.platform s.vm cellB.cls mk = .method mk := by rw [Launch.admits_selectMethod X.admits]; exact q4
  obtain ⟨vm₁, X₁, hstep₁⟩ := X.invokevirtual hexec hown hlink hnamed hmethM hstM hkP hkPi hy (a := b) (cell := cellB) hcell
    (fun z h => by rw [h] at hobj; cases hobj) hselP hmethM habM hkP hkPi (g := g) hg (argsL := argsL) (rest := rest) (hlen _ hsigM) hstack hdg
  rcases hK m meth c ⟨T.setVm vm₁, locs, cells, slots⟩ { g with stack := rest } (.invokevirtual index) mk (Value.ref b :: argsL).toArray X₁ hg hsize hdg hW (X₁.named hnamed) (hpre vm₁ X₁.warmed) with ⟨v, B, X', hpost, hsteps⟩ | ⟨q, B, X', hpost, hsteps⟩
  · exact Or.inl ⟨v, vm₁, B, X₁.warmed, X', hpost, fun target h => hstep₁ _ fun acts => by rw [doInvoke_state]; exact hsteps.trans h⟩
  · exact Or.inr ⟨q, vm₁, B, X₁.warmed, X', hpost, hstep₁ _ fun acts => by rw [doInvoke_state]; exact hsteps⟩
theorem vx_callS (X : Stand p l e R s m args below meth c T locs cells slots) (hexec : p.tables.exec = Jvm.exec) {own : String} {index : Nat} {y : MethodName} {bytes : ByteArray} {maxL : Nat} {ret : Option FieldType}
    (hown : s.vm.findClass own = some m.cls) (hlink : (Cond.methodLink own index y).before args s = true) (hstat : (Cond.static y).before args s = true) (hinit : (Cond.initialized y.cls).before args s = true)
    (hcode : (Cond.code y bytes maxL ret).before args s = true) (hy : y.cls ≠ "java/lang/invoke/MethodHandle" ∧ y.cls ≠ "java/lang/invoke/VarHandle")
    {W9 : Nat} {Pre : Pt → Array Value → Prop} {Post : Pt → Array Value → Option Value → Pt → Prop} {PostX : Pt → Array Value → Addr → Pt → Prop} (hK : vx_Back l R p e below s args y 3 W9 Pre Post PostX)
    {g : JFrame} (hg : g.method = m) (hsize : g.locals.size = c.maxLocals) {argsL rest : List Value} (hlen : ∀ sig, parseMethodDescriptor y.desc = some sig → argsL.length = sig.parameters.length)
    (hstack : g.stack = argsL.reverse ++ rest) (hW : 2 * g.monitorRoom + (rest.map fun v => v.category).sum ≤ W9) (hdg : decode c.code g.pc = .ok (.invokestatic index, 3))
    (hpre : ∀ vm₁, s.WarmedH vm₁ → Pre ⟨T.setVm vm₁, locs, cells, slots⟩ argsL.toArray) :
    (∃ (v : Option Value) (vm₁ : Vm) (B : Pt), s.WarmedH vm₁ ∧ Stand p l e R s m args below meth c B.U B.locs B.cells B.slots ∧ Post ⟨T.setVm vm₁, locs, cells, slots⟩ argsL.toArray v B ∧
      ∀ target, Steps p.tables e below (B.U.setTop { g with pc := g.pc + 3, stack := v.toList ++ rest }) target → Steps p.tables e below (T.setTop g) target) ∨
    (∃ (q : Addr) (vm₁ : Vm) (B : Pt), s.WarmedH vm₁ ∧ Stand p l e R s m args below meth c B.U B.locs B.cells B.slots ∧ PostX ⟨T.setVm vm₁, locs, cells, slots⟩ argsL.toArray q B ∧
      Steps p.tables e below (T.setTop g) ((B.U.setTop { g with stack := rest }).pushFrame (.throwing q))) := by
  obtain ⟨mk, hnamed⟩ := Cond.code_named hcode
  obtain ⟨methM, cM, hmethM, -, -, -, -, -, -, hsigM⟩ := Cond.code_spec hnamed hcode
  have hstatic : methM.isStatic = true := Cond.static_spec hnamed hmethM hstat
  obtain ⟨kP, hkP, -⟩ := className_of_methodNamed hnamed
  have hinitP : kP.init = .initialized := Cond.initialized_spec (findClass_of_methodNamed hnamed) hkP hinit
  obtain ⟨vm₁, X₁, hstep₁⟩ := X.invokestatic hexec hown hlink hnamed hmethM hstatic hkP hinitP hy (g := g) hg (argsL := argsL) (rest := rest) (hlen _ hsigM) hstack hdg
  rcases hK m meth c ⟨T.setVm vm₁, locs, cells, slots⟩ { g with stack := rest } (.invokestatic index) mk argsL.toArray X₁ hg hsize hdg hW (X₁.named hnamed) (hpre vm₁ X₁.warmed) with ⟨v, B, X', hpost, hsteps⟩ | ⟨q, B, X', hpost, hsteps⟩
  · exact Or.inl ⟨v, vm₁, B, X₁.warmed, X', hpost, fun target h => hstep₁ _ fun acts => by rw [doInvoke_state]; exact hsteps.trans h⟩
  · exact Or.inr ⟨q, vm₁, B, X₁.warmed, X', hpost, hstep₁ _ fun acts => by rw [doInvoke_state]; exact hsteps⟩
end Calls
theorem vx_cls {s : State} {T : State} {vm₁ : Vm} {E : String} {k : ClassId} (hW : s.WarmedH vm₁) (h : (T.setVm vm₁).vm.findClass E = some k) : s.vm.findClass E = some k := by
  have h1 : vm₁.findClass E = some k := h
  rw [hW.alike.findClass] at h1
  exact h1
/-- the method's frame g, with q thrown over it -/
def vx_W (p : Program) (l : Launch) (e : Env) (R : Room) (s : State) (m : MethodId) (args : Array Value) (below : List Frame) (meth : Method) (c : Code) (H : Heap) (locs : List Loc) (cells slots : Nat) (Q : State → Prop) (g : JFrame) (q : Addr) : Prop :=
  ∀ T : State, T.heap = H → Stand p l e R s m args below meth c T locs cells slots → ∃ t, Steps p.tables e below ((T.setTop g).pushFrame (.throwing q)) t ∧ Q t
def vx_Run (p : Program) (l : Launch) (e : Env) (R : Room) (s : State) (m : MethodId) (args : Array Value) (below : List Frame) (meth : Method) (c : Code) (H : Heap) (locs : List Loc) (cells slots mc ms : Nat) (g : JFrame) (rest : List Value) (Qa : State → Outcome → State → Prop) (XC : String → State → State → Prop) (free : Addr → Prop) : Prop :=
  ∀ T : State, T.heap = H → Stand p l e R s m args below meth c T locs cells slots →
    (∃ (v : Option Value) (st₀ t T' : State) (L : List Loc), st₀.heap = H ∧ Stand p l e R s m args below meth c T' (locs ++ L) (cells + mc) (slots + ms) ∧ (∀ q ∈ L, free q.base) ∧ T'.heap = t.heap ∧ T'.vm = t.vm ∧ Qa st₀ (.returned v) t ∧
      Goes p e below T g T' { g with pc := g.pc + 3, stack := v.toList ++ rest }) ∨
    (∃ (q : Addr) (st₀ t T' : State) (L : List Loc) (E : String) (ce : Cell), st₀.heap = H ∧ Stand p l e R s m args below meth c T' (locs ++ L) (cells + mc) (slots + ms) ∧ (∀ z ∈ L, free z.base) ∧ T'.heap = t.heap ∧ T'.vm = t.vm ∧ XC E st₀ t ∧ t.heap[q]? = some ce ∧ ce.vm = .none ∧ s.vm.findClass E = some ce.cls ∧
      Steps p.tables e below (T.setTop g) ((T'.setTop { g with stack := rest }).pushFrame (.throwing q)))
def vx_X {S : Type} (px : S → Prop) (B : String → S → State → Prop) (A : Nat → Prop) : String → State → State → Prop := fun E st t => ∃ u : S, px u ∧ B E u t ∧ va_F A st t
section Runs
variable {p : Program} {l : Launch} {e : Env} {R : Room} {s : State} {m : MethodId} {args : Array Value} {below : List Frame} {meth : Method} {c : Code} {H : Heap} {locs : List Loc} {cells slots : Nat}
variable {y : MethodName} {bytes cc : ByteArray} {maxL nL mc ms n index : Nat} {ret : Option FieldType} {ws : List Cond} {rm : Room} {Pc : Array Value → State → Prop} {Qc : Array Value → State → Outcome → State → Prop} {XC : String → State → State → Prop} {free : Addr → Prop} {Ts : List Cond} {own C : String} {b : Addr} {As rest : List Value} {g : JFrame}
theorem vx_callBack (cb : CallB R s args own index y bytes maxL ret ws rm mc ms n) (hM : vx_Met l y ws rm Pc Qc XC mc ms free) (hbl : FrameBlind Pc) : vx_Back l R p e below s args y 3 8 (PreOf R mc ms Pc) (PostOf Qc mc ms free) (vx_Post XC mc ms free) := by
  obtain ⟨hrc, hrs, hfr, hlo, hws, hcw, -, hini, -⟩ := cb
  exact vx_back (bytes := bytes) (maxL := maxL) (ret := ret) hM hbl hrc hrs hfr hlo hws hcw (fun a' U hW => word_at hW (Or.inl (by first | rfl | simp [Cond.onTables, Cond.keeps, Cond.steady])) hini)
theorem vx_runV (S : CallFix p m c cc nL s args Ts own) (hM : vx_Met l y ws rm Pc Qc XC mc ms free) (cw : CallW R s args own C index y bytes maxL ret ws rm mc ms n) (hp : PreV s H C b Pc As)
    (hg : g.method = m) (hn : As.length = n) (hsize : g.locals.size = nL) (hstack : g.stack = As.reverse ++ .ref b :: rest) (hW : 2 * g.monitorRoom + (rest.map fun v => v.category).sum ≤ 8) (hdg : decode cc g.pc = .ok (.invokevirtual index, 3)) (hf : cells + mc ≤ R.cells ∧ slots + ms ≤ R.slots) :
    vx_Run p l e R s m args below meth c H locs cells slots mc ms g rest (Qc (Value.ref b :: As).toArray) XC free := by
  have hK : vx_Back l R p e below s args y 3 8 (PreOf R mc ms Pc) (PostOf Qc mc ms free) (vx_Post XC mc ms free) := vx_callBack cw.1 hM hp.1
  obtain ⟨⟨-, -, -, -, -, -, hcode, -, hy, hlen, hl⟩, hin, hse⟩ := cw
  obtain ⟨hx, hb, hml, ho, -⟩ := S
  obtain ⟨-, ⟨cellB, hcB, hoB, hclB⟩, hPc⟩ := hp
  intro T hT X
  rcases vx_callV X hx (C := C) (bytes := bytes) (maxL := maxL) (ret := ret) ho hl hin hse hcode hy hK (by rw [hT]; exact hcB) hoB hclB hg (hsize.trans hml.symm) (argsL := As) (rest := rest) (fun sig h => hn.trans (hlen sig h)) hstack hW (by rw [hb]; exact hdg)
    (fun vm₁ hW₁ => ⟨hf.1, hf.2, hPc (T.setVm vm₁) hT hW₁⟩) with ⟨v, vm₁, ⟨U', l2, c2, s2⟩, hW₁, X', ⟨g', mk, t, L, e1, e2, hq, h1, hL, h2, h3⟩, st⟩ | ⟨q, vm₁, ⟨U', l2, c2, s2⟩, hW₁, X', ⟨g', mk, t, L, E, ce, e1, e2, hq, hce, hcv, hcl, h1, hL, h2, h3⟩, st⟩
  · dsimp only [Pt.U, Pt.locs, Pt.cells, Pt.slots] at X' e1 e2 h1 h2 h3 st
    subst h1; subst h2; subst h3
    exact Or.inl ⟨v, (T.setVm vm₁).calling g' mk (Value.ref b :: As).toArray, t, U', L, hT, X', hL, e1, e2, hq, st⟩
  · dsimp only [Pt.U, Pt.locs, Pt.cells, Pt.slots] at X' e1 e2 h1 h2 h3 st hcl
    subst h1; subst h2; subst h3
    exact Or.inr ⟨q, (T.setVm vm₁).calling g' mk (Value.ref b :: As).toArray, t, U', L, E, ce, hT, X', hL, e1, e2, hq, hce, hcv, vx_cls hW₁ hcl, st⟩
theorem vx_runS (S : CallFix p m c cc nL s args Ts own) (hM : vx_Met l y ws rm Pc Qc XC mc ms free) (cw : CallB R s args own index y bytes maxL ret ws rm mc ms n ∧ (Cond.static y).before args s = true) (hp : PreS s H Pc As)
    (hg : g.method = m) (hn : As.length = n) (hsize : g.locals.size = nL) (hstack : g.stack = As.reverse ++ rest) (hW : 2 * g.monitorRoom + (rest.map fun v => v.category).sum ≤ 8) (hdg : decode cc g.pc = .ok (.invokestatic index, 3)) (hf : cells + mc ≤ R.cells ∧ slots + ms ≤ R.slots) :
    vx_Run p l e R s m args below meth c H locs cells slots mc ms g rest (Qc As.toArray) XC free := by
  have hK : vx_Back l R p e below s args y 3 8 (PreOf R mc ms Pc) (PostOf Qc mc ms free) (vx_Post XC mc ms free) := vx_callBack cw.1 hM hp.1
  obtain ⟨⟨-, -, -, -, -, -, hcode, hini, hy, hlen, hl⟩, hstt⟩ := cw
  obtain ⟨hx, hb, hml, ho, -⟩ := S
  intro T hT X
  rcases vx_callS X hx (bytes := bytes) (maxL := maxL) (ret := ret) ho hl hstt hini hcode hy hK hg (hsize.trans hml.symm) (argsL := As) (rest := rest) (fun sig h => hn.trans (hlen sig h)) hstack hW (by rw [hb]; exact hdg)
    (fun vm₁ hW₁ => ⟨hf.1, hf.2, hp.2 (T.setVm vm₁) hT hW₁⟩) with ⟨v, vm₁, ⟨U', l2, c2, s2⟩, hW₁, X', ⟨g', mk, t, L, e1, e2, hq, h1, hL, h2, h3⟩, st⟩ | ⟨q, vm₁, ⟨U', l2, c2, s2⟩, hW₁, X', ⟨g', mk, t, L, E, ce, e1, e2, hq, hce, hcv, hcl, h1, hL, h2, h3⟩, st⟩
  · dsimp only [Pt.U, Pt.locs, Pt.cells, Pt.slots] at X' e1 e2 h1 h2 h3 st
    subst h1; subst h2; subst h3
    exact Or.inl ⟨v, (T.setVm vm₁).calling g' mk As.toArray, t, U', L, hT, X', hL, e1, e2, hq, st⟩
  · dsimp only [Pt.U, Pt.locs, Pt.cells, Pt.slots] at X' e1 e2 h1 h2 h3 st hcl
    subst h1; subst h2; subst h3
    exact Or.inr ⟨q, (T.setVm vm₁).calling g' mk As.toArray, t, U', L, E, ce, hT, X', hL, e1, e2, hq, hce, hcv, vx_cls hW₁ hcl, st⟩
end Runs
section Rows
variable {p : Program} {l : Launch} {e : Env} {R : Room} {s : State} {m : MethodId} {args : Array Value} {below : List Frame} {meth : Method} {c : Code} {H : Heap} {locs : List Loc} {cells slots : Nat} {Q : State → Prop}
variable {mc ms : Nat} {free : Addr → Prop} {A0 A1 : Nat → Prop} {H0 : Heap} {a : Array Value} {pc : Nat} {ls : Array Slot} {st0 rest : List Value}
theorem vx_keep {st₀ t T' : State} {L : List Loc} (h0 : st₀.heap = H) (e1 : T'.heap = t.heap) (hS : va_S A0 H0 H locs) (hA : ∀ q, q < H.size → A1 q → A0 q) (hf : ∀ q, free q → A0 q) (hL : ∀ q ∈ L, free q.base) (hF : va_F A1 st₀ t) :
    H.size ≤ T'.heap.size ∧ (∀ q : Nat, q < H.size → ¬ A1 q → T'.heap[q]? = H[q]?) ∧ va_S A0 H0 T'.heap (locs ++ L) := by
  obtain ⟨hz, hk⟩ := hF
  rw [h0] at hz hk
  exact ⟨by rw [e1]; exact hz, fun q h1 h2 => by rw [e1]; exact hk q h1 h2,
    ⟨Nat.le_trans hS.1 (by rw [e1]; exact hz), fun q h1 h2 => by rw [e1, hk q (Nat.lt_of_lt_of_le h1 hS.1) (fun z => h2 (hA q (Nat.lt_of_lt_of_le h1 hS.1) z))]; exact hS.2.1 q h1 h2, fun q hq => by
      rcases List.mem_append.mp hq with h | h
      · exact hS.2.2 q h
      · exact hf _ (hL q h)⟩⟩
theorem vx_calli {S SX : Type} {post : Int32 → S → Prop} {px : SX → Prop} {B : S → State → Prop} {BX : String → SX → State → Prop} {AX : Nat → Prop} (hr : vx_Run p l e R s m args below meth c H locs cells slots mc ms (F0 m pc ls st0) rest (va_Qi post B A1 a) (vx_X px BX AX) free) (hS : va_S A0 H0 H locs) (hA : ∀ q, q < H.size → A1 q → A0 q) (hf : ∀ q, free q → A0 q) (hAX : ∀ q, q < H.size → AX q → A0 q)
    (kx : ∀ (E : String) (ce : Cell) (q9 : Addr) (u : SX) (t : State) (H1 : Heap) (locs1 : List Loc), t.heap = H1 → s.vm.Alike t.vm → px u → BX E u t → H.size ≤ H1.size → (∀ q : Nat, q < H.size → ¬ AX q → H1[q]? = H[q]?) → va_S A0 H0 H1 locs1 → H1[q9]? = some ce → ce.vm = .none → s.vm.findClass E = some ce.cls → vx_W p l e R s m args below meth c H1 locs1 (cells + mc) (slots + ms) Q (F0 m pc ls rest) q9)
    (kk : ∀ (r : Int32) (u : S) (t : State) (H1 : Heap) (locs1 : List Loc), t.heap = H1 → s.vm.Alike t.vm → post r u → B u t → H.size ≤ H1.size → (∀ q : Nat, q < H.size → ¬ A1 q → H1[q]? = H[q]?) → va_S A0 H0 H1 locs1 → W p l e R s m args below meth c H1 locs1 (cells + mc) (slots + ms) Q (F0 m (pc + 3) ls (.int r :: rest))) : W p l e R s m args below meth c H locs cells slots Q (F0 m pc ls st0) := by
  intro T hT X
  rcases hr T hT X with ⟨v, st₀, t, T', L, h0, X', hL, e1, e2, ⟨⟨r, u, hv, hp, hb⟩, hF⟩, st⟩ | ⟨q, st₀, t, T', L, E, ce, h0, X', hL, e1, e2, ⟨u, hp, hb, hF⟩, hce, hcv, hcl, st⟩
  · cases hv
    obtain ⟨k1, k2, k3⟩ := vx_keep h0 e1 hS hA hf hL hF
    obtain ⟨t2, a1, b1⟩ := kk r u t T'.heap (locs ++ L) e1.symm (by rw [← e2]; exact X'.warmed.alike) hp hb k1 k2 k3 T' rfl X'
    exact ⟨t2, st t2 a1, b1⟩
  · obtain ⟨k1, k2, k3⟩ := vx_keep h0 e1 hS hAX hf hL hF
    obtain ⟨t2, a1, b1⟩ := kx E ce q u t T'.heap (locs ++ L) e1.symm (by rw [← e2]; exact X'.warmed.alike) hp hb k1 k2 k3 (by rw [e1]; exact hce) hcv hcl T' rfl X'
    exact ⟨t2, st.trans a1, b1⟩
theorem vx_calll {S SX : Type} {post : Int64 → S → Prop} {px : SX → Prop} {B : S → State → Prop} {BX : String → SX → State → Prop} {AX : Nat → Prop} (hr : vx_Run p l e R s m args below meth c H locs cells slots mc ms (F0 m pc ls st0) rest (va_Ql post B A1 a) (vx_X px BX AX) free) (hS : va_S A0 H0 H locs) (hA : ∀ q, q < H.size → A1 q → A0 q) (hf : ∀ q, free q → A0 q) (hAX : ∀ q, q < H.size → AX q → A0 q)
    (kx : ∀ (E : String) (ce : Cell) (q9 : Addr) (u : SX) (t : State) (H1 : Heap) (locs1 : List Loc), t.heap = H1 → s.vm.Alike t.vm → px u → BX E u t → H.size ≤ H1.size → (∀ q : Nat, q < H.size → ¬ AX q → H1[q]? = H[q]?) → va_S A0 H0 H1 locs1 → H1[q9]? = some ce → ce.vm = .none → s.vm.findClass E = some ce.cls → vx_W p l e R s m args below meth c H1 locs1 (cells + mc) (slots + ms) Q (F0 m pc ls rest) q9)
    (kk : ∀ (r : Int64) (u : S) (t : State) (H1 : Heap) (locs1 : List Loc), t.heap = H1 → s.vm.Alike t.vm → post r u → B u t → H.size ≤ H1.size → (∀ q : Nat, q < H.size → ¬ A1 q → H1[q]? = H[q]?) → va_S A0 H0 H1 locs1 → W p l e R s m args below meth c H1 locs1 (cells + mc) (slots + ms) Q (F0 m (pc + 3) ls (.long r :: rest))) : W p l e R s m args below meth c H locs cells slots Q (F0 m pc ls st0) := by
  intro T hT X
  rcases hr T hT X with ⟨v, st₀, t, T', L, h0, X', hL, e1, e2, ⟨⟨r, u, hv, hp, hb⟩, hF⟩, st⟩ | ⟨q, st₀, t, T', L, E, ce, h0, X', hL, e1, e2, ⟨u, hp, hb, hF⟩, hce, hcv, hcl, st⟩
  · cases hv
    obtain ⟨k1, k2, k3⟩ := vx_keep h0 e1 hS hA hf hL hF
    obtain ⟨t2, a1, b1⟩ := kk r u t T'.heap (locs ++ L) e1.symm (by rw [← e2]; exact X'.warmed.alike) hp hb k1 k2 k3 T' rfl X'
    exact ⟨t2, st t2 a1, b1⟩
  · obtain ⟨k1, k2, k3⟩ := vx_keep h0 e1 hS hAX hf hL hF
    obtain ⟨t2, a1, b1⟩ := kx E ce q u t T'.heap (locs ++ L) e1.symm (by rw [← e2]; exact X'.warmed.alike) hp hb k1 k2 k3 (by rw [e1]; exact hce) hcv hcl T' rfl X'
    exact ⟨t2, st.trans a1, b1⟩
theorem vx_callf {S SX : Type} {post : UInt32 → S → Prop} {px : SX → Prop} {B : S → State → Prop} {BX : String → SX → State → Prop} {AX : Nat → Prop} (hr : vx_Run p l e R s m args below meth c H locs cells slots mc ms (F0 m pc ls st0) rest (va_Qf post B A1 a) (vx_X px BX AX) free) (hS : va_S A0 H0 H locs) (hA : ∀ q, q < H.size → A1 q → A0 q) (hf : ∀ q, free q → A0 q) (hAX : ∀ q, q < H.size → AX q → A0 q)
    (kx : ∀ (E : String) (ce : Cell) (q9 : Addr) (u : SX) (t : State) (H1 : Heap) (locs1 : List Loc), t.heap = H1 → s.vm.Alike t.vm → px u → BX E u t → H.size ≤ H1.size → (∀ q : Nat, q < H.size → ¬ AX q → H1[q]? = H[q]?) → va_S A0 H0 H1 locs1 → H1[q9]? = some ce → ce.vm = .none → s.vm.findClass E = some ce.cls → vx_W p l e R s m args below meth c H1 locs1 (cells + mc) (slots + ms) Q (F0 m pc ls rest) q9)
    (kk : ∀ (r : UInt32) (u : S) (t : State) (H1 : Heap) (locs1 : List Loc), t.heap = H1 → s.vm.Alike t.vm → post r u → B u t → H.size ≤ H1.size → (∀ q : Nat, q < H.size → ¬ A1 q → H1[q]? = H[q]?) → va_S A0 H0 H1 locs1 → W p l e R s m args below meth c H1 locs1 (cells + mc) (slots + ms) Q (F0 m (pc + 3) ls (.float r :: rest))) : W p l e R s m args below meth c H locs cells slots Q (F0 m pc ls st0) := by
  intro T hT X
  rcases hr T hT X with ⟨v, st₀, t, T', L, h0, X', hL, e1, e2, ⟨⟨r, u, hv, hp, hb⟩, hF⟩, st⟩ | ⟨q, st₀, t, T', L, E, ce, h0, X', hL, e1, e2, ⟨u, hp, hb, hF⟩, hce, hcv, hcl, st⟩
  · cases hv
    obtain ⟨k1, k2, k3⟩ := vx_keep h0 e1 hS hA hf hL hF
    obtain ⟨t2, a1, b1⟩ := kk r u t T'.heap (locs ++ L) e1.symm (by rw [← e2]; exact X'.warmed.alike) hp hb k1 k2 k3 T' rfl X'
    exact ⟨t2, st t2 a1, b1⟩
  · obtain ⟨k1, k2, k3⟩ := vx_keep h0 e1 hS hAX hf hL hF
    obtain ⟨t2, a1, b1⟩ := kx E ce q u t T'.heap (locs ++ L) e1.symm (by rw [← e2]; exact X'.warmed.alike) hp hb k1 k2 k3 (by rw [e1]; exact hce) hcv hcl T' rfl X'
    exact ⟨t2, st.trans a1, b1⟩
theorem vx_calld {S SX : Type} {post : UInt64 → S → Prop} {px : SX → Prop} {B : S → State → Prop} {BX : String → SX → State → Prop} {AX : Nat → Prop} (hr : vx_Run p l e R s m args below meth c H locs cells slots mc ms (F0 m pc ls st0) rest (va_Qd post B A1 a) (vx_X px BX AX) free) (hS : va_S A0 H0 H locs) (hA : ∀ q, q < H.size → A1 q → A0 q) (hf : ∀ q, free q → A0 q) (hAX : ∀ q, q < H.size → AX q → A0 q)
    (kx : ∀ (E : String) (ce : Cell) (q9 : Addr) (u : SX) (t : State) (H1 : Heap) (locs1 : List Loc), t.heap = H1 → s.vm.Alike t.vm → px u → BX E u t → H.size ≤ H1.size → (∀ q : Nat, q < H.size → ¬ AX q → H1[q]? = H[q]?) → va_S A0 H0 H1 locs1 → H1[q9]? = some ce → ce.vm = .none → s.vm.findClass E = some ce.cls → vx_W p l e R s m args below meth c H1 locs1 (cells + mc) (slots + ms) Q (F0 m pc ls rest) q9)
    (kk : ∀ (r : UInt64) (u : S) (t : State) (H1 : Heap) (locs1 : List Loc), t.heap = H1 → s.vm.Alike t.vm → post r u → B u t → H.size ≤ H1.size → (∀ q : Nat, q < H.size → ¬ A1 q → H1[q]? = H[q]?) → va_S A0 H0 H1 locs1 → W p l e R s m args below meth c H1 locs1 (cells + mc) (slots + ms) Q (F0 m (pc + 3) ls (.double r :: rest))) : W p l e R s m args below meth c H locs cells slots Q (F0 m pc ls st0) := by
  intro T hT X
  rcases hr T hT X with ⟨v, st₀, t, T', L, h0, X', hL, e1, e2, ⟨⟨r, u, hv, hp, hb⟩, hF⟩, st⟩ | ⟨q, st₀, t, T', L, E, ce, h0, X', hL, e1, e2, ⟨u, hp, hb, hF⟩, hce, hcv, hcl, st⟩
  · cases hv
    obtain ⟨k1, k2, k3⟩ := vx_keep h0 e1 hS hA hf hL hF
    obtain ⟨t2, a1, b1⟩ := kk r u t T'.heap (locs ++ L) e1.symm (by rw [← e2]; exact X'.warmed.alike) hp hb k1 k2 k3 T' rfl X'
    exact ⟨t2, st t2 a1, b1⟩
  · obtain ⟨k1, k2, k3⟩ := vx_keep h0 e1 hS hAX hf hL hF
    obtain ⟨t2, a1, b1⟩ := kx E ce q u t T'.heap (locs ++ L) e1.symm (by rw [← e2]; exact X'.warmed.alike) hp hb k1 k2 k3 (by rw [e1]; exact hce) hcv hcl T' rfl X'
    exact ⟨t2, st.trans a1, b1⟩
theorem vx_callv {S SX : Type} {post : S → Prop} {px : SX → Prop} {B : S → State → Prop} {BX : String → SX → State → Prop} {AX : Nat → Prop} (hr : vx_Run p l e R s m args below meth c H locs cells slots mc ms (F0 m pc ls st0) rest (va_Qv post B A1 a) (vx_X px BX AX) free) (hS : va_S A0 H0 H locs) (hA : ∀ q, q < H.size → A1 q → A0 q) (hf : ∀ q, free q → A0 q) (hAX : ∀ q, q < H.size → AX q → A0 q)
    (kx : ∀ (E : String) (ce : Cell) (q9 : Addr) (u : SX) (t : State) (H1 : Heap) (locs1 : List Loc), t.heap = H1 → s.vm.Alike t.vm → px u → BX E u t → H.size ≤ H1.size → (∀ q : Nat, q < H.size → ¬ AX q → H1[q]? = H[q]?) → va_S A0 H0 H1 locs1 → H1[q9]? = some ce → ce.vm = .none → s.vm.findClass E = some ce.cls → vx_W p l e R s m args below meth c H1 locs1 (cells + mc) (slots + ms) Q (F0 m pc ls rest) q9)
    (kk : ∀ (u : S) (t : State) (H1 : Heap) (locs1 : List Loc), t.heap = H1 → s.vm.Alike t.vm → post u → B u t → H.size ≤ H1.size → (∀ q : Nat, q < H.size → ¬ A1 q → H1[q]? = H[q]?) → va_S A0 H0 H1 locs1 → W p l e R s m args below meth c H1 locs1 (cells + mc) (slots + ms) Q (F0 m (pc + 3) ls (rest))) : W p l e R s m args below meth c H locs cells slots Q (F0 m pc ls st0) := by
  intro T hT X
  rcases hr T hT X with ⟨v, st₀, t, T', L, h0, X', hL, e1, e2, ⟨⟨u, hv, hp, hb⟩, hF⟩, st⟩ | ⟨q, st₀, t, T', L, E, ce, h0, X', hL, e1, e2, ⟨u, hp, hb, hF⟩, hce, hcv, hcl, st⟩
  · cases hv
    obtain ⟨k1, k2, k3⟩ := vx_keep h0 e1 hS hA hf hL hF
    obtain ⟨t2, a1, b1⟩ := kk u t T'.heap (locs ++ L) e1.symm (by rw [← e2]; exact X'.warmed.alike) hp hb k1 k2 k3 T' rfl X'
    exact ⟨t2, st t2 a1, b1⟩
  · obtain ⟨k1, k2, k3⟩ := vx_keep h0 e1 hS hAX hf hL hF
    obtain ⟨t2, a1, b1⟩ := kx E ce q u t T'.heap (locs ++ L) e1.symm (by rw [← e2]; exact X'.warmed.alike) hp hb k1 k2 k3 (by rw [e1]; exact hce) hcv hcl T' rfl X'
    exact ⟨t2, st.trans a1, b1⟩
/-- caught by the row x of this method's table; the rows ahead don't take it -/
theorem vx_catch {own name : String} {E : String} {ce : Cell} {q : Addr} (hown : s.vm.findClass own = some m.cls) (pre : List ExceptionTableEntry) (x : ExceptionTableEntry) (suf : List ExceptionTableEntry) (hsplit : c.exceptionTable.toList = pre ++ x :: suf)
    (hpass : ∀ z ∈ pre, covers z pc = false ∨ (z.catchType ≠ 0 ∧ ∃ nm : String, (Cond.classLink own z.catchType nm).before args s = true ∧ va_Nc E nm s)) (hx : covers x pc = true) (h0 : x.catchType ≠ 0)
    (hlink : (Cond.classLink own x.catchType name).before args s = true) (hcast : (Cond.castable E name).before args s = true) (hcell : H[q]? = some ce) (hv : ce.vm = .none) (hcl : s.vm.findClass E = some ce.cls)
    (kk : W p l e R s m args below meth c H locs cells slots Q (F0 m x.handlerPc ls [.ref q])) : vx_W p l e R s m args below meth c H locs cells slots Q (F0 m pc ls rest) q := by
  intro T hT X
  have hpl : e.platform.magicAccessors = ({} : Platform).magicAccessors := by rw [X.admits.platform]
  obtain ⟨c3, c4, hc3, hc4, hasg⟩ := Cond.castable_spec hcast
  cases Option.some.inj (hc3.symm.trans hcl)
  obtain ⟨c5, hc5, hcl5⟩ := Cond.classLink_spec hown hlink e.platform hpl
  cases Option.some.inj (hc4.symm.trans hc5)
  obtain ⟨vm', X', st⟩ := X.thenCaughtThrough q (g := F0 m pc ls rest) rfl (Steps.refl _) (by rw [hT]; exact hcell) (by rw [hv]; rfl) (by obtain ⟨k9, h9, -⟩ := Vm.findClass_spec hcl; exact ⟨k9, h9⟩) pre x suf hsplit
    (fun z hz => by
      rcases hpass z hz with h | ⟨hz0, nm, hl1, hn1⟩
      · exact Or.inl h
      · obtain ⟨c6, hc6, hcl6⟩ := Cond.classLink_spec hown hl1 e.platform hpl
        obtain ⟨a8, b8, h1, h2, h3⟩ := hn1
        cases Option.some.inj (h1.symm.trans hcl)
        cases Option.some.inj (h2.symm.trans hc6)
        exact Or.inr ⟨hz0, _, hcl6, h3⟩) hx (Or.inr ⟨h0, c4, hcl5, hasg⟩)
  obtain ⟨t, a1, b1⟩ := kk (T.setVm vm') hT X'
  exact ⟨t, st.trans a1, b1⟩
end Rows
section Ends
variable {p : Program} {l : Launch} {e : Env} {R : Room} {s : State} {m : MethodId} {args : Array Value} {below : List Frame} {meth : Method} {c : Code} {H : Heap} {locs : List Loc} {cells slots : Nat} {Q : State → Prop}
variable {mc ms : Nat} {free : Addr → Prop} {A0 A1 : Nat → Prop} {H0 : Heap} {a : Array Value} {ls : Array Slot} {st0 rest : List Value}
variable {Qc : Array Value → State → Outcome → State → Prop} {XC : String → State → State → Prop}
/-- what a body that may throw owes at its end -/
def vx_MQ (below : List Frame) (Qc : Array Value → State → Outcome → State → Prop) (XC : String → State → State → Prop) (a : Array Value) (s : State) (mc ms : Nat) (free : Addr → Prop) : State → Prop := fun t =>
  ∃ o, t.status = .running ∧ Ended t below o ∧ vx_Q Qc XC mc ms free a s o t
theorem vx_ret {g : JFrame} {mc ms : Nat} (k : W p l e R s m args below meth c H locs cells slots (MQ below Qc args s mc ms free) g) : W p l e R s m args below meth c H locs cells slots (vx_MQ below Qc XC args s mc ms free) g := by
  intro T hT X
  obtain ⟨t, a1, o, b1, b2, b3, b4⟩ := k T hT X
  exact ⟨t, a1, o, b1, b2, Or.inl ⟨b3, b4⟩⟩
/-- not caught here: it goes on to the caller -/
theorem vx_widen {g : JFrame} {q : Addr} {k n : Nat} (h1 : cells ≤ k) (h2 : slots ≤ n) (kk : vx_W p l e R s m args below meth c H locs k n Q g q) : vx_W p l e R s m args below meth c H locs cells slots Q g q := fun T hT X => kk T hT (stand_widen X h1 h2)
theorem vx_out {pc : Nat} {E : String} {ce : Cell} {q : Addr} {mc ms : Nat} (hout : ∀ x ∈ c.exceptionTable.toList, covers x pc = false) (hlocks : meth.locks = false) (hcell : H[q]? = some ce) (hv : ce.vm = .none) (hcl : s.vm.findClass E = some ce.cls)
    (hx : ∀ t : State, t.heap = H → s.vm.Alike t.vm → XC E s t) (hf : ∀ z ∈ locs, free z.base) (hc : cells ≤ mc) (hs : slots ≤ ms) :
    vx_W p l e R s m args below meth c H locs cells slots (vx_MQ below Qc XC args s mc ms free) (F0 m pc ls rest) q := by
  intro T hT X
  obtain ⟨st1, hrun, hend, hW, hsm⟩ := X.leaveThrown q (g := F0 m pc ls rest) rfl rfl rfl hout hlocks
  have hcell9 : (T.setFrames (.throwing q :: below)).heap[q]? = some ce := by
    show T.heap[q]? = some ce
    rw [hT]; exact hcell
  exact ⟨_, st1, .threw q, hrun, hend, Or.inr ⟨q, rfl, E, ce, locs, hx _ hT hW.alike, hcell9, hv, hcl, hW, hsm.mono hc hs, hf⟩⟩
theorem vx_frame {U : State} {k n : Nat} (h : s.sameButNew ({ U with vm := s.vm } : State) locs k n) : s.heap.size ≤ U.heap.size ∧ ∀ q : Nat, q < s.heap.size → (∀ z ∈ locs, z.base ≠ q) → U.heap[q]? = s.heap[q]? := by
  obtain ⟨-, h2, -, -, -, h6⟩ := h
  refine ⟨h2, fun q hq hz => ?_⟩
  obtain ⟨c9, e1, e2, e3, e4⟩ := h6 q _ (Array.getElem?_eq_getElem hq)
  have hs : c9.slots = (s.heap[q]).slots := Array.ext_getElem? fun i => e4 i fun hm => hz _ hm rfl
  have h9 : c9 = s.heap[q] := by
    rw [hs] at e2
    exact e2
  have e5 : U.heap[q]? = some c9 := e1
  rw [e5, h9, Array.getElem?_eq_getElem hq]
/-- the words of a throw but the four that speak of the heap -/
def vx_no (w : Cond) : Bool := decide (w ≠ .isRef (.static Bundle.tN "UNASSIGNED_STACK" Bundle.steD)) && decide (w ≠ .isRef (.static Bundle.tN "SUPPRESSED_SENTINEL" Bundle.listD)) && decide (w ≠ .laysStatic Bundle.tN "UNASSIGNED_STACK" Bundle.steD) && decide (w ≠ .laysStatic Bundle.tN "SUPPRESSED_SENTINEL" Bundle.listD)
def vx_at0 (own : String) (ic : Nat) (X : String) (names : List String) : List Cond := (Bundle.ownAtoms0 own ic X names).filter vx_no
def vx_atS (own : String) (ic : Nat) (X : String) (names : List String) : List Cond := (Bundle.ownAtoms own ic X names).filter vx_no
/-- a word that the tables alone decide, or a good one -/
def vx_ot (w : Cond) : Bool := w.onTables || goodWord w
theorem vx_ot_at {args a' : Array Value} {s U : State} {w : Cond} (hW : s.WarmedH U.vm) (hvm : s.vm = U.vm) (hg : vx_ot w = true) (h : w.before args s = true) : w.before a' U = true := by
  simp only [vx_ot, Bool.or_eq_true] at hg
  rcases hg with hg | hg
  · exact va_tabs hg hvm h
  · exact word_at hW (good_of_word hg) h
/-- a list's words: the good ones out of the method's own list, the others by premises of their own -/
theorem vx_hat {args : Array Value} {s : State} {L B : List Cond} (h1 : ∀ w ∈ L.filter goodWord, w.before args s = true) (h2 : ∀ w ∈ L.filter (fun w => !goodWord w), w ∈ B) (h3 : ∀ w ∈ B, w.before args s = true) : ∀ w ∈ L, w.before args s = true := by
  intro w hw
  by_cases g : goodWord w = true
  · exact h1 w (List.mem_filter.mpr ⟨hw, g⟩)
  · refine h3 w (h2 w (List.mem_filter.mpr ⟨hw, ?_⟩))
    show (!goodWord w) = true
    cases hgw : goodWord w
    · rfl
    · exact absurd hgw g
theorem vx_c {args : Array Value} {s : State} {w : Cond} {B : List Cond} (h : w.before args s = true) (t : ∀ w ∈ B, w.before args s = true) : ∀ w' ∈ w :: B, w'.before args s = true := fun w' h' => (List.mem_cons.mp h').elim (fun e => by rw [e]; exact h) (t w')
theorem vx_n {args : Array Value} {s : State} : ∀ w ∈ ([] : List Cond), w.before args s = true := fun _ h => nomatch h
theorem vx_own {args : Array Value} {s : State} {L : List Cond} (h1 : ∀ w ∈ L.filter vx_no, w.before args s = true)
    (hU : (Cond.isRef (.static Bundle.tN "UNASSIGNED_STACK" Bundle.steD)).before args s = true) (hN : (Cond.isRef (.static Bundle.tN "SUPPRESSED_SENTINEL" Bundle.listD)).before args s = true)
    (lU : (Cond.laysStatic Bundle.tN "UNASSIGNED_STACK" Bundle.steD).before args s = true) (lN : (Cond.laysStatic Bundle.tN "SUPPRESSED_SENTINEL" Bundle.listD).before args s = true) : ∀ w ∈ L, w.before args s = true := by
  intro w hw
  by_cases e1 : w = .isRef (.static Bundle.tN "UNASSIGNED_STACK" Bundle.steD)
  · rw [e1]; exact hU
  · by_cases e2 : w = .isRef (.static Bundle.tN "SUPPRESSED_SENTINEL" Bundle.listD)
    · rw [e2]; exact hN
    · by_cases e3 : w = .laysStatic Bundle.tN "UNASSIGNED_STACK" Bundle.steD
      · rw [e3]; exact lU
      · by_cases e4 : w = .laysStatic Bundle.tN "SUPPRESSED_SENTINEL" Bundle.listD
        · rw [e4]; exact lN
        · exact h1 w (List.mem_filter.mpr ⟨hw, by unfold vx_no; rw [decide_eq_true e1, decide_eq_true e2, decide_eq_true e3, decide_eq_true e4]; rfl⟩)
/-- where a static field lies, its class's statics cell in H -/
def vx_L (C n d : String) (A : Nat → Prop) (U : State) (H : Heap) : Prop := ∃ (c : ClassId) (k : Class) (i : Nat) (f : Field) (a : Nat) (cell : Cell), U.vm.findClass C = some c ∧ U.fieldFound? C n d = some (c, k, i, f) ∧ f.isStatic = true ∧ k.statics = some a ∧ H[a]? = some cell ∧ cell.vm.isStatics = true ∧ cell.cls = c ∧ f.slot < cell.slots.size ∧ k.staticTypes[f.slot]? = some f.type ∧ ¬ A a
theorem vx_L.moved {C n d : String} {A : Nat → Prop} {u U : State} {H : Heap} (hvm : u.vm.Alike U.vm) (h : vx_L C n d A u H) : vx_L C n d A U H := by
  obtain ⟨c, k, i, f, a, cell, h1, h2, h3, h4, h5, h6, h7, h8, h9, h10⟩ := h
  obtain ⟨k', hi', he⟩ := State.fieldFound?_setVm hvm h2
  exact ⟨c, k', i, f, a, cell, by rw [hvm.findClass]; exact h1, hi', h3, by rw [he]; exact h4, h5, h6, h7, h8, by rw [he]; exact h9, h10⟩
theorem vx_L.kept {C n d : String} {A : Nat → Prop} {U : State} {H H1 : Heap} (h : vx_L C n d A U H) (hq : ∀ a : Nat, a < H.size → ¬ A a → H1[a]? = H[a]?) : vx_L C n d A U H1 := by
  obtain ⟨c, k, i, f, a, cell, h1, h2, h3, h4, h5, h6, h7, h8, h9, h10⟩ := h
  exact ⟨c, k, i, f, a, cell, h1, h2, h3, h4, by rw [hq a (Array.getElem?_eq_some_iff.mp h5).1 h10]; exact h5, h6, h7, h8, h9, h10⟩
theorem vx_L.narrow {C n d : String} {A B : Nat → Prop} {U : State} {H : Heap} (h : vx_L C n d A U H) (hAB : ∀ q, B q → A q) : vx_L C n d B U H := by
  obtain ⟨c, k, i, f, a, cell, h1, h2, h3, h4, h5, h6, h7, h8, h9, h10⟩ := h
  exact ⟨c, k, i, f, a, cell, h1, h2, h3, h4, h5, h6, h7, h8, h9, fun z => h10 (hAB _ z)⟩
theorem vx_L.word {C n d : String} {A : Nat → Prop} {s : State} {args : Array Value} (h : vx_L C n d A s s.heap) : (Cond.laysStatic C n d).before args s = true := by
  obtain ⟨c, k, i, f, a, cell, h1, h2, h3, h4, h5, h6, h7, h8, h9, -⟩ := h
  show (Cond.laysStatic C n d).holds args s none s [] = true
  exact Cond.laysStatic_of h1 h2 h3 h4 h5 h6 h7 h8 h9
/-- .. and what it holds: null or some reference -/
def vx_Zq (C n d : String) (A : Nat → Prop) (U : State) (H : Heap) : Prop := va_Zq C n d A U H ∧ vx_L C n d A U H
theorem vx_Zq.moved {C n d : String} {A : Nat → Prop} {u U : State} {H : Heap} (hvm : u.vm.Alike U.vm) (h : vx_Zq C n d A u H) : vx_Zq C n d A U H := ⟨va_Zq.moved hvm h.1, vx_L.moved hvm h.2⟩
theorem vx_Zq.kept {C n d : String} {A : Nat → Prop} {U : State} {H H1 : Heap} (h : vx_Zq C n d A U H) (hq : ∀ a : Nat, a < H.size → ¬ A a → H1[a]? = H[a]?) : vx_Zq C n d A U H1 := ⟨va_Zq.kept h.1 hq, vx_L.kept h.2 hq⟩
theorem vx_Zq.narrow {C n d : String} {A B : Nat → Prop} {U : State} {H : Heap} (h : vx_Zq C n d A U H) (hAB : ∀ q, B q → A q) : vx_Zq C n d B U H := ⟨va_Zq.narrow h.1 hAB, vx_L.narrow h.2 hAB⟩
theorem vx_Zqof {args : Array Value} {s : State} {C n d : String} {A : Nat → Prop} (hl : (Cond.laysStatic C n d).before args s = true) (hini : (Cond.initialized C).before args s = true) (h : (Cond.isRef (.static C n d)).before args s = true) (hA : ∀ a : Nat, a < s.heap.size → ¬ A a) : vx_Zq C n d A s s.heap := by
  refine ⟨va_Zqof hl hini h hA, ?_⟩
  obtain ⟨c, k, i, f, a, cell, h1, h2, h3, h4, h5, h6, h7, h8, h9⟩ := Cond.laysStatic_spec hl
  exact ⟨c, k, i, f, a, cell, h1, h2, h3, h4, h5, h6, h7, h8, h9, hA a (Array.getElem?_eq_some_iff.mp h5).1⟩
theorem vx_isRef {C n d : String} {v : Value} {A : Nat → Prop} {s : State} {args : Array Value} (h : va_Z C n d v A s s.heap) (hv : v.isRef = true) : (Cond.isRef (.static C n d)).before args s = true := by
  obtain ⟨cf, kf, fi, f, a, cell, h1, h2, h3, h4, h5, h6, h7, -⟩ := h
  have he : (Term.static C n d).eval args s none [] s = some v := by
    simp [Term.eval, State.fieldNamed?, h1, h2, h4, h5, h6, h7]
  simp only [Cond.before, Cond.holds, Cond.value, he]
  cases v <;> simp_all [Value.isRef]
theorem vx_isRefq {C n d : String} {A : Nat → Prop} {s : State} {args : Array Value} (h : va_Zq C n d A s s.heap) : (Cond.isRef (.static C n d)).before args s = true := by
  rcases h with h | ⟨t, h⟩
  · exact vx_isRef h rfl
  · exact vx_isRef h rfl
/-- the same frame, seen from here: as if the method were called anew in this heap -/
theorem vx_rebase {T : State} (X : Stand p l e R s m args below meth c T locs cells slots) {R' : Room} (hf : R'.frames ≤ R.frames) (hl : R'.locals ≤ R.locals) (hc : cells + R'.cells ≤ R.cells) (hs : slots + R'.slots ≤ R.slots) :
    Stand p l e R' ((T.setVm s.vm).setFrames (.invoking m args :: below)) m args below meth c T [] 0 0 := by
  have htop : (T.setVm s.vm).topJava?.isSome := X.here.top
  have hF : ((T.setVm s.vm).setFrames (.invoking m args :: below)).frames = .invoking m args :: below := State.frames_setFrames _ (State.cur_lt_of_top htop)
  obtain ⟨g₀, hg0⟩ := Option.isSome_iff_exists.mp htop
  obtain ⟨r, hr⟩ := State.topJava?_eq_some.mp hg0
  have hl9 : e.platform.stackLimits (T.setVm s.vm).me = e.platform.stackLimits s.me := X.limits
  have hb9 : (T.setVm s.vm).me.stackBytes = s.me.stackBytes := X.bytes
  refine ⟨X.admits, X.cas, X.clock, hF, ?_, X.hears, X.method, X.code, X.here, X.tail, X.warmed, ?_, ?_, ?_⟩
  · have h := X.room
    have hU : ((T.setVm s.vm).setFrames (.invoking m args :: below)).localsInUse = s.localsInUse := by
      rw [State.localsInUse_invoking hF (meth := meth) (c := c) X.method X.code, State.localsInUse_invoking X.frames X.method X.code]
    simp only [State.hasRoom, Bool.and_eq_true, decide_eq_true_eq] at h ⊢
    obtain ⟨⟨⟨⟨h1, h2, h3, h4, h5, h6⟩, h7⟩, h8⟩, h9⟩ := h
    rw [X.frames, List.length_cons] at h2 h3
    have q1 := X.heapSize
    have q2 := X.used
    simp only [hF, hU, List.length_cons, State.stackLimits_setFrames, State.stackBytes_setFrames, hl9, hb9]
    refine ⟨⟨⟨⟨by omega, by omega, by omega, by omega, by omega, h6⟩, ?_⟩, ?_⟩, X.book⟩
    · show T.heap.size + R'.cells ≤ e.platform.maxCells
      omega
    · show T.slotsUsed + R'.slots ≤ e.platform.maxSlots
      omega
  · rw [State.stackLimits_setFrames]; rfl
  · rw [State.stackBytes_setFrames]; rfl
  · refine ⟨?_, Nat.le_refl _, Nat.le_refl _, ?_, ?_, fun a c9 h9 => ⟨c9, h9, rfl, rfl, fun _ _ => rfl⟩⟩
    · obtain ⟨t, ht, -⟩ := State.frames_cons hr
      show T.setVm s.vm = { ((T.setVm s.vm).setFrames (.invoking m args :: below)).setFrames (T.setVm s.vm).frames with heap := T.heap, slotsUsed := T.slotsUsed }
      rw [State.setFrames_setFrames, State.setFrames_self ht]
      rfl
    · show T.slotsUsed = T.slotsUsed + ((T.heap.toList.drop T.heap.size).map (·.slots.size)).sum
      rw [List.drop_eq_nil_of_le (Nat.le_of_eq Array.length_toList)]
      rfl
    · show ((T.heap.toList.drop T.heap.size).map (·.slots.size)).sum ≤ 0
      rw [List.drop_eq_nil_of_le (Nat.le_of_eq Array.length_toList)]
      exact Nat.le_refl _
/-- 'throw new E()': new; dup; invokespecial; athrow -/
theorem vx_throw0 {cc : ByteArray} {pc : Nat} (hexec : p.tables.exec = Jvm.exec) (hb : c.code = cc) (hl : l.stackTraces = false) {own cls : String} {names : List String} {ik ic mc ms : Nat} {A : Nat → Prop}
    (hown : s.vm.findClass own = some m.cls) (hcls : Bundle.fit cls = true) (hnames : ∀ n ∈ names, Bundle.fit n = true)
    (hk : (Cond.classLink own ik cls).before args s = true) (hini : (Cond.initialized cls).before args s = true) (hat : ∀ w ∈ vx_at0 own ic cls names, w.before args s = true)
    (hgood : ∀ w ∈ Cond.classLink own ik cls :: Cond.initialized cls :: vx_at0 own ic cls names, vx_ot w = true)
    (hU : vx_Zq Bundle.tN "UNASSIGNED_STACK" Bundle.steD A s s.heap) (hN : vx_Zq Bundle.tN "SUPPRESSED_SENTINEL" Bundle.listD A s s.heap) (hS : va_S A s.heap H locs) (hsize : ls.size = c.maxLocals)
    (d0 : decode cc pc = .ok (.new ik, 3)) (d3 : decode cc (pc + 3) = .ok (.dup, 1)) (d4 : decode cc (pc + 4) = .ok (.invokespecial ic, 3)) (d7 : decode cc (pc + 7) = .ok (.athrow, 1))
    (hout : ∀ x ∈ c.exceptionTable.toList, covers x (pc + 7) = false)
    (hRframes : names.length + 3 < R.frames) (hRlocals : (rest.map fun v => v.category).sum + (13 * (names.length + 1) + 42) ≤ R.locals) (hRcells : cells + 1 ≤ R.cells) (hRslots : slots + 6 ≤ R.slots) (hlocks : meth.locks = false)
    (hx : ∀ t : State, s.vm.Alike t.vm → H.size ≤ t.heap.size → (∀ q : Nat, q < H.size → t.heap[q]? = H[q]?) → XC cls s t)
    (hf : ∀ z ∈ locs, free z.base) (hc : cells + 1 ≤ mc) (hs : slots + 6 ≤ ms) :
    W p l e R s m args below meth c H locs cells slots (vx_MQ below Qc XC args s mc ms free) (F0 m pc ls rest) := by
  intro T hT X
  have htr : e.platform.stackTraces = false := (show e.platform.stackTraces = l.stackTraces by rw [X.admits.platform]).trans hl
  have Y := vx_rebase X (R' := { frames := R.frames, locals := R.locals, cells := 1, slots := 6 }) (Nat.le_refl _) (Nat.le_refl _) hRcells hRslots
  obtain ⟨s', hA⟩ : ∃ z, z = (T.setVm s.vm).setFrames (.invoking m args :: below) := ⟨_, rfl⟩
  rw [← hA] at Y
  have hvm : s'.vm = s.vm := by rw [hA]; rfl
  have hhp : s'.heap = H := by rw [hA]; exact hT
  have hW0 : s.WarmedH s'.vm := by rw [hvm]; exact State.WarmedH.refl s
  have hat' : ∀ w ∈ vx_at0 own ic cls names, w.before args s' = true := fun w hw => vx_ot_at hW0 hvm.symm (hgood w (List.mem_cons_of_mem _ (List.mem_cons_of_mem _ hw))) (hat w hw)
  have hk' : (Cond.classLink own ik cls).before args s' = true := vx_ot_at hW0 hvm.symm (hgood _ List.mem_cons_self) hk
  have hini' : (Cond.initialized cls).before args s' = true := vx_ot_at hW0 hvm.symm (hgood _ (List.mem_cons_of_mem _ List.mem_cons_self)) hini
  have hU' : vx_Zq Bundle.tN "UNASSIGNED_STACK" Bundle.steD A s' s'.heap := by rw [hhp]; exact vx_Zq.moved hW0.alike (hU.kept hS.2.1)
  have hN' : vx_Zq Bundle.tN "SUPPRESSED_SENTINEL" Bundle.listD A s' s'.heap := by rw [hhp]; exact vx_Zq.moved hW0.alike (hN.kept hS.2.1)
  have h : ∀ w ∈ Bundle.ownAtoms0 own ic cls names, w.before args s' = true := vx_own hat' (vx_isRefq hU'.1) (vx_isRefq hN'.1) hU'.2.word hN'.2.word
  have hown' : s'.vm.findClass own = some m.cls := by rw [hvm]; exact hown
  have hins : (Cond.instantiable cls 6).before args s' = true := h _ (by simp [Bundle.ownAtoms0])
  obtain ⟨vm₁, cX, kX, hfX, hkX, -, -, X₁, st1⟩ := Y.newCold hexec (own := own) (C := cls) (index := ik) (n := 6) hown' hk' hins hini'
    (g := F0 m pc ls rest) rfl (by rw [hb]; exact d0) (Nat.le_refl _) (Nat.le_refl _)
  generalize hT1 : (T.setVm vm₁).pushCell { cls := cX, slots := kX.instanceTypes.map defaultValue, vm := .none } = T1 at X₁ st1
  have hcat : (Value.ref T.heap.size).category = 1 := rfl
  have hcellA : T1.heap[T.heap.size]? = some (freshCell cX kX) := by rw [← hT1]; exact State.heap_pushCell_size _ _
  have d3' : decode c.code (pc + 3) = .ok (.dup, 1) := by rw [hb]; exact d3
  obtain ⟨U, hsteps, hrun, hend, hW, hsame, ce, hce, hO⟩ := X₁.ctorThrow0 hexec htr (own := own) (cls := cls) (names := names) (ic := ic) hown' hcls hnames h (fun x hx => nomatch hx) hfX hkX hcellA (by rw [hhp, hT]; exact Nat.le_refl _)
    (g := { method := m, pc := pc + 4, locals := ls, stack := .ref T.heap.size :: .ref T.heap.size :: rest, locked := none }) rfl hsize rfl rfl (rest := rest) rfl
    (by rw [hb]; exact d4) (by rw [hb]; exact d7) hout hRframes (by simp only [List.map_cons, List.sum_cons, hcat]; omega) hlocks
  obtain ⟨f1, f2⟩ := vx_frame hsame
  rw [hhp] at f1 f2
  have hWs : s.WarmedH U.vm := State.WarmedH.trans hW0 hW
  have hcl : s.vm.findClass cls = some ce.cls := by
    have h9 := hO.cls
    rw [hvm] at h9
    exact h9
  have hall : s.sameButNew ({ U with vm := s.vm } : State) locs mc ms := by
    subst hA
    obtain ⟨e1, e2⟩ := hsame
    rw [State.setFrames_setFrames] at e1
    have h2 : (T.setVm s.vm).sameButNew ({ U with vm := s.vm } : State) [] (0 + 1) (0 + 6) := ⟨e1, e2⟩
    have h3 := X.same.trans h2
    rw [List.append_nil] at h3
    exact h3.mono hc hs
  refine ⟨U, ?_, .threw T.heap.size, hrun, hend, Or.inr ⟨T.heap.size, rfl, cls, ce, locs, hx U hWs.alike f1 (fun q hq => f2 q hq (fun z hz => nomatch hz)), hce, hO.vm, hcl, hWs, hall, hf⟩⟩
  refine st1 _ ?_
  show Steps p.tables e below (T1.setTop { method := m, pc := pc + 3, locals := ls, stack := .ref T.heap.size :: rest, locked := none }) _
  jvm_step X₁.here [X₁.here.top, hexec, d3', Value.category]
  exact hsteps
/-- 'throw new E("text")': new; dup; ldc; invokespecial; athrow -/
theorem vx_throwS {cc : ByteArray} {pc : Nat} (hexec : p.tables.exec = Jvm.exec) (hb : c.code = cc) (hl : l.stackTraces = false) {own cls text : String} {names : List String} {ik is ic mc ms sa : Nat} {A : Nat → Prop}
    (hown : s.vm.findClass own = some m.cls) (hcls : Bundle.fit cls = true) (hnames : ∀ n ∈ names, Bundle.fit n = true)
    (hk : (Cond.classLink own ik cls).before args s = true) (hini : (Cond.initialized cls).before args s = true) (hstr : vk_R own is text sa s) (hat : ∀ w ∈ vx_atS own ic cls names, w.before args s = true)
    (hgood : ∀ w ∈ Cond.classLink own ik cls :: Cond.initialized cls :: vx_atS own ic cls names, vx_ot w = true)
    (hU : vx_Zq Bundle.tN "UNASSIGNED_STACK" Bundle.steD A s s.heap) (hN : vx_Zq Bundle.tN "SUPPRESSED_SENTINEL" Bundle.listD A s s.heap) (hS : va_S A s.heap H locs) (hsize : ls.size = c.maxLocals)
    (d0 : decode cc pc = .ok (.new ik, 3)) (d3 : decode cc (pc + 3) = .ok (.dup, 1)) (d4 : decode cc (pc + 4) = .ok (.ldc is, 2)) (d6 : decode cc (pc + 6) = .ok (.invokespecial ic, 3)) (d9 : decode cc (pc + 9) = .ok (.athrow, 1))
    (hout : ∀ x ∈ c.exceptionTable.toList, covers x (pc + 9) = false)
    (hRframes : names.length + 3 < R.frames) (hRlocals : (rest.map fun v => v.category).sum + (13 * (names.length + 1) + 43) ≤ R.locals) (hRcells : cells + 1 ≤ R.cells) (hRslots : slots + 6 ≤ R.slots) (hlocks : meth.locks = false)
    (hx : ∀ t : State, s.vm.Alike t.vm → H.size ≤ t.heap.size → (∀ q : Nat, q < H.size → t.heap[q]? = H[q]?) → XC cls s t)
    (hf : ∀ z ∈ locs, free z.base) (hc : cells + 1 ≤ mc) (hs : slots + 6 ≤ ms) :
    W p l e R s m args below meth c H locs cells slots (vx_MQ below Qc XC args s mc ms free) (F0 m pc ls rest) := by
  intro T hT X
  have htr : e.platform.stackTraces = false := (show e.platform.stackTraces = l.stackTraces by rw [X.admits.platform]).trans hl
  have Y := vx_rebase X (R' := { frames := R.frames, locals := R.locals, cells := 1, slots := 6 }) (Nat.le_refl _) (Nat.le_refl _) hRcells hRslots
  obtain ⟨s', hA⟩ : ∃ z, z = (T.setVm s.vm).setFrames (.invoking m args :: below) := ⟨_, rfl⟩
  rw [← hA] at Y
  have hvm : s'.vm = s.vm := by rw [hA]; rfl
  have hhp : s'.heap = H := by rw [hA]; exact hT
  have hW0 : s.WarmedH s'.vm := by rw [hvm]; exact State.WarmedH.refl s
  have hat' : ∀ w ∈ vx_atS own ic cls names, w.before args s' = true := fun w hw => vx_ot_at hW0 hvm.symm (hgood w (List.mem_cons_of_mem _ (List.mem_cons_of_mem _ hw))) (hat w hw)
  have hk' : (Cond.classLink own ik cls).before args s' = true := vx_ot_at hW0 hvm.symm (hgood _ List.mem_cons_self) hk
  have hini' : (Cond.initialized cls).before args s' = true := vx_ot_at hW0 hvm.symm (hgood _ (List.mem_cons_of_mem _ List.mem_cons_self)) hini
  have hU' : vx_Zq Bundle.tN "UNASSIGNED_STACK" Bundle.steD A s' s'.heap := by rw [hhp]; exact vx_Zq.moved hW0.alike (hU.kept hS.2.1)
  have hN' : vx_Zq Bundle.tN "SUPPRESSED_SENTINEL" Bundle.listD A s' s'.heap := by rw [hhp]; exact vx_Zq.moved hW0.alike (hN.kept hS.2.1)
  have h : ∀ w ∈ Bundle.ownAtoms own ic cls names, w.before args s' = true := vx_own hat' (vx_isRefq hU'.1) (vx_isRefq hN'.1) hU'.2.word hN'.2.word
  have hown' : s'.vm.findClass own = some m.cls := by rw [hvm]; exact hown
  have hins : (Cond.instantiable cls 6).before args s' = true := h _ (by simp [Bundle.ownAtoms])
  obtain ⟨vm₁, cX, kX, hfX, hkX, -, -, X₁, st1⟩ := Y.newCold hexec (own := own) (C := cls) (index := ik) (n := 6) hown' hk' hins hini'
    (g := F0 m pc ls rest) rfl (by rw [hb]; exact d0) (Nat.le_refl _) (Nat.le_refl _)
  generalize hT1 : (T.setVm vm₁).pushCell { cls := cX, slots := kX.instanceTypes.map defaultValue, vm := .none } = T1 at X₁ st1
  have hcat : (Value.ref T.heap.size).category = 1 := rfl
  have hcellA : T1.heap[T.heap.size]? = some (freshCell cX kX) := by rw [← hT1]; exact State.heap_pushCell_size _ _
  have d3' : decode c.code (pc + 3) = .ok (.dup, 1) := by rw [hb]; exact d3
  have d4' : decode c.code (pc + 4) = .ok (.ldc is, 2) := by rw [hb]; exact d4
  have hstr' : vk_R own is text sa s' := vk_R.warm hW0 hstr
  obtain ⟨U, hsteps, hrun, hend, hW, hsame, ce, hce, hO⟩ := X₁.ctorThrowS hexec htr (own := own) (cls := cls) (names := names) (ic := ic) hown' hcls hnames h (fun x hx => nomatch hx) hfX hkX hcellA (by rw [hhp, hT]; exact Nat.le_refl _) (msg := .ref sa) rfl
    (g := { method := m, pc := pc + 6, locals := ls, stack := .ref sa :: .ref T.heap.size :: .ref T.heap.size :: rest, locked := none }) rfl hsize rfl rfl (rest := rest) rfl
    (by rw [hb]; exact d6) (by rw [hb]; exact d9) hout hRframes (by simp only [List.map_cons, List.sum_cons, hcat]; omega) hlocks
  obtain ⟨f1, f2⟩ := vx_frame hsame
  rw [hhp] at f1 f2
  have hWs : s.WarmedH U.vm := State.WarmedH.trans hW0 hW
  have hcl : s.vm.findClass cls = some ce.cls := by
    have h9 := hO.cls
    rw [hvm] at h9
    exact h9
  have hall : s.sameButNew ({ U with vm := s.vm } : State) locs mc ms := by
    subst hA
    obtain ⟨e1, e2⟩ := hsame
    rw [State.setFrames_setFrames] at e1
    have h2 : (T.setVm s.vm).sameButNew ({ U with vm := s.vm } : State) [] (0 + 1) (0 + 6) := ⟨e1, e2⟩
    have h3 := X.same.trans h2
    rw [List.append_nil] at h3
    exact h3.mono hc hs
  refine ⟨U, ?_, .threw T.heap.size, hrun, hend, Or.inr ⟨T.heap.size, rfl, cls, ce, locs, hx U hWs.alike f1 (fun q hq => f2 q hq (fun z hz => nomatch hz)), hce, hO.vm, hcl, hWs, hall, hf⟩⟩
  refine st1 _ ?_
  show Steps p.tables e below (T1.setTop { method := m, pc := pc + 3, locals := ls, stack := .ref T.heap.size :: rest, locked := none }) _
  jvm_step X₁.here [X₁.here.top, hexec, d3', Value.category]
  exact X₁.ldcString hexec (own := own) (text := text) (index := is) (a := sa) hown' hstr'.1 hstr'.2
    (g := { method := m, pc := pc + 4, locals := ls, stack := .ref T.heap.size :: .ref T.heap.size :: rest, locked := none }) rfl d4' _ hsteps
/-- 'throw new E("text")', the text by a wide index -/
theorem vx_throwSW {cc : ByteArray} {pc : Nat} (hexec : p.tables.exec = Jvm.exec) (hb : c.code = cc) (hl : l.stackTraces = false) {own cls text : String} {names : List String} {ik is ic mc ms sa : Nat} {A : Nat → Prop}
    (hown : s.vm.findClass own = some m.cls) (hcls : Bundle.fit cls = true) (hnames : ∀ n ∈ names, Bundle.fit n = true)
    (hk : (Cond.classLink own ik cls).before args s = true) (hini : (Cond.initialized cls).before args s = true) (hstr : vk_R own is text sa s) (hat : ∀ w ∈ vx_atS own ic cls names, w.before args s = true)
    (hgood : ∀ w ∈ Cond.classLink own ik cls :: Cond.initialized cls :: vx_atS own ic cls names, vx_ot w = true)
    (hU : vx_Zq Bundle.tN "UNASSIGNED_STACK" Bundle.steD A s s.heap) (hN : vx_Zq Bundle.tN "SUPPRESSED_SENTINEL" Bundle.listD A s s.heap) (hS : va_S A s.heap H locs) (hsize : ls.size = c.maxLocals)
    (d0 : decode cc pc = .ok (.new ik, 3)) (d3 : decode cc (pc + 3) = .ok (.dup, 1)) (d4 : decode cc (pc + 4) = .ok (.ldc_w is, 3)) (d7 : decode cc (pc + 7) = .ok (.invokespecial ic, 3)) (d10 : decode cc (pc + 10) = .ok (.athrow, 1))
    (hout : ∀ x ∈ c.exceptionTable.toList, covers x (pc + 10) = false)
    (hRframes : names.length + 3 < R.frames) (hRlocals : (rest.map fun v => v.category).sum + (13 * (names.length + 1) + 43) ≤ R.locals) (hRcells : cells + 1 ≤ R.cells) (hRslots : slots + 6 ≤ R.slots) (hlocks : meth.locks = false)
    (hx : ∀ t : State, s.vm.Alike t.vm → H.size ≤ t.heap.size → (∀ q : Nat, q < H.size → t.heap[q]? = H[q]?) → XC cls s t)
    (hf : ∀ z ∈ locs, free z.base) (hc : cells + 1 ≤ mc) (hs : slots + 6 ≤ ms) :
    W p l e R s m args below meth c H locs cells slots (vx_MQ below Qc XC args s mc ms free) (F0 m pc ls rest) := by
  intro T hT X
  have htr : e.platform.stackTraces = false := (show e.platform.stackTraces = l.stackTraces by rw [X.admits.platform]).trans hl
  have Y := vx_rebase X (R' := { frames := R.frames, locals := R.locals, cells := 1, slots := 6 }) (Nat.le_refl _) (Nat.le_refl _) hRcells hRslots
  obtain ⟨s', hA⟩ : ∃ z, z = (T.setVm s.vm).setFrames (.invoking m args :: below) := ⟨_, rfl⟩
  rw [← hA] at Y
  have hvm : s'.vm = s.vm := by rw [hA]; rfl
  have hhp : s'.heap = H := by rw [hA]; exact hT
  have hW0 : s.WarmedH s'.vm := by rw [hvm]; exact State.WarmedH.refl s
  have hat' : ∀ w ∈ vx_atS own ic cls names, w.before args s' = true := fun w hw => vx_ot_at hW0 hvm.symm (hgood w (List.mem_cons_of_mem _ (List.mem_cons_of_mem _ hw))) (hat w hw)
  have hk' : (Cond.classLink own ik cls).before args s' = true := vx_ot_at hW0 hvm.symm (hgood _ List.mem_cons_self) hk
  have hini' : (Cond.initialized cls).before args s' = true := vx_ot_at hW0 hvm.symm (hgood _ (List.mem_cons_of_mem _ List.mem_cons_self)) hini
  have hU' : vx_Zq Bundle.tN "UNASSIGNED_STACK" Bundle.steD A s' s'.heap := by rw [hhp]; exact vx_Zq.moved hW0.alike (hU.kept hS.2.1)
  have hN' : vx_Zq Bundle.tN "SUPPRESSED_SENTINEL" Bundle.listD A s' s'.heap := by rw [hhp]; exact vx_Zq.moved hW0.alike (hN.kept hS.2.1)
  have h : ∀ w ∈ Bundle.ownAtoms own ic cls names, w.before args s' = true := vx_own hat' (vx_isRefq hU'.1) (vx_isRefq hN'.1) hU'.2.word hN'.2.word
  have hown' : s'.vm.findClass own = some m.cls := by rw [hvm]; exact hown
  have hins : (Cond.instantiable cls 6).before args s' = true := h _ (by simp [Bundle.ownAtoms])
  obtain ⟨vm₁, cX, kX, hfX, hkX, -, -, X₁, st1⟩ := Y.newCold hexec (own := own) (C := cls) (index := ik) (n := 6) hown' hk' hins hini'
    (g := F0 m pc ls rest) rfl (by rw [hb]; exact d0) (Nat.le_refl _) (Nat.le_refl _)
  generalize hT1 : (T.setVm vm₁).pushCell { cls := cX, slots := kX.instanceTypes.map defaultValue, vm := .none } = T1 at X₁ st1
  have hcat : (Value.ref T.heap.size).category = 1 := rfl
  have hcellA : T1.heap[T.heap.size]? = some (freshCell cX kX) := by rw [← hT1]; exact State.heap_pushCell_size _ _
  have d3' : decode c.code (pc + 3) = .ok (.dup, 1) := by rw [hb]; exact d3
  have d4' : decode c.code (pc + 4) = .ok (.ldc_w is, 3) := by rw [hb]; exact d4
  have hstr' : vk_R own is text sa s' := vk_R.warm hW0 hstr
  obtain ⟨U, hsteps, hrun, hend, hW, hsame, ce, hce, hO⟩ := X₁.ctorThrowS hexec htr (own := own) (cls := cls) (names := names) (ic := ic) hown' hcls hnames h (fun x hx => nomatch hx) hfX hkX hcellA (by rw [hhp, hT]; exact Nat.le_refl _) (msg := .ref sa) rfl
    (g := { method := m, pc := pc + 7, locals := ls, stack := .ref sa :: .ref T.heap.size :: .ref T.heap.size :: rest, locked := none }) rfl hsize rfl rfl (rest := rest) rfl
    (by rw [hb]; exact d7) (by rw [hb]; exact d10) hout hRframes (by simp only [List.map_cons, List.sum_cons, hcat]; omega) hlocks
  obtain ⟨f1, f2⟩ := vx_frame hsame
  rw [hhp] at f1 f2
  have hWs : s.WarmedH U.vm := State.WarmedH.trans hW0 hW
  have hcl : s.vm.findClass cls = some ce.cls := by
    have h9 := hO.cls
    rw [hvm] at h9
    exact h9
  have hall : s.sameButNew ({ U with vm := s.vm } : State) locs mc ms := by
    subst hA
    obtain ⟨e1, e2⟩ := hsame
    rw [State.setFrames_setFrames] at e1
    have h2 : (T.setVm s.vm).sameButNew ({ U with vm := s.vm } : State) [] (0 + 1) (0 + 6) := ⟨e1, e2⟩
    have h3 := X.same.trans h2
    rw [List.append_nil] at h3
    exact h3.mono hc hs
  refine ⟨U, ?_, .threw T.heap.size, hrun, hend, Or.inr ⟨T.heap.size, rfl, cls, ce, locs, hx U hWs.alike f1 (fun q hq => f2 q hq (fun z hz => nomatch hz)), hce, hO.vm, hcl, hWs, hall, hf⟩⟩
  refine st1 _ ?_
  show Steps p.tables e below (T1.setTop { method := m, pc := pc + 3, locals := ls, stack := .ref T.heap.size :: rest, locked := none }) _
  jvm_step X₁.here [X₁.here.top, hexec, d3', Value.category]
  exact X₁.ldcStringW hexec (own := own) (text := text) (index := is) (a := sa) hown' hstr'.1 hstr'.2
    (g := { method := m, pc := pc + 4, locals := ls, stack := .ref T.heap.size :: .ref T.heap.size :: rest, locked := none }) rfl d4' _ hsteps
end Ends
section Bodies
variable {l : Launch}
theorem vx_ofW {y : MethodName} {ws ws' : List Cond} {rm : Room} {Pc : Array Value → State → Prop} {Qc : Array Value → State → Outcome → State → Prop} {XC : String → State → State → Prop} {mc ms : Nat} {free : Addr → Prop} {cc : ByteArray} {maxL : Nat} {ret : Option FieldType}
    (hy : plainName y.cls = true) (hw : ws = Cond.code y cc maxL ret :: ws')
    (body : ∀ p e s m args below meth c s₁, BodyLoose p l y (headSpec ws rm) cc maxL ret e s m args below meth c s₁ → c.maxLocals = maxL → (∀ x ∈ c.exceptionTable.toList, False) → Pc args s →
      W p l e (headSpec ws rm).room s m args below meth c s.heap [] 0 0 (vx_MQ below Qc XC args s mc ms free) (entryFrame m args maxL)) : vx_Met l y ws rm Pc Qc XC mc ms free := by
  refine MetFree.of_bodyS (code := cc) (maxLocals := maxL) (ret := ret) hy ?_ ?_
  · intro args s m h hn
    obtain ⟨meth, c, h1, h2, h3, h4, h5, h6, -, -⟩ := Cond.code_spec hn (atoms_spec (ws := ws) h _ (by rw [hw]; exact List.mem_cons_self))
    exact ⟨meth, c, h1, h2, h3, h4, h5, h6⟩
  · intro p e s m args below meth c s₁ B hml hP _
    have hh0 : s₁.heap = s.heap := by rw [B.state]; rfl
    have ht : ∀ x ∈ c.exceptionTable.toList, False := by
      obtain ⟨meth9, c9, h1, h2, -, -, -, -, h7, -⟩ := Cond.code_spec B.named (atoms_spec (ws := ws) B.pre _ (by rw [hw]; exact List.mem_cons_self))
      cases Option.some.inj (h1.symm.trans B.method)
      cases Option.some.inj (h2.symm.trans (Stand.of_body B).code)
      intro x hx
      rw [Array.isEmpty_iff.mp h7] at hx
      cases hx
    obtain ⟨t, a1, o, b1, b2, b3⟩ := body p e s m args below meth c s₁ B hml ht hP s₁ hh0 (Stand.of_body B)
    exact ⟨t, o, a1, b1, b2, b3⟩
/-- the table of a body with handlers -/
theorem vx_table {p : Program} {x y : MethodName} {S : Spec} {cc bytes : ByteArray} {maxL maxL' : Nat} {ret ret' : Option FieldType} {e : Env} {s s₁ : State} {m : MethodId} {args : Array Value} {below : List Frame} {meth : Method} {c : Code} {hh : List (Nat × Nat × Nat × Nat)}
    (B : BodyLoose p l y S cc maxL ret e s m args below meth c s₁) (h : (Cond.codeWith y bytes maxL' ret' hh).before args s = true) : c.exceptionTable.toList = tableOf hh := by
  obtain ⟨m9, meth9, c9, hn9, h1, h2, -, -, h6, -⟩ := Cond.codeWith_spec h
  cases Option.some.inj (hn9.symm.trans B.named)
  cases Option.some.inj (h1.symm.trans B.method)
  cases Option.some.inj (h2.symm.trans (Stand.of_body B).code)
  rw [← h6, table_eq]
end Bodies
end VXA
/-! ===== END ===== -/
/-! ===== BEGIN a static call of a method with an exception table ===== -/
section VXS
variable {p : Program} {l : Launch} {e : Env} {R : Room} {s : State} {m : MethodId} {args : Array Value} {below : List Frame} {meth : Method} {c : Code} {T : State} {H : Heap} {locs : List Loc} {cells slots : Nat}
abbrev vx_CSW (R : Room) (s : State) (args : Array Value) (own : String) (index : Nat) (y : MethodName) (bytes : ByteArray) (maxL : Nat) (ret : Option FieldType) (hh : List (Nat × Nat × Nat × Nat)) (ws : List Cond) (rm : Room) (mc ms n : Nat) : Prop :=
  (rm.cells = mc ∧ rm.slots = ms ∧ rm.frames + 1 ≤ R.frames ∧ 8 + (maxL + 11) + rm.locals ≤ R.locals ∧ (∀ w ∈ ws, ∀ (a' : Array Value) (U : State), s.WarmedH U.vm → w.before a' U = true) ∧ Cond.codeWith y bytes maxL ret hh ∈ ws) ∧
  (Cond.codeWith y bytes maxL ret hh).before args s = true ∧ (Cond.initialized y.cls).before args s = true ∧ (y.cls ≠ "java/lang/invoke/MethodHandle" ∧ y.cls ≠ "java/lang/invoke/VarHandle") ∧
  (∀ sig, parseMethodDescriptor y.desc = some sig → n = sig.parameters.length) ∧ (Cond.methodLink own index y).before args s = true ∧ (Cond.static y).before args s = true
theorem vx_cwSW {own : String} {index maxL mc ms : Nat} {y : MethodName} {bytes : ByteArray} {ret : Option FieldType} {hh : List (Nat × Nat × Nat × Nat)} {Ts ws ws' : List Cond} {rm : Room} (n : Nat) (ht : ∀ w ∈ Ts, w.before args s = true) (hT : GoodIn Ts (va_wsS own index y ws)) (hw : ws = Cond.codeWith y bytes maxL ret hh :: ws') (hrc : rm.cells = mc) (hrs : rm.slots = ms)
    (hd : y.cls ≠ "java/lang/invoke/MethodHandle" ∧ y.cls ≠ "java/lang/invoke/VarHandle" ∧ (parseMethodDescriptor y.desc).map (fun d => d.parameters.length) = some n) (hR : rm.frames + 1 ≤ R.frames ∧ 8 + (maxL + 11) + rm.locals ≤ R.locals) :
    vx_CSW R s args own index y bytes maxL ret hh ws rm mc ms n := by
  have ok : ∀ w ∈ va_wsS own index y ws, w.before args s = true := fun w h => ht w (hT w h).1
  have hG : GoodIn Ts ws := fun w h => hT w (by unfold va_wsS; exact List.mem_append_right _ h)
  have hc : Cond.codeWith y bytes maxL ret hh ∈ ws := by rw [hw]; exact List.mem_cons_self
  refine ⟨⟨hrc, hrs, hR.1, hR.2, pay_in ht hG, hc⟩, ht _ (hG _ hc).1, ok _ (by simp [va_wsS]), ⟨hd.1, hd.2.1⟩, fun sig h => ?_, ok _ (by simp [va_wsS]), ok _ (by simp [va_wsS])⟩
  have h2 := hd.2.2
  rw [h] at h2
  exact (Option.some.inj h2).symm
theorem vx_callSW (X : Stand p l e R s m args below meth c T locs cells slots) (hexec : p.tables.exec = Jvm.exec) {own : String} {index : Nat} {y : MethodName} {bytes : ByteArray} {maxL : Nat} {ret : Option FieldType} {hh : List (Nat × Nat × Nat × Nat)}
    (hown : s.vm.findClass own = some m.cls) (hlink : (Cond.methodLink own index y).before args s = true) (hstat : (Cond.static y).before args s = true) (hinit : (Cond.initialized y.cls).before args s = true)
    (hcode : (Cond.codeWith y bytes maxL ret hh).before args s = true) (hy : y.cls ≠ "java/lang/invoke/MethodHandle" ∧ y.cls ≠ "java/lang/invoke/VarHandle")
    {W9 : Nat} {Pre : Pt → Array Value → Prop} {Post : Pt → Array Value → Option Value → Pt → Prop} (hK : Back l R p e below s args y 3 W9 Pre Post)
    {g : JFrame} (hg : g.method = m) (hsize : g.locals.size = c.maxLocals) {argsL rest : List Value} (hlen : ∀ sig, parseMethodDescriptor y.desc = some sig → argsL.length = sig.parameters.length)
    (hstack : g.stack = argsL.reverse ++ rest) (hW : 2 * g.monitorRoom + (rest.map fun v => v.category).sum ≤ W9) (hdg : decode c.code g.pc = .ok (.invokestatic index, 3))
    (hpre : ∀ vm₁, s.WarmedH vm₁ → Pre ⟨T.setVm vm₁, locs, cells, slots⟩ argsL.toArray) :
    ∃ (v : Option Value) (vm₁ : Vm) (B : Pt), s.WarmedH vm₁ ∧ Stand p l e R s m args below meth c B.U B.locs B.cells B.slots ∧ Post ⟨T.setVm vm₁, locs, cells, slots⟩ argsL.toArray v B ∧
      ∀ target, Steps p.tables e below (B.U.setTop { g with pc := g.pc + 3, stack := v.toList ++ rest }) target → Steps p.tables e below (T.setTop g) target := by
  obtain ⟨mk, methM, cM, hnamed, hmethM, -, -, -, -, -, -, hsigM⟩ := Cond.codeWith_spec hcode
  have hstatic : methM.isStatic = true := Cond.static_spec hnamed hmethM hstat
  obtain ⟨kP, hkP, -⟩ := className_of_methodNamed hnamed
  have hinitP : kP.init = .initialized := Cond.initialized_spec (findClass_of_methodNamed hnamed) hkP hinit
  obtain ⟨vm₁, X₁, hstep₁⟩ := X.invokestatic hexec hown hlink hnamed hmethM hstatic hkP hinitP hy (g := g) hg (argsL := argsL) (rest := rest) (hlen _ hsigM) hstack hdg
  obtain ⟨v, B, X', hpost, hsteps⟩ := hK m meth c ⟨T.setVm vm₁, locs, cells, slots⟩ { g with stack := rest } (.invokestatic index) mk argsL.toArray X₁ hg hsize hdg hW (X₁.named hnamed) (hpre vm₁ X₁.warmed)
  exact ⟨v, vm₁, B, X₁.warmed, X', hpost, fun target h => hstep₁ _ fun acts => by rw [doInvoke_state]; exact hsteps.trans h⟩
theorem vx_runSW {y : MethodName} {bytes cc : ByteArray} {maxL nL mc ms n index : Nat} {ret : Option FieldType} {hh : List (Nat × Nat × Nat × Nat)} {ws : List Cond} {rm : Room} {Pc : Array Value → State → Prop} {Qc : Array Value → State → Outcome → State → Prop} {free : Addr → Prop} {Ts : List Cond} {own : String} {As rest : List Value} {g : JFrame}
    (S : CallFix p m c cc nL s args Ts own) (hM : Met l y ws rm Pc Qc mc ms free) (cw : vx_CSW R s args own index y bytes maxL ret hh ws rm mc ms n) (hp : PreS s H Pc As)
    (hg : g.method = m) (hn : As.length = n) (hsize : g.locals.size = nL) (hstack : g.stack = As.reverse ++ rest) (hW : 2 * g.monitorRoom + (rest.map fun v => v.category).sum ≤ 8) (hdg : decode cc g.pc = .ok (.invokestatic index, 3)) (hf : cells + mc ≤ R.cells ∧ slots + ms ≤ R.slots) :
    va_Run p l e R s m args below meth c H locs cells slots mc ms g rest (Qc As.toArray) (free) := by
  obtain ⟨⟨hrc, hrs, hfr, hlo, hws, hcw⟩, hcode, hini, hy, hlen, hl, hstt⟩ := cw
  have hK : Back l R p e below s args y 3 8 (PreOf R mc ms Pc) (PostOf Qc mc ms free) := va_backW (hh := hh) (bytes := bytes) (maxL := maxL) (ret := ret) hM hp.1 hrc hrs hfr hlo hws hcw (fun a' U hW => word_at hW (Or.inl (by first | rfl | simp [Cond.onTables, Cond.keeps, Cond.steady])) hini)
  obtain ⟨hx, hb, hml, ho, -⟩ := S
  intro T hT X
  obtain ⟨v, vm₁, ⟨U', l2, c2, s2⟩, hW₁, X', ⟨g', mk, t, L, e1, e2, hq, h1, hL, h2, h3⟩, st⟩ := vx_callSW X hx (hh := hh) (bytes := bytes) (maxL := maxL) (ret := ret) ho hl hstt hini hcode hy hK hg (hsize.trans hml.symm) (argsL := As) (rest := rest) (fun sig h => hn.trans (hlen sig h)) hstack hW (by rw [hb]; exact hdg)
    (fun vm₁ hW₁ => ⟨hf.1, hf.2, hp.2 (T.setVm vm₁) hT hW₁⟩)
  dsimp only [Pt.U, Pt.locs, Pt.cells, Pt.slots] at X' e1 e2 h1 h2 h3 st
  subst h1; subst h2; subst h3
  exact ⟨v, (T.setVm vm₁).calling g' mk As.toArray, t, U', L, hT, X', hL, e1, e2, hq, st⟩
/-- not caught here, past rows that name other classes: it goes on to the caller -/
theorem vx_outP {p : Program} {l : Launch} {e : Env} {R : Room} {s : State} {m : MethodId} {args : Array Value} {below : List Frame} {meth : Method} {c : Code} {H : Heap} {locs : List Loc} {cells slots : Nat} {free : Addr → Prop} {ls : Array Slot} {rest : List Value} {Qc : Array Value → State → Outcome → State → Prop} {XC : String → State → State → Prop}
    {pc : Nat} {own E : String} {ce : Cell} {q : Addr} {mc ms : Nat} (hown : s.vm.findClass own = some m.cls) (hlocks : meth.locks = false)
    (hpass : ∀ z ∈ c.exceptionTable.toList, covers z pc = false ∨ (z.catchType ≠ 0 ∧ ∃ nm : String, (Cond.classLink own z.catchType nm).before args s = true ∧ va_Nc E nm s)) (hcell : H[q]? = some ce) (hv : ce.vm = .none) (hcl : s.vm.findClass E = some ce.cls)
    (hx : ∀ t : State, t.heap = H → s.vm.Alike t.vm → XC E s t) (hf : ∀ z ∈ locs, free z.base) (hc : cells ≤ mc) (hs : slots ≤ ms) :
    vx_W p l e R s m args below meth c H locs cells slots (vx_MQ below Qc XC args s mc ms free) (F0 m pc ls rest) q := by
  intro T hT X
  have hpl : e.platform.magicAccessors = ({} : Platform).magicAccessors := by rw [X.admits.platform]
  obtain ⟨vm', hW', X', st⟩ := X.outThrough hlocks q (g := F0 m pc ls rest) rfl rfl rfl (cell := ce) (by rw [hT]; exact hcell) (by rw [hv]; rfl)
    (by obtain ⟨k9, h9, -⟩ := Vm.findClass_spec hcl; exact ⟨k9, h9⟩) (fun z hz => by
      rcases hpass z hz with h | ⟨hz0, nm, hl1, hn1⟩
      · exact Or.inl h
      · obtain ⟨c6, hc6, hcl6⟩ := Cond.classLink_spec hown hl1 e.platform hpl
        obtain ⟨a8, b8, h1, h2, h3⟩ := hn1
        cases Option.some.inj (h1.symm.trans hcl)
        cases Option.some.inj (h2.symm.trans hc6)
        exact Or.inr ⟨hz0, _, hcl6, h3⟩)
  obtain ⟨g₀, hfr⟩ := X'.frames_eq
  have hcell9 : ((T.setVm vm').setFrames (.throwing q :: below)).heap[q]? = some ce := by
    show T.heap[q]? = some ce
    rw [hT]; exact hcell
  have hend : Ended ((T.setVm vm').setFrames (.throwing q :: below)) below (.threw q) := State.frames_setFrames _ (State.cur_lt_of_frames hfr)
  refine ⟨(T.setVm vm').setFrames (.throwing q :: below), ?_, .threw q, X'.here.running, hend, Or.inr ⟨q, rfl, E, ce, locs, hx _ hT (X'.ends _).1.alike, hcell9, hv, hcl, (X'.ends _).1, (X'.ends _).2.mono hc hs, hf⟩⟩
  rw [X.pushThrowing_eq]
  exact st
/-- a thing of a world lies in the heap -/
theorem vx_lt {D : va_G} {cl : List vw_C} {ws : va_W} {H1 : Heap} (h : va_P D cl ws H1) {k : Nat} {q : Nat × va_E} (hk : ws[k]? = some q) : q.1 < H1.size := (h k q hk).lt
end VXS
/-! ===== END ===== -/
/-! ===== BEGIN methods with a table of their own: called by a name, returning or throwing ===== -/
section VXH
/-! vx_backW, vx_callVX, vx_callSX, vx_callVW, vx_runVW, vx_runVX, vx_runSX, vx_ofWH follow the same proofs as their sisters above (Free/Laws.lean, Shelf42/LK1.lean); vx_outP calls Shelf42/NT130.lean (outThrough). -/
section
variable {l : Launch} {R : Room} {p : Program} {e : Env} {below : List Frame} {s : State} {sargs : Array Value} {y : MethodName} {len W9 : Nat}
theorem vx_backW {ws : List Cond} {rm : Room} {Pc : Array Value → State → Prop} {Qc : Array Value → State → Outcome → State → Prop} {XC : String → State → State → Prop} {mc ms : Nat} {free : Addr → Prop} {bytes : ByteArray} {maxL : Nat} {ret : Option FieldType} {hh : List (Nat × Nat × Nat × Nat)}
    (hM : vx_Met l y ws rm Pc Qc XC mc ms free) (hblind : FrameBlind Pc) (hrc : rm.cells = mc) (hrs : rm.slots = ms)
    (hframes : rm.frames + 1 ≤ R.frames) (hlocals : W9 + (maxL + 11) + rm.locals ≤ R.locals)
    (hws : ∀ w ∈ ws, ∀ a' U, s.WarmedH U.vm → w.before a' U = true) (hcode : Cond.codeWith y bytes maxL ret hh ∈ ws) (hinit : ∀ a' U, s.WarmedH U.vm → (Cond.initialized y.cls).before a' U = true) :
    vx_Back l R p e below s sargs y len W9 (PreOf R mc ms Pc) (PostOf Qc mc ms free) (vx_Post XC mc ms free) := by
  intro m meth c A g ig mk a X hg hsize hdg hW hn hp
  have h1 : (headSpec ws rm).pre.before a A.U = true := atoms_intro fun w hw => hws w hw _ _ X.warmed
  have h2 : (Cond.codeWith y bytes maxL ret hh).before a A.U = true := hws _ hcode _ _ X.warmed
  have h3 : (Cond.initialized y.cls).before a A.U = true := hinit _ _ X.warmed
  have h4 : A.cells + (headSpec ws rm).room.cells ≤ R.cells := by rw [show (headSpec ws rm).room.cells = mc from hrc]; exact hp.1
  have h5 : A.slots + (headSpec ws rm).room.slots ≤ R.slots := by rw [show (headSpec ws rm).room.slots = ms from hrs]; exact hp.2.1
  have hPc : Pc a (A.U.calling g mk a) := hblind _ _ _ _ hp.2.2
  obtain ⟨U, Ls, c0, s0⟩ := A
  dsimp only [Pt.U, Pt.locs, Pt.cells, Pt.slots] at h1 h2 h3 h4 h5 X hn hPc ⊢
  obtain ⟨m9, methY, cY, hn9, hmY, hcY, -, hlY, -⟩ := Cond.codeWith_spec h2
  cases Option.some.inj (hn9.symm.trans hn)
  obtain ⟨kY, hkY, -⟩ := className_of_methodNamed hn
  have hinitY : kY.init = .initialized := Cond.initialized_spec (findClass_of_methodNamed hn) hkY h3
  have h : At U g.method c below := by rw [hg]; exact X.here
  have hlocals9 : W9 + (maxL + 11) + (headSpec ws rm).room.locals ≤ R.locals := hlocals
  have happ : (headSpec ws rm).appliesLoose y e.platform (U.calling g mk a) = true :=
    Spec.appliesLoose_calling (g := g) h hdg hn hkY hinitY
      (X.room_calling (g := g) (R' := (headSpec ws rm).room) hsize hmY hcY hframes (by rw [hlY]; omega) h4 h5) h1
  obtain ⟨mid, hmid⟩ := h.above
  have hfr : (U.setTop g).frames = (.java g :: mid) ++ below := by rw [State.frames_setTop' g h.top, hmid]; rfl
  obtain ⟨o, s₂, hsteps, -, hend, hq⟩ := Steps.callFree hM p X.admits X.cas X.clock (acts := []) hfr happ hPc trivial
  have hq' : vx_Q Qc XC mc ms free a (U.calling g mk a) o s₂ := hq
  rw [State.frames_setTop' g h.top] at hend
  obtain ⟨g₀, hg0⟩ := Option.isSome_iff_exists.mp h.top
  obtain ⟨r, hr⟩ := State.topJava?_eq_some.mp hg0
  have hr' : (({ U with heap := s₂.heap, slotsUsed := s₂.slotsUsed } : State).setVm s₂.vm).frames = .java g₀ :: r := hr
  rcases hq' with ⟨hqc, L, hfe, hL⟩ | ⟨q, rfl, E, ce, L, hx, hce, hcv, hcl, hW₂, hsm, hL⟩
  · obtain ⟨⟨v, rfl⟩, hW₂, e2, q2, q3, q4, q5, q6⟩ := id hfe
    have e3 : s₂ = ({ (U.calling g mk a).setFrames s₂.frames with heap := s₂.heap, slotsUsed := s₂.slotsUsed } : State).setVm s₂.vm := by
      have : s₂ = ({ s₂ with vm := (U.calling g mk a).vm } : State).setVm s₂.vm := rfl
      rw [e2] at this
      exact this
    obtain ⟨c₂, i₂, len₂, hc₂, hd₂, hf₂⟩ := hend
    have hW' : U.WarmedH s₂.vm := hW₂
    have hcc : c₂ = c := by
      have h1 : s₂.code? g.method = U.code? g.method := by
        rw [State.code?_eq, State.code?_eq, hW'.alike.method?]
      exact Option.some.inj (hc₂.symm.trans (h1.trans h.code))
    subst hcc
    have hlen : len₂ = len := by rw [hdg] at hd₂; cases hd₂; rfl
    subst hlen
    have hs₂ : s₂ = (({ U with heap := s₂.heap, slotsUsed := s₂.slotsUsed } : State).setVm s₂.vm).setTop { g with pc := g.pc + len₂, stack := v.toList ++ g.stack } := by
      refine e3.trans ?_
      rw [hf₂, State.calling_eq h.top, State.setFrames_setFrames, State.setTop_of_frames _ hr', hr]
      rfl
    have hsame : U.sameButNew ({ U with heap := s₂.heap, slotsUsed := s₂.slotsUsed } : State) L mc ms := by
      refine ⟨?_, q2, q3, q4, q5, q6⟩
      obtain ⟨t, ht, -⟩ := State.frames_cons hr
      show ({ U with heap := s₂.heap, slotsUsed := s₂.slotsUsed } : State) = { U.setFrames U.frames with heap := s₂.heap, slotsUsed := s₂.slotsUsed }
      rw [State.setFrames_self ht]
    subst hg
    refine Or.inl ⟨v, ⟨(({ U with heap := s₂.heap, slotsUsed := s₂.slotsUsed } : State).setVm s₂.vm), Ls ++ L, c0 + mc, s0 + ms⟩,
      ⟨X.admits, X.cas, X.clock, X.frames, X.room, X.hears, X.method, X.code, (X.here.setHeapUsed s₂.heap s₂.slotsUsed).setVm hW'.alike, X.tail, State.WarmedH.trans X.warmed hW', X.limits, X.bytes, X.same.trans (hsame.setVm s.vm)⟩,
      ⟨g, mk, s₂, L, rfl, rfl, hqc, rfl, hL, rfl, rfl⟩, ?_⟩
    show Steps p.tables e below _ ((({ U with heap := s₂.heap, slotsUsed := s₂.slotsUsed } : State).setVm s₂.vm).setTop { g with pc := g.pc + len₂, stack := v.toList ++ g.stack })
    rw [← hs₂]
    exact hsteps
  · obtain ⟨e2, q2, q3, q4, q5, q6⟩ := id hsm
    have e3 : s₂ = ({ (U.calling g mk a).setFrames s₂.frames with heap := s₂.heap, slotsUsed := s₂.slotsUsed } : State).setVm s₂.vm := by
      have : s₂ = ({ s₂ with vm := (U.calling g mk a).vm } : State).setVm s₂.vm := rfl
      rw [e2] at this
      exact this
    have hf₂ : s₂.frames = .throwing q :: .java g :: U.frames.tail := hend
    have hW' : U.WarmedH s₂.vm := hW₂
    have hs₂ : s₂ = ((({ U with heap := s₂.heap, slotsUsed := s₂.slotsUsed } : State).setVm s₂.vm).setTop g).pushFrame (.throwing q) := by
      refine e3.trans ?_
      rw [hf₂, State.calling_eq h.top, State.setFrames_setFrames, State.pushFrame, State.frames_setTop _ hr', State.setTop_of_frames _ hr', State.setFrames_setFrames, hr]
      rfl
    have hsame : U.sameButNew ({ U with heap := s₂.heap, slotsUsed := s₂.slotsUsed } : State) L mc ms := by
      refine ⟨?_, q2, q3, q4, q5, q6⟩
      obtain ⟨t, ht, -⟩ := State.frames_cons hr
      show ({ U with heap := s₂.heap, slotsUsed := s₂.slotsUsed } : State) = { U.setFrames U.frames with heap := s₂.heap, slotsUsed := s₂.slotsUsed }
      rw [State.setFrames_self ht]
    subst hg
    refine Or.inr ⟨q, ⟨(({ U with heap := s₂.heap, slotsUsed := s₂.slotsUsed } : State).setVm s₂.vm), Ls ++ L, c0 + mc, s0 + ms⟩,
      ⟨X.admits, X.cas, X.clock, X.frames, X.room, X.hears, X.method, X.code, (X.here.setHeapUsed s₂.heap s₂.slotsUsed).setVm hW'.alike, X.tail, State.WarmedH.trans X.warmed hW', X.limits, X.bytes, X.same.trans (hsame.setVm s.vm)⟩,
      ⟨g, mk, s₂, L, E, ce, rfl, rfl, hx, hce, hcv, hcl, rfl, hL, rfl, rfl⟩, ?_⟩
    show Steps p.tables e below _ (((({ U with heap := s₂.heap, slotsUsed := s₂.slotsUsed } : State).setVm s₂.vm).setTop g).pushFrame (.throwing q))
    rw [← hs₂]
    exact hsteps
end
variable {p : Program} {l : Launch} {e : Env} {R : Room} {s : State} {m : MethodId} {args : Array Value} {below : List Frame} {meth : Method} {c : Code} {T : State} {H : Heap} {locs : List Loc} {cells slots : Nat}
theorem vx_callVX (X : Stand p l e R s m args below meth c T locs cells slots) (hexec : p.tables.exec = Jvm.exec) {own C : String} {index : Nat} {y : MethodName} {bytes : ByteArray} {maxL : Nat} {ret : Option FieldType} {hh : List (Nat × Nat × Nat × Nat)}
    (hown : s.vm.findClass own = some m.cls) (hlink : (Cond.methodLink own index y).before args s = true) (hinst : (Cond.instanceMethod y).before args s = true) (hsel : (Cond.selects C y y).before args s = true)
    (hcode : (Cond.codeWith y bytes maxL ret hh).before args s = true) (hy : y.cls ≠ "java/lang/invoke/MethodHandle" ∧ y.cls ≠ "java/lang/invoke/VarHandle")
    {W9 : Nat} {Pre : Pt → Array Value → Prop} {Post : Pt → Array Value → Option Value → Pt → Prop} {PostX : Pt → Array Value → Addr → Pt → Prop} (hK : vx_Back l R p e below s args y 3 W9 Pre Post PostX)
    {b : Addr} {cellB : Cell} (hcell : T.heap[b]? = some cellB) (hobj : cellB.vm.isStatics = false) (hcls : s.vm.findClass C = some cellB.cls)
    {g : JFrame} (hg : g.method = m) (hsize : g.locals.size = c.maxLocals) {argsL rest : List Value} (hlen : ∀ sig, parseMethodDescriptor y.desc = some sig → argsL.length = sig.parameters.length)
    (hstack : g.stack = argsL.reverse ++ .ref b :: rest) (hW : 2 * g.monitorRoom + (rest.map fun v => v.category).sum ≤ W9) (hdg : decode c.code g.pc = .ok (.invokevirtual index, 3))
    (hpre : ∀ vm₁, s.WarmedH vm₁ → Pre ⟨T.setVm vm₁, locs, cells, slots⟩ (Value.ref b :: argsL).toArray) :
    (∃ (v : Option Value) (vm₁ : Vm) (B : Pt), s.WarmedH vm₁ ∧ Stand p l e R s m args below meth c B.U B.locs B.cells B.slots ∧ Post ⟨T.setVm vm₁, locs, cells, slots⟩ (Value.ref b :: argsL).toArray v B ∧
      ∀ target, Steps p.tables e below (B.U.setTop { g with pc := g.pc + 3, stack := v.toList ++ rest }) target → Steps p.tables e below (T.setTop g) target) ∨
    (∃ (q : Addr) (vm₁ : Vm) (B : Pt), s.WarmedH vm₁ ∧ Stand p l e R s m args below meth c B.U B.locs B.cells B.slots ∧ PostX ⟨T.setVm vm₁, locs, cells, slots⟩ (Value.ref b :: argsL).toArray q B ∧
      Steps p.tables e below (T.setTop g) ((B.U.setTop { g with stack := rest }).pushFrame (.throwing q))) := by
  obtain ⟨mk, methM, hnamed, hmethM, hstM, habM⟩ := Cond.instanceMethod_spec hinst
  obtain ⟨m8, methM', cM, hn8, hmethM', -, -, -, -, -, -, hsigM⟩ := Cond.codeWith_spec hcode
  cases Option.some.inj (hn8.symm.trans hnamed)
  cases hmethM.symm.trans hmethM'
  obtain ⟨c2, r2, m2, q1, q2, q3, q4, kP, hkP, hkPi⟩ := Cond.selects_spec hsel
  cases hcls.symm.trans q1
  cases (State.methodFound?_of_named hnamed hy).symm.trans q2
  cases hnamed.symm.trans q3
  have hselP : selectMethod e.platform s.vm cellB.cls mk = .method mk := by rw [Launch.admits_selectMethod X.admits]; exact q4
  obtain ⟨vm₁, X₁, hstep₁⟩ := X.invokevirtual hexec hown hlink hnamed hmethM hstM hkP hkPi hy (a := b) (cell := cellB) hcell
    (fun z h => by rw [h] at hobj; cases hobj) hselP hmethM habM hkP hkPi (g := g) hg (argsL := argsL) (rest := rest) (hlen _ hsigM) hstack hdg
  rcases hK m meth c ⟨T.setVm vm₁, locs, cells, slots⟩ { g with stack := rest } (.invokevirtual index) mk (Value.ref b :: argsL).toArray X₁ hg hsize hdg hW (X₁.named hnamed) (hpre vm₁ X₁.warmed) with ⟨v, B, X', hpost, hsteps⟩ | ⟨q, B, X', hpost, hsteps⟩
  · exact Or.inl ⟨v, vm₁, B, X₁.warmed, X', hpost, fun target h => hstep₁ _ fun acts => by rw [doInvoke_state]; exact hsteps.trans h⟩
  · exact Or.inr ⟨q, vm₁, B, X₁.warmed, X', hpost, hstep₁ _ fun acts => by rw [doInvoke_state]; exact hsteps⟩
theorem vx_callSX (X : Stand p l e R s m args below meth c T locs cells slots) (hexec : p.tables.exec = Jvm.exec) {own : String} {index : Nat} {y : MethodName} {bytes : ByteArray} {maxL : Nat} {ret : Option FieldType} {hh : List (Nat × Nat × Nat × Nat)}
    (hown : s.vm.findClass own = some m.cls) (hlink : (Cond.methodLink own index y).before args s = true) (hstat : (Cond.static y).before args s = true) (hinit : (Cond.initialized y.cls).before args s = true)
    (hcode : (Cond.codeWith y bytes maxL ret hh).before args s = true) (hy : y.cls ≠ "java/lang/invoke/MethodHandle" ∧ y.cls ≠ "java/lang/invoke/VarHandle")
    {W9 : Nat} {Pre : Pt → Array Value → Prop} {Post : Pt → Array Value → Option Value → Pt → Prop} {PostX : Pt → Array Value → Addr → Pt → Prop} (hK : vx_Back l R p e below s args y 3 W9 Pre Post PostX)
    {g : JFrame} (hg : g.method = m) (hsize : g.locals.size = c.maxLocals) {argsL rest : List Value} (hlen : ∀ sig, parseMethodDescriptor y.desc = some sig → argsL.length = sig.parameters.length)
    (hstack : g.stack = argsL.reverse ++ rest) (hW : 2 * g.monitorRoom + (rest.map fun v => v.category).sum ≤ W9) (hdg : decode c.code g.pc = .ok (.invokestatic index, 3))
    (hpre : ∀ vm₁, s.WarmedH vm₁ → Pre ⟨T.setVm vm₁, locs, cells, slots⟩ argsL.toArray) :
    (∃ (v : Option Value) (vm₁ : Vm) (B : Pt), s.WarmedH vm₁ ∧ Stand p l e R s m args below meth c B.U B.locs B.cells B.slots ∧ Post ⟨T.setVm vm₁, locs, cells, slots⟩ argsL.toArray v B ∧
      ∀ target, Steps p.tables e below (B.U.setTop { g with pc := g.pc + 3, stack := v.toList ++ rest }) target → Steps p.tables e below (T.setTop g) target) ∨
    (∃ (q : Addr) (vm₁ : Vm) (B : Pt), s.WarmedH vm₁ ∧ Stand p l e R s m args below meth c B.U B.locs B.cells B.slots ∧ PostX ⟨T.setVm vm₁, locs, cells, slots⟩ argsL.toArray q B ∧
      Steps p.tables e below (T.setTop g) ((B.U.setTop { g with stack := rest }).pushFrame (.throwing q))) := by
  obtain ⟨mk, methM, cM, hnamed, hmethM, -, -, -, -, -, -, hsigM⟩ := Cond.codeWith_spec hcode
  have hstatic : methM.isStatic = true := Cond.static_spec hnamed hmethM hstat
  obtain ⟨kP, hkP, -⟩ := className_of_methodNamed hnamed
  have hinitP : kP.init = .initialized := Cond.initialized_spec (findClass_of_methodNamed hnamed) hkP hinit
  obtain ⟨vm₁, X₁, hstep₁⟩ := X.invokestatic hexec hown hlink hnamed hmethM hstatic hkP hinitP hy (g := g) hg (argsL := argsL) (rest := rest) (hlen _ hsigM) hstack hdg
  rcases hK m meth c ⟨T.setVm vm₁, locs, cells, slots⟩ { g with stack := rest } (.invokestatic index) mk argsL.toArray X₁ hg hsize hdg hW (X₁.named hnamed) (hpre vm₁ X₁.warmed) with ⟨v, B, X', hpost, hsteps⟩ | ⟨q, B, X', hpost, hsteps⟩
  · exact Or.inl ⟨v, vm₁, B, X₁.warmed, X', hpost, fun target h => hstep₁ _ fun acts => by rw [doInvoke_state]; exact hsteps.trans h⟩
  · exact Or.inr ⟨q, vm₁, B, X₁.warmed, X', hpost, hstep₁ _ fun acts => by rw [doInvoke_state]; exact hsteps⟩
theorem vx_callVW (X : Stand p l e R s m args below meth c T locs cells slots) (hexec : p.tables.exec = Jvm.exec) {own C : String} {index : Nat} {y : MethodName} {bytes : ByteArray} {maxL : Nat} {ret : Option FieldType} {hh : List (Nat × Nat × Nat × Nat)}
    (hown : s.vm.findClass own = some m.cls) (hlink : (Cond.methodLink own index y).before args s = true) (hinst : (Cond.instanceMethod y).before args s = true) (hsel : (Cond.selects C y y).before args s = true)
    (hcode : (Cond.codeWith y bytes maxL ret hh).before args s = true) (hy : y.cls ≠ "java/lang/invoke/MethodHandle" ∧ y.cls ≠ "java/lang/invoke/VarHandle")
    {W9 : Nat} {Pre : Pt → Array Value → Prop} {Post : Pt → Array Value → Option Value → Pt → Prop} (hK : Back l R p e below s args y 3 W9 Pre Post)
    {b : Addr} {cellB : Cell} (hcell : T.heap[b]? = some cellB) (hobj : cellB.vm.isStatics = false) (hcls : s.vm.findClass C = some cellB.cls)
    {g : JFrame} (hg : g.method = m) (hsize : g.locals.size = c.maxLocals) {argsL rest : List Value} (hlen : ∀ sig, parseMethodDescriptor y.desc = some sig → argsL.length = sig.parameters.length)
    (hstack : g.stack = argsL.reverse ++ .ref b :: rest) (hW : 2 * g.monitorRoom + (rest.map fun v => v.category).sum ≤ W9) (hdg : decode c.code g.pc = .ok (.invokevirtual index, 3))
    (hpre : ∀ vm₁, s.WarmedH vm₁ → Pre ⟨T.setVm vm₁, locs, cells, slots⟩ (Value.ref b :: argsL).toArray) :
    ∃ (v : Option Value) (vm₁ : Vm) (B : Pt), s.WarmedH vm₁ ∧ Stand p l e R s m args below meth c B.U B.locs B.cells B.slots ∧ Post ⟨T.setVm vm₁, locs, cells, slots⟩ (Value.ref b :: argsL).toArray v B ∧
      ∀ target, Steps p.tables e below (B.U.setTop { g with pc := g.pc + 3, stack := v.toList ++ rest }) target → Steps p.tables e below (T.setTop g) target := by
  obtain ⟨mk, methM, hnamed, hmethM, hstM, habM⟩ := Cond.instanceMethod_spec hinst
  obtain ⟨m8, methM', cM, hn8, hmethM', -, -, -, -, -, -, hsigM⟩ := Cond.codeWith_spec hcode
  cases Option.some.inj (hn8.symm.trans hnamed)
  cases hmethM.symm.trans hmethM'
  obtain ⟨c2, r2, m2, q1, q2, q3, q4, kP, hkP, hkPi⟩ := Cond.selects_spec hsel
  cases hcls.symm.trans q1
  cases (State.methodFound?_of_named hnamed hy).symm.trans q2
  cases hnamed.symm.trans q3
  have hselP : selectMethod e.platform s.vm cellB.cls mk = .method mk := by rw [Launch.admits_selectMethod X.admits]; exact q4
  obtain ⟨vm₁, X₁, hstep₁⟩ := X.invokevirtual hexec hown hlink hnamed hmethM hstM hkP hkPi hy (a := b) (cell := cellB) hcell
    (fun z h => by rw [h] at hobj; cases hobj) hselP hmethM habM hkP hkPi (g := g) hg (argsL := argsL) (rest := rest) (hlen _ hsigM) hstack hdg
  obtain ⟨v, B, X', hpost, hsteps⟩ := hK m meth c ⟨T.setVm vm₁, locs, cells, slots⟩ { g with stack := rest } (.invokevirtual index) mk (Value.ref b :: argsL).toArray X₁ hg hsize hdg hW (X₁.named hnamed) (hpre vm₁ X₁.warmed)
  exact ⟨v, vm₁, B, X₁.warmed, X', hpost, fun target h => hstep₁ _ fun acts => by rw [doInvoke_state]; exact hsteps.trans h⟩
abbrev vx_CVW (R : Room) (s : State) (args : Array Value) (own C : String) (index : Nat) (y : MethodName) (bytes : ByteArray) (maxL : Nat) (ret : Option FieldType) (hh : List (Nat × Nat × Nat × Nat)) (ws : List Cond) (rm : Room) (mc ms n : Nat) : Prop :=
  (rm.cells = mc ∧ rm.slots = ms ∧ rm.frames + 1 ≤ R.frames ∧ 8 + (maxL + 11) + rm.locals ≤ R.locals ∧ (∀ w ∈ ws, ∀ (a' : Array Value) (U : State), s.WarmedH U.vm → w.before a' U = true) ∧ Cond.codeWith y bytes maxL ret hh ∈ ws) ∧
  (Cond.codeWith y bytes maxL ret hh).before args s = true ∧ (Cond.initialized y.cls).before args s = true ∧ (y.cls ≠ "java/lang/invoke/MethodHandle" ∧ y.cls ≠ "java/lang/invoke/VarHandle") ∧
  (∀ sig, parseMethodDescriptor y.desc = some sig → n = sig.parameters.length) ∧ (Cond.methodLink own index y).before args s = true ∧ (Cond.instanceMethod y).before args s = true ∧ (Cond.selects C y y).before args s = true
theorem vx_cwVW {own C : String} {index maxL mc ms : Nat} {y : MethodName} {bytes : ByteArray} {ret : Option FieldType} {hh : List (Nat × Nat × Nat × Nat)} {Ts ws ws' : List Cond} {rm : Room} (n : Nat) (ht : ∀ w ∈ Ts, w.before args s = true) (hT : GoodIn Ts (wsV own index C y ws)) (hw : ws = Cond.codeWith y bytes maxL ret hh :: ws') (hrc : rm.cells = mc) (hrs : rm.slots = ms)
    (hd : y.cls = C ∧ y.cls ≠ "java/lang/invoke/MethodHandle" ∧ y.cls ≠ "java/lang/invoke/VarHandle" ∧ (parseMethodDescriptor y.desc).map (fun d => d.parameters.length) = some n) (hR : rm.frames + 1 ≤ R.frames ∧ 8 + (maxL + 11) + rm.locals ≤ R.locals) :
    vx_CVW R s args own C index y bytes maxL ret hh ws rm mc ms n := by
  obtain ⟨hC, hd⟩ := hd
  subst hC
  have ok : ∀ w ∈ wsV own index y.cls y ws, w.before args s = true := fun w h => ht w (hT w h).1
  have hG : GoodIn Ts ws := fun w h => hT w (by unfold wsV; exact List.mem_append_right _ h)
  have hc : Cond.codeWith y bytes maxL ret hh ∈ ws := by rw [hw]; exact List.mem_cons_self
  refine ⟨⟨hrc, hrs, hR.1, hR.2, pay_in ht hG, hc⟩, ht _ (hG _ hc).1, ok _ (by simp [wsV]), ⟨hd.1, hd.2.1⟩, fun sig h => ?_, ok _ (by simp [wsV]), ok _ (by simp [wsV]), ok _ (by simp [wsV])⟩
  have h2 := hd.2.2
  rw [h] at h2
  exact (Option.some.inj h2).symm
theorem vx_runVW {y : MethodName} {bytes cc : ByteArray} {maxL nL mc ms n index : Nat} {ret : Option FieldType} {hh : List (Nat × Nat × Nat × Nat)} {ws : List Cond} {rm : Room} {Pc : Array Value → State → Prop} {Qc : Array Value → State → Outcome → State → Prop} {free : Addr → Prop} {Ts : List Cond} {own C : String} {b : Addr} {As rest : List Value} {g : JFrame}
    (S : CallFix p m c cc nL s args Ts own) (hM : Met l y ws rm Pc Qc mc ms free) (cw : vx_CVW R s args own C index y bytes maxL ret hh ws rm mc ms n) (hp : PreV s H C b Pc As)
    (hg : g.method = m) (hn : As.length = n) (hsize : g.locals.size = nL) (hstack : g.stack = As.reverse ++ .ref b :: rest) (hW : 2 * g.monitorRoom + (rest.map fun v => v.category).sum ≤ 8) (hdg : decode cc g.pc = .ok (.invokevirtual index, 3)) (hf : cells + mc ≤ R.cells ∧ slots + ms ≤ R.slots) :
    va_Run p l e R s m args below meth c H locs cells slots mc ms g rest (Qc (Value.ref b :: As).toArray) free := by
  obtain ⟨⟨hrc, hrs, hfr, hlo, hws, hcw⟩, hcode, hini, hy, hlen, hl, hin, hse⟩ := cw
  have hK : Back l R p e below s args y 3 8 (PreOf R mc ms Pc) (PostOf Qc mc ms free) := va_backW (hh := hh) (bytes := bytes) (maxL := maxL) (ret := ret) hM hp.1 hrc hrs hfr hlo hws hcw (fun a' U hW => word_at hW (Or.inl (by first | rfl | simp [Cond.onTables, Cond.keeps, Cond.steady])) hini)
  obtain ⟨hx, hb, hml, ho, -⟩ := S
  obtain ⟨-, ⟨cellB, hcB, hoB, hclB⟩, hPc⟩ := hp
  intro T hT X
  obtain ⟨v, vm₁, ⟨U', l2, c2, s2⟩, hW₁, X', ⟨g', mk, t, L, e1, e2, hq, h1, hL, h2, h3⟩, st⟩ := vx_callVW X hx (C := C) (hh := hh) (bytes := bytes) (maxL := maxL) (ret := ret) ho hl hin hse hcode hy hK (by rw [hT]; exact hcB) hoB hclB hg (hsize.trans hml.symm) (argsL := As) (rest := rest) (fun sig h => hn.trans (hlen sig h)) hstack hW (by rw [hb]; exact hdg)
    (fun vm₁ hW₁ => ⟨hf.1, hf.2, hPc (T.setVm vm₁) hT hW₁⟩)
  dsimp only [Pt.U, Pt.locs, Pt.cells, Pt.slots] at X' e1 e2 h1 h2 h3 st
  subst h1; subst h2; subst h3
  exact ⟨v, (T.setVm vm₁).calling g' mk (Value.ref b :: As).toArray, t, U', L, hT, X', hL, e1, e2, hq, st⟩
section
variable {y : MethodName} {bytes cc : ByteArray} {maxL nL mc ms n index : Nat} {ret : Option FieldType} {ws : List Cond} {rm : Room} {Pc : Array Value → State → Prop} {Qc : Array Value → State → Outcome → State → Prop} {XC : String → State → State → Prop} {free : Addr → Prop} {Ts : List Cond} {own C : String} {b : Addr} {As rest : List Value} {g : JFrame}
theorem vx_runVX {hh : List (Nat × Nat × Nat × Nat)} (S : CallFix p m c cc nL s args Ts own) (hM : vx_Met l y ws rm Pc Qc XC mc ms free) (cw : vx_CVW R s args own C index y bytes maxL ret hh ws rm mc ms n) (hp : PreV s H C b Pc As)
    (hg : g.method = m) (hn : As.length = n) (hsize : g.locals.size = nL) (hstack : g.stack = As.reverse ++ .ref b :: rest) (hW : 2 * g.monitorRoom + (rest.map fun v => v.category).sum ≤ 8) (hdg : decode cc g.pc = .ok (.invokevirtual index, 3)) (hf : cells + mc ≤ R.cells ∧ slots + ms ≤ R.slots) :
    vx_Run p l e R s m args below meth c H locs cells slots mc ms g rest (Qc (Value.ref b :: As).toArray) XC free := by
  obtain ⟨⟨hrc, hrs, hfr, hlo, hws, hcw⟩, hcode, hini, hy, hlen, hl, hin, hse⟩ := cw
  have hK : vx_Back l R p e below s args y 3 8 (PreOf R mc ms Pc) (PostOf Qc mc ms free) (vx_Post XC mc ms free) := vx_backW (hh := hh) (bytes := bytes) (maxL := maxL) (ret := ret) hM hp.1 hrc hrs hfr hlo hws hcw (fun a' U hW => word_at hW (Or.inl (by first | rfl | simp [Cond.onTables, Cond.keeps, Cond.steady])) hini)
  obtain ⟨hx, hb, hml, ho, -⟩ := S
  obtain ⟨-, ⟨cellB, hcB, hoB, hclB⟩, hPc⟩ := hp
  intro T hT X
  rcases vx_callVX X hx (C := C) (hh := hh) (bytes := bytes) (maxL := maxL) (ret := ret) ho hl hin hse hcode hy hK (by rw [hT]; exact hcB) hoB hclB hg (hsize.trans hml.symm) (argsL := As) (rest := rest) (fun sig h => hn.trans (hlen sig h)) hstack hW (by rw [hb]; exact hdg)
    (fun vm₁ hW₁ => ⟨hf.1, hf.2, hPc (T.setVm vm₁) hT hW₁⟩) with ⟨v, vm₁, ⟨U', l2, c2, s2⟩, hW₁, X', ⟨g', mk, t, L, e1, e2, hq, h1, hL, h2, h3⟩, st⟩ | ⟨q, vm₁, ⟨U', l2, c2, s2⟩, hW₁, X', ⟨g', mk, t, L, E, ce, e1, e2, hq, hce, hcv, hcl, h1, hL, h2, h3⟩, st⟩
  · dsimp only [Pt.U, Pt.locs, Pt.cells, Pt.slots] at X' e1 e2 h1 h2 h3 st
    subst h1; subst h2; subst h3
    exact Or.inl ⟨v, (T.setVm vm₁).calling g' mk (Value.ref b :: As).toArray, t, U', L, hT, X', hL, e1, e2, hq, st⟩
  · dsimp only [Pt.U, Pt.locs, Pt.cells, Pt.slots] at X' e1 e2 h1 h2 h3 st hcl
    subst h1; subst h2; subst h3
    exact Or.inr ⟨q, (T.setVm vm₁).calling g' mk (Value.ref b :: As).toArray, t, U', L, E, ce, hT, X', hL, e1, e2, hq, hce, hcv, vx_cls hW₁ hcl, st⟩
theorem vx_runSX {hh : List (Nat × Nat × Nat × Nat)} (S : CallFix p m c cc nL s args Ts own) (hM : vx_Met l y ws rm Pc Qc XC mc ms free) (cw : vx_CSW R s args own index y bytes maxL ret hh ws rm mc ms n) (hp : PreS s H Pc As)
    (hg : g.method = m) (hn : As.length = n) (hsize : g.locals.size = nL) (hstack : g.stack = As.reverse ++ rest) (hW : 2 * g.monitorRoom + (rest.map fun v => v.category).sum ≤ 8) (hdg : decode cc g.pc = .ok (.invokestatic index, 3)) (hf : cells + mc ≤ R.cells ∧ slots + ms ≤ R.slots) :
    vx_Run p l e R s m args below meth c H locs cells slots mc ms g rest (Qc As.toArray) XC free := by
  obtain ⟨⟨hrc, hrs, hfr, hlo, hws, hcw⟩, hcode, hini, hy, hlen, hl, hstt⟩ := cw
  have hK : vx_Back l R p e below s args y 3 8 (PreOf R mc ms Pc) (PostOf Qc mc ms free) (vx_Post XC mc ms free) := vx_backW (hh := hh) (bytes := bytes) (maxL := maxL) (ret := ret) hM hp.1 hrc hrs hfr hlo hws hcw (fun a' U hW => word_at hW (Or.inl (by first | rfl | simp [Cond.onTables, Cond.keeps, Cond.steady])) hini)
  obtain ⟨hx, hb, hml, ho, -⟩ := S
  intro T hT X
  rcases vx_callSX X hx (hh := hh) (bytes := bytes) (maxL := maxL) (ret := ret) ho hl hstt hini hcode hy hK hg (hsize.trans hml.symm) (argsL := As) (rest := rest) (fun sig h => hn.trans (hlen sig h)) hstack hW (by rw [hb]; exact hdg)
    (fun vm₁ hW₁ => ⟨hf.1, hf.2, hp.2 (T.setVm vm₁) hT hW₁⟩) with ⟨v, vm₁, ⟨U', l2, c2, s2⟩, hW₁, X', ⟨g', mk, t, L, e1, e2, hq, h1, hL, h2, h3⟩, st⟩ | ⟨q, vm₁, ⟨U', l2, c2, s2⟩, hW₁, X', ⟨g', mk, t, L, E, ce, e1, e2, hq, hce, hcv, hcl, h1, hL, h2, h3⟩, st⟩
  · dsimp only [Pt.U, Pt.locs, Pt.cells, Pt.slots] at X' e1 e2 h1 h2 h3 st
    subst h1; subst h2; subst h3
    exact Or.inl ⟨v, (T.setVm vm₁).calling g' mk As.toArray, t, U', L, hT, X', hL, e1, e2, hq, st⟩
  · dsimp only [Pt.U, Pt.locs, Pt.cells, Pt.slots] at X' e1 e2 h1 h2 h3 st hcl
    subst h1; subst h2; subst h3
    exact Or.inr ⟨q, (T.setVm vm₁).calling g' mk As.toArray, t, U', L, E, ce, hT, X', hL, e1, e2, hq, hce, hcv, vx_cls hW₁ hcl, st⟩
end
end VXH
theorem vx_ofWH {l : Launch} {y : MethodName} {ws ws' : List Cond} {rm : Room} {Pc : Array Value → State → Prop} {Qc : Array Value → State → Outcome → State → Prop} {XC : String → State → State → Prop} {mc ms : Nat} {free : Addr → Prop} {cc : ByteArray} {maxL : Nat} {ret : Option FieldType} {hh : List (Nat × Nat × Nat × Nat)}
    (hy : plainName y.cls = true) (hw : ws = Cond.codeWith y cc maxL ret hh :: ws')
    (body : ∀ p e s m args below meth c s₁, BodyLoose p l y (headSpec ws rm) cc maxL ret e s m args below meth c s₁ → c.maxLocals = maxL → Pc args s →
      W p l e (headSpec ws rm).room s m args below meth c s.heap [] 0 0 (vx_MQ below Qc XC args s mc ms free) (entryFrame m args maxL)) : vx_Met l y ws rm Pc Qc XC mc ms free := by
  refine MetFree.of_bodyS (code := cc) (maxLocals := maxL) (ret := ret) hy ?_ ?_
  · intro args s m h hn
    obtain ⟨m9, meth, c, hn9, h1, h2, h3, h4, -, h5, h6, -⟩ := Cond.codeWith_spec (atoms_spec (ws := ws) h _ (by rw [hw]; exact List.mem_cons_self))
    cases hn.symm.trans hn9
    exact ⟨meth, c, h1, h2, h3, h4, h5, h6⟩
  · intro p e s m args below meth c s₁ B hml hP _
    have hh0 : s₁.heap = s.heap := by rw [B.state]; rfl
    obtain ⟨t, a1, o, b1, b2, b3⟩ := body p e s m args below meth c s₁ B hml hP s₁ hh0 (Stand.of_body B)
    exact ⟨t, o, a1, b1, b2, b3⟩
/-! ===== END ===== -/
end
section
/-! NAMES, by program out of the Statement and javap's listing -/
def WALL : List Cond := lw_tbl.filter goodWord
theorem WALL_good : WALL.all goodWord = true := List.all_eq_true.mpr (fun _ h => (List.mem_filter.mp h).2)
def isBad : Cond → Bool
  | .castable .. => true
  | .declares _ => true
  | _ => false
def WBAD : List Cond := lw_tbl.filter isBad
theorem WBAD_in : ∀ w ∈ WBAD, w ∈ lw_tbl := fun _ h => (List.mem_filter.mp h).1
theorem WALL_in : ∀ w ∈ WALL, w ∈ lw_tbl := fun _ h => (List.mem_filter.mp h).1
def F_Log : u_T := fun k => match k with
  | 0 => ("SharedLog", "units", "[LSharedLog$Unit;", true)
  | 1 => ("SharedLog", "clients", "[LSharedLog$Client;", true)
  | 2 => ("SharedLog", "sequencer", "LSharedLog$Sequencer;", true)
  | 3 => ("SharedLog", "nothing", "LSharedLog$Entry;", true)
  | 4 => ("SharedLog", "junk", "LSharedLog$Entry;", true)
  | 5 => ("SharedLog", "trimmed", "LSharedLog$Entry;", true)
  | _ => ("SharedLog", "installed", "LSharedLog$Layout;", false)
def ty_Log : Nat → FieldType := fun k => match k with
  | 0 => (.array (.object "SharedLog$Unit"))
  | 1 => (.array (.object "SharedLog$Client"))
  | 2 => (.object "SharedLog$Sequencer")
  | 3 => (.object "SharedLog$Entry")
  | 4 => (.object "SharedLog$Entry")
  | 5 => (.object "SharedLog$Entry")
  | _ => (.object "SharedLog$Layout")
def F_Unit : u_T := fun k => match k with
  | 0 => ("SharedLog$Unit", "cells", "[LSharedLog$Entry;", true)
  | 1 => ("SharedLog$Unit", "isUp", "Z", false)
  | _ => ("SharedLog$Unit", "seal", "I", false)
def ty_Unit : Nat → FieldType := fun k => match k with
  | 0 => (.array (.object "SharedLog$Entry"))
  | 1 => .boolean
  | _ => .int
def F_Entry : u_T := fun k => match k with
  | 0 => ("SharedLog$Entry", "kind", "I", true)
  | 1 => ("SharedLog$Entry", "answer", "I", true)
  | _ => ("SharedLog$Entry", "work", "LSharedLog$Work;", true)
def ty_Entry : Nat → FieldType := fun k => match k with
  | 0 => .int
  | 1 => .int
  | _ => (.object "SharedLog$Work")
def F_Layout : u_T := fun k => match k with
  | 0 => ("SharedLog$Layout", "epoch", "I", true)
  | 1 => ("SharedLog$Layout", "even", "[I", true)
  | _ => ("SharedLog$Layout", "odd", "[I", true)
def ty_Layout : Nat → FieldType := fun k => match k with
  | 0 => .int
  | 1 => (.array .int)
  | _ => (.array .int)
def F_Seq : u_T := fun k => match k with
  | 0 => ("SharedLog$Sequencer", "lost", "Z", false)
  | 1 => ("SharedLog$Sequencer", "epoch", "I", false)
  | _ => ("SharedLog$Sequencer", "next", "I", false)
def ty_Seq : Nat → FieldType := fun k => match k with
  | 0 => .boolean
  | 1 => .int
  | _ => .int
def F_Work : u_T := fun k => match k with
  | 0 => ("SharedLog$Work", "reads", "[Z", true)
  | 1 => ("SharedLog$Work", "readAges", "[I", true)
  | 2 => ("SharedLog$Work", "puts", "[Z", true)
  | _ => ("SharedLog$Work", "values", "[I", true)
def ty_Work : Nat → FieldType := fun k => match k with
  | 0 => (.array .boolean)
  | 1 => (.array .int)
  | 2 => (.array .boolean)
  | _ => (.array .int)
def F_Client : u_T := fun k => match k with
  | 0 => ("SharedLog$Client", "values", "[I", true)
  | 1 => ("SharedLog$Client", "ages", "[I", true)
  | 2 => ("SharedLog$Client", "transaction", "LSharedLog$Work;", true)
  | 3 => ("SharedLog$Client", "inTransaction", "Z", false)
  | 4 => ("SharedLog$Client", "position", "I", false)
  | _ => ("SharedLog$Client", "known", "LSharedLog$Layout;", false)
def ty_Client : Nat → FieldType := fun k => match k with
  | 0 => (.array .int)
  | 1 => (.array .int)
  | 2 => (.object "SharedLog$Work")
  | 3 => .boolean
  | 4 => .int
  | _ => (.object "SharedLog$Layout")
def F_Model : u_T := fun k => match k with
  | 0 => ("SharedLogModel", "failed", "I", false)
  | 1 => ("SharedLogModel", "kind", "[I", true)
  | 2 => ("SharedLogModel", "register", "[I", true)
  | 3 => ("SharedLogModel", "value", "[I", true)
  | 4 => ("SharedLogModel", "reads", "[I", true)
  | 5 => ("SharedLogModel", "puts", "[I", true)
  | 6 => ("SharedLogModel", "readAge", "[I", true)
  | 7 => ("SharedLogModel", "putValue", "[I", true)
  | 8 => ("SharedLogModel", "down", "[Z", true)
  | 9 => ("SharedLogModel", "seal", "[I", true)
  | 10 => ("SharedLogModel", "epoch", "I", false)
  | 11 => ("SharedLogModel", "row", "[I", true)
  | 12 => ("SharedLogModel", "sequencer", "I", false)
  | 13 => ("SharedLogModel", "lost", "Z", false)
  | 14 => ("SharedLogModel", "next", "I", false)
  | 15 => ("SharedLogModel", "knows", "[I", true)
  | 16 => ("SharedLogModel", "knownRow", "[I", true)
  | 17 => ("SharedLogModel", "position", "[I", true)
  | 18 => ("SharedLogModel", "now", "[I", true)
  | 19 => ("SharedLogModel", "age", "[I", true)
  | 20 => ("SharedLogModel", "open", "[Z", true)
  | 21 => ("SharedLogModel", "seen", "[I", true)
  | 22 => ("SharedLogModel", "seenAge", "[I", true)
  | 23 => ("SharedLogModel", "given", "[I", true)
  | 24 => ("SharedLogModel", "givenValue", "[I", true)
  | _ => ("SharedLogModel", "took", "Z", false)
def ty_Model : Nat → FieldType := fun k => match k with
  | 0 => .int
  | 1 => (.array .int)
  | 2 => (.array .int)
  | 3 => (.array .int)
  | 4 => (.array .int)
  | 5 => (.array .int)
  | 6 => (.array .int)
  | 7 => (.array .int)
  | 8 => (.array .boolean)
  | 9 => (.array .int)
  | 10 => .int
  | 11 => (.array .int)
  | 12 => .int
  | 13 => .boolean
  | 14 => .int
  | 15 => (.array .int)
  | 16 => (.array .int)
  | 17 => (.array .int)
  | 18 => (.array .int)
  | 19 => (.array .int)
  | 20 => (.array .boolean)
  | 21 => (.array .int)
  | 22 => (.array .int)
  | 23 => (.array .int)
  | 24 => (.array .int)
  | _ => .boolean
abbrev classes : List vw_C := [("SharedLog", F_Log, 7), ("SharedLog$Unit", F_Unit, 3), ("SharedLog$Entry", F_Entry, 3), ("SharedLog$Layout", F_Layout, 3), ("SharedLog$Sequencer", F_Seq, 3), ("SharedLog$Work", F_Work, 4), ("SharedLog$Client", F_Client, 6), ("SharedLogModel", F_Model, 26)]
abbrev TYS (cT : Nat → ClassId) : List (ClassId × FieldType) := [(cT 0, .int), (cT 1, .boolean), (cT 2, .long), (cT 3, .object "SharedLog$Unit"), (cT 4, .object "SharedLog$Client"), (cT 5, .object "SharedLog$Entry")]
def AOS : List String := ["SharedLog$Unit", "SharedLog$Client", "SharedLog$Entry"]
def STRS : List (String × Nat × String) := [("SharedLog", 226, "a number out of range"), ("SharedLog", 236, "no sequencer of this epoch"), ("SharedLog", 240, "the log is full"), ("SharedLog", 243, "a unit that is not up, or sealed"), ("SharedLog", 245, "written or trimmed already"), ("SharedLog", 247, "nothing there"), ("SharedLog", 251, "trimmed"), ("SharedLog", 96, "junk"), ("SharedLog", 232, "no row of units"), ("SharedLog", 264, "an old layout"), ("SharedLog", 269, "a unit of the row is not up"), ("SharedLog", 271, "no unit of a chain is up"), ("SharedLog", 184, "a transaction already"), ("SharedLog", 234, "no transaction")]
def NSTS : List (String × Nat × MethodName × String) := [("SharedLog", 23, ({ cls := "SharedLog$Sequencer", name := "<init>", desc := "()V" } : Jvm.MethodName), "SharedLog"), ("SharedLog", 30, ({ cls := "SharedLog$Work", name := "<init>", desc := "()V" } : Jvm.MethodName), "SharedLog"), ("SharedLog$Client", 20, ({ cls := "SharedLog$Work", name := "<init>", desc := "()V" } : Jvm.MethodName), "SharedLog")]
def NCS : List (String × String) := [("SharedLog", "java/lang/IllegalArgumentException"), ("SharedLog$Sequencer", "java/lang/IllegalArgumentException"), ("SharedLog$Work", "java/lang/IllegalArgumentException"), ("SharedLog$Entry", "java/lang/IllegalArgumentException"), ("SharedLog$Layout", "java/lang/IllegalArgumentException"), ("SharedLog$Unit", "java/lang/IllegalArgumentException"), ("SharedLog$Client", "java/lang/IllegalArgumentException"), ("SharedLogModel", "java/lang/IllegalArgumentException"), ("java/lang/IllegalStateException", "java/lang/IllegalArgumentException"), ("java/lang/IndexOutOfBoundsException", "java/lang/IllegalArgumentException"), ("java/lang/UnsupportedOperationException", "java/lang/IllegalArgumentException"), ("java/util/NoSuchElementException", "java/lang/IllegalArgumentException"), ("SharedLog", "java/lang/IllegalStateException"), ("SharedLog$Sequencer", "java/lang/IllegalStateException"), ("SharedLog$Work", "java/lang/IllegalStateException"), ("SharedLog$Entry", "java/lang/IllegalStateException"), ("SharedLog$Layout", "java/lang/IllegalStateException"), ("SharedLog$Unit", "java/lang/IllegalStateException"), ("SharedLog$Client", "java/lang/IllegalStateException"), ("SharedLogModel", "java/lang/IllegalStateException"), ("java/lang/IllegalArgumentException", "java/lang/IllegalStateException"), ("java/lang/IndexOutOfBoundsException", "java/lang/IllegalStateException"), ("java/lang/UnsupportedOperationException", "java/lang/IllegalStateException"), ("java/util/NoSuchElementException", "java/lang/IllegalStateException"), ("SharedLog", "java/lang/UnsupportedOperationException"), ("SharedLog$Sequencer", "java/lang/UnsupportedOperationException"), ("SharedLog$Work", "java/lang/UnsupportedOperationException"), ("SharedLog$Entry", "java/lang/UnsupportedOperationException"), ("SharedLog$Layout", "java/lang/UnsupportedOperationException"), ("SharedLog$Unit", "java/lang/UnsupportedOperationException"), ("SharedLog$Client", "java/lang/UnsupportedOperationException"), ("SharedLogModel", "java/lang/UnsupportedOperationException"), ("java/lang/IllegalArgumentException", "java/lang/UnsupportedOperationException"), ("java/lang/IllegalStateException", "java/lang/UnsupportedOperationException"), ("java/lang/IndexOutOfBoundsException", "java/lang/UnsupportedOperationException"), ("java/util/NoSuchElementException", "java/lang/UnsupportedOperationException"), ("SharedLog", "java/lang/IndexOutOfBoundsException"), ("SharedLog$Sequencer", "java/lang/IndexOutOfBoundsException"), ("SharedLog$Work", "java/lang/IndexOutOfBoundsException"), ("SharedLog$Entry", "java/lang/IndexOutOfBoundsException"), ("SharedLog$Layout", "java/lang/IndexOutOfBoundsException"), ("SharedLog$Unit", "java/lang/IndexOutOfBoundsException"), ("SharedLog$Client", "java/lang/IndexOutOfBoundsException"), ("SharedLogModel", "java/lang/IndexOutOfBoundsException"), ("java/lang/IllegalArgumentException", "java/lang/IndexOutOfBoundsException"), ("java/lang/IllegalStateException", "java/lang/IndexOutOfBoundsException"), ("java/lang/UnsupportedOperationException", "java/lang/IndexOutOfBoundsException"), ("java/util/NoSuchElementException", "java/lang/IndexOutOfBoundsException"), ("SharedLog", "java/util/NoSuchElementException"), ("SharedLog$Sequencer", "java/util/NoSuchElementException"), ("SharedLog$Work", "java/util/NoSuchElementException"), ("SharedLog$Entry", "java/util/NoSuchElementException"), ("SharedLog$Layout", "java/util/NoSuchElementException"), ("SharedLog$Unit", "java/util/NoSuchElementException"), ("SharedLog$Client", "java/util/NoSuchElementException"), ("SharedLogModel", "java/util/NoSuchElementException"), ("java/lang/IllegalArgumentException", "java/util/NoSuchElementException"), ("java/lang/IllegalStateException", "java/util/NoSuchElementException"), ("java/lang/IndexOutOfBoundsException", "java/util/NoSuchElementException"), ("java/lang/UnsupportedOperationException", "java/util/NoSuchElementException")]
theorem oi_Log : Cond.methodLink "SharedLog" 1 objectInit ∈ WALL := List.mem_filter.mpr ⟨List.mem_append_right _ (List.mem_of_getElem? (i := 22) (by decide +kernel)), by decide +kernel⟩
theorem oi_Model : Cond.methodLink "SharedLogModel" 1 objectInit ∈ WALL := List.mem_filter.mpr ⟨List.mem_append_right _ (List.mem_of_getElem? (i := 594) (by decide +kernel)), by decide +kernel⟩
theorem oi_Client : Cond.methodLink "SharedLog$Client" 3 objectInit ∈ WALL := List.mem_filter.mpr ⟨List.mem_append_right _ (List.mem_of_getElem? (i := 139) (by decide +kernel)), by decide +kernel⟩
theorem oi_Entry : Cond.methodLink "SharedLog$Entry" 1 objectInit ∈ WALL := List.mem_filter.mpr ⟨List.mem_append_right _ (List.mem_of_getElem? (i := 80) (by decide +kernel)), by decide +kernel⟩
theorem oi_Layout : Cond.methodLink "SharedLog$Layout" 3 objectInit ∈ WALL := List.mem_filter.mpr ⟨List.mem_append_right _ (List.mem_of_getElem? (i := 103) (by decide +kernel)), by decide +kernel⟩
theorem oi_Seq : Cond.methodLink "SharedLog$Sequencer" 3 objectInit ∈ WALL := List.mem_filter.mpr ⟨List.mem_append_right _ (List.mem_of_getElem? (i := 34) (by decide +kernel)), by decide +kernel⟩
theorem oi_Unit : Cond.methodLink "SharedLog$Unit" 3 objectInit ∈ WALL := List.mem_filter.mpr ⟨List.mem_append_right _ (List.mem_of_getElem? (i := 119) (by decide +kernel)), by decide +kernel⟩
theorem oi_Work : Cond.methodLink "SharedLog$Work" 3 objectInit ∈ WALL := List.mem_filter.mpr ⟨List.mem_append_right _ (List.mem_of_getElem? (i := 53) (by decide +kernel)), by decide +kernel⟩
theorem oi_i : Cond.instanceMethod objectInit ∈ WALL := List.mem_filter.mpr ⟨List.mem_append_right _ (List.mem_of_getElem? (i := 23) (by decide +kernel)), by decide +kernel⟩
theorem oi_c : Cond.code objectInit ⟨#[0xb1]⟩ 1 none ∈ WALL := List.mem_filter.mpr ⟨List.mem_append_right _ (List.mem_of_getElem? (i := 24) (by decide +kernel)), by decide +kernel⟩
theorem ac_I : Cond.arrayClass .int ∈ WALL := List.mem_filter.mpr ⟨List.mem_append_right _ (List.mem_of_getElem? (i := 74) (by decide +kernel)), by decide +kernel⟩
theorem ac_Z : Cond.arrayClass .boolean ∈ WALL := List.mem_filter.mpr ⟨List.mem_append_right _ (List.mem_of_getElem? (i := 73) (by decide +kernel)), by decide +kernel⟩
theorem ac_J : Cond.arrayClass .long ∈ WALL := List.mem_filter.mpr ⟨List.mem_append_right _ (List.mem_of_getElem? (i := 830) (by decide +kernel)), by decide +kernel⟩
theorem t_0 : (Jvm.Cond.initialized "SharedLogLaw") ∈ WALL := List.mem_filter.mpr ⟨List.mem_append_right _ (List.mem_of_getElem? (i := 0) (by decide +kernel)), by decide +kernel⟩
theorem t_1 : (Jvm.Cond.initialized "SharedLog") ∈ WALL := List.mem_filter.mpr ⟨List.mem_append_right _ (List.mem_of_getElem? (i := 1) (by decide +kernel)), by decide +kernel⟩
theorem t_2 : (Jvm.Cond.initialized "SharedLog$Sequencer") ∈ WALL := List.mem_filter.mpr ⟨List.mem_append_right _ (List.mem_of_getElem? (i := 2) (by decide +kernel)), by decide +kernel⟩
theorem t_3 : (Jvm.Cond.initialized "SharedLog$Work") ∈ WALL := List.mem_filter.mpr ⟨List.mem_append_right _ (List.mem_of_getElem? (i := 3) (by decide +kernel)), by decide +kernel⟩
theorem t_4 : (Jvm.Cond.initialized "SharedLog$Entry") ∈ WALL := List.mem_filter.mpr ⟨List.mem_append_right _ (List.mem_of_getElem? (i := 4) (by decide +kernel)), by decide +kernel⟩
theorem t_5 : (Jvm.Cond.initialized "SharedLog$Layout") ∈ WALL := List.mem_filter.mpr ⟨List.mem_append_right _ (List.mem_of_getElem? (i := 5) (by decide +kernel)), by decide +kernel⟩
theorem t_6 : (Jvm.Cond.initialized "SharedLog$Unit") ∈ WALL := List.mem_filter.mpr ⟨List.mem_append_right _ (List.mem_of_getElem? (i := 6) (by decide +kernel)), by decide +kernel⟩
theorem t_7 : (Jvm.Cond.initialized "SharedLog$Client") ∈ WALL := List.mem_filter.mpr ⟨List.mem_append_right _ (List.mem_of_getElem? (i := 7) (by decide +kernel)), by decide +kernel⟩
theorem t_8 : (Jvm.Cond.initialized "SharedLogModel") ∈ WALL := List.mem_filter.mpr ⟨List.mem_append_right _ (List.mem_of_getElem? (i := 8) (by decide +kernel)), by decide +kernel⟩
theorem t_12 : (Jvm.Cond.initialized "java/lang/IllegalArgumentException") ∈ WALL := List.mem_filter.mpr ⟨List.mem_append_right _ (List.mem_of_getElem? (i := 12) (by decide +kernel)), by decide +kernel⟩
theorem t_13 : (Jvm.Cond.initialized "java/lang/IllegalStateException") ∈ WALL := List.mem_filter.mpr ⟨List.mem_append_right _ (List.mem_of_getElem? (i := 13) (by decide +kernel)), by decide +kernel⟩
theorem t_14 : (Jvm.Cond.initialized "java/lang/IndexOutOfBoundsException") ∈ WALL := List.mem_filter.mpr ⟨List.mem_append_right _ (List.mem_of_getElem? (i := 14) (by decide +kernel)), by decide +kernel⟩
theorem t_15 : (Jvm.Cond.initialized "java/lang/UnsupportedOperationException") ∈ WALL := List.mem_filter.mpr ⟨List.mem_append_right _ (List.mem_of_getElem? (i := 15) (by decide +kernel)), by decide +kernel⟩
theorem t_17 : (Jvm.Cond.classLink "SharedLogLaw" (8 : Nat) "SharedLog") ∈ WALL := List.mem_filter.mpr ⟨List.mem_append_right _ (List.mem_of_getElem? (i := 17) (by decide +kernel)), by decide +kernel⟩
theorem t_18 : (Jvm.Cond.instantiable "SharedLog" (7 : Nat)) ∈ WALL := List.mem_filter.mpr ⟨List.mem_append_right _ (List.mem_of_getElem? (i := 18) (by decide +kernel)), by decide +kernel⟩
theorem t_19 : (Jvm.Cond.methodLink "SharedLogLaw" (76 : Nat) ({ cls := "SharedLog", name := "<init>", desc := "()V" } : Jvm.MethodName)) ∈ WALL := List.mem_filter.mpr ⟨List.mem_append_right _ (List.mem_of_getElem? (i := 19) (by decide +kernel)), by decide +kernel⟩
theorem t_20 : (Jvm.Cond.instanceMethod ({ cls := "SharedLog", name := "<init>", desc := "()V" } : Jvm.MethodName)) ∈ WALL := List.mem_filter.mpr ⟨List.mem_append_right _ (List.mem_of_getElem? (i := 20) (by decide +kernel)), by decide +kernel⟩
theorem t_21 : (Jvm.Cond.code ({ cls := "SharedLog", name := "<init>", desc := "()V" } : Jvm.MethodName) prog_1_method_1_code (3 : Nat) (Option.none : Option Jvm.ClassFile.FieldType)) ∈ WALL := List.mem_filter.mpr ⟨List.mem_append_right _ (List.mem_of_getElem? (i := 21) (by decide +kernel)), by decide +kernel⟩
theorem t_25 : (Jvm.Cond.classLink "SharedLog" (9 : Nat) "SharedLog$Unit") ∈ WALL := List.mem_filter.mpr ⟨List.mem_append_right _ (List.mem_of_getElem? (i := 25) (by decide +kernel)), by decide +kernel⟩
theorem t_27 : (Jvm.Cond.classLink "SharedLog" (15 : Nat) "SharedLog$Client") ∈ WALL := List.mem_filter.mpr ⟨List.mem_append_right _ (List.mem_of_getElem? (i := 27) (by decide +kernel)), by decide +kernel⟩
theorem t_29 : (Jvm.Cond.classLink "SharedLog" (21 : Nat) "SharedLog$Sequencer") ∈ WALL := List.mem_filter.mpr ⟨List.mem_append_right _ (List.mem_of_getElem? (i := 29) (by decide +kernel)), by decide +kernel⟩
theorem t_30 : (Jvm.Cond.instantiable "SharedLog$Sequencer" (3 : Nat)) ∈ WALL := List.mem_filter.mpr ⟨List.mem_append_right _ (List.mem_of_getElem? (i := 30) (by decide +kernel)), by decide +kernel⟩
theorem t_32 : (Jvm.Cond.instanceMethod ({ cls := "SharedLog$Sequencer", name := "<init>", desc := "()V" } : Jvm.MethodName)) ∈ WALL := List.mem_filter.mpr ⟨List.mem_append_right _ (List.mem_of_getElem? (i := 32) (by decide +kernel)), by decide +kernel⟩
theorem t_33 : (Jvm.Cond.code ({ cls := "SharedLog$Sequencer", name := "<init>", desc := "()V" } : Jvm.MethodName) prog_5_method_1_code (1 : Nat) (Option.none : Option Jvm.ClassFile.FieldType)) ∈ WALL := List.mem_filter.mpr ⟨List.mem_append_right _ (List.mem_of_getElem? (i := 33) (by decide +kernel)), by decide +kernel⟩
theorem t_35 : (Jvm.Cond.fieldLink "SharedLog$Sequencer" (9 : Nat) "SharedLog$Sequencer" "lost" "Z") ∈ WALL := List.mem_filter.mpr ⟨List.mem_append_right _ (List.mem_of_getElem? (i := 35) (by decide +kernel)), by decide +kernel⟩
theorem t_36 : (Jvm.Cond.fieldLink "SharedLog" (161 : Nat) "SharedLog$Sequencer" "lost" "Z") ∈ WALL := List.mem_filter.mpr ⟨List.mem_append_right _ (List.mem_of_getElem? (i := 36) (by decide +kernel)), by decide +kernel⟩
theorem t_37 : (Jvm.Cond.fieldLink "SharedLog$Sequencer" (15 : Nat) "SharedLog$Sequencer" "epoch" "I") ∈ WALL := List.mem_filter.mpr ⟨List.mem_append_right _ (List.mem_of_getElem? (i := 37) (by decide +kernel)), by decide +kernel⟩
theorem t_38 : (Jvm.Cond.fieldLink "SharedLog" (223 : Nat) "SharedLog$Sequencer" "epoch" "I") ∈ WALL := List.mem_filter.mpr ⟨List.mem_append_right _ (List.mem_of_getElem? (i := 38) (by decide +kernel)), by decide +kernel⟩
theorem t_39 : (Jvm.Cond.fieldLink "SharedLog$Sequencer" (19 : Nat) "SharedLog$Sequencer" "next" "I") ∈ WALL := List.mem_filter.mpr ⟨List.mem_append_right _ (List.mem_of_getElem? (i := 39) (by decide +kernel)), by decide +kernel⟩
theorem t_40 : (Jvm.Cond.fieldLink "SharedLog" (152 : Nat) "SharedLog$Sequencer" "next" "I") ∈ WALL := List.mem_filter.mpr ⟨List.mem_append_right _ (List.mem_of_getElem? (i := 40) (by decide +kernel)), by decide +kernel⟩
theorem t_48 : (Jvm.Cond.classLink "SharedLog" (28 : Nat) "SharedLog$Work") ∈ WALL := List.mem_filter.mpr ⟨List.mem_append_right _ (List.mem_of_getElem? (i := 48) (by decide +kernel)), by decide +kernel⟩
theorem t_49 : (Jvm.Cond.instantiable "SharedLog$Work" (4 : Nat)) ∈ WALL := List.mem_filter.mpr ⟨List.mem_append_right _ (List.mem_of_getElem? (i := 49) (by decide +kernel)), by decide +kernel⟩
theorem t_51 : (Jvm.Cond.instanceMethod ({ cls := "SharedLog$Work", name := "<init>", desc := "()V" } : Jvm.MethodName)) ∈ WALL := List.mem_filter.mpr ⟨List.mem_append_right _ (List.mem_of_getElem? (i := 51) (by decide +kernel)), by decide +kernel⟩
theorem t_52 : (Jvm.Cond.code ({ cls := "SharedLog$Work", name := "<init>", desc := "()V" } : Jvm.MethodName) prog_7_method_1_code (1 : Nat) (Option.none : Option Jvm.ClassFile.FieldType)) ∈ WALL := List.mem_filter.mpr ⟨List.mem_append_right _ (List.mem_of_getElem? (i := 52) (by decide +kernel)), by decide +kernel⟩
theorem t_54 : (Jvm.Cond.fieldLink "SharedLog$Work" (9 : Nat) "SharedLog$Work" "reads" "[Z") ∈ WALL := List.mem_filter.mpr ⟨List.mem_append_right _ (List.mem_of_getElem? (i := 54) (by decide +kernel)), by decide +kernel⟩
theorem t_55 : (Jvm.Cond.fieldLink "SharedLog$Client" (37 : Nat) "SharedLog$Work" "reads" "[Z") ∈ WALL := List.mem_filter.mpr ⟨List.mem_append_right _ (List.mem_of_getElem? (i := 55) (by decide +kernel)), by decide +kernel⟩
theorem t_56 : (Jvm.Cond.fieldLink "SharedLog$Work" (15 : Nat) "SharedLog$Work" "readAges" "[I") ∈ WALL := List.mem_filter.mpr ⟨List.mem_append_right _ (List.mem_of_getElem? (i := 56) (by decide +kernel)), by decide +kernel⟩
theorem t_57 : (Jvm.Cond.fieldLink "SharedLog$Client" (41 : Nat) "SharedLog$Work" "readAges" "[I") ∈ WALL := List.mem_filter.mpr ⟨List.mem_append_right _ (List.mem_of_getElem? (i := 57) (by decide +kernel)), by decide +kernel⟩
theorem t_58 : (Jvm.Cond.fieldLink "SharedLog$Work" (19 : Nat) "SharedLog$Work" "puts" "[Z") ∈ WALL := List.mem_filter.mpr ⟨List.mem_append_right _ (List.mem_of_getElem? (i := 58) (by decide +kernel)), by decide +kernel⟩
theorem t_59 : (Jvm.Cond.fieldLink "SharedLog$Client" (48 : Nat) "SharedLog$Work" "puts" "[Z") ∈ WALL := List.mem_filter.mpr ⟨List.mem_append_right _ (List.mem_of_getElem? (i := 59) (by decide +kernel)), by decide +kernel⟩
theorem t_60 : (Jvm.Cond.fieldLink "SharedLog" (197 : Nat) "SharedLog$Work" "puts" "[Z") ∈ WALL := List.mem_filter.mpr ⟨List.mem_append_right _ (List.mem_of_getElem? (i := 60) (by decide +kernel)), by decide +kernel⟩
theorem t_61 : (Jvm.Cond.fieldLink "SharedLog$Work" (22 : Nat) "SharedLog$Work" "values" "[I") ∈ WALL := List.mem_filter.mpr ⟨List.mem_append_right _ (List.mem_of_getElem? (i := 61) (by decide +kernel)), by decide +kernel⟩
theorem t_62 : (Jvm.Cond.fieldLink "SharedLog$Client" (51 : Nat) "SharedLog$Work" "values" "[I") ∈ WALL := List.mem_filter.mpr ⟨List.mem_append_right _ (List.mem_of_getElem? (i := 62) (by decide +kernel)), by decide +kernel⟩
theorem t_63 : (Jvm.Cond.fieldLink "SharedLog" (201 : Nat) "SharedLog$Work" "values" "[I") ∈ WALL := List.mem_filter.mpr ⟨List.mem_append_right _ (List.mem_of_getElem? (i := 63) (by decide +kernel)), by decide +kernel⟩
theorem t_75 : (Jvm.Cond.classLink "SharedLog" (31 : Nat) "SharedLog$Entry") ∈ WALL := List.mem_filter.mpr ⟨List.mem_append_right _ (List.mem_of_getElem? (i := 75) (by decide +kernel)), by decide +kernel⟩
theorem t_76 : (Jvm.Cond.instantiable "SharedLog$Entry" (3 : Nat)) ∈ WALL := List.mem_filter.mpr ⟨List.mem_append_right _ (List.mem_of_getElem? (i := 76) (by decide +kernel)), by decide +kernel⟩
theorem t_77 : (Jvm.Cond.methodLink "SharedLog" (33 : Nat) ({ cls := "SharedLog$Entry", name := "<init>", desc := "(IILSharedLog$Work;)V" } : Jvm.MethodName)) ∈ WALL := List.mem_filter.mpr ⟨List.mem_append_right _ (List.mem_of_getElem? (i := 77) (by decide +kernel)), by decide +kernel⟩
theorem t_78 : (Jvm.Cond.instanceMethod ({ cls := "SharedLog$Entry", name := "<init>", desc := "(IILSharedLog$Work;)V" } : Jvm.MethodName)) ∈ WALL := List.mem_filter.mpr ⟨List.mem_append_right _ (List.mem_of_getElem? (i := 78) (by decide +kernel)), by decide +kernel⟩
theorem t_79 : (Jvm.Cond.code ({ cls := "SharedLog$Entry", name := "<init>", desc := "(IILSharedLog$Work;)V" } : Jvm.MethodName) prog_3_method_1_code (4 : Nat) (Option.none : Option Jvm.ClassFile.FieldType)) ∈ WALL := List.mem_filter.mpr ⟨List.mem_append_right _ (List.mem_of_getElem? (i := 79) (by decide +kernel)), by decide +kernel⟩
theorem t_81 : (Jvm.Cond.fieldLink "SharedLog$Entry" (7 : Nat) "SharedLog$Entry" "kind" "I") ∈ WALL := List.mem_filter.mpr ⟨List.mem_append_right _ (List.mem_of_getElem? (i := 81) (by decide +kernel)), by decide +kernel⟩
theorem t_82 : (Jvm.Cond.fieldLink "SharedLog$Unit" (25 : Nat) "SharedLog$Entry" "kind" "I") ∈ WALL := List.mem_filter.mpr ⟨List.mem_append_right _ (List.mem_of_getElem? (i := 82) (by decide +kernel)), by decide +kernel⟩
theorem t_83 : (Jvm.Cond.fieldLink "SharedLog" (90 : Nat) "SharedLog$Entry" "kind" "I") ∈ WALL := List.mem_filter.mpr ⟨List.mem_append_right _ (List.mem_of_getElem? (i := 83) (by decide +kernel)), by decide +kernel⟩
theorem t_84 : (Jvm.Cond.fieldLink "SharedLog$Entry" (13 : Nat) "SharedLog$Entry" "answer" "I") ∈ WALL := List.mem_filter.mpr ⟨List.mem_append_right _ (List.mem_of_getElem? (i := 84) (by decide +kernel)), by decide +kernel⟩
theorem t_85 : (Jvm.Cond.fieldLink "SharedLog" (100 : Nat) "SharedLog$Entry" "answer" "I") ∈ WALL := List.mem_filter.mpr ⟨List.mem_append_right _ (List.mem_of_getElem? (i := 85) (by decide +kernel)), by decide +kernel⟩
theorem t_86 : (Jvm.Cond.fieldLink "SharedLog$Entry" (16 : Nat) "SharedLog$Entry" "work" "LSharedLog$Work;") ∈ WALL := List.mem_filter.mpr ⟨List.mem_append_right _ (List.mem_of_getElem? (i := 86) (by decide +kernel)), by decide +kernel⟩
theorem t_87 : (Jvm.Cond.fieldLink "SharedLog" (253 : Nat) "SharedLog$Entry" "work" "LSharedLog$Work;") ∈ WALL := List.mem_filter.mpr ⟨List.mem_append_right _ (List.mem_of_getElem? (i := 87) (by decide +kernel)), by decide +kernel⟩
theorem t_95 : (Jvm.Cond.classLink "SharedLog" (46 : Nat) "SharedLog$Layout") ∈ WALL := List.mem_filter.mpr ⟨List.mem_append_right _ (List.mem_of_getElem? (i := 95) (by decide +kernel)), by decide +kernel⟩
theorem t_96 : (Jvm.Cond.instantiable "SharedLog$Layout" (3 : Nat)) ∈ WALL := List.mem_filter.mpr ⟨List.mem_append_right _ (List.mem_of_getElem? (i := 96) (by decide +kernel)), by decide +kernel⟩
theorem t_97 : (Jvm.Cond.methodLink "SharedLog" (48 : Nat) ({ cls := "SharedLog", name := "rowOf", desc := "(I)[I" } : Jvm.MethodName)) ∈ WALL := List.mem_filter.mpr ⟨List.mem_append_right _ (List.mem_of_getElem? (i := 97) (by decide +kernel)), by decide +kernel⟩
theorem t_98 : (Jvm.Cond.static ({ cls := "SharedLog", name := "rowOf", desc := "(I)[I" } : Jvm.MethodName)) ∈ WALL := List.mem_filter.mpr ⟨List.mem_append_right _ (List.mem_of_getElem? (i := 98) (by decide +kernel)), by decide +kernel⟩
theorem t_99 : (Jvm.Cond.code ({ cls := "SharedLog", name := "rowOf", desc := "(I)[I" } : Jvm.MethodName) prog_1_method_23_code (5 : Nat) (Option.some (Jvm.ClassFile.FieldType.array Jvm.ClassFile.FieldType.int))) ∈ WALL := List.mem_filter.mpr ⟨List.mem_append_right _ (List.mem_of_getElem? (i := 99) (by decide +kernel)), by decide +kernel⟩
theorem t_100 : (Jvm.Cond.methodLink "SharedLog" (52 : Nat) ({ cls := "SharedLog$Layout", name := "<init>", desc := "(I[I[I)V" } : Jvm.MethodName)) ∈ WALL := List.mem_filter.mpr ⟨List.mem_append_right _ (List.mem_of_getElem? (i := 100) (by decide +kernel)), by decide +kernel⟩
theorem t_101 : (Jvm.Cond.instanceMethod ({ cls := "SharedLog$Layout", name := "<init>", desc := "(I[I[I)V" } : Jvm.MethodName)) ∈ WALL := List.mem_filter.mpr ⟨List.mem_append_right _ (List.mem_of_getElem? (i := 101) (by decide +kernel)), by decide +kernel⟩
theorem t_102 : (Jvm.Cond.code ({ cls := "SharedLog$Layout", name := "<init>", desc := "(I[I[I)V" } : Jvm.MethodName) prog_4_method_1_code (4 : Nat) (Option.none : Option Jvm.ClassFile.FieldType)) ∈ WALL := List.mem_filter.mpr ⟨List.mem_append_right _ (List.mem_of_getElem? (i := 102) (by decide +kernel)), by decide +kernel⟩
theorem t_104 : (Jvm.Cond.fieldLink "SharedLog$Layout" (9 : Nat) "SharedLog$Layout" "epoch" "I") ∈ WALL := List.mem_filter.mpr ⟨List.mem_append_right _ (List.mem_of_getElem? (i := 104) (by decide +kernel)), by decide +kernel⟩
theorem t_105 : (Jvm.Cond.fieldLink "SharedLog" (119 : Nat) "SharedLog$Layout" "epoch" "I") ∈ WALL := List.mem_filter.mpr ⟨List.mem_append_right _ (List.mem_of_getElem? (i := 105) (by decide +kernel)), by decide +kernel⟩
theorem t_106 : (Jvm.Cond.fieldLink "SharedLog$Layout" (15 : Nat) "SharedLog$Layout" "even" "[I") ∈ WALL := List.mem_filter.mpr ⟨List.mem_append_right _ (List.mem_of_getElem? (i := 106) (by decide +kernel)), by decide +kernel⟩
theorem t_107 : (Jvm.Cond.fieldLink "SharedLog$Layout" (19 : Nat) "SharedLog$Layout" "odd" "[I") ∈ WALL := List.mem_filter.mpr ⟨List.mem_append_right _ (List.mem_of_getElem? (i := 107) (by decide +kernel)), by decide +kernel⟩
theorem t_115 : (Jvm.Cond.instantiable "SharedLog$Unit" (3 : Nat)) ∈ WALL := List.mem_filter.mpr ⟨List.mem_append_right _ (List.mem_of_getElem? (i := 115) (by decide +kernel)), by decide +kernel⟩
theorem t_116 : (Jvm.Cond.methodLink "SharedLog" (59 : Nat) ({ cls := "SharedLog$Unit", name := "<init>", desc := "(LSharedLog$Entry;)V" } : Jvm.MethodName)) ∈ WALL := List.mem_filter.mpr ⟨List.mem_append_right _ (List.mem_of_getElem? (i := 116) (by decide +kernel)), by decide +kernel⟩
theorem t_117 : (Jvm.Cond.instanceMethod ({ cls := "SharedLog$Unit", name := "<init>", desc := "(LSharedLog$Entry;)V" } : Jvm.MethodName)) ∈ WALL := List.mem_filter.mpr ⟨List.mem_append_right _ (List.mem_of_getElem? (i := 117) (by decide +kernel)), by decide +kernel⟩
theorem t_118 : (Jvm.Cond.code ({ cls := "SharedLog$Unit", name := "<init>", desc := "(LSharedLog$Entry;)V" } : Jvm.MethodName) prog_6_method_1_code (3 : Nat) (Option.none : Option Jvm.ClassFile.FieldType)) ∈ WALL := List.mem_filter.mpr ⟨List.mem_append_right _ (List.mem_of_getElem? (i := 118) (by decide +kernel)), by decide +kernel⟩
theorem t_122 : (Jvm.Cond.fieldLink "SharedLog$Unit" (11 : Nat) "SharedLog$Unit" "cells" "[LSharedLog$Entry;") ∈ WALL := List.mem_filter.mpr ⟨List.mem_append_right _ (List.mem_of_getElem? (i := 122) (by decide +kernel)), by decide +kernel⟩
theorem t_123 : (Jvm.Cond.fieldLink "SharedLog" (111 : Nat) "SharedLog$Unit" "cells" "[LSharedLog$Entry;") ∈ WALL := List.mem_filter.mpr ⟨List.mem_append_right _ (List.mem_of_getElem? (i := 123) (by decide +kernel)), by decide +kernel⟩
theorem t_124 : (Jvm.Cond.fieldLink "SharedLog$Unit" (17 : Nat) "SharedLog$Unit" "isUp" "Z") ∈ WALL := List.mem_filter.mpr ⟨List.mem_append_right _ (List.mem_of_getElem? (i := 124) (by decide +kernel)), by decide +kernel⟩
theorem t_125 : (Jvm.Cond.fieldLink "SharedLog" (154 : Nat) "SharedLog$Unit" "isUp" "Z") ∈ WALL := List.mem_filter.mpr ⟨List.mem_append_right _ (List.mem_of_getElem? (i := 125) (by decide +kernel)), by decide +kernel⟩
theorem t_126 : (Jvm.Cond.fieldLink "SharedLog$Unit" (21 : Nat) "SharedLog$Unit" "seal" "I") ∈ WALL := List.mem_filter.mpr ⟨List.mem_append_right _ (List.mem_of_getElem? (i := 126) (by decide +kernel)), by decide +kernel⟩
theorem t_127 : (Jvm.Cond.fieldLink "SharedLog" (158 : Nat) "SharedLog$Unit" "seal" "I") ∈ WALL := List.mem_filter.mpr ⟨List.mem_append_right _ (List.mem_of_getElem? (i := 127) (by decide +kernel)), by decide +kernel⟩
theorem t_135 : (Jvm.Cond.instantiable "SharedLog$Client" (6 : Nat)) ∈ WALL := List.mem_filter.mpr ⟨List.mem_append_right _ (List.mem_of_getElem? (i := 135) (by decide +kernel)), by decide +kernel⟩
theorem t_136 : (Jvm.Cond.methodLink "SharedLog" (62 : Nat) ({ cls := "SharedLog$Client", name := "<init>", desc := "(LSharedLog$Layout;)V" } : Jvm.MethodName)) ∈ WALL := List.mem_filter.mpr ⟨List.mem_append_right _ (List.mem_of_getElem? (i := 136) (by decide +kernel)), by decide +kernel⟩
theorem t_137 : (Jvm.Cond.instanceMethod ({ cls := "SharedLog$Client", name := "<init>", desc := "(LSharedLog$Layout;)V" } : Jvm.MethodName)) ∈ WALL := List.mem_filter.mpr ⟨List.mem_append_right _ (List.mem_of_getElem? (i := 137) (by decide +kernel)), by decide +kernel⟩
theorem t_138 : (Jvm.Cond.code ({ cls := "SharedLog$Client", name := "<init>", desc := "(LSharedLog$Layout;)V" } : Jvm.MethodName) prog_2_method_1_code (2 : Nat) (Option.none : Option Jvm.ClassFile.FieldType)) ∈ WALL := List.mem_filter.mpr ⟨List.mem_append_right _ (List.mem_of_getElem? (i := 138) (by decide +kernel)), by decide +kernel⟩
theorem t_140 : (Jvm.Cond.classLink "SharedLog$Client" (18 : Nat) "SharedLog$Work") ∈ WALL := List.mem_filter.mpr ⟨List.mem_append_right _ (List.mem_of_getElem? (i := 140) (by decide +kernel)), by decide +kernel⟩
theorem t_142 : (Jvm.Cond.fieldLink "SharedLog$Client" (9 : Nat) "SharedLog$Client" "values" "[I") ∈ WALL := List.mem_filter.mpr ⟨List.mem_append_right _ (List.mem_of_getElem? (i := 142) (by decide +kernel)), by decide +kernel⟩
theorem t_143 : (Jvm.Cond.fieldLink "SharedLog" (175 : Nat) "SharedLog$Client" "values" "[I") ∈ WALL := List.mem_filter.mpr ⟨List.mem_append_right _ (List.mem_of_getElem? (i := 143) (by decide +kernel)), by decide +kernel⟩
theorem t_144 : (Jvm.Cond.fieldLink "SharedLog$Client" (15 : Nat) "SharedLog$Client" "ages" "[I") ∈ WALL := List.mem_filter.mpr ⟨List.mem_append_right _ (List.mem_of_getElem? (i := 144) (by decide +kernel)), by decide +kernel⟩
theorem t_145 : (Jvm.Cond.fieldLink "SharedLog" (202 : Nat) "SharedLog$Client" "ages" "[I") ∈ WALL := List.mem_filter.mpr ⟨List.mem_append_right _ (List.mem_of_getElem? (i := 145) (by decide +kernel)), by decide +kernel⟩
theorem t_146 : (Jvm.Cond.fieldLink "SharedLog$Client" (21 : Nat) "SharedLog$Client" "transaction" "LSharedLog$Work;") ∈ WALL := List.mem_filter.mpr ⟨List.mem_append_right _ (List.mem_of_getElem? (i := 146) (by decide +kernel)), by decide +kernel⟩
theorem t_147 : (Jvm.Cond.fieldLink "SharedLog" (187 : Nat) "SharedLog$Client" "transaction" "LSharedLog$Work;") ∈ WALL := List.mem_filter.mpr ⟨List.mem_append_right _ (List.mem_of_getElem? (i := 147) (by decide +kernel)), by decide +kernel⟩
theorem t_148 : (Jvm.Cond.fieldLink "SharedLog$Client" (25 : Nat) "SharedLog$Client" "inTransaction" "Z") ∈ WALL := List.mem_filter.mpr ⟨List.mem_append_right _ (List.mem_of_getElem? (i := 148) (by decide +kernel)), by decide +kernel⟩
theorem t_149 : (Jvm.Cond.fieldLink "SharedLog" (179 : Nat) "SharedLog$Client" "inTransaction" "Z") ∈ WALL := List.mem_filter.mpr ⟨List.mem_append_right _ (List.mem_of_getElem? (i := 149) (by decide +kernel)), by decide +kernel⟩
theorem t_150 : (Jvm.Cond.fieldLink "SharedLog$Client" (29 : Nat) "SharedLog$Client" "position" "I") ∈ WALL := List.mem_filter.mpr ⟨List.mem_append_right _ (List.mem_of_getElem? (i := 150) (by decide +kernel)), by decide +kernel⟩
theorem t_151 : (Jvm.Cond.fieldLink "SharedLog" (172 : Nat) "SharedLog$Client" "position" "I") ∈ WALL := List.mem_filter.mpr ⟨List.mem_append_right _ (List.mem_of_getElem? (i := 151) (by decide +kernel)), by decide +kernel⟩
theorem t_152 : (Jvm.Cond.fieldLink "SharedLog$Client" (33 : Nat) "SharedLog$Client" "known" "LSharedLog$Layout;") ∈ WALL := List.mem_filter.mpr ⟨List.mem_append_right _ (List.mem_of_getElem? (i := 152) (by decide +kernel)), by decide +kernel⟩
theorem t_153 : (Jvm.Cond.fieldLink "SharedLog" (80 : Nat) "SharedLog$Client" "known" "LSharedLog$Layout;") ∈ WALL := List.mem_filter.mpr ⟨List.mem_append_right _ (List.mem_of_getElem? (i := 153) (by decide +kernel)), by decide +kernel⟩
theorem t_167 : (Jvm.Cond.fieldLink "SharedLog" (11 : Nat) "SharedLog" "units" "[LSharedLog$Unit;") ∈ WALL := List.mem_filter.mpr ⟨List.mem_append_right _ (List.mem_of_getElem? (i := 167) (by decide +kernel)), by decide +kernel⟩
theorem t_168 : (Jvm.Cond.fieldLink "SharedLog" (17 : Nat) "SharedLog" "clients" "[LSharedLog$Client;") ∈ WALL := List.mem_filter.mpr ⟨List.mem_append_right _ (List.mem_of_getElem? (i := 168) (by decide +kernel)), by decide +kernel⟩
theorem t_169 : (Jvm.Cond.fieldLink "SharedLog" (24 : Nat) "SharedLog" "sequencer" "LSharedLog$Sequencer;") ∈ WALL := List.mem_filter.mpr ⟨List.mem_append_right _ (List.mem_of_getElem? (i := 169) (by decide +kernel)), by decide +kernel⟩
theorem t_170 : (Jvm.Cond.fieldLink "SharedLog" (36 : Nat) "SharedLog" "nothing" "LSharedLog$Entry;") ∈ WALL := List.mem_filter.mpr ⟨List.mem_append_right _ (List.mem_of_getElem? (i := 170) (by decide +kernel)), by decide +kernel⟩
theorem t_171 : (Jvm.Cond.fieldLink "SharedLog" (40 : Nat) "SharedLog" "junk" "LSharedLog$Entry;") ∈ WALL := List.mem_filter.mpr ⟨List.mem_append_right _ (List.mem_of_getElem? (i := 171) (by decide +kernel)), by decide +kernel⟩
theorem t_172 : (Jvm.Cond.fieldLink "SharedLog" (43 : Nat) "SharedLog" "trimmed" "LSharedLog$Entry;") ∈ WALL := List.mem_filter.mpr ⟨List.mem_append_right _ (List.mem_of_getElem? (i := 172) (by decide +kernel)), by decide +kernel⟩
theorem t_173 : (Jvm.Cond.fieldLink "SharedLog" (55 : Nat) "SharedLog" "installed" "LSharedLog$Layout;") ∈ WALL := List.mem_filter.mpr ⟨List.mem_append_right _ (List.mem_of_getElem? (i := 173) (by decide +kernel)), by decide +kernel⟩
theorem t_189 : (Jvm.Cond.methodLink "SharedLogLaw" (112 : Nat) ({ cls := "SharedLog", name := "lose", desc := "()I" } : Jvm.MethodName)) ∈ WALL := List.mem_filter.mpr ⟨List.mem_append_right _ (List.mem_of_getElem? (i := 189) (by decide +kernel)), by decide +kernel⟩
theorem t_190 : (Jvm.Cond.instanceMethod ({ cls := "SharedLog", name := "lose", desc := "()I" } : Jvm.MethodName)) ∈ WALL := List.mem_filter.mpr ⟨List.mem_append_right _ (List.mem_of_getElem? (i := 190) (by decide +kernel)), by decide +kernel⟩
theorem t_191 : (Jvm.Cond.selects "SharedLog" ({ cls := "SharedLog", name := "lose", desc := "()I" } : Jvm.MethodName) ({ cls := "SharedLog", name := "lose", desc := "()I" } : Jvm.MethodName)) ∈ WALL := List.mem_filter.mpr ⟨List.mem_append_right _ (List.mem_of_getElem? (i := 191) (by decide +kernel)), by decide +kernel⟩
theorem t_192 : (Jvm.Cond.code ({ cls := "SharedLog", name := "lose", desc := "()I" } : Jvm.MethodName) prog_1_method_9_code (1 : Nat) (Option.some Jvm.ClassFile.FieldType.int)) ∈ WALL := List.mem_filter.mpr ⟨List.mem_append_right _ (List.mem_of_getElem? (i := 192) (by decide +kernel)), by decide +kernel⟩
theorem t_193 : (Jvm.Cond.methodLink "SharedLogLaw" (80 : Nat) ({ cls := "SharedLogLaw", name := "append", desc := "(LSharedLog;IIII[J)I" } : Jvm.MethodName)) ∈ WALL := List.mem_filter.mpr ⟨List.mem_append_right _ (List.mem_of_getElem? (i := 193) (by decide +kernel)), by decide +kernel⟩
theorem t_194 : (Jvm.Cond.static ({ cls := "SharedLogLaw", name := "append", desc := "(LSharedLog;IIII[J)I" } : Jvm.MethodName)) ∈ WALL := List.mem_filter.mpr ⟨List.mem_append_right _ (List.mem_of_getElem? (i := 194) (by decide +kernel)), by decide +kernel⟩
theorem t_200 : (Jvm.Cond.methodLink "SharedLogLaw" (7 : Nat) ({ cls := "SharedLog", name := "append", desc := "(IIII)I" } : Jvm.MethodName)) ∈ WALL := List.mem_filter.mpr ⟨List.mem_append_right _ (List.mem_of_getElem? (i := 200) (by decide +kernel)), by decide +kernel⟩
theorem t_201 : (Jvm.Cond.instanceMethod ({ cls := "SharedLog", name := "append", desc := "(IIII)I" } : Jvm.MethodName)) ∈ WALL := List.mem_filter.mpr ⟨List.mem_append_right _ (List.mem_of_getElem? (i := 201) (by decide +kernel)), by decide +kernel⟩
theorem t_202 : (Jvm.Cond.selects "SharedLog" ({ cls := "SharedLog", name := "append", desc := "(IIII)I" } : Jvm.MethodName) ({ cls := "SharedLog", name := "append", desc := "(IIII)I" } : Jvm.MethodName)) ∈ WALL := List.mem_filter.mpr ⟨List.mem_append_right _ (List.mem_of_getElem? (i := 202) (by decide +kernel)), by decide +kernel⟩
theorem t_203 : (Jvm.Cond.code ({ cls := "SharedLog", name := "append", desc := "(IIII)I" } : Jvm.MethodName) prog_1_method_2_code (9 : Nat) (Option.some Jvm.ClassFile.FieldType.int)) ∈ WALL := List.mem_filter.mpr ⟨List.mem_append_right _ (List.mem_of_getElem? (i := 203) (by decide +kernel)), by decide +kernel⟩
theorem t_204 : (Jvm.Cond.methodLink "SharedLog" (65 : Nat) ({ cls := "SharedLog", name := "requireWithin", desc := "(II)V" } : Jvm.MethodName)) ∈ WALL := List.mem_filter.mpr ⟨List.mem_append_right _ (List.mem_of_getElem? (i := 204) (by decide +kernel)), by decide +kernel⟩
theorem t_205 : (Jvm.Cond.static ({ cls := "SharedLog", name := "requireWithin", desc := "(II)V" } : Jvm.MethodName)) ∈ WALL := List.mem_filter.mpr ⟨List.mem_append_right _ (List.mem_of_getElem? (i := 205) (by decide +kernel)), by decide +kernel⟩
theorem t_206 : (Jvm.Cond.code ({ cls := "SharedLog", name := "requireWithin", desc := "(II)V" } : Jvm.MethodName) prog_1_method_20_code (2 : Nat) (Option.none : Option Jvm.ClassFile.FieldType)) ∈ WALL := List.mem_filter.mpr ⟨List.mem_append_right _ (List.mem_of_getElem? (i := 206) (by decide +kernel)), by decide +kernel⟩
theorem t_207 : (Jvm.Cond.classLink "SharedLog" (224 : Nat) "java/lang/IllegalArgumentException") ∈ WALL := List.mem_filter.mpr ⟨List.mem_append_right _ (List.mem_of_getElem? (i := 207) (by decide +kernel)), by decide +kernel⟩
theorem t_277 : (Jvm.Cond.methodLink "SharedLog" (69 : Nat) ({ cls := "SharedLog", name := "takeToken", desc := "(LSharedLog$Client;)I" } : Jvm.MethodName)) ∈ WALL := List.mem_filter.mpr ⟨List.mem_append_right _ (List.mem_of_getElem? (i := 277) (by decide +kernel)), by decide +kernel⟩
theorem t_279 : (Jvm.Cond.instanceMethod ({ cls := "SharedLog", name := "takeToken", desc := "(LSharedLog$Client;)I" } : Jvm.MethodName)) ∈ WALL := List.mem_filter.mpr ⟨List.mem_append_right _ (List.mem_of_getElem? (i := 279) (by decide +kernel)), by decide +kernel⟩
theorem t_280 : (Jvm.Cond.code ({ cls := "SharedLog", name := "takeToken", desc := "(LSharedLog$Client;)I" } : Jvm.MethodName) prog_1_method_27_code (3 : Nat) (Option.some Jvm.ClassFile.FieldType.int)) ∈ WALL := List.mem_filter.mpr ⟨List.mem_append_right _ (List.mem_of_getElem? (i := 280) (by decide +kernel)), by decide +kernel⟩
theorem t_281 : (Jvm.Cond.methodLink "SharedLog" (164 : Nat) ({ cls := "SharedLog", name := "requireSequencer", desc := "(LSharedLog$Client;)V" } : Jvm.MethodName)) ∈ WALL := List.mem_filter.mpr ⟨List.mem_append_right _ (List.mem_of_getElem? (i := 281) (by decide +kernel)), by decide +kernel⟩
theorem t_283 : (Jvm.Cond.instanceMethod ({ cls := "SharedLog", name := "requireSequencer", desc := "(LSharedLog$Client;)V" } : Jvm.MethodName)) ∈ WALL := List.mem_filter.mpr ⟨List.mem_append_right _ (List.mem_of_getElem? (i := 283) (by decide +kernel)), by decide +kernel⟩
theorem t_284 : (Jvm.Cond.code ({ cls := "SharedLog", name := "requireSequencer", desc := "(LSharedLog$Client;)V" } : Jvm.MethodName) prog_1_method_26_code (2 : Nat) (Option.none : Option Jvm.ClassFile.FieldType)) ∈ WALL := List.mem_filter.mpr ⟨List.mem_append_right _ (List.mem_of_getElem? (i := 284) (by decide +kernel)), by decide +kernel⟩
theorem t_285 : (Jvm.Cond.classLink "SharedLog" (182 : Nat) "java/lang/IllegalStateException") ∈ WALL := List.mem_filter.mpr ⟨List.mem_append_right _ (List.mem_of_getElem? (i := 285) (by decide +kernel)), by decide +kernel⟩
theorem t_301 : (Jvm.Cond.classLink "SharedLog" (238 : Nat) "java/lang/IndexOutOfBoundsException") ∈ WALL := List.mem_filter.mpr ⟨List.mem_append_right _ (List.mem_of_getElem? (i := 301) (by decide +kernel)), by decide +kernel⟩
theorem t_317 : (Jvm.Cond.methodLink "SharedLog" (73 : Nat) ({ cls := "SharedLog$Work", name := "setPut", desc := "(II)V" } : Jvm.MethodName)) ∈ WALL := List.mem_filter.mpr ⟨List.mem_append_right _ (List.mem_of_getElem? (i := 317) (by decide +kernel)), by decide +kernel⟩
theorem t_318 : (Jvm.Cond.instanceMethod ({ cls := "SharedLog$Work", name := "setPut", desc := "(II)V" } : Jvm.MethodName)) ∈ WALL := List.mem_filter.mpr ⟨List.mem_append_right _ (List.mem_of_getElem? (i := 318) (by decide +kernel)), by decide +kernel⟩
theorem t_319 : (Jvm.Cond.selects "SharedLog$Work" ({ cls := "SharedLog$Work", name := "setPut", desc := "(II)V" } : Jvm.MethodName) ({ cls := "SharedLog$Work", name := "setPut", desc := "(II)V" } : Jvm.MethodName)) ∈ WALL := List.mem_filter.mpr ⟨List.mem_append_right _ (List.mem_of_getElem? (i := 319) (by decide +kernel)), by decide +kernel⟩
theorem t_320 : (Jvm.Cond.code ({ cls := "SharedLog$Work", name := "setPut", desc := "(II)V" } : Jvm.MethodName) prog_7_method_4_code (3 : Nat) (Option.none : Option Jvm.ClassFile.FieldType)) ∈ WALL := List.mem_filter.mpr ⟨List.mem_append_right _ (List.mem_of_getElem? (i := 320) (by decide +kernel)), by decide +kernel⟩
theorem t_321 : (Jvm.Cond.methodLink "SharedLog" (76 : Nat) ({ cls := "SharedLog", name := "write", desc := "(LSharedLog$Client;ILSharedLog$Entry;I)V" } : Jvm.MethodName)) ∈ WALL := List.mem_filter.mpr ⟨List.mem_append_right _ (List.mem_of_getElem? (i := 321) (by decide +kernel)), by decide +kernel⟩
theorem t_323 : (Jvm.Cond.instanceMethod ({ cls := "SharedLog", name := "write", desc := "(LSharedLog$Client;ILSharedLog$Entry;I)V" } : Jvm.MethodName)) ∈ WALL := List.mem_filter.mpr ⟨List.mem_append_right _ (List.mem_of_getElem? (i := 323) (by decide +kernel)), by decide +kernel⟩
theorem t_324 : (Jvm.Cond.code ({ cls := "SharedLog", name := "write", desc := "(LSharedLog$Client;ILSharedLog$Entry;I)V" } : Jvm.MethodName) prog_1_method_29_code (8 : Nat) (Option.none : Option Jvm.ClassFile.FieldType)) ∈ WALL := List.mem_filter.mpr ⟨List.mem_append_right _ (List.mem_of_getElem? (i := 324) (by decide +kernel)), by decide +kernel⟩
theorem t_325 : (Jvm.Cond.methodLink "SharedLog" (83 : Nat) ({ cls := "SharedLog$Layout", name := "chainOf", desc := "(I)[I" } : Jvm.MethodName)) ∈ WALL := List.mem_filter.mpr ⟨List.mem_append_right _ (List.mem_of_getElem? (i := 325) (by decide +kernel)), by decide +kernel⟩
theorem t_326 : (Jvm.Cond.instanceMethod ({ cls := "SharedLog$Layout", name := "chainOf", desc := "(I)[I" } : Jvm.MethodName)) ∈ WALL := List.mem_filter.mpr ⟨List.mem_append_right _ (List.mem_of_getElem? (i := 326) (by decide +kernel)), by decide +kernel⟩
theorem t_327 : (Jvm.Cond.selects "SharedLog$Layout" ({ cls := "SharedLog$Layout", name := "chainOf", desc := "(I)[I" } : Jvm.MethodName) ({ cls := "SharedLog$Layout", name := "chainOf", desc := "(I)[I" } : Jvm.MethodName)) ∈ WALL := List.mem_filter.mpr ⟨List.mem_append_right _ (List.mem_of_getElem? (i := 327) (by decide +kernel)), by decide +kernel⟩
theorem t_328 : (Jvm.Cond.code ({ cls := "SharedLog$Layout", name := "chainOf", desc := "(I)[I" } : Jvm.MethodName) prog_4_method_3_code (2 : Nat) (Option.some (Jvm.ClassFile.FieldType.array Jvm.ClassFile.FieldType.int))) ∈ WALL := List.mem_filter.mpr ⟨List.mem_append_right _ (List.mem_of_getElem? (i := 328) (by decide +kernel)), by decide +kernel⟩
theorem t_329 : (Jvm.Cond.methodLink "SharedLog$Layout" (22 : Nat) ({ cls := "SharedLog$Layout", name := "chain", desc := "(I)[I" } : Jvm.MethodName)) ∈ WALL := List.mem_filter.mpr ⟨List.mem_append_right _ (List.mem_of_getElem? (i := 329) (by decide +kernel)), by decide +kernel⟩
theorem t_330 : (Jvm.Cond.instanceMethod ({ cls := "SharedLog$Layout", name := "chain", desc := "(I)[I" } : Jvm.MethodName)) ∈ WALL := List.mem_filter.mpr ⟨List.mem_append_right _ (List.mem_of_getElem? (i := 330) (by decide +kernel)), by decide +kernel⟩
theorem t_331 : (Jvm.Cond.selects "SharedLog$Layout" ({ cls := "SharedLog$Layout", name := "chain", desc := "(I)[I" } : Jvm.MethodName) ({ cls := "SharedLog$Layout", name := "chain", desc := "(I)[I" } : Jvm.MethodName)) ∈ WALL := List.mem_filter.mpr ⟨List.mem_append_right _ (List.mem_of_getElem? (i := 331) (by decide +kernel)), by decide +kernel⟩
theorem t_332 : (Jvm.Cond.code ({ cls := "SharedLog$Layout", name := "chain", desc := "(I)[I" } : Jvm.MethodName) prog_4_method_2_code (2 : Nat) (Option.some (Jvm.ClassFile.FieldType.array Jvm.ClassFile.FieldType.int))) ∈ WALL := List.mem_filter.mpr ⟨List.mem_append_right _ (List.mem_of_getElem? (i := 332) (by decide +kernel)), by decide +kernel⟩
theorem t_333 : (Jvm.Cond.methodLink "SharedLog" (103 : Nat) ({ cls := "SharedLog", name := "use", desc := "(LSharedLog$Client;I)LSharedLog$Unit;" } : Jvm.MethodName)) ∈ WALL := List.mem_filter.mpr ⟨List.mem_append_right _ (List.mem_of_getElem? (i := 333) (by decide +kernel)), by decide +kernel⟩
theorem t_335 : (Jvm.Cond.instanceMethod ({ cls := "SharedLog", name := "use", desc := "(LSharedLog$Client;I)LSharedLog$Unit;" } : Jvm.MethodName)) ∈ WALL := List.mem_filter.mpr ⟨List.mem_append_right _ (List.mem_of_getElem? (i := 335) (by decide +kernel)), by decide +kernel⟩
theorem t_336 : (Jvm.Cond.code ({ cls := "SharedLog", name := "use", desc := "(LSharedLog$Client;I)LSharedLog$Unit;" } : Jvm.MethodName) prog_1_method_28_code (4 : Nat) (Option.some (Jvm.ClassFile.FieldType.object "SharedLog$Unit"))) ∈ WALL := List.mem_filter.mpr ⟨List.mem_append_right _ (List.mem_of_getElem? (i := 336) (by decide +kernel)), by decide +kernel⟩
theorem t_338 : (Jvm.Cond.methodLink "SharedLog" (107 : Nat) ({ cls := "SharedLog$Unit", name := "holds", desc := "(I)Z" } : Jvm.MethodName)) ∈ WALL := List.mem_filter.mpr ⟨List.mem_append_right _ (List.mem_of_getElem? (i := 338) (by decide +kernel)), by decide +kernel⟩
theorem t_339 : (Jvm.Cond.instanceMethod ({ cls := "SharedLog$Unit", name := "holds", desc := "(I)Z" } : Jvm.MethodName)) ∈ WALL := List.mem_filter.mpr ⟨List.mem_append_right _ (List.mem_of_getElem? (i := 339) (by decide +kernel)), by decide +kernel⟩
theorem t_340 : (Jvm.Cond.selects "SharedLog$Unit" ({ cls := "SharedLog$Unit", name := "holds", desc := "(I)Z" } : Jvm.MethodName) ({ cls := "SharedLog$Unit", name := "holds", desc := "(I)Z" } : Jvm.MethodName)) ∈ WALL := List.mem_filter.mpr ⟨List.mem_append_right _ (List.mem_of_getElem? (i := 340) (by decide +kernel)), by decide +kernel⟩
theorem t_341 : (Jvm.Cond.code ({ cls := "SharedLog$Unit", name := "holds", desc := "(I)Z" } : Jvm.MethodName) prog_6_method_2_code (2 : Nat) (Option.some Jvm.ClassFile.FieldType.boolean)) ∈ WALL := List.mem_filter.mpr ⟨List.mem_append_right _ (List.mem_of_getElem? (i := 341) (by decide +kernel)), by decide +kernel⟩
theorem t_342 : (Jvm.Cond.classLink "SharedLog" (94 : Nat) "java/lang/UnsupportedOperationException") ∈ WALL := List.mem_filter.mpr ⟨List.mem_append_right _ (List.mem_of_getElem? (i := 342) (by decide +kernel)), by decide +kernel⟩
theorem t_358 : (Jvm.Cond.methodLink "SharedLogLaw" (90 : Nat) ({ cls := "SharedLogLaw", name := "read", desc := "(LSharedLog;II[J)I" } : Jvm.MethodName)) ∈ WALL := List.mem_filter.mpr ⟨List.mem_append_right _ (List.mem_of_getElem? (i := 358) (by decide +kernel)), by decide +kernel⟩
theorem t_359 : (Jvm.Cond.static ({ cls := "SharedLogLaw", name := "read", desc := "(LSharedLog;II[J)I" } : Jvm.MethodName)) ∈ WALL := List.mem_filter.mpr ⟨List.mem_append_right _ (List.mem_of_getElem? (i := 359) (by decide +kernel)), by decide +kernel⟩
theorem t_362 : (Jvm.Cond.methodLink "SharedLogLaw" (21 : Nat) ({ cls := "SharedLog", name := "read", desc := "(II)I" } : Jvm.MethodName)) ∈ WALL := List.mem_filter.mpr ⟨List.mem_append_right _ (List.mem_of_getElem? (i := 362) (by decide +kernel)), by decide +kernel⟩
theorem t_363 : (Jvm.Cond.instanceMethod ({ cls := "SharedLog", name := "read", desc := "(II)I" } : Jvm.MethodName)) ∈ WALL := List.mem_filter.mpr ⟨List.mem_append_right _ (List.mem_of_getElem? (i := 363) (by decide +kernel)), by decide +kernel⟩
theorem t_364 : (Jvm.Cond.selects "SharedLog" ({ cls := "SharedLog", name := "read", desc := "(II)I" } : Jvm.MethodName) ({ cls := "SharedLog", name := "read", desc := "(II)I" } : Jvm.MethodName)) ∈ WALL := List.mem_filter.mpr ⟨List.mem_append_right _ (List.mem_of_getElem? (i := 364) (by decide +kernel)), by decide +kernel⟩
theorem t_365 : (Jvm.Cond.code ({ cls := "SharedLog", name := "read", desc := "(II)I" } : Jvm.MethodName) prog_1_method_3_code (4 : Nat) (Option.some Jvm.ClassFile.FieldType.int)) ∈ WALL := List.mem_filter.mpr ⟨List.mem_append_right _ (List.mem_of_getElem? (i := 365) (by decide +kernel)), by decide +kernel⟩
theorem t_366 : (Jvm.Cond.methodLink "SharedLog" (86 : Nat) ({ cls := "SharedLog", name := "entryAtEnd", desc := "(LSharedLog$Client;I)LSharedLog$Entry;" } : Jvm.MethodName)) ∈ WALL := List.mem_filter.mpr ⟨List.mem_append_right _ (List.mem_of_getElem? (i := 366) (by decide +kernel)), by decide +kernel⟩
theorem t_368 : (Jvm.Cond.instanceMethod ({ cls := "SharedLog", name := "entryAtEnd", desc := "(LSharedLog$Client;I)LSharedLog$Entry;" } : Jvm.MethodName)) ∈ WALL := List.mem_filter.mpr ⟨List.mem_append_right _ (List.mem_of_getElem? (i := 368) (by decide +kernel)), by decide +kernel⟩
theorem t_369 : (Jvm.Cond.code ({ cls := "SharedLog", name := "entryAtEnd", desc := "(LSharedLog$Client;I)LSharedLog$Entry;" } : Jvm.MethodName) prog_1_method_30_code (5 : Nat) (Option.some (Jvm.ClassFile.FieldType.object "SharedLog$Entry"))) ∈ WALL := List.mem_filter.mpr ⟨List.mem_append_right _ (List.mem_of_getElem? (i := 369) (by decide +kernel)), by decide +kernel⟩
theorem t_388 : (Jvm.Cond.methodLink "SharedLogLaw" (94 : Nat) ({ cls := "SharedLogLaw", name := "fill", desc := "(LSharedLog;II[J)I" } : Jvm.MethodName)) ∈ WALL := List.mem_filter.mpr ⟨List.mem_append_right _ (List.mem_of_getElem? (i := 388) (by decide +kernel)), by decide +kernel⟩
theorem t_389 : (Jvm.Cond.static ({ cls := "SharedLogLaw", name := "fill", desc := "(LSharedLog;II[J)I" } : Jvm.MethodName)) ∈ WALL := List.mem_filter.mpr ⟨List.mem_append_right _ (List.mem_of_getElem? (i := 389) (by decide +kernel)), by decide +kernel⟩
theorem t_391 : (Jvm.Cond.methodLink "SharedLogLaw" (27 : Nat) ({ cls := "SharedLog", name := "fill", desc := "(II)I" } : Jvm.MethodName)) ∈ WALL := List.mem_filter.mpr ⟨List.mem_append_right _ (List.mem_of_getElem? (i := 391) (by decide +kernel)), by decide +kernel⟩
theorem t_392 : (Jvm.Cond.instanceMethod ({ cls := "SharedLog", name := "fill", desc := "(II)I" } : Jvm.MethodName)) ∈ WALL := List.mem_filter.mpr ⟨List.mem_append_right _ (List.mem_of_getElem? (i := 392) (by decide +kernel)), by decide +kernel⟩
theorem t_393 : (Jvm.Cond.selects "SharedLog" ({ cls := "SharedLog", name := "fill", desc := "(II)I" } : Jvm.MethodName) ({ cls := "SharedLog", name := "fill", desc := "(II)I" } : Jvm.MethodName)) ∈ WALL := List.mem_filter.mpr ⟨List.mem_append_right _ (List.mem_of_getElem? (i := 393) (by decide +kernel)), by decide +kernel⟩
theorem t_394 : (Jvm.Cond.code ({ cls := "SharedLog", name := "fill", desc := "(II)I" } : Jvm.MethodName) prog_1_method_4_code (9 : Nat) (Option.some Jvm.ClassFile.FieldType.int)) ∈ WALL := List.mem_filter.mpr ⟨List.mem_append_right _ (List.mem_of_getElem? (i := 394) (by decide +kernel)), by decide +kernel⟩
theorem t_395 : (Jvm.Cond.methodLink "SharedLogLaw" (97 : Nat) ({ cls := "SharedLogLaw", name := "trim", desc := "(LSharedLog;II[J)I" } : Jvm.MethodName)) ∈ WALL := List.mem_filter.mpr ⟨List.mem_append_right _ (List.mem_of_getElem? (i := 395) (by decide +kernel)), by decide +kernel⟩
theorem t_396 : (Jvm.Cond.static ({ cls := "SharedLogLaw", name := "trim", desc := "(LSharedLog;II[J)I" } : Jvm.MethodName)) ∈ WALL := List.mem_filter.mpr ⟨List.mem_append_right _ (List.mem_of_getElem? (i := 396) (by decide +kernel)), by decide +kernel⟩
theorem t_398 : (Jvm.Cond.methodLink "SharedLogLaw" (30 : Nat) ({ cls := "SharedLog", name := "trim", desc := "(II)I" } : Jvm.MethodName)) ∈ WALL := List.mem_filter.mpr ⟨List.mem_append_right _ (List.mem_of_getElem? (i := 398) (by decide +kernel)), by decide +kernel⟩
theorem t_399 : (Jvm.Cond.instanceMethod ({ cls := "SharedLog", name := "trim", desc := "(II)I" } : Jvm.MethodName)) ∈ WALL := List.mem_filter.mpr ⟨List.mem_append_right _ (List.mem_of_getElem? (i := 399) (by decide +kernel)), by decide +kernel⟩
theorem t_400 : (Jvm.Cond.selects "SharedLog" ({ cls := "SharedLog", name := "trim", desc := "(II)I" } : Jvm.MethodName) ({ cls := "SharedLog", name := "trim", desc := "(II)I" } : Jvm.MethodName)) ∈ WALL := List.mem_filter.mpr ⟨List.mem_append_right _ (List.mem_of_getElem? (i := 400) (by decide +kernel)), by decide +kernel⟩
theorem t_401 : (Jvm.Cond.code ({ cls := "SharedLog", name := "trim", desc := "(II)I" } : Jvm.MethodName) prog_1_method_5_code (5 : Nat) (Option.some Jvm.ClassFile.FieldType.int)) ∈ WALL := List.mem_filter.mpr ⟨List.mem_append_right _ (List.mem_of_getElem? (i := 401) (by decide +kernel)), by decide +kernel⟩
theorem t_402 : (Jvm.Cond.methodLink "SharedLog" (115 : Nat) ({ cls := "SharedLog", name := "trimOne", desc := "(LSharedLog$Client;I)I" } : Jvm.MethodName)) ∈ WALL := List.mem_filter.mpr ⟨List.mem_append_right _ (List.mem_of_getElem? (i := 402) (by decide +kernel)), by decide +kernel⟩
theorem t_404 : (Jvm.Cond.instanceMethod ({ cls := "SharedLog", name := "trimOne", desc := "(LSharedLog$Client;I)I" } : Jvm.MethodName)) ∈ WALL := List.mem_filter.mpr ⟨List.mem_append_right _ (List.mem_of_getElem? (i := 404) (by decide +kernel)), by decide +kernel⟩
theorem t_405 : (Jvm.Cond.code ({ cls := "SharedLog", name := "trimOne", desc := "(LSharedLog$Client;I)I" } : Jvm.MethodName) prog_1_method_31_code (7 : Nat) (Option.some Jvm.ClassFile.FieldType.int)) ∈ WALL := List.mem_filter.mpr ⟨List.mem_append_right _ (List.mem_of_getElem? (i := 405) (by decide +kernel)), by decide +kernel⟩
theorem t_406 : (Jvm.Cond.methodLink "SharedLogLaw" (100 : Nat) ({ cls := "SharedLogLaw", name := "learn", desc := "(LSharedLog;I[J)I" } : Jvm.MethodName)) ∈ WALL := List.mem_filter.mpr ⟨List.mem_append_right _ (List.mem_of_getElem? (i := 406) (by decide +kernel)), by decide +kernel⟩
theorem t_407 : (Jvm.Cond.static ({ cls := "SharedLogLaw", name := "learn", desc := "(LSharedLog;I[J)I" } : Jvm.MethodName)) ∈ WALL := List.mem_filter.mpr ⟨List.mem_append_right _ (List.mem_of_getElem? (i := 407) (by decide +kernel)), by decide +kernel⟩
theorem t_409 : (Jvm.Cond.methodLink "SharedLogLaw" (33 : Nat) ({ cls := "SharedLog", name := "learn", desc := "(I)I" } : Jvm.MethodName)) ∈ WALL := List.mem_filter.mpr ⟨List.mem_append_right _ (List.mem_of_getElem? (i := 409) (by decide +kernel)), by decide +kernel⟩
theorem t_410 : (Jvm.Cond.instanceMethod ({ cls := "SharedLog", name := "learn", desc := "(I)I" } : Jvm.MethodName)) ∈ WALL := List.mem_filter.mpr ⟨List.mem_append_right _ (List.mem_of_getElem? (i := 410) (by decide +kernel)), by decide +kernel⟩
theorem t_411 : (Jvm.Cond.selects "SharedLog" ({ cls := "SharedLog", name := "learn", desc := "(I)I" } : Jvm.MethodName) ({ cls := "SharedLog", name := "learn", desc := "(I)I" } : Jvm.MethodName)) ∈ WALL := List.mem_filter.mpr ⟨List.mem_append_right _ (List.mem_of_getElem? (i := 411) (by decide +kernel)), by decide +kernel⟩
theorem t_412 : (Jvm.Cond.code ({ cls := "SharedLog", name := "learn", desc := "(I)I" } : Jvm.MethodName) prog_1_method_6_code (2 : Nat) (Option.some Jvm.ClassFile.FieldType.int)) ∈ WALL := List.mem_filter.mpr ⟨List.mem_append_right _ (List.mem_of_getElem? (i := 412) (by decide +kernel)), by decide +kernel⟩
theorem t_413 : (Jvm.Cond.methodLink "SharedLogLaw" (104 : Nat) ({ cls := "SharedLogLaw", name := "change", desc := "(LSharedLog;III[J)I" } : Jvm.MethodName)) ∈ WALL := List.mem_filter.mpr ⟨List.mem_append_right _ (List.mem_of_getElem? (i := 413) (by decide +kernel)), by decide +kernel⟩
theorem t_414 : (Jvm.Cond.static ({ cls := "SharedLogLaw", name := "change", desc := "(LSharedLog;III[J)I" } : Jvm.MethodName)) ∈ WALL := List.mem_filter.mpr ⟨List.mem_append_right _ (List.mem_of_getElem? (i := 414) (by decide +kernel)), by decide +kernel⟩
theorem t_416 : (Jvm.Cond.methodLink "SharedLogLaw" (37 : Nat) ({ cls := "SharedLog", name := "change", desc := "(III)I" } : Jvm.MethodName)) ∈ WALL := List.mem_filter.mpr ⟨List.mem_append_right _ (List.mem_of_getElem? (i := 416) (by decide +kernel)), by decide +kernel⟩
theorem t_417 : (Jvm.Cond.instanceMethod ({ cls := "SharedLog", name := "change", desc := "(III)I" } : Jvm.MethodName)) ∈ WALL := List.mem_filter.mpr ⟨List.mem_append_right _ (List.mem_of_getElem? (i := 417) (by decide +kernel)), by decide +kernel⟩
theorem t_418 : (Jvm.Cond.selects "SharedLog" ({ cls := "SharedLog", name := "change", desc := "(III)I" } : Jvm.MethodName) ({ cls := "SharedLog", name := "change", desc := "(III)I" } : Jvm.MethodName)) ∈ WALL := List.mem_filter.mpr ⟨List.mem_append_right _ (List.mem_of_getElem? (i := 418) (by decide +kernel)), by decide +kernel⟩
theorem t_419 : (Jvm.Cond.code ({ cls := "SharedLog", name := "change", desc := "(III)I" } : Jvm.MethodName) prog_1_method_7_code (8 : Nat) (Option.some Jvm.ClassFile.FieldType.int)) ∈ WALL := List.mem_filter.mpr ⟨List.mem_append_right _ (List.mem_of_getElem? (i := 419) (by decide +kernel)), by decide +kernel⟩
theorem t_420 : (Jvm.Cond.methodLink "SharedLog" (122 : Nat) ({ cls := "SharedLog", name := "requireRow", desc := "(I)V" } : Jvm.MethodName)) ∈ WALL := List.mem_filter.mpr ⟨List.mem_append_right _ (List.mem_of_getElem? (i := 420) (by decide +kernel)), by decide +kernel⟩
theorem t_421 : (Jvm.Cond.static ({ cls := "SharedLog", name := "requireRow", desc := "(I)V" } : Jvm.MethodName)) ∈ WALL := List.mem_filter.mpr ⟨List.mem_append_right _ (List.mem_of_getElem? (i := 421) (by decide +kernel)), by decide +kernel⟩
theorem t_422 : (Jvm.Cond.code ({ cls := "SharedLog", name := "requireRow", desc := "(I)V" } : Jvm.MethodName) prog_1_method_21_code (1 : Nat) (Option.none : Option Jvm.ClassFile.FieldType)) ∈ WALL := List.mem_filter.mpr ⟨List.mem_append_right _ (List.mem_of_getElem? (i := 422) (by decide +kernel)), by decide +kernel⟩
theorem t_423 : (Jvm.Cond.methodLink "SharedLog" (229 : Nat) ({ cls := "SharedLog", name := "isRow", desc := "(I)Z" } : Jvm.MethodName)) ∈ WALL := List.mem_filter.mpr ⟨List.mem_append_right _ (List.mem_of_getElem? (i := 423) (by decide +kernel)), by decide +kernel⟩
theorem t_424 : (Jvm.Cond.static ({ cls := "SharedLog", name := "isRow", desc := "(I)Z" } : Jvm.MethodName)) ∈ WALL := List.mem_filter.mpr ⟨List.mem_append_right _ (List.mem_of_getElem? (i := 424) (by decide +kernel)), by decide +kernel⟩
theorem t_425 : (Jvm.Cond.code ({ cls := "SharedLog", name := "isRow", desc := "(I)Z" } : Jvm.MethodName) prog_1_method_22_code (4 : Nat) (Option.some Jvm.ClassFile.FieldType.boolean)) ∈ WALL := List.mem_filter.mpr ⟨List.mem_append_right _ (List.mem_of_getElem? (i := 425) (by decide +kernel)), by decide +kernel⟩
theorem t_427 : (Jvm.Cond.methodLink "SharedLog" (126 : Nat) ({ cls := "SharedLog", name := "requireChangeable", desc := "(LSharedLog$Client;[I)V" } : Jvm.MethodName)) ∈ WALL := List.mem_filter.mpr ⟨List.mem_append_right _ (List.mem_of_getElem? (i := 427) (by decide +kernel)), by decide +kernel⟩
theorem t_429 : (Jvm.Cond.instanceMethod ({ cls := "SharedLog", name := "requireChangeable", desc := "(LSharedLog$Client;[I)V" } : Jvm.MethodName)) ∈ WALL := List.mem_filter.mpr ⟨List.mem_append_right _ (List.mem_of_getElem? (i := 429) (by decide +kernel)), by decide +kernel⟩
theorem t_430 : (Jvm.Cond.code ({ cls := "SharedLog", name := "requireChangeable", desc := "(LSharedLog$Client;[I)V" } : Jvm.MethodName) prog_1_method_34_code (4 : Nat) (Option.none : Option Jvm.ClassFile.FieldType)) ∈ WALL := List.mem_filter.mpr ⟨List.mem_append_right _ (List.mem_of_getElem? (i := 430) (by decide +kernel)), by decide +kernel⟩
theorem t_432 : (Jvm.Cond.methodLink "SharedLog" (266 : Nat) ({ cls := "SharedLog", name := "upCount", desc := "([I)I" } : Jvm.MethodName)) ∈ WALL := List.mem_filter.mpr ⟨List.mem_append_right _ (List.mem_of_getElem? (i := 432) (by decide +kernel)), by decide +kernel⟩
theorem t_434 : (Jvm.Cond.instanceMethod ({ cls := "SharedLog", name := "upCount", desc := "([I)I" } : Jvm.MethodName)) ∈ WALL := List.mem_filter.mpr ⟨List.mem_append_right _ (List.mem_of_getElem? (i := 434) (by decide +kernel)), by decide +kernel⟩
theorem t_435 : (Jvm.Cond.code ({ cls := "SharedLog", name := "upCount", desc := "([I)I" } : Jvm.MethodName) prog_1_method_35_code (4 : Nat) (Option.some Jvm.ClassFile.FieldType.int)) ∈ WALL := List.mem_filter.mpr ⟨List.mem_append_right _ (List.mem_of_getElem? (i := 435) (by decide +kernel)), by decide +kernel⟩
theorem t_437 : (Jvm.Cond.methodLink "SharedLog" (138 : Nat) ({ cls := "SharedLog$Layout", name := "chain", desc := "(I)[I" } : Jvm.MethodName)) ∈ WALL := List.mem_filter.mpr ⟨List.mem_append_right _ (List.mem_of_getElem? (i := 437) (by decide +kernel)), by decide +kernel⟩
theorem t_439 : (Jvm.Cond.methodLink "SharedLog" (130 : Nat) ({ cls := "SharedLog$Layout", name := "next", desc := "(I[I)LSharedLog$Layout;" } : Jvm.MethodName)) ∈ WALL := List.mem_filter.mpr ⟨List.mem_append_right _ (List.mem_of_getElem? (i := 439) (by decide +kernel)), by decide +kernel⟩
theorem t_440 : (Jvm.Cond.instanceMethod ({ cls := "SharedLog$Layout", name := "next", desc := "(I[I)LSharedLog$Layout;" } : Jvm.MethodName)) ∈ WALL := List.mem_filter.mpr ⟨List.mem_append_right _ (List.mem_of_getElem? (i := 440) (by decide +kernel)), by decide +kernel⟩
theorem t_441 : (Jvm.Cond.selects "SharedLog$Layout" ({ cls := "SharedLog$Layout", name := "next", desc := "(I[I)LSharedLog$Layout;" } : Jvm.MethodName) ({ cls := "SharedLog$Layout", name := "next", desc := "(I[I)LSharedLog$Layout;" } : Jvm.MethodName)) ∈ WALL := List.mem_filter.mpr ⟨List.mem_append_right _ (List.mem_of_getElem? (i := 441) (by decide +kernel)), by decide +kernel⟩
theorem t_442 : (Jvm.Cond.code ({ cls := "SharedLog$Layout", name := "next", desc := "(I[I)LSharedLog$Layout;" } : Jvm.MethodName) prog_4_method_4_code (3 : Nat) (Option.some (Jvm.ClassFile.FieldType.object "SharedLog$Layout"))) ∈ WALL := List.mem_filter.mpr ⟨List.mem_append_right _ (List.mem_of_getElem? (i := 442) (by decide +kernel)), by decide +kernel⟩
theorem t_443 : (Jvm.Cond.classLink "SharedLog$Layout" (10 : Nat) "SharedLog$Layout") ∈ WALL := List.mem_filter.mpr ⟨List.mem_append_right _ (List.mem_of_getElem? (i := 443) (by decide +kernel)), by decide +kernel⟩
theorem t_444 : (Jvm.Cond.methodLink "SharedLog$Layout" (26 : Nat) ({ cls := "SharedLog$Layout", name := "<init>", desc := "(I[I[I)V" } : Jvm.MethodName)) ∈ WALL := List.mem_filter.mpr ⟨List.mem_append_right _ (List.mem_of_getElem? (i := 444) (by decide +kernel)), by decide +kernel⟩
theorem t_445 : (Jvm.Cond.methodLink "SharedLog" (134 : Nat) ({ cls := "SharedLog", name := "sealAll", desc := "(LSharedLog$Layout;[II)V" } : Jvm.MethodName)) ∈ WALL := List.mem_filter.mpr ⟨List.mem_append_right _ (List.mem_of_getElem? (i := 445) (by decide +kernel)), by decide +kernel⟩
theorem t_447 : (Jvm.Cond.instanceMethod ({ cls := "SharedLog", name := "sealAll", desc := "(LSharedLog$Layout;[II)V" } : Jvm.MethodName)) ∈ WALL := List.mem_filter.mpr ⟨List.mem_append_right _ (List.mem_of_getElem? (i := 447) (by decide +kernel)), by decide +kernel⟩
theorem t_448 : (Jvm.Cond.code ({ cls := "SharedLog", name := "sealAll", desc := "(LSharedLog$Layout;[II)V" } : Jvm.MethodName) prog_1_method_36_code (5 : Nat) (Option.none : Option Jvm.ClassFile.FieldType)) ∈ WALL := List.mem_filter.mpr ⟨List.mem_append_right _ (List.mem_of_getElem? (i := 448) (by decide +kernel)), by decide +kernel⟩
theorem t_449 : (Jvm.Cond.methodLink "SharedLog" (273 : Nat) ({ cls := "SharedLog", name := "sealRow", desc := "([II)V" } : Jvm.MethodName)) ∈ WALL := List.mem_filter.mpr ⟨List.mem_append_right _ (List.mem_of_getElem? (i := 449) (by decide +kernel)), by decide +kernel⟩
theorem t_451 : (Jvm.Cond.instanceMethod ({ cls := "SharedLog", name := "sealRow", desc := "([II)V" } : Jvm.MethodName)) ∈ WALL := List.mem_filter.mpr ⟨List.mem_append_right _ (List.mem_of_getElem? (i := 451) (by decide +kernel)), by decide +kernel⟩
theorem t_452 : (Jvm.Cond.code ({ cls := "SharedLog", name := "sealRow", desc := "([II)V" } : Jvm.MethodName) prog_1_method_37_code (5 : Nat) (Option.none : Option Jvm.ClassFile.FieldType)) ∈ WALL := List.mem_filter.mpr ⟨List.mem_append_right _ (List.mem_of_getElem? (i := 452) (by decide +kernel)), by decide +kernel⟩
theorem t_453 : (Jvm.Cond.methodLink "SharedLog" (141 : Nat) ({ cls := "SharedLog", name := "merge", desc := "([I[II)V" } : Jvm.MethodName)) ∈ WALL := List.mem_filter.mpr ⟨List.mem_append_right _ (List.mem_of_getElem? (i := 453) (by decide +kernel)), by decide +kernel⟩
theorem t_455 : (Jvm.Cond.instanceMethod ({ cls := "SharedLog", name := "merge", desc := "([I[II)V" } : Jvm.MethodName)) ∈ WALL := List.mem_filter.mpr ⟨List.mem_append_right _ (List.mem_of_getElem? (i := 455) (by decide +kernel)), by decide +kernel⟩
theorem t_456 : (Jvm.Cond.code ({ cls := "SharedLog", name := "merge", desc := "([I[II)V" } : Jvm.MethodName) prog_1_method_38_code (7 : Nat) (Option.none : Option Jvm.ClassFile.FieldType)) ∈ WALL := List.mem_filter.mpr ⟨List.mem_append_right _ (List.mem_of_getElem? (i := 456) (by decide +kernel)), by decide +kernel⟩
theorem t_457 : (Jvm.Cond.methodLink "SharedLog" (277 : Nat) ({ cls := "SharedLog", name := "firstHeld", desc := "([II)LSharedLog$Entry;" } : Jvm.MethodName)) ∈ WALL := List.mem_filter.mpr ⟨List.mem_append_right _ (List.mem_of_getElem? (i := 457) (by decide +kernel)), by decide +kernel⟩
theorem t_459 : (Jvm.Cond.instanceMethod ({ cls := "SharedLog", name := "firstHeld", desc := "([II)LSharedLog$Entry;" } : Jvm.MethodName)) ∈ WALL := List.mem_filter.mpr ⟨List.mem_append_right _ (List.mem_of_getElem? (i := 459) (by decide +kernel)), by decide +kernel⟩
theorem t_460 : (Jvm.Cond.code ({ cls := "SharedLog", name := "firstHeld", desc := "([II)LSharedLog$Entry;" } : Jvm.MethodName) prog_1_method_39_code (5 : Nat) (Option.some (Jvm.ClassFile.FieldType.object "SharedLog$Entry"))) ∈ WALL := List.mem_filter.mpr ⟨List.mem_append_right _ (List.mem_of_getElem? (i := 460) (by decide +kernel)), by decide +kernel⟩
theorem t_461 : (Jvm.Cond.methodLink "SharedLog" (145 : Nat) ({ cls := "SharedLog", name := "firstFreeOffset", desc := "()I" } : Jvm.MethodName)) ∈ WALL := List.mem_filter.mpr ⟨List.mem_append_right _ (List.mem_of_getElem? (i := 461) (by decide +kernel)), by decide +kernel⟩
theorem t_463 : (Jvm.Cond.instanceMethod ({ cls := "SharedLog", name := "firstFreeOffset", desc := "()I" } : Jvm.MethodName)) ∈ WALL := List.mem_filter.mpr ⟨List.mem_append_right _ (List.mem_of_getElem? (i := 463) (by decide +kernel)), by decide +kernel⟩
theorem t_464 : (Jvm.Cond.code ({ cls := "SharedLog", name := "firstFreeOffset", desc := "()I" } : Jvm.MethodName) prog_1_method_40_code (2 : Nat) (Option.some Jvm.ClassFile.FieldType.int)) ∈ WALL := List.mem_filter.mpr ⟨List.mem_append_right _ (List.mem_of_getElem? (i := 464) (by decide +kernel)), by decide +kernel⟩
theorem t_465 : (Jvm.Cond.methodLink "SharedLog" (149 : Nat) ({ cls := "SharedLog$Sequencer", name := "restart", desc := "(II)V" } : Jvm.MethodName)) ∈ WALL := List.mem_filter.mpr ⟨List.mem_append_right _ (List.mem_of_getElem? (i := 465) (by decide +kernel)), by decide +kernel⟩
theorem t_466 : (Jvm.Cond.instanceMethod ({ cls := "SharedLog$Sequencer", name := "restart", desc := "(II)V" } : Jvm.MethodName)) ∈ WALL := List.mem_filter.mpr ⟨List.mem_append_right _ (List.mem_of_getElem? (i := 466) (by decide +kernel)), by decide +kernel⟩
theorem t_467 : (Jvm.Cond.selects "SharedLog$Sequencer" ({ cls := "SharedLog$Sequencer", name := "restart", desc := "(II)V" } : Jvm.MethodName) ({ cls := "SharedLog$Sequencer", name := "restart", desc := "(II)V" } : Jvm.MethodName)) ∈ WALL := List.mem_filter.mpr ⟨List.mem_append_right _ (List.mem_of_getElem? (i := 467) (by decide +kernel)), by decide +kernel⟩
theorem t_468 : (Jvm.Cond.code ({ cls := "SharedLog$Sequencer", name := "restart", desc := "(II)V" } : Jvm.MethodName) prog_5_method_2_code (3 : Nat) (Option.none : Option Jvm.ClassFile.FieldType)) ∈ WALL := List.mem_filter.mpr ⟨List.mem_append_right _ (List.mem_of_getElem? (i := 468) (by decide +kernel)), by decide +kernel⟩
theorem t_469 : (Jvm.Cond.methodLink "SharedLogLaw" (108 : Nat) ({ cls := "SharedLogLaw", name := "up", desc := "(LSharedLog;IZ[J)I" } : Jvm.MethodName)) ∈ WALL := List.mem_filter.mpr ⟨List.mem_append_right _ (List.mem_of_getElem? (i := 469) (by decide +kernel)), by decide +kernel⟩
theorem t_470 : (Jvm.Cond.static ({ cls := "SharedLogLaw", name := "up", desc := "(LSharedLog;IZ[J)I" } : Jvm.MethodName)) ∈ WALL := List.mem_filter.mpr ⟨List.mem_append_right _ (List.mem_of_getElem? (i := 470) (by decide +kernel)), by decide +kernel⟩
theorem t_472 : (Jvm.Cond.methodLink "SharedLogLaw" (41 : Nat) ({ cls := "SharedLog", name := "up", desc := "(IZ)I" } : Jvm.MethodName)) ∈ WALL := List.mem_filter.mpr ⟨List.mem_append_right _ (List.mem_of_getElem? (i := 472) (by decide +kernel)), by decide +kernel⟩
theorem t_473 : (Jvm.Cond.instanceMethod ({ cls := "SharedLog", name := "up", desc := "(IZ)I" } : Jvm.MethodName)) ∈ WALL := List.mem_filter.mpr ⟨List.mem_append_right _ (List.mem_of_getElem? (i := 473) (by decide +kernel)), by decide +kernel⟩
theorem t_474 : (Jvm.Cond.selects "SharedLog" ({ cls := "SharedLog", name := "up", desc := "(IZ)I" } : Jvm.MethodName) ({ cls := "SharedLog", name := "up", desc := "(IZ)I" } : Jvm.MethodName)) ∈ WALL := List.mem_filter.mpr ⟨List.mem_append_right _ (List.mem_of_getElem? (i := 474) (by decide +kernel)), by decide +kernel⟩
theorem t_475 : (Jvm.Cond.code ({ cls := "SharedLog", name := "up", desc := "(IZ)I" } : Jvm.MethodName) prog_1_method_8_code (3 : Nat) (Option.some Jvm.ClassFile.FieldType.int)) ∈ WALL := List.mem_filter.mpr ⟨List.mem_append_right _ (List.mem_of_getElem? (i := 475) (by decide +kernel)), by decide +kernel⟩
theorem t_476 : (Jvm.Cond.methodLink "SharedLogLaw" (116 : Nat) ({ cls := "SharedLogLaw", name := "sync", desc := "(LSharedLog;I[J)I" } : Jvm.MethodName)) ∈ WALL := List.mem_filter.mpr ⟨List.mem_append_right _ (List.mem_of_getElem? (i := 476) (by decide +kernel)), by decide +kernel⟩
theorem t_477 : (Jvm.Cond.static ({ cls := "SharedLogLaw", name := "sync", desc := "(LSharedLog;I[J)I" } : Jvm.MethodName)) ∈ WALL := List.mem_filter.mpr ⟨List.mem_append_right _ (List.mem_of_getElem? (i := 477) (by decide +kernel)), by decide +kernel⟩
theorem t_479 : (Jvm.Cond.methodLink "SharedLogLaw" (45 : Nat) ({ cls := "SharedLog", name := "sync", desc := "(I)I" } : Jvm.MethodName)) ∈ WALL := List.mem_filter.mpr ⟨List.mem_append_right _ (List.mem_of_getElem? (i := 479) (by decide +kernel)), by decide +kernel⟩
theorem t_480 : (Jvm.Cond.instanceMethod ({ cls := "SharedLog", name := "sync", desc := "(I)I" } : Jvm.MethodName)) ∈ WALL := List.mem_filter.mpr ⟨List.mem_append_right _ (List.mem_of_getElem? (i := 480) (by decide +kernel)), by decide +kernel⟩
theorem t_481 : (Jvm.Cond.selects "SharedLog" ({ cls := "SharedLog", name := "sync", desc := "(I)I" } : Jvm.MethodName) ({ cls := "SharedLog", name := "sync", desc := "(I)I" } : Jvm.MethodName)) ∈ WALL := List.mem_filter.mpr ⟨List.mem_append_right _ (List.mem_of_getElem? (i := 481) (by decide +kernel)), by decide +kernel⟩
theorem t_482 : (Jvm.Cond.code ({ cls := "SharedLog", name := "sync", desc := "(I)I" } : Jvm.MethodName) prog_1_method_10_code (3 : Nat) (Option.some Jvm.ClassFile.FieldType.int)) ∈ WALL := List.mem_filter.mpr ⟨List.mem_append_right _ (List.mem_of_getElem? (i := 482) (by decide +kernel)), by decide +kernel⟩
theorem t_483 : (Jvm.Cond.methodLink "SharedLog" (168 : Nat) ({ cls := "SharedLog", name := "play", desc := "(LSharedLog$Client;I)Z" } : Jvm.MethodName)) ∈ WALL := List.mem_filter.mpr ⟨List.mem_append_right _ (List.mem_of_getElem? (i := 483) (by decide +kernel)), by decide +kernel⟩
theorem t_485 : (Jvm.Cond.instanceMethod ({ cls := "SharedLog", name := "play", desc := "(LSharedLog$Client;I)Z" } : Jvm.MethodName)) ∈ WALL := List.mem_filter.mpr ⟨List.mem_append_right _ (List.mem_of_getElem? (i := 485) (by decide +kernel)), by decide +kernel⟩
theorem t_486 : (Jvm.Cond.code ({ cls := "SharedLog", name := "play", desc := "(LSharedLog$Client;I)Z" } : Jvm.MethodName) prog_1_method_32_code (5 : Nat) (Option.some Jvm.ClassFile.FieldType.boolean)) ∈ WALL := List.mem_filter.mpr ⟨List.mem_append_right _ (List.mem_of_getElem? (i := 486) (by decide +kernel)), by decide +kernel⟩
theorem t_487 : (Jvm.Cond.methodLink "SharedLog" (256 : Nat) ({ cls := "SharedLog$Client", name := "apply", desc := "(LSharedLog$Work;I)Z" } : Jvm.MethodName)) ∈ WALL := List.mem_filter.mpr ⟨List.mem_append_right _ (List.mem_of_getElem? (i := 487) (by decide +kernel)), by decide +kernel⟩
theorem t_488 : (Jvm.Cond.instanceMethod ({ cls := "SharedLog$Client", name := "apply", desc := "(LSharedLog$Work;I)Z" } : Jvm.MethodName)) ∈ WALL := List.mem_filter.mpr ⟨List.mem_append_right _ (List.mem_of_getElem? (i := 488) (by decide +kernel)), by decide +kernel⟩
theorem t_489 : (Jvm.Cond.selects "SharedLog$Client" ({ cls := "SharedLog$Client", name := "apply", desc := "(LSharedLog$Work;I)Z" } : Jvm.MethodName) ({ cls := "SharedLog$Client", name := "apply", desc := "(LSharedLog$Work;I)Z" } : Jvm.MethodName)) ∈ WALL := List.mem_filter.mpr ⟨List.mem_append_right _ (List.mem_of_getElem? (i := 489) (by decide +kernel)), by decide +kernel⟩
theorem t_490 : (Jvm.Cond.code ({ cls := "SharedLog$Client", name := "apply", desc := "(LSharedLog$Work;I)Z" } : Jvm.MethodName) prog_2_method_3_code (4 : Nat) (Option.some Jvm.ClassFile.FieldType.boolean)) ∈ WALL := List.mem_filter.mpr ⟨List.mem_append_right _ (List.mem_of_getElem? (i := 490) (by decide +kernel)), by decide +kernel⟩
theorem t_491 : (Jvm.Cond.methodLink "SharedLog$Client" (44 : Nat) ({ cls := "SharedLog$Client", name := "agesMatch", desc := "(LSharedLog$Work;)Z" } : Jvm.MethodName)) ∈ WALL := List.mem_filter.mpr ⟨List.mem_append_right _ (List.mem_of_getElem? (i := 491) (by decide +kernel)), by decide +kernel⟩
theorem t_492 : (Jvm.Cond.instanceMethod ({ cls := "SharedLog$Client", name := "agesMatch", desc := "(LSharedLog$Work;)Z" } : Jvm.MethodName)) ∈ WALL := List.mem_filter.mpr ⟨List.mem_append_right _ (List.mem_of_getElem? (i := 492) (by decide +kernel)), by decide +kernel⟩
theorem t_493 : (Jvm.Cond.selects "SharedLog$Client" ({ cls := "SharedLog$Client", name := "agesMatch", desc := "(LSharedLog$Work;)Z" } : Jvm.MethodName) ({ cls := "SharedLog$Client", name := "agesMatch", desc := "(LSharedLog$Work;)Z" } : Jvm.MethodName)) ∈ WALL := List.mem_filter.mpr ⟨List.mem_append_right _ (List.mem_of_getElem? (i := 493) (by decide +kernel)), by decide +kernel⟩
theorem t_494 : (Jvm.Cond.code ({ cls := "SharedLog$Client", name := "agesMatch", desc := "(LSharedLog$Work;)Z" } : Jvm.MethodName) prog_2_method_2_code (3 : Nat) (Option.some Jvm.ClassFile.FieldType.boolean)) ∈ WALL := List.mem_filter.mpr ⟨List.mem_append_right _ (List.mem_of_getElem? (i := 494) (by decide +kernel)), by decide +kernel⟩
theorem t_495 : (Jvm.Cond.methodLink "SharedLogLaw" (119 : Nat) ({ cls := "SharedLogLaw", name := "get", desc := "(LSharedLog;II[J)I" } : Jvm.MethodName)) ∈ WALL := List.mem_filter.mpr ⟨List.mem_append_right _ (List.mem_of_getElem? (i := 495) (by decide +kernel)), by decide +kernel⟩
theorem t_496 : (Jvm.Cond.static ({ cls := "SharedLogLaw", name := "get", desc := "(LSharedLog;II[J)I" } : Jvm.MethodName)) ∈ WALL := List.mem_filter.mpr ⟨List.mem_append_right _ (List.mem_of_getElem? (i := 496) (by decide +kernel)), by decide +kernel⟩
theorem t_498 : (Jvm.Cond.methodLink "SharedLogLaw" (48 : Nat) ({ cls := "SharedLog", name := "get", desc := "(II)I" } : Jvm.MethodName)) ∈ WALL := List.mem_filter.mpr ⟨List.mem_append_right _ (List.mem_of_getElem? (i := 498) (by decide +kernel)), by decide +kernel⟩
theorem t_499 : (Jvm.Cond.instanceMethod ({ cls := "SharedLog", name := "get", desc := "(II)I" } : Jvm.MethodName)) ∈ WALL := List.mem_filter.mpr ⟨List.mem_append_right _ (List.mem_of_getElem? (i := 499) (by decide +kernel)), by decide +kernel⟩
theorem t_500 : (Jvm.Cond.selects "SharedLog" ({ cls := "SharedLog", name := "get", desc := "(II)I" } : Jvm.MethodName) ({ cls := "SharedLog", name := "get", desc := "(II)I" } : Jvm.MethodName)) ∈ WALL := List.mem_filter.mpr ⟨List.mem_append_right _ (List.mem_of_getElem? (i := 500) (by decide +kernel)), by decide +kernel⟩
theorem t_501 : (Jvm.Cond.code ({ cls := "SharedLog", name := "get", desc := "(II)I" } : Jvm.MethodName) prog_1_method_11_code (3 : Nat) (Option.some Jvm.ClassFile.FieldType.int)) ∈ WALL := List.mem_filter.mpr ⟨List.mem_append_right _ (List.mem_of_getElem? (i := 501) (by decide +kernel)), by decide +kernel⟩
theorem t_502 : (Jvm.Cond.methodLink "SharedLogLaw" (122 : Nat) ({ cls := "SharedLogLaw", name := "begin", desc := "(LSharedLog;I[J)I" } : Jvm.MethodName)) ∈ WALL := List.mem_filter.mpr ⟨List.mem_append_right _ (List.mem_of_getElem? (i := 502) (by decide +kernel)), by decide +kernel⟩
theorem t_503 : (Jvm.Cond.static ({ cls := "SharedLogLaw", name := "begin", desc := "(LSharedLog;I[J)I" } : Jvm.MethodName)) ∈ WALL := List.mem_filter.mpr ⟨List.mem_append_right _ (List.mem_of_getElem? (i := 503) (by decide +kernel)), by decide +kernel⟩
theorem t_505 : (Jvm.Cond.methodLink "SharedLogLaw" (51 : Nat) ({ cls := "SharedLog", name := "begin", desc := "(I)I" } : Jvm.MethodName)) ∈ WALL := List.mem_filter.mpr ⟨List.mem_append_right _ (List.mem_of_getElem? (i := 505) (by decide +kernel)), by decide +kernel⟩
theorem t_506 : (Jvm.Cond.instanceMethod ({ cls := "SharedLog", name := "begin", desc := "(I)I" } : Jvm.MethodName)) ∈ WALL := List.mem_filter.mpr ⟨List.mem_append_right _ (List.mem_of_getElem? (i := 506) (by decide +kernel)), by decide +kernel⟩
theorem t_507 : (Jvm.Cond.selects "SharedLog" ({ cls := "SharedLog", name := "begin", desc := "(I)I" } : Jvm.MethodName) ({ cls := "SharedLog", name := "begin", desc := "(I)I" } : Jvm.MethodName)) ∈ WALL := List.mem_filter.mpr ⟨List.mem_append_right _ (List.mem_of_getElem? (i := 507) (by decide +kernel)), by decide +kernel⟩
theorem t_508 : (Jvm.Cond.code ({ cls := "SharedLog", name := "begin", desc := "(I)I" } : Jvm.MethodName) prog_1_method_12_code (3 : Nat) (Option.some Jvm.ClassFile.FieldType.int)) ∈ WALL := List.mem_filter.mpr ⟨List.mem_append_right _ (List.mem_of_getElem? (i := 508) (by decide +kernel)), by decide +kernel⟩
theorem t_510 : (Jvm.Cond.methodLink "SharedLog" (191 : Nat) ({ cls := "SharedLog$Work", name := "clear", desc := "()V" } : Jvm.MethodName)) ∈ WALL := List.mem_filter.mpr ⟨List.mem_append_right _ (List.mem_of_getElem? (i := 510) (by decide +kernel)), by decide +kernel⟩
theorem t_511 : (Jvm.Cond.instanceMethod ({ cls := "SharedLog$Work", name := "clear", desc := "()V" } : Jvm.MethodName)) ∈ WALL := List.mem_filter.mpr ⟨List.mem_append_right _ (List.mem_of_getElem? (i := 511) (by decide +kernel)), by decide +kernel⟩
theorem t_512 : (Jvm.Cond.selects "SharedLog$Work" ({ cls := "SharedLog$Work", name := "clear", desc := "()V" } : Jvm.MethodName) ({ cls := "SharedLog$Work", name := "clear", desc := "()V" } : Jvm.MethodName)) ∈ WALL := List.mem_filter.mpr ⟨List.mem_append_right _ (List.mem_of_getElem? (i := 512) (by decide +kernel)), by decide +kernel⟩
theorem t_513 : (Jvm.Cond.code ({ cls := "SharedLog$Work", name := "clear", desc := "()V" } : Jvm.MethodName) prog_7_method_2_code (2 : Nat) (Option.none : Option Jvm.ClassFile.FieldType)) ∈ WALL := List.mem_filter.mpr ⟨List.mem_append_right _ (List.mem_of_getElem? (i := 513) (by decide +kernel)), by decide +kernel⟩
theorem t_514 : (Jvm.Cond.methodLink "SharedLogLaw" (125 : Nat) ({ cls := "SharedLogLaw", name := "see", desc := "(LSharedLog;II[J)I" } : Jvm.MethodName)) ∈ WALL := List.mem_filter.mpr ⟨List.mem_append_right _ (List.mem_of_getElem? (i := 514) (by decide +kernel)), by decide +kernel⟩
theorem t_515 : (Jvm.Cond.static ({ cls := "SharedLogLaw", name := "see", desc := "(LSharedLog;II[J)I" } : Jvm.MethodName)) ∈ WALL := List.mem_filter.mpr ⟨List.mem_append_right _ (List.mem_of_getElem? (i := 515) (by decide +kernel)), by decide +kernel⟩
theorem t_517 : (Jvm.Cond.methodLink "SharedLogLaw" (54 : Nat) ({ cls := "SharedLog", name := "see", desc := "(II)I" } : Jvm.MethodName)) ∈ WALL := List.mem_filter.mpr ⟨List.mem_append_right _ (List.mem_of_getElem? (i := 517) (by decide +kernel)), by decide +kernel⟩
theorem t_518 : (Jvm.Cond.instanceMethod ({ cls := "SharedLog", name := "see", desc := "(II)I" } : Jvm.MethodName)) ∈ WALL := List.mem_filter.mpr ⟨List.mem_append_right _ (List.mem_of_getElem? (i := 518) (by decide +kernel)), by decide +kernel⟩
theorem t_519 : (Jvm.Cond.selects "SharedLog" ({ cls := "SharedLog", name := "see", desc := "(II)I" } : Jvm.MethodName) ({ cls := "SharedLog", name := "see", desc := "(II)I" } : Jvm.MethodName)) ∈ WALL := List.mem_filter.mpr ⟨List.mem_append_right _ (List.mem_of_getElem? (i := 519) (by decide +kernel)), by decide +kernel⟩
theorem t_520 : (Jvm.Cond.code ({ cls := "SharedLog", name := "see", desc := "(II)I" } : Jvm.MethodName) prog_1_method_13_code (5 : Nat) (Option.some Jvm.ClassFile.FieldType.int)) ∈ WALL := List.mem_filter.mpr ⟨List.mem_append_right _ (List.mem_of_getElem? (i := 520) (by decide +kernel)), by decide +kernel⟩
theorem t_521 : (Jvm.Cond.methodLink "SharedLog" (194 : Nat) ({ cls := "SharedLog", name := "requireTransaction", desc := "(LSharedLog$Client;)V" } : Jvm.MethodName)) ∈ WALL := List.mem_filter.mpr ⟨List.mem_append_right _ (List.mem_of_getElem? (i := 521) (by decide +kernel)), by decide +kernel⟩
theorem t_522 : (Jvm.Cond.static ({ cls := "SharedLog", name := "requireTransaction", desc := "(LSharedLog$Client;)V" } : Jvm.MethodName)) ∈ WALL := List.mem_filter.mpr ⟨List.mem_append_right _ (List.mem_of_getElem? (i := 522) (by decide +kernel)), by decide +kernel⟩
theorem t_523 : (Jvm.Cond.code ({ cls := "SharedLog", name := "requireTransaction", desc := "(LSharedLog$Client;)V" } : Jvm.MethodName) prog_1_method_25_code (1 : Nat) (Option.none : Option Jvm.ClassFile.FieldType)) ∈ WALL := List.mem_filter.mpr ⟨List.mem_append_right _ (List.mem_of_getElem? (i := 523) (by decide +kernel)), by decide +kernel⟩
theorem t_525 : (Jvm.Cond.methodLink "SharedLog" (205 : Nat) ({ cls := "SharedLog$Work", name := "noteRead", desc := "(II)V" } : Jvm.MethodName)) ∈ WALL := List.mem_filter.mpr ⟨List.mem_append_right _ (List.mem_of_getElem? (i := 525) (by decide +kernel)), by decide +kernel⟩
theorem t_526 : (Jvm.Cond.instanceMethod ({ cls := "SharedLog$Work", name := "noteRead", desc := "(II)V" } : Jvm.MethodName)) ∈ WALL := List.mem_filter.mpr ⟨List.mem_append_right _ (List.mem_of_getElem? (i := 526) (by decide +kernel)), by decide +kernel⟩
theorem t_527 : (Jvm.Cond.selects "SharedLog$Work" ({ cls := "SharedLog$Work", name := "noteRead", desc := "(II)V" } : Jvm.MethodName) ({ cls := "SharedLog$Work", name := "noteRead", desc := "(II)V" } : Jvm.MethodName)) ∈ WALL := List.mem_filter.mpr ⟨List.mem_append_right _ (List.mem_of_getElem? (i := 527) (by decide +kernel)), by decide +kernel⟩
theorem t_528 : (Jvm.Cond.code ({ cls := "SharedLog$Work", name := "noteRead", desc := "(II)V" } : Jvm.MethodName) prog_7_method_3_code (3 : Nat) (Option.none : Option Jvm.ClassFile.FieldType)) ∈ WALL := List.mem_filter.mpr ⟨List.mem_append_right _ (List.mem_of_getElem? (i := 528) (by decide +kernel)), by decide +kernel⟩
theorem t_529 : (Jvm.Cond.methodLink "SharedLogLaw" (128 : Nat) ({ cls := "SharedLogLaw", name := "put", desc := "(LSharedLog;III[J)I" } : Jvm.MethodName)) ∈ WALL := List.mem_filter.mpr ⟨List.mem_append_right _ (List.mem_of_getElem? (i := 529) (by decide +kernel)), by decide +kernel⟩
theorem t_530 : (Jvm.Cond.static ({ cls := "SharedLogLaw", name := "put", desc := "(LSharedLog;III[J)I" } : Jvm.MethodName)) ∈ WALL := List.mem_filter.mpr ⟨List.mem_append_right _ (List.mem_of_getElem? (i := 530) (by decide +kernel)), by decide +kernel⟩
theorem t_532 : (Jvm.Cond.methodLink "SharedLogLaw" (57 : Nat) ({ cls := "SharedLog", name := "put", desc := "(III)I" } : Jvm.MethodName)) ∈ WALL := List.mem_filter.mpr ⟨List.mem_append_right _ (List.mem_of_getElem? (i := 532) (by decide +kernel)), by decide +kernel⟩
theorem t_533 : (Jvm.Cond.instanceMethod ({ cls := "SharedLog", name := "put", desc := "(III)I" } : Jvm.MethodName)) ∈ WALL := List.mem_filter.mpr ⟨List.mem_append_right _ (List.mem_of_getElem? (i := 533) (by decide +kernel)), by decide +kernel⟩
theorem t_534 : (Jvm.Cond.selects "SharedLog" ({ cls := "SharedLog", name := "put", desc := "(III)I" } : Jvm.MethodName) ({ cls := "SharedLog", name := "put", desc := "(III)I" } : Jvm.MethodName)) ∈ WALL := List.mem_filter.mpr ⟨List.mem_append_right _ (List.mem_of_getElem? (i := 534) (by decide +kernel)), by decide +kernel⟩
theorem t_535 : (Jvm.Cond.code ({ cls := "SharedLog", name := "put", desc := "(III)I" } : Jvm.MethodName) prog_1_method_14_code (5 : Nat) (Option.some Jvm.ClassFile.FieldType.int)) ∈ WALL := List.mem_filter.mpr ⟨List.mem_append_right _ (List.mem_of_getElem? (i := 535) (by decide +kernel)), by decide +kernel⟩
theorem t_536 : (Jvm.Cond.methodLink "SharedLog" (208 : Nat) ({ cls := "SharedLog$Work", name := "putCount", desc := "()I" } : Jvm.MethodName)) ∈ WALL := List.mem_filter.mpr ⟨List.mem_append_right _ (List.mem_of_getElem? (i := 536) (by decide +kernel)), by decide +kernel⟩
theorem t_537 : (Jvm.Cond.instanceMethod ({ cls := "SharedLog$Work", name := "putCount", desc := "()I" } : Jvm.MethodName)) ∈ WALL := List.mem_filter.mpr ⟨List.mem_append_right _ (List.mem_of_getElem? (i := 537) (by decide +kernel)), by decide +kernel⟩
theorem t_538 : (Jvm.Cond.selects "SharedLog$Work" ({ cls := "SharedLog$Work", name := "putCount", desc := "()I" } : Jvm.MethodName) ({ cls := "SharedLog$Work", name := "putCount", desc := "()I" } : Jvm.MethodName)) ∈ WALL := List.mem_filter.mpr ⟨List.mem_append_right _ (List.mem_of_getElem? (i := 538) (by decide +kernel)), by decide +kernel⟩
theorem t_539 : (Jvm.Cond.code ({ cls := "SharedLog$Work", name := "putCount", desc := "()I" } : Jvm.MethodName) prog_7_method_5_code (3 : Nat) (Option.some Jvm.ClassFile.FieldType.int)) ∈ WALL := List.mem_filter.mpr ⟨List.mem_append_right _ (List.mem_of_getElem? (i := 539) (by decide +kernel)), by decide +kernel⟩
theorem t_540 : (Jvm.Cond.methodLink "SharedLogLaw" (131 : Nat) ({ cls := "SharedLogLaw", name := "commit", desc := "(LSharedLog;I[J)I" } : Jvm.MethodName)) ∈ WALL := List.mem_filter.mpr ⟨List.mem_append_right _ (List.mem_of_getElem? (i := 540) (by decide +kernel)), by decide +kernel⟩
theorem t_541 : (Jvm.Cond.static ({ cls := "SharedLogLaw", name := "commit", desc := "(LSharedLog;I[J)I" } : Jvm.MethodName)) ∈ WALL := List.mem_filter.mpr ⟨List.mem_append_right _ (List.mem_of_getElem? (i := 541) (by decide +kernel)), by decide +kernel⟩
theorem t_543 : (Jvm.Cond.methodLink "SharedLogLaw" (60 : Nat) ({ cls := "SharedLog", name := "commit", desc := "(I)Z" } : Jvm.MethodName)) ∈ WALL := List.mem_filter.mpr ⟨List.mem_append_right _ (List.mem_of_getElem? (i := 543) (by decide +kernel)), by decide +kernel⟩
theorem t_544 : (Jvm.Cond.instanceMethod ({ cls := "SharedLog", name := "commit", desc := "(I)Z" } : Jvm.MethodName)) ∈ WALL := List.mem_filter.mpr ⟨List.mem_append_right _ (List.mem_of_getElem? (i := 544) (by decide +kernel)), by decide +kernel⟩
theorem t_545 : (Jvm.Cond.selects "SharedLog" ({ cls := "SharedLog", name := "commit", desc := "(I)Z" } : Jvm.MethodName) ({ cls := "SharedLog", name := "commit", desc := "(I)Z" } : Jvm.MethodName)) ∈ WALL := List.mem_filter.mpr ⟨List.mem_append_right _ (List.mem_of_getElem? (i := 545) (by decide +kernel)), by decide +kernel⟩
theorem t_546 : (Jvm.Cond.code ({ cls := "SharedLog", name := "commit", desc := "(I)Z" } : Jvm.MethodName) prog_1_method_15_code (4 : Nat) (Option.some Jvm.ClassFile.FieldType.boolean)) ∈ WALL := List.mem_filter.mpr ⟨List.mem_append_right _ (List.mem_of_getElem? (i := 546) (by decide +kernel)), by decide +kernel⟩
theorem t_547 : (Jvm.Cond.methodLink "SharedLog" (211 : Nat) ({ cls := "SharedLog$Client", name := "agesMatch", desc := "(LSharedLog$Work;)Z" } : Jvm.MethodName)) ∈ WALL := List.mem_filter.mpr ⟨List.mem_append_right _ (List.mem_of_getElem? (i := 547) (by decide +kernel)), by decide +kernel⟩
theorem t_548 : (Jvm.Cond.methodLink "SharedLog" (215 : Nat) ({ cls := "SharedLog", name := "writeAndPlayCommit", desc := "(LSharedLog$Client;)Z" } : Jvm.MethodName)) ∈ WALL := List.mem_filter.mpr ⟨List.mem_append_right _ (List.mem_of_getElem? (i := 548) (by decide +kernel)), by decide +kernel⟩
theorem t_550 : (Jvm.Cond.instanceMethod ({ cls := "SharedLog", name := "writeAndPlayCommit", desc := "(LSharedLog$Client;)Z" } : Jvm.MethodName)) ∈ WALL := List.mem_filter.mpr ⟨List.mem_append_right _ (List.mem_of_getElem? (i := 550) (by decide +kernel)), by decide +kernel⟩
theorem t_551 : (Jvm.Cond.code ({ cls := "SharedLog", name := "writeAndPlayCommit", desc := "(LSharedLog$Client;)Z" } : Jvm.MethodName) prog_1_method_33_code (4 : Nat) (Option.some Jvm.ClassFile.FieldType.boolean)) ∈ WALL := List.mem_filter.mpr ⟨List.mem_append_right _ (List.mem_of_getElem? (i := 551) (by decide +kernel)), by decide +kernel⟩
theorem t_552 : (Jvm.Cond.methodLink "SharedLog" (260 : Nat) ({ cls := "SharedLog$Work", name := "copy", desc := "()LSharedLog$Work;" } : Jvm.MethodName)) ∈ WALL := List.mem_filter.mpr ⟨List.mem_append_right _ (List.mem_of_getElem? (i := 552) (by decide +kernel)), by decide +kernel⟩
theorem t_553 : (Jvm.Cond.instanceMethod ({ cls := "SharedLog$Work", name := "copy", desc := "()LSharedLog$Work;" } : Jvm.MethodName)) ∈ WALL := List.mem_filter.mpr ⟨List.mem_append_right _ (List.mem_of_getElem? (i := 553) (by decide +kernel)), by decide +kernel⟩
theorem t_554 : (Jvm.Cond.selects "SharedLog$Work" ({ cls := "SharedLog$Work", name := "copy", desc := "()LSharedLog$Work;" } : Jvm.MethodName) ({ cls := "SharedLog$Work", name := "copy", desc := "()LSharedLog$Work;" } : Jvm.MethodName)) ∈ WALL := List.mem_filter.mpr ⟨List.mem_append_right _ (List.mem_of_getElem? (i := 554) (by decide +kernel)), by decide +kernel⟩
theorem t_555 : (Jvm.Cond.code ({ cls := "SharedLog$Work", name := "copy", desc := "()LSharedLog$Work;" } : Jvm.MethodName) prog_7_method_6_code (3 : Nat) (Option.some (Jvm.ClassFile.FieldType.object "SharedLog$Work"))) ∈ WALL := List.mem_filter.mpr ⟨List.mem_append_right _ (List.mem_of_getElem? (i := 555) (by decide +kernel)), by decide +kernel⟩
theorem t_556 : (Jvm.Cond.classLink "SharedLog$Work" (10 : Nat) "SharedLog$Work") ∈ WALL := List.mem_filter.mpr ⟨List.mem_append_right _ (List.mem_of_getElem? (i := 556) (by decide +kernel)), by decide +kernel⟩
theorem t_557 : (Jvm.Cond.methodLink "SharedLog$Work" (25 : Nat) ({ cls := "SharedLog$Work", name := "<init>", desc := "()V" } : Jvm.MethodName)) ∈ WALL := List.mem_filter.mpr ⟨List.mem_append_right _ (List.mem_of_getElem? (i := 557) (by decide +kernel)), by decide +kernel⟩
theorem t_558 : (Jvm.Cond.methodLink "SharedLogLaw" (134 : Nat) ({ cls := "SharedLogLaw", name := "drop", desc := "(LSharedLog;I[J)I" } : Jvm.MethodName)) ∈ WALL := List.mem_filter.mpr ⟨List.mem_append_right _ (List.mem_of_getElem? (i := 558) (by decide +kernel)), by decide +kernel⟩
theorem t_559 : (Jvm.Cond.static ({ cls := "SharedLogLaw", name := "drop", desc := "(LSharedLog;I[J)I" } : Jvm.MethodName)) ∈ WALL := List.mem_filter.mpr ⟨List.mem_append_right _ (List.mem_of_getElem? (i := 559) (by decide +kernel)), by decide +kernel⟩
theorem t_561 : (Jvm.Cond.methodLink "SharedLogLaw" (64 : Nat) ({ cls := "SharedLog", name := "drop", desc := "(I)I" } : Jvm.MethodName)) ∈ WALL := List.mem_filter.mpr ⟨List.mem_append_right _ (List.mem_of_getElem? (i := 561) (by decide +kernel)), by decide +kernel⟩
theorem t_562 : (Jvm.Cond.instanceMethod ({ cls := "SharedLog", name := "drop", desc := "(I)I" } : Jvm.MethodName)) ∈ WALL := List.mem_filter.mpr ⟨List.mem_append_right _ (List.mem_of_getElem? (i := 562) (by decide +kernel)), by decide +kernel⟩
theorem t_563 : (Jvm.Cond.selects "SharedLog" ({ cls := "SharedLog", name := "drop", desc := "(I)I" } : Jvm.MethodName) ({ cls := "SharedLog", name := "drop", desc := "(I)I" } : Jvm.MethodName)) ∈ WALL := List.mem_filter.mpr ⟨List.mem_append_right _ (List.mem_of_getElem? (i := 563) (by decide +kernel)), by decide +kernel⟩
theorem t_564 : (Jvm.Cond.code ({ cls := "SharedLog", name := "drop", desc := "(I)I" } : Jvm.MethodName) prog_1_method_16_code (3 : Nat) (Option.some Jvm.ClassFile.FieldType.int)) ∈ WALL := List.mem_filter.mpr ⟨List.mem_append_right _ (List.mem_of_getElem? (i := 564) (by decide +kernel)), by decide +kernel⟩
theorem t_565 : (Jvm.Cond.methodLink "SharedLogLaw" (137 : Nat) ({ cls := "SharedLogLaw", name := "look", desc := "(LSharedLog;II[J)I" } : Jvm.MethodName)) ∈ WALL := List.mem_filter.mpr ⟨List.mem_append_right _ (List.mem_of_getElem? (i := 565) (by decide +kernel)), by decide +kernel⟩
theorem t_566 : (Jvm.Cond.static ({ cls := "SharedLogLaw", name := "look", desc := "(LSharedLog;II[J)I" } : Jvm.MethodName)) ∈ WALL := List.mem_filter.mpr ⟨List.mem_append_right _ (List.mem_of_getElem? (i := 566) (by decide +kernel)), by decide +kernel⟩
theorem t_568 : (Jvm.Cond.methodLink "SharedLogLaw" (67 : Nat) ({ cls := "SharedLog", name := "look", desc := "(II)I" } : Jvm.MethodName)) ∈ WALL := List.mem_filter.mpr ⟨List.mem_append_right _ (List.mem_of_getElem? (i := 568) (by decide +kernel)), by decide +kernel⟩
theorem t_569 : (Jvm.Cond.instanceMethod ({ cls := "SharedLog", name := "look", desc := "(II)I" } : Jvm.MethodName)) ∈ WALL := List.mem_filter.mpr ⟨List.mem_append_right _ (List.mem_of_getElem? (i := 569) (by decide +kernel)), by decide +kernel⟩
theorem t_570 : (Jvm.Cond.selects "SharedLog" ({ cls := "SharedLog", name := "look", desc := "(II)I" } : Jvm.MethodName) ({ cls := "SharedLog", name := "look", desc := "(II)I" } : Jvm.MethodName)) ∈ WALL := List.mem_filter.mpr ⟨List.mem_append_right _ (List.mem_of_getElem? (i := 570) (by decide +kernel)), by decide +kernel⟩
theorem t_571 : (Jvm.Cond.code ({ cls := "SharedLog", name := "look", desc := "(II)I" } : Jvm.MethodName) prog_1_method_17_code (3 : Nat) (Option.some Jvm.ClassFile.FieldType.int)) ∈ WALL := List.mem_filter.mpr ⟨List.mem_append_right _ (List.mem_of_getElem? (i := 571) (by decide +kernel)), by decide +kernel⟩
theorem t_572 : (Jvm.Cond.methodLink "SharedLogLaw" (140 : Nat) ({ cls := "SharedLogLaw", name := "client", desc := "(LSharedLog;II[J)I" } : Jvm.MethodName)) ∈ WALL := List.mem_filter.mpr ⟨List.mem_append_right _ (List.mem_of_getElem? (i := 572) (by decide +kernel)), by decide +kernel⟩
theorem t_573 : (Jvm.Cond.static ({ cls := "SharedLogLaw", name := "client", desc := "(LSharedLog;II[J)I" } : Jvm.MethodName)) ∈ WALL := List.mem_filter.mpr ⟨List.mem_append_right _ (List.mem_of_getElem? (i := 573) (by decide +kernel)), by decide +kernel⟩
theorem t_575 : (Jvm.Cond.methodLink "SharedLogLaw" (70 : Nat) ({ cls := "SharedLog", name := "client", desc := "(II)I" } : Jvm.MethodName)) ∈ WALL := List.mem_filter.mpr ⟨List.mem_append_right _ (List.mem_of_getElem? (i := 575) (by decide +kernel)), by decide +kernel⟩
theorem t_576 : (Jvm.Cond.instanceMethod ({ cls := "SharedLog", name := "client", desc := "(II)I" } : Jvm.MethodName)) ∈ WALL := List.mem_filter.mpr ⟨List.mem_append_right _ (List.mem_of_getElem? (i := 576) (by decide +kernel)), by decide +kernel⟩
theorem t_577 : (Jvm.Cond.selects "SharedLog" ({ cls := "SharedLog", name := "client", desc := "(II)I" } : Jvm.MethodName) ({ cls := "SharedLog", name := "client", desc := "(II)I" } : Jvm.MethodName)) ∈ WALL := List.mem_filter.mpr ⟨List.mem_append_right _ (List.mem_of_getElem? (i := 577) (by decide +kernel)), by decide +kernel⟩
theorem t_578 : (Jvm.Cond.code ({ cls := "SharedLog", name := "client", desc := "(II)I" } : Jvm.MethodName) prog_1_method_18_code (4 : Nat) (Option.some Jvm.ClassFile.FieldType.int)) ∈ WALL := List.mem_filter.mpr ⟨List.mem_append_right _ (List.mem_of_getElem? (i := 578) (by decide +kernel)), by decide +kernel⟩
theorem t_579 : (Jvm.Cond.methodLink "SharedLog" (219 : Nat) ({ cls := "SharedLog", name := "digitsOf", desc := "([I)I" } : Jvm.MethodName)) ∈ WALL := List.mem_filter.mpr ⟨List.mem_append_right _ (List.mem_of_getElem? (i := 579) (by decide +kernel)), by decide +kernel⟩
theorem t_580 : (Jvm.Cond.static ({ cls := "SharedLog", name := "digitsOf", desc := "([I)I" } : Jvm.MethodName)) ∈ WALL := List.mem_filter.mpr ⟨List.mem_append_right _ (List.mem_of_getElem? (i := 580) (by decide +kernel)), by decide +kernel⟩
theorem t_581 : (Jvm.Cond.code ({ cls := "SharedLog", name := "digitsOf", desc := "([I)I" } : Jvm.MethodName) prog_1_method_24_code (3 : Nat) (Option.some Jvm.ClassFile.FieldType.int)) ∈ WALL := List.mem_filter.mpr ⟨List.mem_append_right _ (List.mem_of_getElem? (i := 581) (by decide +kernel)), by decide +kernel⟩
theorem t_582 : (Jvm.Cond.methodLink "SharedLogLaw" (143 : Nat) ({ cls := "SharedLogLaw", name := "count", desc := "(LSharedLog;I[J)I" } : Jvm.MethodName)) ∈ WALL := List.mem_filter.mpr ⟨List.mem_append_right _ (List.mem_of_getElem? (i := 582) (by decide +kernel)), by decide +kernel⟩
theorem t_583 : (Jvm.Cond.static ({ cls := "SharedLogLaw", name := "count", desc := "(LSharedLog;I[J)I" } : Jvm.MethodName)) ∈ WALL := List.mem_filter.mpr ⟨List.mem_append_right _ (List.mem_of_getElem? (i := 583) (by decide +kernel)), by decide +kernel⟩
theorem t_585 : (Jvm.Cond.methodLink "SharedLogLaw" (73 : Nat) ({ cls := "SharedLog", name := "count", desc := "(I)I" } : Jvm.MethodName)) ∈ WALL := List.mem_filter.mpr ⟨List.mem_append_right _ (List.mem_of_getElem? (i := 585) (by decide +kernel)), by decide +kernel⟩
theorem t_586 : (Jvm.Cond.instanceMethod ({ cls := "SharedLog", name := "count", desc := "(I)I" } : Jvm.MethodName)) ∈ WALL := List.mem_filter.mpr ⟨List.mem_append_right _ (List.mem_of_getElem? (i := 586) (by decide +kernel)), by decide +kernel⟩
theorem t_587 : (Jvm.Cond.selects "SharedLog" ({ cls := "SharedLog", name := "count", desc := "(I)I" } : Jvm.MethodName) ({ cls := "SharedLog", name := "count", desc := "(I)I" } : Jvm.MethodName)) ∈ WALL := List.mem_filter.mpr ⟨List.mem_append_right _ (List.mem_of_getElem? (i := 587) (by decide +kernel)), by decide +kernel⟩
theorem t_588 : (Jvm.Cond.code ({ cls := "SharedLog", name := "count", desc := "(I)I" } : Jvm.MethodName) prog_1_method_19_code (2 : Nat) (Option.some Jvm.ClassFile.FieldType.int)) ∈ WALL := List.mem_filter.mpr ⟨List.mem_append_right _ (List.mem_of_getElem? (i := 588) (by decide +kernel)), by decide +kernel⟩
theorem t_589 : (Jvm.Cond.classLink "SharedLogLaw" (77 : Nat) "SharedLogModel") ∈ WALL := List.mem_filter.mpr ⟨List.mem_append_right _ (List.mem_of_getElem? (i := 589) (by decide +kernel)), by decide +kernel⟩
theorem t_590 : (Jvm.Cond.instantiable "SharedLogModel" (26 : Nat)) ∈ WALL := List.mem_filter.mpr ⟨List.mem_append_right _ (List.mem_of_getElem? (i := 590) (by decide +kernel)), by decide +kernel⟩
theorem t_591 : (Jvm.Cond.methodLink "SharedLogLaw" (79 : Nat) ({ cls := "SharedLogModel", name := "<init>", desc := "()V" } : Jvm.MethodName)) ∈ WALL := List.mem_filter.mpr ⟨List.mem_append_right _ (List.mem_of_getElem? (i := 591) (by decide +kernel)), by decide +kernel⟩
theorem t_592 : (Jvm.Cond.instanceMethod ({ cls := "SharedLogModel", name := "<init>", desc := "()V" } : Jvm.MethodName)) ∈ WALL := List.mem_filter.mpr ⟨List.mem_append_right _ (List.mem_of_getElem? (i := 592) (by decide +kernel)), by decide +kernel⟩
theorem t_593 : (Jvm.Cond.code ({ cls := "SharedLogModel", name := "<init>", desc := "()V" } : Jvm.MethodName) prog_9_method_1_code (2 : Nat) (Option.none : Option Jvm.ClassFile.FieldType)) ∈ WALL := List.mem_filter.mpr ⟨List.mem_append_right _ (List.mem_of_getElem? (i := 593) (by decide +kernel)), by decide +kernel⟩
theorem t_595 : (Jvm.Cond.methodLink "SharedLogModel" (78 : Nat) ({ cls := "SharedLogModel", name := "learnNow", desc := "(I)V" } : Jvm.MethodName)) ∈ WALL := List.mem_filter.mpr ⟨List.mem_append_right _ (List.mem_of_getElem? (i := 595) (by decide +kernel)), by decide +kernel⟩
theorem t_597 : (Jvm.Cond.instanceMethod ({ cls := "SharedLogModel", name := "learnNow", desc := "(I)V" } : Jvm.MethodName)) ∈ WALL := List.mem_filter.mpr ⟨List.mem_append_right _ (List.mem_of_getElem? (i := 597) (by decide +kernel)), by decide +kernel⟩
theorem t_598 : (Jvm.Cond.code ({ cls := "SharedLogModel", name := "learnNow", desc := "(I)V" } : Jvm.MethodName) prog_9_method_5_code (2 : Nat) (Option.none : Option Jvm.ClassFile.FieldType)) ∈ WALL := List.mem_filter.mpr ⟨List.mem_append_right _ (List.mem_of_getElem? (i := 598) (by decide +kernel)), by decide +kernel⟩
theorem t_599 : (Jvm.Cond.fieldLink "SharedLogModel" (82 : Nat) "SharedLogModel" "failed" "I") ∈ WALL := List.mem_filter.mpr ⟨List.mem_append_right _ (List.mem_of_getElem? (i := 599) (by decide +kernel)), by decide +kernel⟩
theorem t_600 : (Jvm.Cond.fieldLink "SharedLogModel" (7 : Nat) "SharedLogModel" "kind" "[I") ∈ WALL := List.mem_filter.mpr ⟨List.mem_append_right _ (List.mem_of_getElem? (i := 600) (by decide +kernel)), by decide +kernel⟩
theorem t_601 : (Jvm.Cond.fieldLink "SharedLogModel" (13 : Nat) "SharedLogModel" "register" "[I") ∈ WALL := List.mem_filter.mpr ⟨List.mem_append_right _ (List.mem_of_getElem? (i := 601) (by decide +kernel)), by decide +kernel⟩
theorem t_602 : (Jvm.Cond.fieldLink "SharedLogModel" (16 : Nat) "SharedLogModel" "value" "[I") ∈ WALL := List.mem_filter.mpr ⟨List.mem_append_right _ (List.mem_of_getElem? (i := 602) (by decide +kernel)), by decide +kernel⟩
theorem t_603 : (Jvm.Cond.fieldLink "SharedLogModel" (19 : Nat) "SharedLogModel" "reads" "[I") ∈ WALL := List.mem_filter.mpr ⟨List.mem_append_right _ (List.mem_of_getElem? (i := 603) (by decide +kernel)), by decide +kernel⟩
theorem t_604 : (Jvm.Cond.fieldLink "SharedLogModel" (22 : Nat) "SharedLogModel" "puts" "[I") ∈ WALL := List.mem_filter.mpr ⟨List.mem_append_right _ (List.mem_of_getElem? (i := 604) (by decide +kernel)), by decide +kernel⟩
theorem t_605 : (Jvm.Cond.fieldLink "SharedLogModel" (25 : Nat) "SharedLogModel" "readAge" "[I") ∈ WALL := List.mem_filter.mpr ⟨List.mem_append_right _ (List.mem_of_getElem? (i := 605) (by decide +kernel)), by decide +kernel⟩
theorem t_606 : (Jvm.Cond.fieldLink "SharedLogModel" (28 : Nat) "SharedLogModel" "putValue" "[I") ∈ WALL := List.mem_filter.mpr ⟨List.mem_append_right _ (List.mem_of_getElem? (i := 606) (by decide +kernel)), by decide +kernel⟩
theorem t_607 : (Jvm.Cond.fieldLink "SharedLogModel" (31 : Nat) "SharedLogModel" "down" "[Z") ∈ WALL := List.mem_filter.mpr ⟨List.mem_append_right _ (List.mem_of_getElem? (i := 607) (by decide +kernel)), by decide +kernel⟩
theorem t_608 : (Jvm.Cond.fieldLink "SharedLogModel" (35 : Nat) "SharedLogModel" "seal" "[I") ∈ WALL := List.mem_filter.mpr ⟨List.mem_append_right _ (List.mem_of_getElem? (i := 608) (by decide +kernel)), by decide +kernel⟩
theorem t_609 : (Jvm.Cond.fieldLink "SharedLogModel" (38 : Nat) "SharedLogModel" "epoch" "I") ∈ WALL := List.mem_filter.mpr ⟨List.mem_append_right _ (List.mem_of_getElem? (i := 609) (by decide +kernel)), by decide +kernel⟩
theorem t_610 : (Jvm.Cond.fieldLink "SharedLogModel" (42 : Nat) "SharedLogModel" "row" "[I") ∈ WALL := List.mem_filter.mpr ⟨List.mem_append_right _ (List.mem_of_getElem? (i := 610) (by decide +kernel)), by decide +kernel⟩
theorem t_611 : (Jvm.Cond.fieldLink "SharedLogModel" (45 : Nat) "SharedLogModel" "sequencer" "I") ∈ WALL := List.mem_filter.mpr ⟨List.mem_append_right _ (List.mem_of_getElem? (i := 611) (by decide +kernel)), by decide +kernel⟩
theorem t_612 : (Jvm.Cond.fieldLink "SharedLogModel" (107 : Nat) "SharedLogModel" "lost" "Z") ∈ WALL := List.mem_filter.mpr ⟨List.mem_append_right _ (List.mem_of_getElem? (i := 612) (by decide +kernel)), by decide +kernel⟩
theorem t_613 : (Jvm.Cond.fieldLink "SharedLogModel" (121 : Nat) "SharedLogModel" "next" "I") ∈ WALL := List.mem_filter.mpr ⟨List.mem_append_right _ (List.mem_of_getElem? (i := 613) (by decide +kernel)), by decide +kernel⟩
theorem t_614 : (Jvm.Cond.fieldLink "SharedLogModel" (48 : Nat) "SharedLogModel" "knows" "[I") ∈ WALL := List.mem_filter.mpr ⟨List.mem_append_right _ (List.mem_of_getElem? (i := 614) (by decide +kernel)), by decide +kernel⟩
theorem t_615 : (Jvm.Cond.fieldLink "SharedLogModel" (51 : Nat) "SharedLogModel" "knownRow" "[I") ∈ WALL := List.mem_filter.mpr ⟨List.mem_append_right _ (List.mem_of_getElem? (i := 615) (by decide +kernel)), by decide +kernel⟩
theorem t_616 : (Jvm.Cond.fieldLink "SharedLogModel" (54 : Nat) "SharedLogModel" "position" "[I") ∈ WALL := List.mem_filter.mpr ⟨List.mem_append_right _ (List.mem_of_getElem? (i := 616) (by decide +kernel)), by decide +kernel⟩
theorem t_617 : (Jvm.Cond.fieldLink "SharedLogModel" (57 : Nat) "SharedLogModel" "now" "[I") ∈ WALL := List.mem_filter.mpr ⟨List.mem_append_right _ (List.mem_of_getElem? (i := 617) (by decide +kernel)), by decide +kernel⟩
theorem t_618 : (Jvm.Cond.fieldLink "SharedLogModel" (60 : Nat) "SharedLogModel" "age" "[I") ∈ WALL := List.mem_filter.mpr ⟨List.mem_append_right _ (List.mem_of_getElem? (i := 618) (by decide +kernel)), by decide +kernel⟩
theorem t_619 : (Jvm.Cond.fieldLink "SharedLogModel" (63 : Nat) "SharedLogModel" "open" "[Z") ∈ WALL := List.mem_filter.mpr ⟨List.mem_append_right _ (List.mem_of_getElem? (i := 619) (by decide +kernel)), by decide +kernel⟩
theorem t_620 : (Jvm.Cond.fieldLink "SharedLogModel" (66 : Nat) "SharedLogModel" "seen" "[I") ∈ WALL := List.mem_filter.mpr ⟨List.mem_append_right _ (List.mem_of_getElem? (i := 620) (by decide +kernel)), by decide +kernel⟩
theorem t_621 : (Jvm.Cond.fieldLink "SharedLogModel" (69 : Nat) "SharedLogModel" "seenAge" "[I") ∈ WALL := List.mem_filter.mpr ⟨List.mem_append_right _ (List.mem_of_getElem? (i := 621) (by decide +kernel)), by decide +kernel⟩
theorem t_622 : (Jvm.Cond.fieldLink "SharedLogModel" (72 : Nat) "SharedLogModel" "given" "[I") ∈ WALL := List.mem_filter.mpr ⟨List.mem_append_right _ (List.mem_of_getElem? (i := 622) (by decide +kernel)), by decide +kernel⟩
theorem t_623 : (Jvm.Cond.fieldLink "SharedLogModel" (75 : Nat) "SharedLogModel" "givenValue" "[I") ∈ WALL := List.mem_filter.mpr ⟨List.mem_append_right _ (List.mem_of_getElem? (i := 623) (by decide +kernel)), by decide +kernel⟩
theorem t_624 : (Jvm.Cond.fieldLink "SharedLogModel" (151 : Nat) "SharedLogModel" "took" "Z") ∈ WALL := List.mem_filter.mpr ⟨List.mem_append_right _ (List.mem_of_getElem? (i := 624) (by decide +kernel)), by decide +kernel⟩
theorem t_678 : (Jvm.Cond.methodLink "SharedLogLaw" (86 : Nat) ({ cls := "SharedLogModel", name := "thrown", desc := "()I" } : Jvm.MethodName)) ∈ WALL := List.mem_filter.mpr ⟨List.mem_append_right _ (List.mem_of_getElem? (i := 678) (by decide +kernel)), by decide +kernel⟩
theorem t_679 : (Jvm.Cond.instanceMethod ({ cls := "SharedLogModel", name := "thrown", desc := "()I" } : Jvm.MethodName)) ∈ WALL := List.mem_filter.mpr ⟨List.mem_append_right _ (List.mem_of_getElem? (i := 679) (by decide +kernel)), by decide +kernel⟩
theorem t_680 : (Jvm.Cond.selects "SharedLogModel" ({ cls := "SharedLogModel", name := "thrown", desc := "()I" } : Jvm.MethodName) ({ cls := "SharedLogModel", name := "thrown", desc := "()I" } : Jvm.MethodName)) ∈ WALL := List.mem_filter.mpr ⟨List.mem_append_right _ (List.mem_of_getElem? (i := 680) (by decide +kernel)), by decide +kernel⟩
theorem t_681 : (Jvm.Cond.code ({ cls := "SharedLogModel", name := "thrown", desc := "()I" } : Jvm.MethodName) prog_9_method_2_code (1 : Nat) (Option.some Jvm.ClassFile.FieldType.int)) ∈ WALL := List.mem_filter.mpr ⟨List.mem_append_right _ (List.mem_of_getElem? (i := 681) (by decide +kernel)), by decide +kernel⟩
theorem t_682 : (Jvm.Cond.methodLink "SharedLogLaw" (85 : Nat) ({ cls := "SharedLogModel", name := "append", desc := "(IIII)I" } : Jvm.MethodName)) ∈ WALL := List.mem_filter.mpr ⟨List.mem_append_right _ (List.mem_of_getElem? (i := 682) (by decide +kernel)), by decide +kernel⟩
theorem t_683 : (Jvm.Cond.instanceMethod ({ cls := "SharedLogModel", name := "append", desc := "(IIII)I" } : Jvm.MethodName)) ∈ WALL := List.mem_filter.mpr ⟨List.mem_append_right _ (List.mem_of_getElem? (i := 683) (by decide +kernel)), by decide +kernel⟩
theorem t_684 : (Jvm.Cond.selects "SharedLogModel" ({ cls := "SharedLogModel", name := "append", desc := "(IIII)I" } : Jvm.MethodName) ({ cls := "SharedLogModel", name := "append", desc := "(IIII)I" } : Jvm.MethodName)) ∈ WALL := List.mem_filter.mpr ⟨List.mem_append_right _ (List.mem_of_getElem? (i := 684) (by decide +kernel)), by decide +kernel⟩
theorem t_685 : (Jvm.Cond.code ({ cls := "SharedLogModel", name := "append", desc := "(IIII)I" } : Jvm.MethodName) prog_9_method_15_code (7 : Nat) (Option.some Jvm.ClassFile.FieldType.int)) ∈ WALL := List.mem_filter.mpr ⟨List.mem_append_right _ (List.mem_of_getElem? (i := 685) (by decide +kernel)), by decide +kernel⟩
theorem t_686 : (Jvm.Cond.methodLink "SharedLogModel" (111 : Nat) ({ cls := "SharedLogModel", name := "out", desc := "(II)Z" } : Jvm.MethodName)) ∈ WALL := List.mem_filter.mpr ⟨List.mem_append_right _ (List.mem_of_getElem? (i := 686) (by decide +kernel)), by decide +kernel⟩
theorem t_688 : (Jvm.Cond.instanceMethod ({ cls := "SharedLogModel", name := "out", desc := "(II)Z" } : Jvm.MethodName)) ∈ WALL := List.mem_filter.mpr ⟨List.mem_append_right _ (List.mem_of_getElem? (i := 688) (by decide +kernel)), by decide +kernel⟩
theorem t_689 : (Jvm.Cond.code ({ cls := "SharedLogModel", name := "out", desc := "(II)Z" } : Jvm.MethodName) prog_9_method_4_code (3 : Nat) (Option.some Jvm.ClassFile.FieldType.boolean)) ∈ WALL := List.mem_filter.mpr ⟨List.mem_append_right _ (List.mem_of_getElem? (i := 689) (by decide +kernel)), by decide +kernel⟩
theorem t_690 : (Jvm.Cond.methodLink "SharedLogModel" (114 : Nat) ({ cls := "SharedLogModel", name := "fail", desc := "(I)I" } : Jvm.MethodName)) ∈ WALL := List.mem_filter.mpr ⟨List.mem_append_right _ (List.mem_of_getElem? (i := 690) (by decide +kernel)), by decide +kernel⟩
theorem t_692 : (Jvm.Cond.instanceMethod ({ cls := "SharedLogModel", name := "fail", desc := "(I)I" } : Jvm.MethodName)) ∈ WALL := List.mem_filter.mpr ⟨List.mem_append_right _ (List.mem_of_getElem? (i := 692) (by decide +kernel)), by decide +kernel⟩
theorem t_693 : (Jvm.Cond.code ({ cls := "SharedLogModel", name := "fail", desc := "(I)I" } : Jvm.MethodName) prog_9_method_3_code (2 : Nat) (Option.some Jvm.ClassFile.FieldType.int)) ∈ WALL := List.mem_filter.mpr ⟨List.mem_append_right _ (List.mem_of_getElem? (i := 693) (by decide +kernel)), by decide +kernel⟩
theorem t_694 : (Jvm.Cond.methodLink "SharedLogModel" (117 : Nat) ({ cls := "SharedLogModel", name := "noToken", desc := "(I)Z" } : Jvm.MethodName)) ∈ WALL := List.mem_filter.mpr ⟨List.mem_append_right _ (List.mem_of_getElem? (i := 694) (by decide +kernel)), by decide +kernel⟩
theorem t_696 : (Jvm.Cond.instanceMethod ({ cls := "SharedLogModel", name := "noToken", desc := "(I)Z" } : Jvm.MethodName)) ∈ WALL := List.mem_filter.mpr ⟨List.mem_append_right _ (List.mem_of_getElem? (i := 696) (by decide +kernel)), by decide +kernel⟩
theorem t_697 : (Jvm.Cond.code ({ cls := "SharedLogModel", name := "noToken", desc := "(I)Z" } : Jvm.MethodName) prog_9_method_14_code (2 : Nat) (Option.some Jvm.ClassFile.FieldType.boolean)) ∈ WALL := List.mem_filter.mpr ⟨List.mem_append_right _ (List.mem_of_getElem? (i := 697) (by decide +kernel)), by decide +kernel⟩
theorem t_698 : (Jvm.Cond.methodLink "SharedLogModel" (124 : Nat) ({ cls := "SharedLogModel", name := "write", desc := "(III)I" } : Jvm.MethodName)) ∈ WALL := List.mem_filter.mpr ⟨List.mem_append_right _ (List.mem_of_getElem? (i := 698) (by decide +kernel)), by decide +kernel⟩
theorem t_700 : (Jvm.Cond.instanceMethod ({ cls := "SharedLogModel", name := "write", desc := "(III)I" } : Jvm.MethodName)) ∈ WALL := List.mem_filter.mpr ⟨List.mem_append_right _ (List.mem_of_getElem? (i := 700) (by decide +kernel)), by decide +kernel⟩
theorem t_701 : (Jvm.Cond.code ({ cls := "SharedLogModel", name := "write", desc := "(III)I" } : Jvm.MethodName) prog_9_method_13_code (7 : Nat) (Option.some Jvm.ClassFile.FieldType.int)) ∈ WALL := List.mem_filter.mpr ⟨List.mem_append_right _ (List.mem_of_getElem? (i := 701) (by decide +kernel)), by decide +kernel⟩
theorem t_702 : (Jvm.Cond.methodLink "SharedLogModel" (89 : Nat) ({ cls := "SharedLogModel", name := "rowFor", desc := "(II)I" } : Jvm.MethodName)) ∈ WALL := List.mem_filter.mpr ⟨List.mem_append_right _ (List.mem_of_getElem? (i := 702) (by decide +kernel)), by decide +kernel⟩
theorem t_704 : (Jvm.Cond.instanceMethod ({ cls := "SharedLogModel", name := "rowFor", desc := "(II)I" } : Jvm.MethodName)) ∈ WALL := List.mem_filter.mpr ⟨List.mem_append_right _ (List.mem_of_getElem? (i := 704) (by decide +kernel)), by decide +kernel⟩
theorem t_705 : (Jvm.Cond.code ({ cls := "SharedLogModel", name := "rowFor", desc := "(II)I" } : Jvm.MethodName) prog_9_method_8_code (3 : Nat) (Option.some Jvm.ClassFile.FieldType.int)) ∈ WALL := List.mem_filter.mpr ⟨List.mem_append_right _ (List.mem_of_getElem? (i := 705) (by decide +kernel)), by decide +kernel⟩
theorem t_706 : (Jvm.Cond.methodLink "SharedLogModel" (85 : Nat) ({ cls := "SharedLogModel", name := "length", desc := "(I)I" } : Jvm.MethodName)) ∈ WALL := List.mem_filter.mpr ⟨List.mem_append_right _ (List.mem_of_getElem? (i := 706) (by decide +kernel)), by decide +kernel⟩
theorem t_708 : (Jvm.Cond.instanceMethod ({ cls := "SharedLogModel", name := "length", desc := "(I)I" } : Jvm.MethodName)) ∈ WALL := List.mem_filter.mpr ⟨List.mem_append_right _ (List.mem_of_getElem? (i := 708) (by decide +kernel)), by decide +kernel⟩
theorem t_709 : (Jvm.Cond.code ({ cls := "SharedLogModel", name := "length", desc := "(I)I" } : Jvm.MethodName) prog_9_method_6_code (2 : Nat) (Option.some Jvm.ClassFile.FieldType.int)) ∈ WALL := List.mem_filter.mpr ⟨List.mem_append_right _ (List.mem_of_getElem? (i := 709) (by decide +kernel)), by decide +kernel⟩
theorem t_710 : (Jvm.Cond.methodLink "SharedLogModel" (93 : Nat) ({ cls := "SharedLogModel", name := "unit", desc := "(II)I" } : Jvm.MethodName)) ∈ WALL := List.mem_filter.mpr ⟨List.mem_append_right _ (List.mem_of_getElem? (i := 710) (by decide +kernel)), by decide +kernel⟩
theorem t_712 : (Jvm.Cond.instanceMethod ({ cls := "SharedLogModel", name := "unit", desc := "(II)I" } : Jvm.MethodName)) ∈ WALL := List.mem_filter.mpr ⟨List.mem_append_right _ (List.mem_of_getElem? (i := 712) (by decide +kernel)), by decide +kernel⟩
theorem t_713 : (Jvm.Cond.code ({ cls := "SharedLogModel", name := "unit", desc := "(II)I" } : Jvm.MethodName) prog_9_method_7_code (5 : Nat) (Option.some Jvm.ClassFile.FieldType.int)) ∈ WALL := List.mem_filter.mpr ⟨List.mem_append_right _ (List.mem_of_getElem? (i := 713) (by decide +kernel)), by decide +kernel⟩
theorem t_714 : (Jvm.Cond.methodLink "SharedLogModel" (96 : Nat) ({ cls := "SharedLogModel", name := "usable", desc := "(II)Z" } : Jvm.MethodName)) ∈ WALL := List.mem_filter.mpr ⟨List.mem_append_right _ (List.mem_of_getElem? (i := 714) (by decide +kernel)), by decide +kernel⟩
theorem t_716 : (Jvm.Cond.instanceMethod ({ cls := "SharedLogModel", name := "usable", desc := "(II)Z" } : Jvm.MethodName)) ∈ WALL := List.mem_filter.mpr ⟨List.mem_append_right _ (List.mem_of_getElem? (i := 716) (by decide +kernel)), by decide +kernel⟩
theorem t_717 : (Jvm.Cond.code ({ cls := "SharedLogModel", name := "usable", desc := "(II)Z" } : Jvm.MethodName) prog_9_method_9_code (3 : Nat) (Option.some Jvm.ClassFile.FieldType.boolean)) ∈ WALL := List.mem_filter.mpr ⟨List.mem_append_right _ (List.mem_of_getElem? (i := 717) (by decide +kernel)), by decide +kernel⟩
theorem t_718 : (Jvm.Cond.methodLink "SharedLogModel" (100 : Nat) ({ cls := "SharedLogModel", name := "cell", desc := "(II)I" } : Jvm.MethodName)) ∈ WALL := List.mem_filter.mpr ⟨List.mem_append_right _ (List.mem_of_getElem? (i := 718) (by decide +kernel)), by decide +kernel⟩
theorem t_720 : (Jvm.Cond.instanceMethod ({ cls := "SharedLogModel", name := "cell", desc := "(II)I" } : Jvm.MethodName)) ∈ WALL := List.mem_filter.mpr ⟨List.mem_append_right _ (List.mem_of_getElem? (i := 720) (by decide +kernel)), by decide +kernel⟩
theorem t_721 : (Jvm.Cond.code ({ cls := "SharedLogModel", name := "cell", desc := "(II)I" } : Jvm.MethodName) prog_9_method_10_code (3 : Nat) (Option.some Jvm.ClassFile.FieldType.int)) ∈ WALL := List.mem_filter.mpr ⟨List.mem_append_right _ (List.mem_of_getElem? (i := 721) (by decide +kernel)), by decide +kernel⟩
theorem t_722 : (Jvm.Cond.methodLink "SharedLogModel" (103 : Nat) ({ cls := "SharedLogModel", name := "copy", desc := "(II)V" } : Jvm.MethodName)) ∈ WALL := List.mem_filter.mpr ⟨List.mem_append_right _ (List.mem_of_getElem? (i := 722) (by decide +kernel)), by decide +kernel⟩
theorem t_724 : (Jvm.Cond.instanceMethod ({ cls := "SharedLogModel", name := "copy", desc := "(II)V" } : Jvm.MethodName)) ∈ WALL := List.mem_filter.mpr ⟨List.mem_append_right _ (List.mem_of_getElem? (i := 724) (by decide +kernel)), by decide +kernel⟩
theorem t_725 : (Jvm.Cond.code ({ cls := "SharedLogModel", name := "copy", desc := "(II)V" } : Jvm.MethodName) prog_9_method_11_code (4 : Nat) (Option.none : Option Jvm.ClassFile.FieldType)) ∈ WALL := List.mem_filter.mpr ⟨List.mem_append_right _ (List.mem_of_getElem? (i := 725) (by decide +kernel)), by decide +kernel⟩
theorem t_726 : (Jvm.Cond.methodLink "SharedLogLaw" (93 : Nat) ({ cls := "SharedLogModel", name := "read", desc := "(II)I" } : Jvm.MethodName)) ∈ WALL := List.mem_filter.mpr ⟨List.mem_append_right _ (List.mem_of_getElem? (i := 726) (by decide +kernel)), by decide +kernel⟩
theorem t_727 : (Jvm.Cond.instanceMethod ({ cls := "SharedLogModel", name := "read", desc := "(II)I" } : Jvm.MethodName)) ∈ WALL := List.mem_filter.mpr ⟨List.mem_append_right _ (List.mem_of_getElem? (i := 727) (by decide +kernel)), by decide +kernel⟩
theorem t_728 : (Jvm.Cond.selects "SharedLogModel" ({ cls := "SharedLogModel", name := "read", desc := "(II)I" } : Jvm.MethodName) ({ cls := "SharedLogModel", name := "read", desc := "(II)I" } : Jvm.MethodName)) ∈ WALL := List.mem_filter.mpr ⟨List.mem_append_right _ (List.mem_of_getElem? (i := 728) (by decide +kernel)), by decide +kernel⟩
theorem t_729 : (Jvm.Cond.code ({ cls := "SharedLogModel", name := "read", desc := "(II)I" } : Jvm.MethodName) prog_9_method_17_code (4 : Nat) (Option.some Jvm.ClassFile.FieldType.int)) ∈ WALL := List.mem_filter.mpr ⟨List.mem_append_right _ (List.mem_of_getElem? (i := 729) (by decide +kernel)), by decide +kernel⟩
theorem t_730 : (Jvm.Cond.methodLink "SharedLogModel" (128 : Nat) ({ cls := "SharedLogModel", name := "lastCell", desc := "(II)I" } : Jvm.MethodName)) ∈ WALL := List.mem_filter.mpr ⟨List.mem_append_right _ (List.mem_of_getElem? (i := 730) (by decide +kernel)), by decide +kernel⟩
theorem t_732 : (Jvm.Cond.instanceMethod ({ cls := "SharedLogModel", name := "lastCell", desc := "(II)I" } : Jvm.MethodName)) ∈ WALL := List.mem_filter.mpr ⟨List.mem_append_right _ (List.mem_of_getElem? (i := 732) (by decide +kernel)), by decide +kernel⟩
theorem t_733 : (Jvm.Cond.code ({ cls := "SharedLogModel", name := "lastCell", desc := "(II)I" } : Jvm.MethodName) prog_9_method_16_code (5 : Nat) (Option.some Jvm.ClassFile.FieldType.int)) ∈ WALL := List.mem_filter.mpr ⟨List.mem_append_right _ (List.mem_of_getElem? (i := 733) (by decide +kernel)), by decide +kernel⟩
theorem t_734 : (Jvm.Cond.methodLink "SharedLogModel" (131 : Nat) ({ cls := "SharedLogModel", name := "ones", desc := "(I)I" } : Jvm.MethodName)) ∈ WALL := List.mem_filter.mpr ⟨List.mem_append_right _ (List.mem_of_getElem? (i := 734) (by decide +kernel)), by decide +kernel⟩
theorem t_736 : (Jvm.Cond.instanceMethod ({ cls := "SharedLogModel", name := "ones", desc := "(I)I" } : Jvm.MethodName)) ∈ WALL := List.mem_filter.mpr ⟨List.mem_append_right _ (List.mem_of_getElem? (i := 736) (by decide +kernel)), by decide +kernel⟩
theorem t_737 : (Jvm.Cond.code ({ cls := "SharedLogModel", name := "ones", desc := "(I)I" } : Jvm.MethodName) prog_9_method_12_code (4 : Nat) (Option.some Jvm.ClassFile.FieldType.int)) ∈ WALL := List.mem_filter.mpr ⟨List.mem_append_right _ (List.mem_of_getElem? (i := 737) (by decide +kernel)), by decide +kernel⟩
theorem t_738 : (Jvm.Cond.methodLink "SharedLogLaw" (96 : Nat) ({ cls := "SharedLogModel", name := "fill", desc := "(II)I" } : Jvm.MethodName)) ∈ WALL := List.mem_filter.mpr ⟨List.mem_append_right _ (List.mem_of_getElem? (i := 738) (by decide +kernel)), by decide +kernel⟩
theorem t_739 : (Jvm.Cond.instanceMethod ({ cls := "SharedLogModel", name := "fill", desc := "(II)I" } : Jvm.MethodName)) ∈ WALL := List.mem_filter.mpr ⟨List.mem_append_right _ (List.mem_of_getElem? (i := 739) (by decide +kernel)), by decide +kernel⟩
theorem t_740 : (Jvm.Cond.selects "SharedLogModel" ({ cls := "SharedLogModel", name := "fill", desc := "(II)I" } : Jvm.MethodName) ({ cls := "SharedLogModel", name := "fill", desc := "(II)I" } : Jvm.MethodName)) ∈ WALL := List.mem_filter.mpr ⟨List.mem_append_right _ (List.mem_of_getElem? (i := 740) (by decide +kernel)), by decide +kernel⟩
theorem t_741 : (Jvm.Cond.code ({ cls := "SharedLogModel", name := "fill", desc := "(II)I" } : Jvm.MethodName) prog_9_method_18_code (7 : Nat) (Option.some Jvm.ClassFile.FieldType.int)) ∈ WALL := List.mem_filter.mpr ⟨List.mem_append_right _ (List.mem_of_getElem? (i := 741) (by decide +kernel)), by decide +kernel⟩
theorem t_742 : (Jvm.Cond.methodLink "SharedLogLaw" (99 : Nat) ({ cls := "SharedLogModel", name := "trim", desc := "(II)I" } : Jvm.MethodName)) ∈ WALL := List.mem_filter.mpr ⟨List.mem_append_right _ (List.mem_of_getElem? (i := 742) (by decide +kernel)), by decide +kernel⟩
theorem t_743 : (Jvm.Cond.instanceMethod ({ cls := "SharedLogModel", name := "trim", desc := "(II)I" } : Jvm.MethodName)) ∈ WALL := List.mem_filter.mpr ⟨List.mem_append_right _ (List.mem_of_getElem? (i := 743) (by decide +kernel)), by decide +kernel⟩
theorem t_744 : (Jvm.Cond.selects "SharedLogModel" ({ cls := "SharedLogModel", name := "trim", desc := "(II)I" } : Jvm.MethodName) ({ cls := "SharedLogModel", name := "trim", desc := "(II)I" } : Jvm.MethodName)) ∈ WALL := List.mem_filter.mpr ⟨List.mem_append_right _ (List.mem_of_getElem? (i := 744) (by decide +kernel)), by decide +kernel⟩
theorem t_745 : (Jvm.Cond.code ({ cls := "SharedLogModel", name := "trim", desc := "(II)I" } : Jvm.MethodName) prog_9_method_19_code (8 : Nat) (Option.some Jvm.ClassFile.FieldType.int)) ∈ WALL := List.mem_filter.mpr ⟨List.mem_append_right _ (List.mem_of_getElem? (i := 745) (by decide +kernel)), by decide +kernel⟩
theorem t_746 : (Jvm.Cond.methodLink "SharedLogLaw" (103 : Nat) ({ cls := "SharedLogModel", name := "learn", desc := "(I)I" } : Jvm.MethodName)) ∈ WALL := List.mem_filter.mpr ⟨List.mem_append_right _ (List.mem_of_getElem? (i := 746) (by decide +kernel)), by decide +kernel⟩
theorem t_747 : (Jvm.Cond.instanceMethod ({ cls := "SharedLogModel", name := "learn", desc := "(I)I" } : Jvm.MethodName)) ∈ WALL := List.mem_filter.mpr ⟨List.mem_append_right _ (List.mem_of_getElem? (i := 747) (by decide +kernel)), by decide +kernel⟩
theorem t_748 : (Jvm.Cond.selects "SharedLogModel" ({ cls := "SharedLogModel", name := "learn", desc := "(I)I" } : Jvm.MethodName) ({ cls := "SharedLogModel", name := "learn", desc := "(I)I" } : Jvm.MethodName)) ∈ WALL := List.mem_filter.mpr ⟨List.mem_append_right _ (List.mem_of_getElem? (i := 748) (by decide +kernel)), by decide +kernel⟩
theorem t_749 : (Jvm.Cond.code ({ cls := "SharedLogModel", name := "learn", desc := "(I)I" } : Jvm.MethodName) prog_9_method_20_code (2 : Nat) (Option.some Jvm.ClassFile.FieldType.int)) ∈ WALL := List.mem_filter.mpr ⟨List.mem_append_right _ (List.mem_of_getElem? (i := 749) (by decide +kernel)), by decide +kernel⟩
theorem t_750 : (Jvm.Cond.methodLink "SharedLogLaw" (107 : Nat) ({ cls := "SharedLogModel", name := "change", desc := "(III)I" } : Jvm.MethodName)) ∈ WALL := List.mem_filter.mpr ⟨List.mem_append_right _ (List.mem_of_getElem? (i := 750) (by decide +kernel)), by decide +kernel⟩
theorem t_751 : (Jvm.Cond.instanceMethod ({ cls := "SharedLogModel", name := "change", desc := "(III)I" } : Jvm.MethodName)) ∈ WALL := List.mem_filter.mpr ⟨List.mem_append_right _ (List.mem_of_getElem? (i := 751) (by decide +kernel)), by decide +kernel⟩
theorem t_752 : (Jvm.Cond.selects "SharedLogModel" ({ cls := "SharedLogModel", name := "change", desc := "(III)I" } : Jvm.MethodName) ({ cls := "SharedLogModel", name := "change", desc := "(III)I" } : Jvm.MethodName)) ∈ WALL := List.mem_filter.mpr ⟨List.mem_append_right _ (List.mem_of_getElem? (i := 752) (by decide +kernel)), by decide +kernel⟩
theorem t_753 : (Jvm.Cond.code ({ cls := "SharedLogModel", name := "change", desc := "(III)I" } : Jvm.MethodName) prog_9_method_25_code (7 : Nat) (Option.some Jvm.ClassFile.FieldType.int)) ∈ WALL := List.mem_filter.mpr ⟨List.mem_append_right _ (List.mem_of_getElem? (i := 753) (by decide +kernel)), by decide +kernel⟩
theorem t_754 : (Jvm.Cond.methodLink "SharedLogModel" (134 : Nat) ({ cls := "SharedLogModel", name := "badRow", desc := "(I)Z" } : Jvm.MethodName)) ∈ WALL := List.mem_filter.mpr ⟨List.mem_append_right _ (List.mem_of_getElem? (i := 754) (by decide +kernel)), by decide +kernel⟩
theorem t_756 : (Jvm.Cond.instanceMethod ({ cls := "SharedLogModel", name := "badRow", desc := "(I)Z" } : Jvm.MethodName)) ∈ WALL := List.mem_filter.mpr ⟨List.mem_append_right _ (List.mem_of_getElem? (i := 756) (by decide +kernel)), by decide +kernel⟩
theorem t_757 : (Jvm.Cond.code ({ cls := "SharedLogModel", name := "badRow", desc := "(I)Z" } : Jvm.MethodName) prog_9_method_21_code (5 : Nat) (Option.some Jvm.ClassFile.FieldType.boolean)) ∈ WALL := List.mem_filter.mpr ⟨List.mem_append_right _ (List.mem_of_getElem? (i := 757) (by decide +kernel)), by decide +kernel⟩
theorem t_758 : (Jvm.Cond.methodLink "SharedLogModel" (137 : Nat) ({ cls := "SharedLogModel", name := "upUnits", desc := "(I)I" } : Jvm.MethodName)) ∈ WALL := List.mem_filter.mpr ⟨List.mem_append_right _ (List.mem_of_getElem? (i := 758) (by decide +kernel)), by decide +kernel⟩
theorem t_760 : (Jvm.Cond.instanceMethod ({ cls := "SharedLogModel", name := "upUnits", desc := "(I)I" } : Jvm.MethodName)) ∈ WALL := List.mem_filter.mpr ⟨List.mem_append_right _ (List.mem_of_getElem? (i := 760) (by decide +kernel)), by decide +kernel⟩
theorem t_761 : (Jvm.Cond.code ({ cls := "SharedLogModel", name := "upUnits", desc := "(I)I" } : Jvm.MethodName) prog_9_method_22_code (4 : Nat) (Option.some Jvm.ClassFile.FieldType.int)) ∈ WALL := List.mem_filter.mpr ⟨List.mem_append_right _ (List.mem_of_getElem? (i := 761) (by decide +kernel)), by decide +kernel⟩
theorem t_762 : (Jvm.Cond.methodLink "SharedLogModel" (140 : Nat) ({ cls := "SharedLogModel", name := "sealRow", desc := "(I)V" } : Jvm.MethodName)) ∈ WALL := List.mem_filter.mpr ⟨List.mem_append_right _ (List.mem_of_getElem? (i := 762) (by decide +kernel)), by decide +kernel⟩
theorem t_764 : (Jvm.Cond.instanceMethod ({ cls := "SharedLogModel", name := "sealRow", desc := "(I)V" } : Jvm.MethodName)) ∈ WALL := List.mem_filter.mpr ⟨List.mem_append_right _ (List.mem_of_getElem? (i := 764) (by decide +kernel)), by decide +kernel⟩
theorem t_765 : (Jvm.Cond.code ({ cls := "SharedLogModel", name := "sealRow", desc := "(I)V" } : Jvm.MethodName) prog_9_method_23_code (3 : Nat) (Option.none : Option Jvm.ClassFile.FieldType)) ∈ WALL := List.mem_filter.mpr ⟨List.mem_append_right _ (List.mem_of_getElem? (i := 765) (by decide +kernel)), by decide +kernel⟩
theorem t_766 : (Jvm.Cond.methodLink "SharedLogModel" (143 : Nat) ({ cls := "SharedLogModel", name := "merge", desc := "(III)V" } : Jvm.MethodName)) ∈ WALL := List.mem_filter.mpr ⟨List.mem_append_right _ (List.mem_of_getElem? (i := 766) (by decide +kernel)), by decide +kernel⟩
theorem t_768 : (Jvm.Cond.instanceMethod ({ cls := "SharedLogModel", name := "merge", desc := "(III)V" } : Jvm.MethodName)) ∈ WALL := List.mem_filter.mpr ⟨List.mem_append_right _ (List.mem_of_getElem? (i := 768) (by decide +kernel)), by decide +kernel⟩
theorem t_769 : (Jvm.Cond.code ({ cls := "SharedLogModel", name := "merge", desc := "(III)V" } : Jvm.MethodName) prog_9_method_24_code (6 : Nat) (Option.none : Option Jvm.ClassFile.FieldType)) ∈ WALL := List.mem_filter.mpr ⟨List.mem_append_right _ (List.mem_of_getElem? (i := 769) (by decide +kernel)), by decide +kernel⟩
theorem t_770 : (Jvm.Cond.methodLink "SharedLogLaw" (111 : Nat) ({ cls := "SharedLogModel", name := "up", desc := "(IZ)I" } : Jvm.MethodName)) ∈ WALL := List.mem_filter.mpr ⟨List.mem_append_right _ (List.mem_of_getElem? (i := 770) (by decide +kernel)), by decide +kernel⟩
theorem t_771 : (Jvm.Cond.instanceMethod ({ cls := "SharedLogModel", name := "up", desc := "(IZ)I" } : Jvm.MethodName)) ∈ WALL := List.mem_filter.mpr ⟨List.mem_append_right _ (List.mem_of_getElem? (i := 771) (by decide +kernel)), by decide +kernel⟩
theorem t_772 : (Jvm.Cond.selects "SharedLogModel" ({ cls := "SharedLogModel", name := "up", desc := "(IZ)I" } : Jvm.MethodName) ({ cls := "SharedLogModel", name := "up", desc := "(IZ)I" } : Jvm.MethodName)) ∈ WALL := List.mem_filter.mpr ⟨List.mem_append_right _ (List.mem_of_getElem? (i := 772) (by decide +kernel)), by decide +kernel⟩
theorem t_773 : (Jvm.Cond.code ({ cls := "SharedLogModel", name := "up", desc := "(IZ)I" } : Jvm.MethodName) prog_9_method_26_code (3 : Nat) (Option.some Jvm.ClassFile.FieldType.int)) ∈ WALL := List.mem_filter.mpr ⟨List.mem_append_right _ (List.mem_of_getElem? (i := 773) (by decide +kernel)), by decide +kernel⟩
theorem t_774 : (Jvm.Cond.methodLink "SharedLogLaw" (115 : Nat) ({ cls := "SharedLogModel", name := "lose", desc := "()I" } : Jvm.MethodName)) ∈ WALL := List.mem_filter.mpr ⟨List.mem_append_right _ (List.mem_of_getElem? (i := 774) (by decide +kernel)), by decide +kernel⟩
theorem t_775 : (Jvm.Cond.instanceMethod ({ cls := "SharedLogModel", name := "lose", desc := "()I" } : Jvm.MethodName)) ∈ WALL := List.mem_filter.mpr ⟨List.mem_append_right _ (List.mem_of_getElem? (i := 775) (by decide +kernel)), by decide +kernel⟩
theorem t_776 : (Jvm.Cond.selects "SharedLogModel" ({ cls := "SharedLogModel", name := "lose", desc := "()I" } : Jvm.MethodName) ({ cls := "SharedLogModel", name := "lose", desc := "()I" } : Jvm.MethodName)) ∈ WALL := List.mem_filter.mpr ⟨List.mem_append_right _ (List.mem_of_getElem? (i := 776) (by decide +kernel)), by decide +kernel⟩
theorem t_777 : (Jvm.Cond.code ({ cls := "SharedLogModel", name := "lose", desc := "()I" } : Jvm.MethodName) prog_9_method_27_code (1 : Nat) (Option.some Jvm.ClassFile.FieldType.int)) ∈ WALL := List.mem_filter.mpr ⟨List.mem_append_right _ (List.mem_of_getElem? (i := 777) (by decide +kernel)), by decide +kernel⟩
theorem t_778 : (Jvm.Cond.methodLink "SharedLogLaw" (118 : Nat) ({ cls := "SharedLogModel", name := "sync", desc := "(I)I" } : Jvm.MethodName)) ∈ WALL := List.mem_filter.mpr ⟨List.mem_append_right _ (List.mem_of_getElem? (i := 778) (by decide +kernel)), by decide +kernel⟩
theorem t_779 : (Jvm.Cond.instanceMethod ({ cls := "SharedLogModel", name := "sync", desc := "(I)I" } : Jvm.MethodName)) ∈ WALL := List.mem_filter.mpr ⟨List.mem_append_right _ (List.mem_of_getElem? (i := 779) (by decide +kernel)), by decide +kernel⟩
theorem t_780 : (Jvm.Cond.selects "SharedLogModel" ({ cls := "SharedLogModel", name := "sync", desc := "(I)I" } : Jvm.MethodName) ({ cls := "SharedLogModel", name := "sync", desc := "(I)I" } : Jvm.MethodName)) ∈ WALL := List.mem_filter.mpr ⟨List.mem_append_right _ (List.mem_of_getElem? (i := 780) (by decide +kernel)), by decide +kernel⟩
theorem t_781 : (Jvm.Cond.code ({ cls := "SharedLogModel", name := "sync", desc := "(I)I" } : Jvm.MethodName) prog_9_method_31_code (3 : Nat) (Option.some Jvm.ClassFile.FieldType.int)) ∈ WALL := List.mem_filter.mpr ⟨List.mem_append_right _ (List.mem_of_getElem? (i := 781) (by decide +kernel)), by decide +kernel⟩
theorem t_782 : (Jvm.Cond.methodLink "SharedLogModel" (157 : Nat) ({ cls := "SharedLogModel", name := "play", desc := "(II)I" } : Jvm.MethodName)) ∈ WALL := List.mem_filter.mpr ⟨List.mem_append_right _ (List.mem_of_getElem? (i := 782) (by decide +kernel)), by decide +kernel⟩
theorem t_784 : (Jvm.Cond.instanceMethod ({ cls := "SharedLogModel", name := "play", desc := "(II)I" } : Jvm.MethodName)) ∈ WALL := List.mem_filter.mpr ⟨List.mem_append_right _ (List.mem_of_getElem? (i := 784) (by decide +kernel)), by decide +kernel⟩
theorem t_785 : (Jvm.Cond.code ({ cls := "SharedLogModel", name := "play", desc := "(II)I" } : Jvm.MethodName) prog_9_method_30_code (5 : Nat) (Option.some Jvm.ClassFile.FieldType.int)) ∈ WALL := List.mem_filter.mpr ⟨List.mem_append_right _ (List.mem_of_getElem? (i := 785) (by decide +kernel)), by decide +kernel⟩
theorem t_786 : (Jvm.Cond.methodLink "SharedLogModel" (147 : Nat) ({ cls := "SharedLogModel", name := "sameAges", desc := "(II[II)Z" } : Jvm.MethodName)) ∈ WALL := List.mem_filter.mpr ⟨List.mem_append_right _ (List.mem_of_getElem? (i := 786) (by decide +kernel)), by decide +kernel⟩
theorem t_788 : (Jvm.Cond.instanceMethod ({ cls := "SharedLogModel", name := "sameAges", desc := "(II[II)Z" } : Jvm.MethodName)) ∈ WALL := List.mem_filter.mpr ⟨List.mem_append_right _ (List.mem_of_getElem? (i := 788) (by decide +kernel)), by decide +kernel⟩
theorem t_789 : (Jvm.Cond.code ({ cls := "SharedLogModel", name := "sameAges", desc := "(II[II)Z" } : Jvm.MethodName) prog_9_method_28_code (7 : Nat) (Option.some Jvm.ClassFile.FieldType.boolean)) ∈ WALL := List.mem_filter.mpr ⟨List.mem_append_right _ (List.mem_of_getElem? (i := 789) (by decide +kernel)), by decide +kernel⟩
theorem t_790 : (Jvm.Cond.methodLink "SharedLogModel" (154 : Nat) ({ cls := "SharedLogModel", name := "place", desc := "(III)V" } : Jvm.MethodName)) ∈ WALL := List.mem_filter.mpr ⟨List.mem_append_right _ (List.mem_of_getElem? (i := 790) (by decide +kernel)), by decide +kernel⟩
theorem t_792 : (Jvm.Cond.instanceMethod ({ cls := "SharedLogModel", name := "place", desc := "(III)V" } : Jvm.MethodName)) ∈ WALL := List.mem_filter.mpr ⟨List.mem_append_right _ (List.mem_of_getElem? (i := 792) (by decide +kernel)), by decide +kernel⟩
theorem t_793 : (Jvm.Cond.code ({ cls := "SharedLogModel", name := "place", desc := "(III)V" } : Jvm.MethodName) prog_9_method_29_code (4 : Nat) (Option.none : Option Jvm.ClassFile.FieldType)) ∈ WALL := List.mem_filter.mpr ⟨List.mem_append_right _ (List.mem_of_getElem? (i := 793) (by decide +kernel)), by decide +kernel⟩
theorem t_794 : (Jvm.Cond.methodLink "SharedLogLaw" (121 : Nat) ({ cls := "SharedLogModel", name := "get", desc := "(II)I" } : Jvm.MethodName)) ∈ WALL := List.mem_filter.mpr ⟨List.mem_append_right _ (List.mem_of_getElem? (i := 794) (by decide +kernel)), by decide +kernel⟩
theorem t_795 : (Jvm.Cond.instanceMethod ({ cls := "SharedLogModel", name := "get", desc := "(II)I" } : Jvm.MethodName)) ∈ WALL := List.mem_filter.mpr ⟨List.mem_append_right _ (List.mem_of_getElem? (i := 795) (by decide +kernel)), by decide +kernel⟩
theorem t_796 : (Jvm.Cond.selects "SharedLogModel" ({ cls := "SharedLogModel", name := "get", desc := "(II)I" } : Jvm.MethodName) ({ cls := "SharedLogModel", name := "get", desc := "(II)I" } : Jvm.MethodName)) ∈ WALL := List.mem_filter.mpr ⟨List.mem_append_right _ (List.mem_of_getElem? (i := 796) (by decide +kernel)), by decide +kernel⟩
theorem t_797 : (Jvm.Cond.code ({ cls := "SharedLogModel", name := "get", desc := "(II)I" } : Jvm.MethodName) prog_9_method_32_code (3 : Nat) (Option.some Jvm.ClassFile.FieldType.int)) ∈ WALL := List.mem_filter.mpr ⟨List.mem_append_right _ (List.mem_of_getElem? (i := 797) (by decide +kernel)), by decide +kernel⟩
theorem t_798 : (Jvm.Cond.methodLink "SharedLogLaw" (124 : Nat) ({ cls := "SharedLogModel", name := "begin", desc := "(I)I" } : Jvm.MethodName)) ∈ WALL := List.mem_filter.mpr ⟨List.mem_append_right _ (List.mem_of_getElem? (i := 798) (by decide +kernel)), by decide +kernel⟩
theorem t_799 : (Jvm.Cond.instanceMethod ({ cls := "SharedLogModel", name := "begin", desc := "(I)I" } : Jvm.MethodName)) ∈ WALL := List.mem_filter.mpr ⟨List.mem_append_right _ (List.mem_of_getElem? (i := 799) (by decide +kernel)), by decide +kernel⟩
theorem t_800 : (Jvm.Cond.selects "SharedLogModel" ({ cls := "SharedLogModel", name := "begin", desc := "(I)I" } : Jvm.MethodName) ({ cls := "SharedLogModel", name := "begin", desc := "(I)I" } : Jvm.MethodName)) ∈ WALL := List.mem_filter.mpr ⟨List.mem_append_right _ (List.mem_of_getElem? (i := 800) (by decide +kernel)), by decide +kernel⟩
theorem t_801 : (Jvm.Cond.code ({ cls := "SharedLogModel", name := "begin", desc := "(I)I" } : Jvm.MethodName) prog_9_method_33_code (2 : Nat) (Option.some Jvm.ClassFile.FieldType.int)) ∈ WALL := List.mem_filter.mpr ⟨List.mem_append_right _ (List.mem_of_getElem? (i := 801) (by decide +kernel)), by decide +kernel⟩
theorem t_802 : (Jvm.Cond.methodLink "SharedLogLaw" (127 : Nat) ({ cls := "SharedLogModel", name := "see", desc := "(II)I" } : Jvm.MethodName)) ∈ WALL := List.mem_filter.mpr ⟨List.mem_append_right _ (List.mem_of_getElem? (i := 802) (by decide +kernel)), by decide +kernel⟩
theorem t_803 : (Jvm.Cond.instanceMethod ({ cls := "SharedLogModel", name := "see", desc := "(II)I" } : Jvm.MethodName)) ∈ WALL := List.mem_filter.mpr ⟨List.mem_append_right _ (List.mem_of_getElem? (i := 803) (by decide +kernel)), by decide +kernel⟩
theorem t_804 : (Jvm.Cond.selects "SharedLogModel" ({ cls := "SharedLogModel", name := "see", desc := "(II)I" } : Jvm.MethodName) ({ cls := "SharedLogModel", name := "see", desc := "(II)I" } : Jvm.MethodName)) ∈ WALL := List.mem_filter.mpr ⟨List.mem_append_right _ (List.mem_of_getElem? (i := 804) (by decide +kernel)), by decide +kernel⟩
theorem t_805 : (Jvm.Cond.code ({ cls := "SharedLogModel", name := "see", desc := "(II)I" } : Jvm.MethodName) prog_9_method_34_code (4 : Nat) (Option.some Jvm.ClassFile.FieldType.int)) ∈ WALL := List.mem_filter.mpr ⟨List.mem_append_right _ (List.mem_of_getElem? (i := 805) (by decide +kernel)), by decide +kernel⟩
theorem t_806 : (Jvm.Cond.methodLink "SharedLogLaw" (130 : Nat) ({ cls := "SharedLogModel", name := "put", desc := "(III)I" } : Jvm.MethodName)) ∈ WALL := List.mem_filter.mpr ⟨List.mem_append_right _ (List.mem_of_getElem? (i := 806) (by decide +kernel)), by decide +kernel⟩
theorem t_807 : (Jvm.Cond.instanceMethod ({ cls := "SharedLogModel", name := "put", desc := "(III)I" } : Jvm.MethodName)) ∈ WALL := List.mem_filter.mpr ⟨List.mem_append_right _ (List.mem_of_getElem? (i := 807) (by decide +kernel)), by decide +kernel⟩
theorem t_808 : (Jvm.Cond.selects "SharedLogModel" ({ cls := "SharedLogModel", name := "put", desc := "(III)I" } : Jvm.MethodName) ({ cls := "SharedLogModel", name := "put", desc := "(III)I" } : Jvm.MethodName)) ∈ WALL := List.mem_filter.mpr ⟨List.mem_append_right _ (List.mem_of_getElem? (i := 808) (by decide +kernel)), by decide +kernel⟩
theorem t_809 : (Jvm.Cond.code ({ cls := "SharedLogModel", name := "put", desc := "(III)I" } : Jvm.MethodName) prog_9_method_35_code (4 : Nat) (Option.some Jvm.ClassFile.FieldType.int)) ∈ WALL := List.mem_filter.mpr ⟨List.mem_append_right _ (List.mem_of_getElem? (i := 809) (by decide +kernel)), by decide +kernel⟩
theorem t_810 : (Jvm.Cond.methodLink "SharedLogLaw" (133 : Nat) ({ cls := "SharedLogModel", name := "commit", desc := "(I)Z" } : Jvm.MethodName)) ∈ WALL := List.mem_filter.mpr ⟨List.mem_append_right _ (List.mem_of_getElem? (i := 810) (by decide +kernel)), by decide +kernel⟩
theorem t_811 : (Jvm.Cond.instanceMethod ({ cls := "SharedLogModel", name := "commit", desc := "(I)Z" } : Jvm.MethodName)) ∈ WALL := List.mem_filter.mpr ⟨List.mem_append_right _ (List.mem_of_getElem? (i := 811) (by decide +kernel)), by decide +kernel⟩
theorem t_812 : (Jvm.Cond.selects "SharedLogModel" ({ cls := "SharedLogModel", name := "commit", desc := "(I)Z" } : Jvm.MethodName) ({ cls := "SharedLogModel", name := "commit", desc := "(I)Z" } : Jvm.MethodName)) ∈ WALL := List.mem_filter.mpr ⟨List.mem_append_right _ (List.mem_of_getElem? (i := 812) (by decide +kernel)), by decide +kernel⟩
theorem t_813 : (Jvm.Cond.code ({ cls := "SharedLogModel", name := "commit", desc := "(I)Z" } : Jvm.MethodName) prog_9_method_36_code (5 : Nat) (Option.some Jvm.ClassFile.FieldType.boolean)) ∈ WALL := List.mem_filter.mpr ⟨List.mem_append_right _ (List.mem_of_getElem? (i := 813) (by decide +kernel)), by decide +kernel⟩
theorem t_814 : (Jvm.Cond.methodLink "SharedLogLaw" (136 : Nat) ({ cls := "SharedLogModel", name := "drop", desc := "(I)I" } : Jvm.MethodName)) ∈ WALL := List.mem_filter.mpr ⟨List.mem_append_right _ (List.mem_of_getElem? (i := 814) (by decide +kernel)), by decide +kernel⟩
theorem t_815 : (Jvm.Cond.instanceMethod ({ cls := "SharedLogModel", name := "drop", desc := "(I)I" } : Jvm.MethodName)) ∈ WALL := List.mem_filter.mpr ⟨List.mem_append_right _ (List.mem_of_getElem? (i := 815) (by decide +kernel)), by decide +kernel⟩
theorem t_816 : (Jvm.Cond.selects "SharedLogModel" ({ cls := "SharedLogModel", name := "drop", desc := "(I)I" } : Jvm.MethodName) ({ cls := "SharedLogModel", name := "drop", desc := "(I)I" } : Jvm.MethodName)) ∈ WALL := List.mem_filter.mpr ⟨List.mem_append_right _ (List.mem_of_getElem? (i := 816) (by decide +kernel)), by decide +kernel⟩
theorem t_817 : (Jvm.Cond.code ({ cls := "SharedLogModel", name := "drop", desc := "(I)I" } : Jvm.MethodName) prog_9_method_37_code (2 : Nat) (Option.some Jvm.ClassFile.FieldType.int)) ∈ WALL := List.mem_filter.mpr ⟨List.mem_append_right _ (List.mem_of_getElem? (i := 817) (by decide +kernel)), by decide +kernel⟩
theorem t_818 : (Jvm.Cond.methodLink "SharedLogLaw" (139 : Nat) ({ cls := "SharedLogModel", name := "look", desc := "(II)I" } : Jvm.MethodName)) ∈ WALL := List.mem_filter.mpr ⟨List.mem_append_right _ (List.mem_of_getElem? (i := 818) (by decide +kernel)), by decide +kernel⟩
theorem t_819 : (Jvm.Cond.instanceMethod ({ cls := "SharedLogModel", name := "look", desc := "(II)I" } : Jvm.MethodName)) ∈ WALL := List.mem_filter.mpr ⟨List.mem_append_right _ (List.mem_of_getElem? (i := 819) (by decide +kernel)), by decide +kernel⟩
theorem t_820 : (Jvm.Cond.selects "SharedLogModel" ({ cls := "SharedLogModel", name := "look", desc := "(II)I" } : Jvm.MethodName) ({ cls := "SharedLogModel", name := "look", desc := "(II)I" } : Jvm.MethodName)) ∈ WALL := List.mem_filter.mpr ⟨List.mem_append_right _ (List.mem_of_getElem? (i := 820) (by decide +kernel)), by decide +kernel⟩
theorem t_821 : (Jvm.Cond.code ({ cls := "SharedLogModel", name := "look", desc := "(II)I" } : Jvm.MethodName) prog_9_method_38_code (3 : Nat) (Option.some Jvm.ClassFile.FieldType.int)) ∈ WALL := List.mem_filter.mpr ⟨List.mem_append_right _ (List.mem_of_getElem? (i := 821) (by decide +kernel)), by decide +kernel⟩
theorem t_822 : (Jvm.Cond.methodLink "SharedLogLaw" (142 : Nat) ({ cls := "SharedLogModel", name := "client", desc := "(II)I" } : Jvm.MethodName)) ∈ WALL := List.mem_filter.mpr ⟨List.mem_append_right _ (List.mem_of_getElem? (i := 822) (by decide +kernel)), by decide +kernel⟩
theorem t_823 : (Jvm.Cond.instanceMethod ({ cls := "SharedLogModel", name := "client", desc := "(II)I" } : Jvm.MethodName)) ∈ WALL := List.mem_filter.mpr ⟨List.mem_append_right _ (List.mem_of_getElem? (i := 823) (by decide +kernel)), by decide +kernel⟩
theorem t_824 : (Jvm.Cond.selects "SharedLogModel" ({ cls := "SharedLogModel", name := "client", desc := "(II)I" } : Jvm.MethodName) ({ cls := "SharedLogModel", name := "client", desc := "(II)I" } : Jvm.MethodName)) ∈ WALL := List.mem_filter.mpr ⟨List.mem_append_right _ (List.mem_of_getElem? (i := 824) (by decide +kernel)), by decide +kernel⟩
theorem t_825 : (Jvm.Cond.code ({ cls := "SharedLogModel", name := "client", desc := "(II)I" } : Jvm.MethodName) prog_9_method_39_code (3 : Nat) (Option.some Jvm.ClassFile.FieldType.int)) ∈ WALL := List.mem_filter.mpr ⟨List.mem_append_right _ (List.mem_of_getElem? (i := 825) (by decide +kernel)), by decide +kernel⟩
theorem t_826 : (Jvm.Cond.methodLink "SharedLogLaw" (145 : Nat) ({ cls := "SharedLogModel", name := "count", desc := "(I)I" } : Jvm.MethodName)) ∈ WALL := List.mem_filter.mpr ⟨List.mem_append_right _ (List.mem_of_getElem? (i := 826) (by decide +kernel)), by decide +kernel⟩
theorem t_827 : (Jvm.Cond.instanceMethod ({ cls := "SharedLogModel", name := "count", desc := "(I)I" } : Jvm.MethodName)) ∈ WALL := List.mem_filter.mpr ⟨List.mem_append_right _ (List.mem_of_getElem? (i := 827) (by decide +kernel)), by decide +kernel⟩
theorem t_828 : (Jvm.Cond.selects "SharedLogModel" ({ cls := "SharedLogModel", name := "count", desc := "(I)I" } : Jvm.MethodName) ({ cls := "SharedLogModel", name := "count", desc := "(I)I" } : Jvm.MethodName)) ∈ WALL := List.mem_filter.mpr ⟨List.mem_append_right _ (List.mem_of_getElem? (i := 828) (by decide +kernel)), by decide +kernel⟩
theorem t_829 : (Jvm.Cond.code ({ cls := "SharedLogModel", name := "count", desc := "(I)I" } : Jvm.MethodName) prog_9_method_40_code (2 : Nat) (Option.some Jvm.ClassFile.FieldType.int)) ∈ WALL := List.mem_filter.mpr ⟨List.mem_append_right _ (List.mem_of_getElem? (i := 829) (by decide +kernel)), by decide +kernel⟩
theorem ts_Log_takeToken : Cond.selects "SharedLog" ({ cls := "SharedLog", name := "takeToken", desc := "(LSharedLog$Client;)I" } : Jvm.MethodName) ({ cls := "SharedLog", name := "takeToken", desc := "(LSharedLog$Client;)I" } : Jvm.MethodName) ∈ WALL := List.mem_filter.mpr ⟨List.mem_append_left _ (List.mem_map.mpr ⟨(({ cls := "SharedLog", name := "takeToken", desc := "(LSharedLog$Client;)I" } : Jvm.MethodName), 7), by decide +kernel, rfl⟩), by decide +kernel⟩
theorem ts_Log_write : Cond.selects "SharedLog" ({ cls := "SharedLog", name := "write", desc := "(LSharedLog$Client;ILSharedLog$Entry;I)V" } : Jvm.MethodName) ({ cls := "SharedLog", name := "write", desc := "(LSharedLog$Client;ILSharedLog$Entry;I)V" } : Jvm.MethodName) ∈ WALL := List.mem_filter.mpr ⟨List.mem_append_left _ (List.mem_map.mpr ⟨(({ cls := "SharedLog", name := "write", desc := "(LSharedLog$Client;ILSharedLog$Entry;I)V" } : Jvm.MethodName), 7), by decide +kernel, rfl⟩), by decide +kernel⟩
theorem ts_Log_entryAtEnd : Cond.selects "SharedLog" ({ cls := "SharedLog", name := "entryAtEnd", desc := "(LSharedLog$Client;I)LSharedLog$Entry;" } : Jvm.MethodName) ({ cls := "SharedLog", name := "entryAtEnd", desc := "(LSharedLog$Client;I)LSharedLog$Entry;" } : Jvm.MethodName) ∈ WALL := List.mem_filter.mpr ⟨List.mem_append_left _ (List.mem_map.mpr ⟨(({ cls := "SharedLog", name := "entryAtEnd", desc := "(LSharedLog$Client;I)LSharedLog$Entry;" } : Jvm.MethodName), 7), by decide +kernel, rfl⟩), by decide +kernel⟩
theorem ts_Log_use : Cond.selects "SharedLog" ({ cls := "SharedLog", name := "use", desc := "(LSharedLog$Client;I)LSharedLog$Unit;" } : Jvm.MethodName) ({ cls := "SharedLog", name := "use", desc := "(LSharedLog$Client;I)LSharedLog$Unit;" } : Jvm.MethodName) ∈ WALL := List.mem_filter.mpr ⟨List.mem_append_left _ (List.mem_map.mpr ⟨(({ cls := "SharedLog", name := "use", desc := "(LSharedLog$Client;I)LSharedLog$Unit;" } : Jvm.MethodName), 7), by decide +kernel, rfl⟩), by decide +kernel⟩
theorem ts_Log_trimOne : Cond.selects "SharedLog" ({ cls := "SharedLog", name := "trimOne", desc := "(LSharedLog$Client;I)I" } : Jvm.MethodName) ({ cls := "SharedLog", name := "trimOne", desc := "(LSharedLog$Client;I)I" } : Jvm.MethodName) ∈ WALL := List.mem_filter.mpr ⟨List.mem_append_left _ (List.mem_map.mpr ⟨(({ cls := "SharedLog", name := "trimOne", desc := "(LSharedLog$Client;I)I" } : Jvm.MethodName), 7), by decide +kernel, rfl⟩), by decide +kernel⟩
theorem ts_Log_requireChangeable : Cond.selects "SharedLog" ({ cls := "SharedLog", name := "requireChangeable", desc := "(LSharedLog$Client;[I)V" } : Jvm.MethodName) ({ cls := "SharedLog", name := "requireChangeable", desc := "(LSharedLog$Client;[I)V" } : Jvm.MethodName) ∈ WALL := List.mem_filter.mpr ⟨List.mem_append_left _ (List.mem_map.mpr ⟨(({ cls := "SharedLog", name := "requireChangeable", desc := "(LSharedLog$Client;[I)V" } : Jvm.MethodName), 7), by decide +kernel, rfl⟩), by decide +kernel⟩
theorem ts_Log_sealAll : Cond.selects "SharedLog" ({ cls := "SharedLog", name := "sealAll", desc := "(LSharedLog$Layout;[II)V" } : Jvm.MethodName) ({ cls := "SharedLog", name := "sealAll", desc := "(LSharedLog$Layout;[II)V" } : Jvm.MethodName) ∈ WALL := List.mem_filter.mpr ⟨List.mem_append_left _ (List.mem_map.mpr ⟨(({ cls := "SharedLog", name := "sealAll", desc := "(LSharedLog$Layout;[II)V" } : Jvm.MethodName), 7), by decide +kernel, rfl⟩), by decide +kernel⟩
theorem ts_Log_merge : Cond.selects "SharedLog" ({ cls := "SharedLog", name := "merge", desc := "([I[II)V" } : Jvm.MethodName) ({ cls := "SharedLog", name := "merge", desc := "([I[II)V" } : Jvm.MethodName) ∈ WALL := List.mem_filter.mpr ⟨List.mem_append_left _ (List.mem_map.mpr ⟨(({ cls := "SharedLog", name := "merge", desc := "([I[II)V" } : Jvm.MethodName), 7), by decide +kernel, rfl⟩), by decide +kernel⟩
theorem ts_Log_firstFreeOffset : Cond.selects "SharedLog" ({ cls := "SharedLog", name := "firstFreeOffset", desc := "()I" } : Jvm.MethodName) ({ cls := "SharedLog", name := "firstFreeOffset", desc := "()I" } : Jvm.MethodName) ∈ WALL := List.mem_filter.mpr ⟨List.mem_append_left _ (List.mem_map.mpr ⟨(({ cls := "SharedLog", name := "firstFreeOffset", desc := "()I" } : Jvm.MethodName), 7), by decide +kernel, rfl⟩), by decide +kernel⟩
theorem ts_Log_requireSequencer : Cond.selects "SharedLog" ({ cls := "SharedLog", name := "requireSequencer", desc := "(LSharedLog$Client;)V" } : Jvm.MethodName) ({ cls := "SharedLog", name := "requireSequencer", desc := "(LSharedLog$Client;)V" } : Jvm.MethodName) ∈ WALL := List.mem_filter.mpr ⟨List.mem_append_left _ (List.mem_map.mpr ⟨(({ cls := "SharedLog", name := "requireSequencer", desc := "(LSharedLog$Client;)V" } : Jvm.MethodName), 7), by decide +kernel, rfl⟩), by decide +kernel⟩
theorem ts_Log_play : Cond.selects "SharedLog" ({ cls := "SharedLog", name := "play", desc := "(LSharedLog$Client;I)Z" } : Jvm.MethodName) ({ cls := "SharedLog", name := "play", desc := "(LSharedLog$Client;I)Z" } : Jvm.MethodName) ∈ WALL := List.mem_filter.mpr ⟨List.mem_append_left _ (List.mem_map.mpr ⟨(({ cls := "SharedLog", name := "play", desc := "(LSharedLog$Client;I)Z" } : Jvm.MethodName), 7), by decide +kernel, rfl⟩), by decide +kernel⟩
theorem ts_Log_writeAndPlayCommit : Cond.selects "SharedLog" ({ cls := "SharedLog", name := "writeAndPlayCommit", desc := "(LSharedLog$Client;)Z" } : Jvm.MethodName) ({ cls := "SharedLog", name := "writeAndPlayCommit", desc := "(LSharedLog$Client;)Z" } : Jvm.MethodName) ∈ WALL := List.mem_filter.mpr ⟨List.mem_append_left _ (List.mem_map.mpr ⟨(({ cls := "SharedLog", name := "writeAndPlayCommit", desc := "(LSharedLog$Client;)Z" } : Jvm.MethodName), 7), by decide +kernel, rfl⟩), by decide +kernel⟩
theorem ts_Log_upCount : Cond.selects "SharedLog" ({ cls := "SharedLog", name := "upCount", desc := "([I)I" } : Jvm.MethodName) ({ cls := "SharedLog", name := "upCount", desc := "([I)I" } : Jvm.MethodName) ∈ WALL := List.mem_filter.mpr ⟨List.mem_append_left _ (List.mem_map.mpr ⟨(({ cls := "SharedLog", name := "upCount", desc := "([I)I" } : Jvm.MethodName), 7), by decide +kernel, rfl⟩), by decide +kernel⟩
theorem ts_Log_sealRow : Cond.selects "SharedLog" ({ cls := "SharedLog", name := "sealRow", desc := "([II)V" } : Jvm.MethodName) ({ cls := "SharedLog", name := "sealRow", desc := "([II)V" } : Jvm.MethodName) ∈ WALL := List.mem_filter.mpr ⟨List.mem_append_left _ (List.mem_map.mpr ⟨(({ cls := "SharedLog", name := "sealRow", desc := "([II)V" } : Jvm.MethodName), 7), by decide +kernel, rfl⟩), by decide +kernel⟩
theorem ts_Log_firstHeld : Cond.selects "SharedLog" ({ cls := "SharedLog", name := "firstHeld", desc := "([II)LSharedLog$Entry;" } : Jvm.MethodName) ({ cls := "SharedLog", name := "firstHeld", desc := "([II)LSharedLog$Entry;" } : Jvm.MethodName) ∈ WALL := List.mem_filter.mpr ⟨List.mem_append_left _ (List.mem_map.mpr ⟨(({ cls := "SharedLog", name := "firstHeld", desc := "([II)LSharedLog$Entry;" } : Jvm.MethodName), 7), by decide +kernel, rfl⟩), by decide +kernel⟩
theorem ts_Model_learnNow : Cond.selects "SharedLogModel" ({ cls := "SharedLogModel", name := "learnNow", desc := "(I)V" } : Jvm.MethodName) ({ cls := "SharedLogModel", name := "learnNow", desc := "(I)V" } : Jvm.MethodName) ∈ WALL := List.mem_filter.mpr ⟨List.mem_append_left _ (List.mem_map.mpr ⟨(({ cls := "SharedLogModel", name := "learnNow", desc := "(I)V" } : Jvm.MethodName), 26), by decide +kernel, rfl⟩), by decide +kernel⟩
theorem ts_Model_length : Cond.selects "SharedLogModel" ({ cls := "SharedLogModel", name := "length", desc := "(I)I" } : Jvm.MethodName) ({ cls := "SharedLogModel", name := "length", desc := "(I)I" } : Jvm.MethodName) ∈ WALL := List.mem_filter.mpr ⟨List.mem_append_left _ (List.mem_map.mpr ⟨(({ cls := "SharedLogModel", name := "length", desc := "(I)I" } : Jvm.MethodName), 26), by decide +kernel, rfl⟩), by decide +kernel⟩
theorem ts_Model_rowFor : Cond.selects "SharedLogModel" ({ cls := "SharedLogModel", name := "rowFor", desc := "(II)I" } : Jvm.MethodName) ({ cls := "SharedLogModel", name := "rowFor", desc := "(II)I" } : Jvm.MethodName) ∈ WALL := List.mem_filter.mpr ⟨List.mem_append_left _ (List.mem_map.mpr ⟨(({ cls := "SharedLogModel", name := "rowFor", desc := "(II)I" } : Jvm.MethodName), 26), by decide +kernel, rfl⟩), by decide +kernel⟩
theorem ts_Model_unit : Cond.selects "SharedLogModel" ({ cls := "SharedLogModel", name := "unit", desc := "(II)I" } : Jvm.MethodName) ({ cls := "SharedLogModel", name := "unit", desc := "(II)I" } : Jvm.MethodName) ∈ WALL := List.mem_filter.mpr ⟨List.mem_append_left _ (List.mem_map.mpr ⟨(({ cls := "SharedLogModel", name := "unit", desc := "(II)I" } : Jvm.MethodName), 26), by decide +kernel, rfl⟩), by decide +kernel⟩
theorem ts_Model_usable : Cond.selects "SharedLogModel" ({ cls := "SharedLogModel", name := "usable", desc := "(II)Z" } : Jvm.MethodName) ({ cls := "SharedLogModel", name := "usable", desc := "(II)Z" } : Jvm.MethodName) ∈ WALL := List.mem_filter.mpr ⟨List.mem_append_left _ (List.mem_map.mpr ⟨(({ cls := "SharedLogModel", name := "usable", desc := "(II)Z" } : Jvm.MethodName), 26), by decide +kernel, rfl⟩), by decide +kernel⟩
theorem ts_Model_cell : Cond.selects "SharedLogModel" ({ cls := "SharedLogModel", name := "cell", desc := "(II)I" } : Jvm.MethodName) ({ cls := "SharedLogModel", name := "cell", desc := "(II)I" } : Jvm.MethodName) ∈ WALL := List.mem_filter.mpr ⟨List.mem_append_left _ (List.mem_map.mpr ⟨(({ cls := "SharedLogModel", name := "cell", desc := "(II)I" } : Jvm.MethodName), 26), by decide +kernel, rfl⟩), by decide +kernel⟩
theorem ts_Model_copy : Cond.selects "SharedLogModel" ({ cls := "SharedLogModel", name := "copy", desc := "(II)V" } : Jvm.MethodName) ({ cls := "SharedLogModel", name := "copy", desc := "(II)V" } : Jvm.MethodName) ∈ WALL := List.mem_filter.mpr ⟨List.mem_append_left _ (List.mem_map.mpr ⟨(({ cls := "SharedLogModel", name := "copy", desc := "(II)V" } : Jvm.MethodName), 26), by decide +kernel, rfl⟩), by decide +kernel⟩
theorem ts_Model_out : Cond.selects "SharedLogModel" ({ cls := "SharedLogModel", name := "out", desc := "(II)Z" } : Jvm.MethodName) ({ cls := "SharedLogModel", name := "out", desc := "(II)Z" } : Jvm.MethodName) ∈ WALL := List.mem_filter.mpr ⟨List.mem_append_left _ (List.mem_map.mpr ⟨(({ cls := "SharedLogModel", name := "out", desc := "(II)Z" } : Jvm.MethodName), 26), by decide +kernel, rfl⟩), by decide +kernel⟩
theorem ts_Model_fail : Cond.selects "SharedLogModel" ({ cls := "SharedLogModel", name := "fail", desc := "(I)I" } : Jvm.MethodName) ({ cls := "SharedLogModel", name := "fail", desc := "(I)I" } : Jvm.MethodName) ∈ WALL := List.mem_filter.mpr ⟨List.mem_append_left _ (List.mem_map.mpr ⟨(({ cls := "SharedLogModel", name := "fail", desc := "(I)I" } : Jvm.MethodName), 26), by decide +kernel, rfl⟩), by decide +kernel⟩
theorem ts_Model_noToken : Cond.selects "SharedLogModel" ({ cls := "SharedLogModel", name := "noToken", desc := "(I)Z" } : Jvm.MethodName) ({ cls := "SharedLogModel", name := "noToken", desc := "(I)Z" } : Jvm.MethodName) ∈ WALL := List.mem_filter.mpr ⟨List.mem_append_left _ (List.mem_map.mpr ⟨(({ cls := "SharedLogModel", name := "noToken", desc := "(I)Z" } : Jvm.MethodName), 26), by decide +kernel, rfl⟩), by decide +kernel⟩
theorem ts_Model_write : Cond.selects "SharedLogModel" ({ cls := "SharedLogModel", name := "write", desc := "(III)I" } : Jvm.MethodName) ({ cls := "SharedLogModel", name := "write", desc := "(III)I" } : Jvm.MethodName) ∈ WALL := List.mem_filter.mpr ⟨List.mem_append_left _ (List.mem_map.mpr ⟨(({ cls := "SharedLogModel", name := "write", desc := "(III)I" } : Jvm.MethodName), 26), by decide +kernel, rfl⟩), by decide +kernel⟩
theorem ts_Model_lastCell : Cond.selects "SharedLogModel" ({ cls := "SharedLogModel", name := "lastCell", desc := "(II)I" } : Jvm.MethodName) ({ cls := "SharedLogModel", name := "lastCell", desc := "(II)I" } : Jvm.MethodName) ∈ WALL := List.mem_filter.mpr ⟨List.mem_append_left _ (List.mem_map.mpr ⟨(({ cls := "SharedLogModel", name := "lastCell", desc := "(II)I" } : Jvm.MethodName), 26), by decide +kernel, rfl⟩), by decide +kernel⟩
theorem ts_Model_ones : Cond.selects "SharedLogModel" ({ cls := "SharedLogModel", name := "ones", desc := "(I)I" } : Jvm.MethodName) ({ cls := "SharedLogModel", name := "ones", desc := "(I)I" } : Jvm.MethodName) ∈ WALL := List.mem_filter.mpr ⟨List.mem_append_left _ (List.mem_map.mpr ⟨(({ cls := "SharedLogModel", name := "ones", desc := "(I)I" } : Jvm.MethodName), 26), by decide +kernel, rfl⟩), by decide +kernel⟩
theorem ts_Model_badRow : Cond.selects "SharedLogModel" ({ cls := "SharedLogModel", name := "badRow", desc := "(I)Z" } : Jvm.MethodName) ({ cls := "SharedLogModel", name := "badRow", desc := "(I)Z" } : Jvm.MethodName) ∈ WALL := List.mem_filter.mpr ⟨List.mem_append_left _ (List.mem_map.mpr ⟨(({ cls := "SharedLogModel", name := "badRow", desc := "(I)Z" } : Jvm.MethodName), 26), by decide +kernel, rfl⟩), by decide +kernel⟩
theorem ts_Model_upUnits : Cond.selects "SharedLogModel" ({ cls := "SharedLogModel", name := "upUnits", desc := "(I)I" } : Jvm.MethodName) ({ cls := "SharedLogModel", name := "upUnits", desc := "(I)I" } : Jvm.MethodName) ∈ WALL := List.mem_filter.mpr ⟨List.mem_append_left _ (List.mem_map.mpr ⟨(({ cls := "SharedLogModel", name := "upUnits", desc := "(I)I" } : Jvm.MethodName), 26), by decide +kernel, rfl⟩), by decide +kernel⟩
theorem ts_Model_sealRow : Cond.selects "SharedLogModel" ({ cls := "SharedLogModel", name := "sealRow", desc := "(I)V" } : Jvm.MethodName) ({ cls := "SharedLogModel", name := "sealRow", desc := "(I)V" } : Jvm.MethodName) ∈ WALL := List.mem_filter.mpr ⟨List.mem_append_left _ (List.mem_map.mpr ⟨(({ cls := "SharedLogModel", name := "sealRow", desc := "(I)V" } : Jvm.MethodName), 26), by decide +kernel, rfl⟩), by decide +kernel⟩
theorem ts_Model_merge : Cond.selects "SharedLogModel" ({ cls := "SharedLogModel", name := "merge", desc := "(III)V" } : Jvm.MethodName) ({ cls := "SharedLogModel", name := "merge", desc := "(III)V" } : Jvm.MethodName) ∈ WALL := List.mem_filter.mpr ⟨List.mem_append_left _ (List.mem_map.mpr ⟨(({ cls := "SharedLogModel", name := "merge", desc := "(III)V" } : Jvm.MethodName), 26), by decide +kernel, rfl⟩), by decide +kernel⟩
theorem ts_Model_sameAges : Cond.selects "SharedLogModel" ({ cls := "SharedLogModel", name := "sameAges", desc := "(II[II)Z" } : Jvm.MethodName) ({ cls := "SharedLogModel", name := "sameAges", desc := "(II[II)Z" } : Jvm.MethodName) ∈ WALL := List.mem_filter.mpr ⟨List.mem_append_left _ (List.mem_map.mpr ⟨(({ cls := "SharedLogModel", name := "sameAges", desc := "(II[II)Z" } : Jvm.MethodName), 26), by decide +kernel, rfl⟩), by decide +kernel⟩
theorem ts_Model_place : Cond.selects "SharedLogModel" ({ cls := "SharedLogModel", name := "place", desc := "(III)V" } : Jvm.MethodName) ({ cls := "SharedLogModel", name := "place", desc := "(III)V" } : Jvm.MethodName) ∈ WALL := List.mem_filter.mpr ⟨List.mem_append_left _ (List.mem_map.mpr ⟨(({ cls := "SharedLogModel", name := "place", desc := "(III)V" } : Jvm.MethodName), 26), by decide +kernel, rfl⟩), by decide +kernel⟩
theorem ts_Model_play : Cond.selects "SharedLogModel" ({ cls := "SharedLogModel", name := "play", desc := "(II)I" } : Jvm.MethodName) ({ cls := "SharedLogModel", name := "play", desc := "(II)I" } : Jvm.MethodName) ∈ WALL := List.mem_filter.mpr ⟨List.mem_append_left _ (List.mem_map.mpr ⟨(({ cls := "SharedLogModel", name := "play", desc := "(II)I" } : Jvm.MethodName), 26), by decide +kernel, rfl⟩), by decide +kernel⟩
end
section
/-! OWN CALCULUS. A world is a partial map from addresses to cells (mu_M); every contract of the class and of the reference speaks of the whole map, so no cell is cut out or joined. -/
section MU
abbrev mu_M : Type := Nat → Option va_E
def mu_V (D : va_G) (cl : List vw_C) (μ : mu_M) (H : Heap) : Prop := ∀ (a : Nat) (e : va_E), μ a = some e → va_at D cl (a, e) H
def mu_up (μ : mu_M) (a : Nat) (e : va_E) : mu_M := fun q => if q = a then some e else μ q
theorem mu_up_s (μ : mu_M) (a : Nat) (e : va_E) : mu_up μ a e a = some e := if_pos rfl
theorem mu_up_n {μ : mu_M} {a q : Nat} {e : va_E} (h : q ≠ a) : mu_up μ a e q = μ q := if_neg h
theorem mu_V.lt {D : va_G} {cl : List vw_C} {μ : mu_M} {H : Heap} (hV : mu_V D cl μ H) {a : Nat} {e : va_E} (h : μ a = some e) : a < H.size := (hV a e h).lt
theorem mu_V.fresh {D : va_G} {cl : List vw_C} {μ : mu_M} {H : Heap} (hV : mu_V D cl μ H) {q : Nat} (hq : H.size ≤ q) : μ q = none := by
  cases h : μ q with
  | none => rfl
  | some e => exact absurd (hV.lt h) (Nat.not_lt.mpr hq)
theorem mu_V.set {D : va_G} {cl : List vw_C} {μ : mu_M} {H H1 : Heap} {a : Nat} {e : va_E} (hV : mu_V D cl μ H) (he : va_at D cl (a, e) H1) (oq : ∀ q : Nat, q ≠ a → H1[q]? = H[q]?) : mu_V D cl (mu_up μ a e) H1 := by
  intro q x hx
  by_cases hq : q = a
  · subst hq
    rw [mu_up_s] at hx
    cases hx
    exact he
  · rw [mu_up_n hq] at hx
    exact (hV q x hx).kept (oq q hq)
theorem mu_V.push {D : va_G} {cl : List vw_C} {μ : mu_M} {H H1 : Heap} {e : va_E} (hV : mu_V D cl μ H) (he : va_at D cl (H.size, e) H1) (oq : ∀ q : Nat, q < H.size → H1[q]? = H[q]?) : mu_V D cl (mu_up μ H.size e) H1 := by
  intro q x hx
  by_cases hq : q = H.size
  · subst hq
    rw [mu_up_s] at hx
    cases hx
    exact he
  · rw [mu_up_n hq] at hx
    exact (hV q x hx).kept (oq q (hV.lt hx))
theorem mu_V.one {D : va_G} {cl : List vw_C} {μ : mu_M} {H : Heap} (hV : mu_V D cl μ H) {a : Nat} {e : va_E} (h : μ a = some e) : va_P D cl [(a, e)] H := by
  intro k q hk
  have hz : k < 1 := (List.getElem?_eq_some_iff.mp hk).1
  rw [show k = 0 by omega] at hk
  cases hk
  exact hV _ _ h
theorem mu_V.kept {D : va_G} {cl : List vw_C} {μ : mu_M} {H H1 : Heap} (hV : mu_V D cl μ H) (oq : ∀ q : Nat, q < H.size → H1[q]? = H[q]?) : mu_V D cl μ H1 := fun q x hx => (hV q x hx).kept (oq q (hV.lt hx))
/-- a class of the worlds, with all that the tables know of it -/
def mk_C (Ts : List Cond) (cl : List vw_C) (ci : Nat) (C : String) (T : u_T) (N : Nat) (ty : Nat → FieldType) : Prop :=
  cl[ci]? = some (C, T, N) ∧ (∀ w ∈ u_ws C T N, w ∈ Ts) ∧ (∀ k, k < N → parseFieldDescriptor (T k).2.2.1 = some (ty k)) ∧ ∀ a, a < N → ∀ b, b < N → a ≠ b → (T a).2.1 ≠ (T b).2.1
end MU
section MV
variable {p : Program} {l : Launch} {e : Env} {R : Room} {s : State} {m : MethodId} {args : Array Value} {below : List Frame} {meth : Method} {c : Code} {H : Heap} {locs : List Loc} {cells slots : Nat} {Q : State → Prop}
variable {cc : ByteArray} {pc : Nat} {ls : Array Slot} {rest : List Value} {D : va_G} {cl : List vw_C} {A : Nat → Prop} {a : Nat} {tys : List (ClassId × FieldType)} {H0 : Heap} {μ : mu_M} {Ts : List Cond}
theorem mv_get (hexec : p.tables.exec = Jvm.exec) (hb : c.code = cc) {own C : String} {T : u_T} {N ci index : Nat} {ty : Nat → FieldType} (hts : ∀ w ∈ Ts, w.before args s = true) (hC : mk_C Ts cl ci C T N ty) (hown : s.vm.findClass own = some m.cls) (hK : va_K D cl tys s) (hV : mu_V D cl μ H) {fs : List Value} (he : μ a = some (.inr (ci, fs))) (k : Nat) (hk : k < N) (hlink : Cond.fieldLink own index (T k).1 (T k).2.1 (T k).2.2.1 ∈ Ts) {v : Value} (hv : fs[k]? = some v) (hdg : decode cc pc = .ok (.getfield index, 3))
    (kk : W p l e R s m args below meth c H locs cells slots Q (F0 m (pc + 3) ls (v :: rest))) : W p l e R s m args below meth c H locs cells slots Q (F0 m pc ls (.ref a :: rest)) :=
  va_get hexec hb hts hC.2.1 hown hK (hV.one he) 0 rfl hC.1 k hk (hts _ hlink) (fun _ h => h) hv hdg kk
theorem mv_put (hexec : p.tables.exec = Jvm.exec) (hb : c.code = cc) {own C : String} {T : u_T} {N ci index : Nat} {ty0 : Nat → FieldType} (hts : ∀ w ∈ Ts, w.before args s = true) (hC : mk_C Ts cl ci C T N ty0) (hown : s.vm.findClass own = some m.cls) (hK : va_K D cl tys s) (hV : mu_V D cl μ H) (hS0 : va_S A H0 H locs) {fs : List Value} (he : μ a = some (.inr (ci, fs))) (hAa : A a) (k : Nat) (hk : k < N) (hlink : Cond.fieldLink own index (T k).1 (T k).2.1 (T k).2.2.1 ∈ Ts) (hfin : (T k).2.2.2 = false) {v : Value} (hn : narrow (ty0 k) v = v) (hfit : fits (ty0 k) v = true) (hl : k < fs.length)
    (hdg : decode cc pc = .ok (.putfield index, 3)) (kk : ∀ (H1 : Heap) (locs1 : List Loc), mu_V D cl (mu_up μ a (.inr (ci, fs.set k v))) H1 → va_S A H0 H1 locs1 → W p l e R s m args below meth c H1 locs1 cells slots Q (F0 m (pc + 3) ls rest)) : W p l e R s m args below meth c H locs cells slots Q (F0 m pc ls (v :: .ref a :: rest)) := by
  obtain ⟨hc, hin, hty, hnm⟩ := hC
  have hap := va_apart (own := own) hts hin ty0 hty hnm hK hc
  obtain ⟨r, h1, cell, q1, q2, q3, q4⟩ := hV a _ he
  have hr : r = (C, T, N) := Option.some.inj (h1.symm.trans hc)
  subst hr
  obtain ⟨hS, hfc, kC, hkC, hkind⟩ := hK.1 ci _ hc
  obtain ⟨cf, kf, fi, f, hi, hsl⟩ := hS k hk
  have hlay := hts _ (hin _ (u_in_lay hk))
  unfold u_lay at hlay
  rw [if_neg (by rw [hfin]; decide)] at hlay
  have hst := (u_facts hfc hkC (u_lays hts hin hk) hi).1
  have h6 := u_store hfc hkC hkind hlay hi (hty k hk) hn hfit
  refine W.putK hexec hb (f := f) ⟨hown, hts _ hlink, ⟨_, _, _, hi⟩, hst⟩ (by rw [q2]; exact h6) q1 q3 (by rw [hsl]; exact k2_hasslot (q4 k hk)) rfl rfl hdg fun H' e1 e2 e3 => ?_
  rw [hsl] at e1 ⊢
  exact kk H' _ (hV.set ⟨_, hc, t_OB.to (V := updV (vp_V fs) k v) ⟨_, e1, q2, q3, t_set q4 hap hk v⟩ (fun j _ => vp_updV_set hl v j)⟩ e3) (hS0.put e2 e3 hAa)
theorem mv_putF (hexec : p.tables.exec = Jvm.exec) (hb : c.code = cc) {own C : String} {T : u_T} {N ci index : Nat} {ty0 : Nat → FieldType} (hts : ∀ w ∈ Ts, w.before args s = true) (hC : mk_C Ts cl ci C T N ty0) (hown : s.vm.findClass own = some m.cls) (hK : va_K D cl tys s) (hV : mu_V D cl μ H) (hS0 : va_S A H0 H locs) {fs : List Value} (he : μ a = some (.inr (ci, fs))) (hAa : A a) (k : Nat) (hk : k < N) (hlink : Cond.fieldLink own index (T k).1 (T k).2.1 (T k).2.2.1 ∈ Ts) (hfin : (T k).2.2.2 = true) (hin2 : meth.name = "<init>") (hdecl : (T k).1 = own) {v : Value} (hn : narrow (ty0 k) v = v) (hfit : fits (ty0 k) v = true) (hl : k < fs.length)
    (hdg : decode cc pc = .ok (.putfield index, 3)) (kk : ∀ (H1 : Heap) (locs1 : List Loc), mu_V D cl (mu_up μ a (.inr (ci, fs.set k v))) H1 → va_S A H0 H1 locs1 → W p l e R s m args below meth c H1 locs1 cells slots Q (F0 m (pc + 3) ls rest)) : W p l e R s m args below meth c H locs cells slots Q (F0 m pc ls (v :: .ref a :: rest)) := by
  obtain ⟨hc, hin, hty, hnm⟩ := hC
  have hap := va_apart (own := own) hts hin ty0 hty hnm hK hc
  obtain ⟨r, h1, cell, q1, q2, q3, q4⟩ := hV a _ he
  have hr : r = (C, T, N) := Option.some.inj (h1.symm.trans hc)
  subst hr
  obtain ⟨hS, hfc, kC, hkC, hkind⟩ := hK.1 ci _ hc
  obtain ⟨cf, kf, fi, f, hi, hsl⟩ := hS k hk
  have hlay := hts _ (hin _ (u_in_lay hk))
  unfold u_lay at hlay
  rw [if_pos hfin] at hlay
  have hst := (u_facts hfc hkC (u_lays hts hin hk) hi).1
  have hcf : m.cls = cf := by
    obtain ⟨_, _, c', _, _, _, -, -, hf', -, -, -, hown2, -⟩ := Cond.laysFinal_spec hlay
    have e1 : c' = cf := by have := hi.symm.trans hf'; simp at this; exact this.1.symm
    rw [hdecl] at hown2
    rw [← e1]; exact Option.some.inj (hown.symm.trans hown2)
  have h6 := u_fits hfc hkC hkind (Or.inr hlay) hi (hty k hk) hn hfit
  refine W.putFinK hexec hb hown (hts _ hlink) hi hst hcf hin2 (by rw [q2]; exact h6) q1 q3 (by rw [hsl]; exact k2_hasslot (q4 k hk)) rfl rfl hdg fun H' e1 e2 e3 => ?_
  rw [hsl] at e1 ⊢
  exact kk H' _ (hV.set ⟨_, hc, t_OB.to (V := updV (vp_V fs) k v) ⟨_, e1, q2, q3, t_set q4 hap hk v⟩ (fun j _ => vp_updV_set hl v j)⟩ e3) (hS0.put e2 e3 hAa)
theorem mv_iald (hexec : p.tables.exec = Jvm.exec) (hb : c.code = cc) (hK : va_K D cl tys s) (hV : mu_V D cl μ H) (t0 : Nat) {cA : ClassId} {n : Nat} {f : Nat → Int32} (he : μ a = some (.inl (cA, n, .inl f))) (ht : tys[t0]? = some (cA, .int)) {i : Int32} (hin : vp_in i n) (hdg : decode cc pc = .ok (.iaload, 1))
    (kk : W p l e R s m args below meth c H locs cells slots Q (F0 m (pc + 1) ls (.int (f i.toNatClampNeg) :: rest))) : W p l e R s m args below meth c H locs cells slots Q (F0 m pc ls (.int i :: .ref a :: rest)) :=
  va_iald hexec hb hK (hV.one he) 0 t0 rfl ht hin hdg kk
theorem mv_zald (hexec : p.tables.exec = Jvm.exec) (hb : c.code = cc) (hK : va_K D cl tys s) (hV : mu_V D cl μ H) (t0 : Nat) {cA : ClassId} {n : Nat} {f : Nat → Int32} (he : μ a = some (.inl (cA, n, .inl f))) (ht : tys[t0]? = some (cA, .boolean)) {i : Int32} (hin : vp_in i n) (hdg : decode cc pc = .ok (.baload, 1))
    (kk : W p l e R s m args below meth c H locs cells slots Q (F0 m (pc + 1) ls (.int (f i.toNatClampNeg) :: rest))) : W p l e R s m args below meth c H locs cells slots Q (F0 m pc ls (.int i :: .ref a :: rest)) :=
  va_zald hexec hb hK (hV.one he) 0 t0 rfl ht hin hdg kk
theorem mv_aald (hexec : p.tables.exec = Jvm.exec) (hb : c.code = cc) (hK : va_K D cl tys s) (hV : mu_V D cl μ H) (t0 : Nat) {cA : ClassId} {C : String} {n : Nat} {f : Nat → Option Nat} (he : μ a = some (.inl (cA, n, .inr (.inr (.inr (.inr f)))))) (ht : tys[t0]? = some (cA, .object C)) {i : Int32} (hin : vp_in i n) {x : Nat} (hx : f i.toNatClampNeg = some x) (hdg : decode cc pc = .ok (.aaload, 1))
    (kk : W p l e R s m args below meth c H locs cells slots Q (F0 m (pc + 1) ls (.ref x :: rest))) : W p l e R s m args below meth c H locs cells slots Q (F0 m pc ls (.int i :: .ref a :: rest)) :=
  va_aldq hexec hb hK (hV.one he) 0 t0 rfl ht hin hdg (by rw [hx]; exact kk)
theorem mv_alen (hexec : p.tables.exec = Jvm.exec) (hb : c.code = cc) (hK : va_K D cl tys s) (hV : mu_V D cl μ H) (t0 : Nat) {cA : ClassId} {x : vp_A} (he : μ a = some (.inl (cA, x))) {ty : FieldType} (ht : tys[t0]? = some (cA, ty)) {v : Int32} (hv : Int32.ofNat x.1 = v) (hdg : decode cc pc = .ok (.arraylength, 1))
    (kk : W p l e R s m args below meth c H locs cells slots Q (F0 m (pc + 1) ls (.int v :: rest))) : W p l e R s m args below meth c H locs cells slots Q (F0 m pc ls (.ref a :: rest)) :=
  va_alen hexec hb hK (hV.one he) 0 t0 rfl ht hv hdg kk
theorem mv_iast (hexec : p.tables.exec = Jvm.exec) (hb : c.code = cc) (hK : va_K D cl tys s) (hV : mu_V D cl μ H) (hS : va_S A H0 H locs) (t0 : Nat) {cA : ClassId} {n : Nat} {f : Nat → Int32} (he : μ a = some (.inl (cA, n, .inl f))) (hAa : A a) (ht : tys[t0]? = some (cA, .int)) {i x : Int32} (hin : vp_in i n) (hdg : decode cc pc = .ok (.iastore, 1))
    (kk : ∀ (H1 : Heap) (locs1 : List Loc), mu_V D cl (mu_up μ a (.inl (cA, n, .inl (upd f i.toNatClampNeg x)))) H1 → va_S A H0 H1 locs1 → W p l e R s m args below meth c H1 locs1 cells slots Q (F0 m (pc + 1) ls rest)) : W p l e R s m args below meth c H locs cells slots Q (F0 m pc ls (.int x :: .int i :: .ref a :: rest)) := by
  refine W.iast hexec hb (hV a _ he) ((hK.2 t0 _ ht).1 n (fun j => .int (f j))) (fun q => by cases q) (by show ¬ (i < 0 ∨ (arrV _ _ _).slots.size ≤ _); rw [arrV_size]; exact hin) rfl rfl hdg fun H1 e z oq => ?_
  refine kk H1 _ (hV.set ?_ oq) (hS.put z oq hAa)
  show H1[a]? = some (vp_cell _ _)
  rw [e]
  rw [vp_cell_i, vp_cell_i, arrV_store]
  congr 2
  funext q
  by_cases hq : q = i.toNatClampNeg
  · subst hq
    simp [updV, upd]
  · simp [updV, upd, hq]
theorem mv_zast (hexec : p.tables.exec = Jvm.exec) (hb : c.code = cc) (hK : va_K D cl tys s) (hV : mu_V D cl μ H) (hS : va_S A H0 H locs) (t0 : Nat) {cA : ClassId} {n : Nat} {f : Nat → Int32} (he : μ a = some (.inl (cA, n, .inl f))) (hAa : A a) (ht : tys[t0]? = some (cA, .boolean)) {i x : Int32} (hin : vp_in i n) (hnx : vp_nar .boolean x = x) (hdg : decode cc pc = .ok (.bastore, 1))
    (kk : ∀ (H1 : Heap) (locs1 : List Loc), mu_V D cl (mu_up μ a (.inl (cA, n, .inl (upd f i.toNatClampNeg x)))) H1 → va_S A H0 H1 locs1 → W p l e R s m args below meth c H1 locs1 cells slots Q (F0 m (pc + 1) ls rest)) : W p l e R s m args below meth c H locs cells slots Q (F0 m pc ls (.int x :: .int i :: .ref a :: rest)) := by
  refine W.zast hexec hb (hV a _ he) ((hK.2 t0 _ ht).1 n (fun j => .int (f j))) (fun q => by cases q) (by show ¬ (i < 0 ∨ (arrV _ _ _).slots.size ≤ _); rw [arrV_size]; exact hin) rfl rfl hdg fun H1 e z oq => ?_
  refine kk H1 _ (hV.set ?_ oq) (hS.put z oq hAa)
  rw [show upd f i.toNatClampNeg x = upd f i.toNatClampNeg (vp_nar .boolean x) by rw [hnx]]
  show H1[a]? = some (vp_cell _ _)
  rw [e]
  rw [vp_cell_i, vp_cell_i, arrV_store]
  congr 2
  funext q
  by_cases hq : q = i.toNatClampNeg
  · subst hq
    simp [updV, upd, vp_nar]
    try rfl
  · simp [updV, upd, hq]
theorem mv_aast (hexec : p.tables.exec = Jvm.exec) (hb : c.code = cc) (hK : va_K D cl tys s) (hV : mu_V D cl μ H) (hS : va_S A H0 H locs) (t0 ci : Nat) {cA : ClassId} {r : vw_C} {n v : Nat} {vs : List Value} {f : Nat → Option Nat} (he : μ a = some (.inl (cA, n, .inr (.inr (.inr (.inr f)))))) (hAa : A a) (ht : tys[t0]? = some (cA, .object r.1)) (hv : μ v = some (.inr (ci, vs))) (hc : cl[ci]? = some r) {i : Int32} (hin : vp_in i n) (hdg : decode cc pc = .ok (.aastore, 1))
    (kk : ∀ (H1 : Heap) (locs1 : List Loc), mu_V D cl (mu_up μ a (.inl (cA, n, .inr (.inr (.inr (.inr (va_up f i.toNatClampNeg (some v)))))))) H1 → va_S A H0 H1 locs1 → W p l e R s m args below meth c H1 locs1 cells slots Q (F0 m (pc + 1) ls rest)) : W p l e R s m args below meth c H locs cells slots Q (F0 m pc ls (.ref v :: .int i :: .ref a :: rest)) := by
  have hlt : i.toNatClampNeg < n := Nat.not_le.mp fun q => hin (Or.inr q)
  have h0 : ¬ i < 0 := fun q => hin (Or.inl q)
  obtain ⟨r', hr', cellV, g1, g2, g3, -⟩ := hV v _ hv
  have hcls := (hK.1 ci r hc).2
  obtain ⟨kA, comp, k1, k2, k3, -⟩ := (hK.2 t0 _ ht).2
  have hcomp : comp = D.1 ci := Option.some.inj (k3.symm.trans hcls.1)
  subst hcomp
  obtain ⟨kC, hkC, -⟩ := hcls.2
  refine W.aast hexec hb (hV a _ he) (fun q h => by cases h) (fun h => by cases h) k1 k2 rfl hkC ⟨h0, by show _ < (arrV _ _ _).slots.size; rw [arrV_size]; exact hlt⟩ g1 (fun q h => by rw [g3] at h; cases h) (by rw [g2]; exact hkC) (by rw [g2]; exact va_assign hcls) rfl rfl hdg fun H1 e z oq => ?_
  refine kk H1 _ (hV.set ?_ oq) (hS.put z oq hAa)
  show H1[a]? = some (vp_cell _ _)
  rw [e]
  rw [vp_cell_q, vp_cell_q, arrV_store]
  congr 2
  funext q
  by_cases hq : q = i.toNatClampNeg
  · subst hq
    simp [updV, va_up, va_rf]
  · simp [updV, va_up, hq]
theorem mv_newa (hexec : p.tables.exec = Jvm.exec) (hb : c.code = cc) {atype : ArrayType} (harr : Cond.arrayClass (newarray.typeOf atype) ∈ Ts) (hts : ∀ w ∈ Ts, w.before args s = true) {ty : FieldType} (hty : newarray.typeOf atype = ty) (hK : va_K D cl tys s) (hV : mu_V D cl μ H) (hS : va_S A H0 H locs) (t0 : Nat) {cA : ClassId} (ht : tys[t0]? = some (cA, ty)) (hnm : ∀ c9 : ClassId, va_RA s c9 ty → s.vm.findClass ("[" ++ ty.toString) = some c9)
    {n : Int32} {N' : Nat} {a0 : vp_A} (ha : ∀ cA : ClassId, vp_cell cA a0 = arrV cA N' (fun _ => defaultValue ty)) (hn : ¬ n < 0) (hN : n.toNatClampNeg = N') (hbytes : N' * componentBytes ty ≤ 536870912) (hcells : cells + 1 ≤ R.cells) (hslots : slots + N' ≤ R.slots) (hdg : decode cc pc = .ok (.newarray atype, 2))
    (kk : ∀ (q : Nat) (H1 : Heap), H0.size ≤ q → μ q = none → mu_V D cl (mu_up μ q (.inl (cA, a0))) H1 → va_S A H0 H1 locs →
      W p l e R s m args below meth c H1 locs (cells + 1) (slots + N') Q (F0 m (pc + 2) ls (.ref q :: rest))) : W p l e R s m args below meth c H locs cells slots Q (F0 m pc ls (.int n :: rest)) := by
  subst hty
  refine va_newaK hexec hb (hts _ harr) rfl hdg rfl hn hN hbytes hcells hslots rfl fun H1 cB e1 z1 o1 hAr hNm => ?_
  have hcc : cB = cA := Option.some.inj (hNm.symm.trans (hnm _ (hK.2 t0 _ ht).2))
  subst hcc
  refine kk H.size H1 hS.1 (hV.fresh (Nat.le_refl _)) (hV.push ?_ o1) ⟨Nat.le_trans hS.1 (by omega), fun x h1 h2 => (o1 x (Nat.lt_of_lt_of_le h1 hS.1)).trans (hS.2.1 x h1 h2), hS.2.2⟩
  show H1[H.size]? = some (vp_cell _ _)
  rw [ha]
  exact e1
theorem mv_newq (hexec : p.tables.exec = Jvm.exec) (hb : c.code = cc) {own C : String} {index : Nat} (hts : ∀ w ∈ Ts, w.before args s = true) (hown : s.vm.findClass own = some m.cls) (hclink : Cond.classLink own index C ∈ Ts) (hover : va_AO C s) (hK : va_K D cl tys s) (hV : mu_V D cl μ H) (hS : va_S A H0 H locs) (t0 : Nat) {cA : ClassId} (ht : tys[t0]? = some (cA, .object C))
    {n : Int32} {N' : Nat} (hn : ¬ n < 0) (hN : n.toNatClampNeg = N') (hbytes : N' * 4 ≤ 536870912) (hcells : cells + 1 ≤ R.cells) (hslots : slots + N' ≤ R.slots) (hdg : decode cc pc = .ok (.anewarray index, 3))
    (kk : ∀ (q : Nat) (H1 : Heap), H0.size ≤ q → μ q = none → mu_V D cl (mu_up μ q (.inl (cA, N', .inr (.inr (.inr (.inr (fun _ => none))))))) H1 → va_S A H0 H1 locs →
      W p l e R s m args below meth c H1 locs (cells + 1) (slots + N') Q (F0 m (pc + 3) ls (.ref q :: rest))) : W p l e R s m args below meth c H locs cells slots Q (F0 m pc ls (.int n :: rest)) := by
  subst hN
  refine W.anew hexec hb hown (hts _ hclink) (va_AO.use hover) rfl hdg rfl hn hbytes hcells hslots fun cB kA comp f1 f2 f3 f4 => ?_
  generalize hH1 : H.push ({ cls := cB, slots := Array.replicate n.toNatClampNeg .null, vm := .none } : Cell) = H1
  have z1 : H1.size = H.size + 1 := by rw [← hH1, Array.size_push]
  have e1 : H1[H.size]? = some (arrV cB n.toNatClampNeg (fun _ => .null)) := by rw [← hH1, Array.getElem?_push_size, ← arrV_new]
  have o1 : ∀ q : Nat, q < H.size → H1[q]? = H[q]? := fun q hq => by rw [← hH1, Array.getElem?_push, if_neg (Nat.ne_of_lt hq)]
  obtain ⟨kA9, comp9, g1, g2, g3, g4⟩ := (hK.2 t0 _ ht).2
  have hcc : cB = cA := Option.some.inj (f1.symm.trans g4)
  subst hcc
  refine kk H.size H1 hS.1 (hV.fresh (Nat.le_refl _)) (hV.push ?_ o1) ⟨Nat.le_trans hS.1 (by omega), fun x h1 h2 => (o1 x (Nat.lt_of_lt_of_le h1 hS.1)).trans (hS.2.1 x h1 h2), hS.2.2⟩
  show H1[H.size]? = some (vp_cell _ _)
  rw [vp_cell_q]
  exact e1
theorem mv_new {c0 : Code} (hexec : p.tables.exec = Jvm.exec) (hb : c0.code = cc) {own C : String} {T : u_T} {N ci index : Nat} {ty : Nat → FieldType} (hts : ∀ w ∈ Ts, w.before args s = true) (hC : mk_C Ts cl ci C T N ty) (hown : s.vm.findClass own = some m.cls) (hcl : Cond.classLink own index C ∈ Ts) (hinst : Cond.instantiable C N ∈ Ts) (hini : Cond.initialized C ∈ Ts)
    (hK : va_K D cl tys s) (hV : mu_V D cl μ H) (hS : va_S A H0 H locs) {fs : List Value} (hfs : ∀ j, j < N → defaultValue (ty j) = vp_V fs j) (hcells : cells + 1 ≤ R.cells) (hslots : slots + N ≤ R.slots) (hdg : decode cc pc = .ok (.new index, 3))
    (kk : ∀ (q : Nat) (H1 : Heap), H0.size ≤ q → μ q = none → mu_V D cl (mu_up μ q (.inr (ci, fs))) H1 → va_S A H0 H1 locs →
      W p l e R s m args below meth c0 H1 locs (cells + 1) (slots + N) Q (F0 m (pc + 3) ls (.ref q :: rest))) : W p l e R s m args below meth c0 H locs cells slots Q (F0 m pc ls rest) := by
  obtain ⟨hc, hin, hty, hnm⟩ := hC
  have hKn := hK.1 ci _ hc
  refine W.newcK hexec hb hown (hts _ hcl) (hts _ hinst) (hts _ hini) rfl hdg hcells hslots hKn.2.1 rfl fun H1 kC hkC e1 z1 o1 => ?_
  exact kk H.size H1 hS.1 (hV.fresh (Nat.le_refl _)) (hV.push ⟨_, hc, (u_born ty hts hin hKn hkC e1 hty).to hfs⟩ o1) ⟨Nat.le_trans hS.1 (by omega), fun x h1 h2 => (o1 x (Nat.lt_of_lt_of_le h1 hS.1)).trans (hS.2.1 x h1 h2), hS.2.2⟩
end MV
end
section
/-! CONTRACTS AND WALKS over whole maps. WALL (good words), classes, TYS, STRS, NSTS, AOS are named ahead. -/
def AA (B0 : Nat) : Nat → Prop := fun q => B0 ≤ q
def mc_Q (D : va_G) (cl : List vw_C) (A : Nat → Prop) (post : Option Value → mu_M → Prop) : Array Value → State → Outcome → State → Prop := fun _ st oc t => (∃ (v : Option Value) (μ : mu_M), oc = .returned v ∧ post v μ ∧ mu_V D cl μ t.heap) ∧ va_F A st t
def mc_X (D : va_G) (cl : List vw_C) (A : Nat → Prop) (px : String → mu_M → Prop) : String → State → State → Prop := fun E st t => ∃ μ : mu_M, px E μ ∧ mu_V D cl μ t.heap ∧ va_F A st t
theorem bad_warm {s U : State} (hW : s.WarmedH U.vm) {w : Cond} (hb : isBad w = true) (h : va_Nw w s) : va_Nw w U := by
  cases w <;> first | exact va_Nw.warmC hW h | exact va_Nw.warmD hW h | (simp [isBad] at hb; done)
theorem bad_use {A : Array Value} {U : State} {w : Cond} (hb : isBad w = true) (h : va_Nw w U) : w.before A U = true := by
  cases w <;> first | exact va_Nw.use rfl h | (simp [isBad] at hb; done)
/-- what holds all through the run: tables' words, classes, the throwables' statics, string constants -/
def Amb (D : va_G) (cT : Nat → ClassId) (B0 : Nat) (U : State) : Prop :=
  va_K D classes (TYS cT) U ∧ (∀ w ∈ WALL, w.before #[] U = true) ∧ vx_Zq Bundle.tN "UNASSIGNED_STACK" Bundle.steD (AA B0) U U.heap ∧ vx_Zq Bundle.tN "SUPPRESSED_SENTINEL" Bundle.listD (AA B0) U U.heap ∧
  (∀ q ∈ STRS, ∃ sa : Nat, vk_R q.1 q.2.1 q.2.2 sa U) ∧ (∀ q ∈ NSTS, va_Nw (.methodLinkNest q.1 q.2.1 q.2.2.1 q.2.2.2) U) ∧ (∀ C ∈ AOS, va_AO C U) ∧ (∀ w ∈ WBAD, va_Nw w U) ∧ (∀ q ∈ NCS, va_Nc q.1 q.2 U) ∧ B0 ≤ U.heap.size
theorem Amb.warm {D : va_G} {cT : Nat → ClassId} {B0 : Nat} {s U : State} (hW : s.WarmedH U.vm) (hz : s.heap.size ≤ U.heap.size) (hh : ∀ q : Nat, q < s.heap.size → ¬ AA B0 q → U.heap[q]? = s.heap[q]?) (h : Amb D cT B0 s) : Amb D cT B0 U := by
  obtain ⟨h1, h2, h3, h4, h5, h6, h7, h9, h10, h8⟩ := h
  refine ⟨va_K.moved hW.alike h1, fun w hw => word_at hW (good_of_word (List.all_eq_true.mp WALL_good w hw)) (h2 w hw), (vx_Zq.moved hW.alike h3).kept hh, (vx_Zq.moved hW.alike h4).kept hh, fun q hq => ?_, fun q hq => va_Nw.warmM hW (h6 q hq), fun C hC => va_AO.moved hW.alike (h7 C hC), fun w hw => bad_warm hW (List.mem_filter.mp hw).2 (h9 w hw), fun q hq => va_Nc.moved hW.alike (h10 q hq), Nat.le_trans h8 hz⟩
  obtain ⟨sa, hsa⟩ := h5 q hq
  exact ⟨sa, vk_R.warm hW hsa⟩
theorem Amb.ts {D : va_G} {cT : Nat → ClassId} {B0 : Nat} {s : State} (h : Amb D cT B0 s) (args : Array Value) : ∀ w ∈ WALL, w.before args s = true := fun w hw => word_at (State.WarmedH.refl s) (good_of_word (List.all_eq_true.mp WALL_good w hw)) (h.2.1 w hw)
theorem Amb.at {D : va_G} {cT : Nat → ClassId} {B0 : Nat} {s U : State} {H : Heap} {locs : List Loc} (h : Amb D cT B0 s) (hS : va_S (AA B0) s.heap H locs) (hU : U.heap = H) (hW : s.WarmedH U.vm) : Amb D cT B0 U :=
  h.warm hW (by rw [hU]; exact hS.1) (fun q h1 h2 => by rw [hU]; exact hS.2.1 q h1 h2)
def mc_P (D : va_G) (cT : Nat → ClassId) (B0 : Nat) (av : List Value) (μ : mu_M) : Array Value → State → Prop := va_Pc av (fun U => Amb D cT B0 U ∧ mu_V D classes μ U.heap)
theorem mc_blind (D : va_G) (cT : Nat → ClassId) (B0 : Nat) (av : List Value) (μ : mu_M) : FrameBlind (mc_P D cT B0 av μ) := by
  intro a U g mk h
  obtain ⟨h1, h2, h3⟩ := h
  exact ⟨h1, Amb.warm (s := U) (U := U.calling g mk a) (State.WarmedH.refl U) (Nat.le_refl _) (fun _ _ _ => rfl) h2, h3⟩
/-- a method: its name, code, locals, result, handlers (none: not asked), room -/
abbrev mt_M : Type := MethodName × ByteArray × Nat × Option FieldType × Option (List (Nat × Nat × Nat × Nat)) × Room
abbrev mt_y (M : mt_M) : MethodName := M.1
abbrev mt_c (M : mt_M) : ByteArray := M.2.1
abbrev mt_l (M : mt_M) : Nat := M.2.2.1
abbrev mt_r (M : mt_M) : Option FieldType := M.2.2.2.1
abbrev mt_h (M : mt_M) : Option (List (Nat × Nat × Nat × Nat)) := M.2.2.2.2.1
abbrev mt_R (M : mt_M) : Room := M.2.2.2.2.2
/-- the run: launch, classes' numbers and slots, array classes, the heap's size at its start -/
abbrev mt_G : Type := Launch × va_G × (Nat → ClassId) × Nat
abbrev mt_Q : Type := List Frame → Array Value → State → State → Prop
def mt_S (G : mt_G) (M : mt_M) (p : Program) (s : State) (m : MethodId) (args : Array Value) (meth : Method) (c : Code) : Prop :=
  p.tables.exec = Jvm.exec ∧ c.code = mt_c M ∧ meth.sig.returnType = mt_r M ∧ c.maxLocals = mt_l M ∧ s.vm.findClass (mt_y M).cls = some m.cls ∧ meth.locks = false ∧ (∀ h, mt_h M = some h → c.exceptionTable.toList = tableOf h) ∧ ((mt_y M).name = "<init>" → meth.name = "<init>") ∧ Amb G.2.1 G.2.2.1 G.2.2.2 s
/-- the machine, in a frame of M at pc with locals lo and stack st, over the map μ, comes to an end with QE -/
def WP (G : mt_G) (M : mt_M) (QE : mt_Q) (lo : List (Nat × Value)) (pc : Nat) (st : List Value) (μ : mu_M) (cn sn : Nat) : Prop :=
  G.1.stackTraces = false → ∀ (p : Program) (e : Env) (s : State) (m : MethodId) (args : Array Value) (below : List Frame) (meth : Method) (c : Code) (H : Heap) (locs : List Loc) (ls : Array Slot), mt_S G M p s m args meth c → mu_V G.2.1 classes μ H → va_S (AA G.2.2.2) s.heap H locs → lv_has ls (mt_l M) lo →
    W p G.1 e (mt_R M) s m args below meth c H locs cn sn (QE below args s) (F0 m pc ls st)
/-- a contract: M called with av over μ returns v with post v μ', or throws E with px E μ' -/
def CT (G : mt_G) (M : mt_M) (av : List Value) (μ : mu_M) (post : Option Value → mu_M → Prop) (px : String → mu_M → Prop) : Prop :=
  G.1.stackTraces = false → vx_Met G.1 (mt_y M) [.code (mt_y M) (mt_c M) (mt_l M) (mt_r M)] (mt_R M) (mc_P G.2.1 G.2.2.1 G.2.2.2 av μ) (mc_Q G.2.1 classes (AA G.2.2.2) post) (mc_X G.2.1 classes (AA G.2.2.2) px) (mt_R M).cells (mt_R M).slots (AA G.2.2.2)
def CTH (G : mt_G) (M : mt_M) (hh : List (Nat × Nat × Nat × Nat)) (av : List Value) (μ : mu_M) (post : Option Value → mu_M → Prop) (px : String → mu_M → Prop) : Prop :=
  G.1.stackTraces = false → vx_Met G.1 (mt_y M) [.codeWith (mt_y M) (mt_c M) (mt_l M) (mt_r M) hh] (mt_R M) (mc_P G.2.1 G.2.2.1 G.2.2.2 av μ) (mc_Q G.2.1 classes (AA G.2.2.2) post) (mc_X G.2.1 classes (AA G.2.2.2) px) (mt_R M).cells (mt_R M).slots (AA G.2.2.2)
def EC (G : mt_G) (M : mt_M) (post : Option Value → mu_M → Prop) (px : String → mu_M → Prop) : mt_Q := fun below args s =>
  vx_MQ below (mc_Q G.2.1 classes (AA G.2.2.2) post) (mc_X G.2.1 classes (AA G.2.2.2) px) args s (mt_R M).cells (mt_R M).slots (AA G.2.2.2)
theorem CT.of {G : mt_G} {M : mt_M} {av : List Value} {μ : mu_M} {post : Option Value → mu_M → Prop} {px : String → mu_M → Prop} (hy : plainName (mt_y M).cls = true) (hh : mt_h M = some []) (hlen : (lg_sl av).length ≤ mt_l M)
    (body : WP G M (EC G M post px) (lv_args 0 av) 0 [] μ 0 0) : CT G M av μ post px := by
  intro hg
  refine vx_ofW (cc := mt_c M) (maxL := mt_l M) (ret := mt_r M) hy rfl ?_
  intro p e s m args below meth c s₁ B hml hno hv
  obtain ⟨rfl, hAm, hV⟩ := hv
  rw [lg_entry_eq]
  refine body hg p e s m av.toArray below meth c s.heap [] _ ⟨B.exec, B.bytes, B.returns, hml, findClass_of_methodNamed B.named, B.notSynchronized, fun h h9 => ?_, fun h => (name_of_methodNamed B.named B.method).1.trans h, hAm⟩ hV va_S.rf (lv_entry av hlen)
  rw [hh] at h9
  cases h9
  exact List.eq_nil_iff_forall_not_mem.mpr hno
theorem CTH.of {G : mt_G} {M : mt_M} {hh : List (Nat × Nat × Nat × Nat)} {av : List Value} {μ : mu_M} {post : Option Value → mu_M → Prop} {px : String → mu_M → Prop} (hy : plainName (mt_y M).cls = true) (hhm : mt_h M = some hh) (hlen : (lg_sl av).length ≤ mt_l M)
    (body : WP G M (EC G M post px) (lv_args 0 av) 0 [] μ 0 0) : CTH G M hh av μ post px := by
  intro hg
  refine vx_ofWH (cc := mt_c M) (maxL := mt_l M) (ret := mt_r M) (hh := hh) hy rfl ?_
  intro p e s m args below meth c s₁ B hml hv
  obtain ⟨rfl, hAm, hV⟩ := hv
  rw [lg_entry_eq]
  refine body hg p e s m av.toArray below meth c s.heap [] _ ⟨B.exec, B.bytes, B.returns, hml, findClass_of_methodNamed B.named, B.notSynchronized, fun h h9 => ?_, fun h => (name_of_methodNamed B.named B.method).1.trans h, hAm⟩ hV va_S.rf (lv_entry av hlen)
  rw [hhm] at h9
  cases h9
  exact vx_table (x := mt_y M) B (atoms_spec (ws := [Cond.codeWith (mt_y M) (mt_c M) (mt_l M) (mt_r M) hh]) B.pre _ List.mem_cons_self)
/-- a constructor's contract: it returns -/
def CTI (G : mt_G) (M : mt_M) (av : List Value) (μ : mu_M) (post : Option Value → mu_M → Prop) : Prop :=
  G.1.stackTraces = false → Met G.1 (mt_y M) [.code (mt_y M) (mt_c M) (mt_l M) (mt_r M)] (mt_R M) (mc_P G.2.1 G.2.2.1 G.2.2.2 av μ) (mc_Q G.2.1 classes (AA G.2.2.2) post) (mt_R M).cells (mt_R M).slots (AA G.2.2.2)
def ECI (G : mt_G) (M : mt_M) (post : Option Value → mu_M → Prop) : mt_Q := fun below args s =>
  MQ below (mc_Q G.2.1 classes (AA G.2.2.2) post) args s (mt_R M).cells (mt_R M).slots (AA G.2.2.2)
theorem CTI.of {G : mt_G} {M : mt_M} {av : List Value} {μ : mu_M} {post : Option Value → mu_M → Prop} (hy : plainName (mt_y M).cls = true) (hh : mt_h M = some []) (hlen : (lg_sl av).length ≤ mt_l M)
    (body : WP G M (ECI G M post) (lv_args 0 av) 0 [] μ 0 0) : CTI G M av μ post := by
  intro hg
  refine Met.ofW (cc := mt_c M) (maxL := mt_l M) (ret := mt_r M) hy rfl ?_
  intro p e s m args below meth c s₁ B hml hv
  obtain ⟨rfl, hAm, hV⟩ := hv
  rw [lg_entry_eq]
  refine body hg p e s m av.toArray below meth c s.heap [] _ ⟨B.exec, B.bytes, B.returns, hml, findClass_of_methodNamed B.named, B.notSynchronized, fun h h9 => ?_, fun h => (name_of_methodNamed B.named B.method).1.trans h, hAm⟩ hV va_S.rf (lv_entry av hlen)
  rw [hh] at h9
  cases h9
  obtain ⟨meth9, c9, h1, h2, -, -, -, -, h7, -⟩ := Cond.code_spec B.named (atoms_spec (ws := [Cond.code (mt_y M) (mt_c M) (mt_l M) (mt_r M)]) B.pre _ List.mem_cons_self)
  cases Option.some.inj (h1.symm.trans B.method)
  cases Option.some.inj (h2.symm.trans (Stand.of_body B).code)
  rw [Array.isEmpty_iff.mp h7]
  rfl
/-- locals by their number -/
def lkp : List (Nat × Value) → Nat → Option Value
  | [], _ => none
  | q :: t, i => cond (Nat.beq q.1 i) (some q.2) (lkp t i)
theorem lkp_mem : ∀ {lo : List (Nat × Value)} {i : Nat} {v : Value}, lkp lo i = some v → (i, v) ∈ lo
  | [], _, _, h => by cases h
  | q :: t, i, v, h => by
    unfold lkp at h
    cases hb : Nat.beq q.1 i with
    | true =>
      rw [hb] at h
      have e1 : q.1 = i := Nat.eq_of_beq_eq_true hb
      have e2 : q.2 = v := Option.some.inj h
      rw [← e1, ← e2]
      exact List.mem_cons_self
    | false =>
      rw [hb] at h
      exact List.mem_cons_of_mem _ (lkp_mem h)
theorem lkp_at {ls : Array Slot} {nL : Nat} {lo : List (Nat × Value)} (h : lv_has ls nL lo) {i : Nat} {v : Value} (hk : lkp lo i = some v) : ls[i]? = some (.val v) := h.2.2 (i, v) (lkp_mem hk)
def lst (lo : List (Nat × Value)) (i : Nat) (v : Value) : List (Nat × Value) := (i, v) :: lo.filter (fun q => !(q.1 == i) && !(q.1 + 1 == i && q.2.category == 2))
def lstL (lo : List (Nat × Value)) (i : Nat) (v : Value) : List (Nat × Value) := (i, v) :: lo.filter (fun q => !(q.1 == i) && (!(q.1 == i + 1) && !(q.1 + 1 == i && q.2.category == 2)))
/-- a field's place: the pool's number idx of class own names field k of class ci -/
def fl_P (own : String) (idx ci k : Nat) : Prop := ∃ (C : String) (T : u_T) (N : Nat) (ty : Nat → FieldType), mk_C WALL classes ci C T N ty ∧ k < N ∧ Cond.fieldLink own idx (T k).1 (T k).2.1 (T k).2.2.1 ∈ WALL
def fp_P (own : String) (idx ci k : Nat) (t : FieldType) : Prop := ∃ (C : String) (T : u_T) (N : Nat) (ty : Nat → FieldType), mk_C WALL classes ci C T N ty ∧ k < N ∧ Cond.fieldLink own idx (T k).1 (T k).2.1 (T k).2.2.1 ∈ WALL ∧ (T k).2.2.2 = false ∧ ty k = t
def ff_P (own : String) (idx ci k : Nat) (t : FieldType) : Prop := ∃ (C : String) (T : u_T) (N : Nat) (ty : Nat → FieldType), mk_C WALL classes ci C T N ty ∧ k < N ∧ Cond.fieldLink own idx (T k).1 (T k).2.1 (T k).2.2.1 ∈ WALL ∧ (T k).2.2.2 = true ∧ (T k).1 = own ∧ ty k = t
def nw_P (own : String) (idx ci N : Nat) (fs : List Value) : Prop := ∃ (C : String) (T : u_T) (ty : Nat → FieldType), mk_C WALL classes ci C T N ty ∧ Cond.classLink own idx C ∈ WALL ∧ Cond.instantiable C N ∈ WALL ∧ Cond.initialized C ∈ WALL ∧ ∀ j, j < N → defaultValue (ty j) = vp_V fs j
def cb_P (own : String) (idx : Nat) (M : mt_M) (n : Nat) : Prop := Cond.methodLink own idx (mt_y M) ∈ WALL ∧ Cond.initialized (mt_y M).cls ∈ WALL ∧ ((mt_y M).cls ≠ "java/lang/invoke/MethodHandle" ∧ (mt_y M).cls ≠ "java/lang/invoke/VarHandle") ∧ (parseMethodDescriptor (mt_y M).desc).map (fun d => d.parameters.length) = some n
def cd_P (M : mt_M) : Prop := Cond.code (mt_y M) (mt_c M) (mt_l M) (mt_r M) ∈ WALL
def cv_P (own : String) (idx ci : Nat) (M : mt_M) (n : Nat) : Prop := cb_P own idx M n ∧ Cond.instanceMethod (mt_y M) ∈ WALL ∧ ∃ (C : String) (T : u_T) (N : Nat), classes[ci]? = some (C, T, N) ∧ Cond.selects C (mt_y M) (mt_y M) ∈ WALL
def cs_P (own : String) (idx : Nat) (M : mt_M) (n : Nat) : Prop := cb_P own idx M n ∧ Cond.static (mt_y M) ∈ WALL
def ci_P (own : String) (idx : Nat) (M : mt_M) (n : Nat) : Prop := cb_P own idx M n ∧ Cond.instanceMethod (mt_y M) ∈ WALL ∧ (mt_y M).name = "<init>" ∧ mt_r M = none
def cn_P (own : String) (idx : Nat) (M : mt_M) (host : String) (n : Nat) : Prop := (own, idx, mt_y M, host) ∈ NSTS ∧ Cond.initialized (mt_y M).cls ∈ WALL ∧ ((mt_y M).cls ≠ "java/lang/invoke/MethodHandle" ∧ (mt_y M).cls ≠ "java/lang/invoke/VarHandle") ∧ (parseMethodDescriptor (mt_y M).desc).map (fun d => d.parameters.length) = some n ∧ Cond.instanceMethod (mt_y M) ∈ WALL ∧ (mt_y M).name = "<init>" ∧ mt_r M = none
/-- the callee's frames and locals Bundle.fit -/
def rf_P (M' M : mt_M) : Prop := (mt_R M').frames + 1 ≤ (mt_R M).frames ∧ 8 + (mt_l M' + 11) + (mt_R M').locals ≤ (mt_R M).locals
def th_P (own cls text : String) (ik is ic : Nat) (names : List String) : Prop := Bundle.fit cls = true ∧ (∀ n ∈ names, Bundle.fit n = true) ∧ Cond.classLink own ik cls ∈ WALL ∧ Cond.initialized cls ∈ WALL ∧ (own, is, text) ∈ STRS ∧ (∀ w ∈ vx_atS own ic cls names, w ∈ WALL ∨ w ∈ WBAD) ∧ ∀ w ∈ Cond.classLink own ik cls :: Cond.initialized cls :: vx_atS own ic cls names, vx_ot w = true
section WPR
variable {G : mt_G} {M : mt_M} {QE : mt_Q} {lo : List (Nat × Value)} {pc : Nat} {rest : List Value} {μ : mu_M} {cn sn : Nat}
theorem WP.loc {st : List Value} (lo' : List (Nat × Value)) (h : lo'.map (fun q => lkp lo q.1) = lo'.map (fun q => some q.2)) (k : WP G M QE lo' pc st μ cn sn) : WP G M QE lo pc st μ cn sn :=
  fun hg p e s m args below meth c H locs ls hM hV hS hL => k hg p e s m args below meth c H locs ls hM hV hS ⟨hL.1, hL.2.1, fun q hq => lkp_at hL (List.map_inj_left.mp h q hq)⟩
theorem WP.widen {st : List Value} {k n : Nat} (h1 : cn ≤ k) (h2 : sn ≤ n) (kk : WP G M QE lo pc st μ k n) : WP G M QE lo pc st μ cn sn :=
  fun hg p e s m args below meth c H locs ls hM hV hS hL => W.widen h1 h2 (kk hg p e s m args below meth c H locs ls hM hV hS hL)
theorem WP.at {st st' : List Value} {pc' : Nat} (h1 : pc = pc') (h2 : st = st') (kk : WP G M QE lo pc' st' μ cn sn) : WP G M QE lo pc st μ cn sn := by
  rw [h1, h2]; exact kk
theorem wp_iload_n {k : Fin 4} {i : Nat} {x : Int32} (hdg : decode (mt_c M) pc = .ok (.iload_n k, 1)) (hi : (k : Nat) = i) (h : lkp lo i = some (.int x)) (kk : WP G M QE lo (pc + 1) (.int x :: rest) μ cn sn) : WP G M QE lo pc rest μ cn sn :=
  fun hg p e s m args below meth c H locs ls hM hV hS hL => lv_iload_n hM.1 hM.2.1 hdg hi (lkp_at hL h) (kk hg p e s m args below meth c H locs ls hM hV hS hL)
theorem wp_iload {i : Nat} {x : Int32} (hdg : decode (mt_c M) pc = .ok (.iload i, 2)) (h : lkp lo i = some (.int x)) (kk : WP G M QE lo (pc + 2) (.int x :: rest) μ cn sn) : WP G M QE lo pc rest μ cn sn :=
  fun hg p e s m args below meth c H locs ls hM hV hS hL => lv_iload hM.1 hM.2.1 hdg (lkp_at hL h) (kk hg p e s m args below meth c H locs ls hM hV hS hL)
theorem wp_lload_n {k : Fin 4} {i : Nat} {x : Int64} (hdg : decode (mt_c M) pc = .ok (.lload_n k, 1)) (hi : (k : Nat) = i) (h : lkp lo i = some (.long x)) (kk : WP G M QE lo (pc + 1) (.long x :: rest) μ cn sn) : WP G M QE lo pc rest μ cn sn :=
  fun hg p e s m args below meth c H locs ls hM hV hS hL => lv_lload_n hM.1 hM.2.1 hdg hi (lkp_at hL h) (kk hg p e s m args below meth c H locs ls hM hV hS hL)
theorem wp_lload {i : Nat} {x : Int64} (hdg : decode (mt_c M) pc = .ok (.lload i, 2)) (h : lkp lo i = some (.long x)) (kk : WP G M QE lo (pc + 2) (.long x :: rest) μ cn sn) : WP G M QE lo pc rest μ cn sn :=
  fun hg p e s m args below meth c H locs ls hM hV hS hL => lv_lload hM.1 hM.2.1 hdg (lkp_at hL h) (kk hg p e s m args below meth c H locs ls hM hV hS hL)
theorem wp_aload_n {k : Fin 4} {i : Nat} {x : Nat} (hdg : decode (mt_c M) pc = .ok (.aload_n k, 1)) (hi : (k : Nat) = i) (h : lkp lo i = some (.ref x)) (kk : WP G M QE lo (pc + 1) (.ref x :: rest) μ cn sn) : WP G M QE lo pc rest μ cn sn :=
  fun hg p e s m args below meth c H locs ls hM hV hS hL => lv_aload_n hM.1 hM.2.1 hdg hi (lkp_at hL h) (kk hg p e s m args below meth c H locs ls hM hV hS hL)
theorem wp_aload {i : Nat} {x : Nat} (hdg : decode (mt_c M) pc = .ok (.aload i, 2)) (h : lkp lo i = some (.ref x)) (kk : WP G M QE lo (pc + 2) (.ref x :: rest) μ cn sn) : WP G M QE lo pc rest μ cn sn :=
  fun hg p e s m args below meth c H locs ls hM hV hS hL => lv_aload hM.1 hM.2.1 hdg (lkp_at hL h) (kk hg p e s m args below meth c H locs ls hM hV hS hL)
theorem wp_istore_n {k : Fin 4} {i : Nat} {x : Int32} (hdg : decode (mt_c M) pc = .ok (.istore_n k, 1)) (hi : (k : Nat) = i) (hn : i < mt_l M) (kk : WP G M QE (lst lo i (.int x)) (pc + 1) rest μ cn sn) : WP G M QE lo pc (.int x :: rest) μ cn sn :=
  fun hg p e s m args below meth c H locs ls hM hV hS hL => lv_istore_n hM.1 hM.2.1 hdg hi hL hn rfl (fun ls hL => kk hg p e s m args below meth c H locs ls hM hV hS hL)
theorem wp_istore {i : Nat} {x : Int32} (hdg : decode (mt_c M) pc = .ok (.istore i, 2)) (hn : i < mt_l M) (kk : WP G M QE (lst lo i (.int x)) (pc + 2) rest μ cn sn) : WP G M QE lo pc (.int x :: rest) μ cn sn :=
  fun hg p e s m args below meth c H locs ls hM hV hS hL => lv_istore hM.1 hM.2.1 hdg hL hn rfl (fun ls hL => kk hg p e s m args below meth c H locs ls hM hV hS hL)
theorem wp_lstore_n {k : Fin 4} {i : Nat} {x : Int64} (hdg : decode (mt_c M) pc = .ok (.lstore_n k, 1)) (hi : (k : Nat) = i) (hn : i + 1 < mt_l M) (kk : WP G M QE (lstL lo i (.long x)) (pc + 1) rest μ cn sn) : WP G M QE lo pc (.long x :: rest) μ cn sn :=
  fun hg p e s m args below meth c H locs ls hM hV hS hL => lv_lstore_n hM.1 hM.2.1 hdg hi hL hn rfl (fun ls hL => kk hg p e s m args below meth c H locs ls hM hV hS hL)
theorem wp_lstore {i : Nat} {x : Int64} (hdg : decode (mt_c M) pc = .ok (.lstore i, 2)) (hn : i + 1 < mt_l M) (kk : WP G M QE (lstL lo i (.long x)) (pc + 2) rest μ cn sn) : WP G M QE lo pc (.long x :: rest) μ cn sn :=
  fun hg p e s m args below meth c H locs ls hM hV hS hL => lv_lstore hM.1 hM.2.1 hdg hL hn rfl (fun ls hL => kk hg p e s m args below meth c H locs ls hM hV hS hL)
theorem wp_astore_n {k : Fin 4} {i : Nat} {x : Nat} (hdg : decode (mt_c M) pc = .ok (.astore_n k, 1)) (hi : (k : Nat) = i) (hn : i < mt_l M) (kk : WP G M QE (lst lo i (.ref x)) (pc + 1) rest μ cn sn) : WP G M QE lo pc (.ref x :: rest) μ cn sn :=
  fun hg p e s m args below meth c H locs ls hM hV hS hL => lv_astore_n hM.1 hM.2.1 hdg hi hL hn rfl (fun ls hL => kk hg p e s m args below meth c H locs ls hM hV hS hL)
theorem wp_astore {i : Nat} {x : Nat} (hdg : decode (mt_c M) pc = .ok (.astore i, 2)) (hn : i < mt_l M) (kk : WP G M QE (lst lo i (.ref x)) (pc + 2) rest μ cn sn) : WP G M QE lo pc (.ref x :: rest) μ cn sn :=
  fun hg p e s m args below meth c H locs ls hM hV hS hL => lv_astore hM.1 hM.2.1 hdg hL hn rfl (fun ls hL => kk hg p e s m args below meth c H locs ls hM hV hS hL)
theorem wp_iinc {i : Nat} {d : Int} {x v : Int32} (hdg : decode (mt_c M) pc = .ok (.iinc i d, 3)) (h : lkp lo i = some (.int x)) (hv : x + Int32.ofInt d = v) (hn : i < mt_l M) (kk : WP G M QE (lst lo i (.int v)) (pc + 3) rest μ cn sn) : WP G M QE lo pc rest μ cn sn := by
  intro hg p e s m args below meth c H locs ls hM hV hS hL
  obtain ⟨k, hk⟩ := List.getElem?_of_mem (lkp_mem h)
  exact lv_iinc hM.1 hM.2.1 hdg hL hk hv hn rfl (fun ls hL => kk hg p e s m args below meth c H locs ls hM hV hS hL)
theorem wp_ishl {x y : Int32} (hdg : decode (mt_c M) pc = .ok (.ishl, 1)) (k : WP G M QE lo (pc + 1) (.int (x <<< (y &&& 31)) :: rest) μ cn sn) : WP G M QE lo pc (.int y :: .int x :: rest) μ cn sn :=
  fun hg p e s m args below meth c H locs ls hM hV hS hL => lv_ishl hM.1 hM.2.1 hdg (k hg p e s m args below meth c H locs ls hM hV hS hL)
theorem wp_ishr {x y : Int32} (hdg : decode (mt_c M) pc = .ok (.ishr, 1)) (k : WP G M QE lo (pc + 1) (.int (x >>> (y &&& 31)) :: rest) μ cn sn) : WP G M QE lo pc (.int y :: .int x :: rest) μ cn sn :=
  fun hg p e s m args below meth c H locs ls hM hV hS hL => lv_ishr hM.1 hM.2.1 hdg (k hg p e s m args below meth c H locs ls hM hV hS hL)
theorem wp_tableIn {dflt lo9 hi9 : Int} {offs : Array Int} {len : Nat} {x : Int32} {off : Int} {tgt : Nat} (hdg : decode (mt_c M) pc = .ok (.tableswitch dflt lo9 hi9 offs, len)) (h1 : ¬ x.toInt < lo9) (h2 : ¬ hi9 < x.toInt) (ho : offs[(x.toInt - lo9).toNat]? = some off) (ht : (pc : Int) + off = (tgt : Int)) (k : WP G M QE lo tgt rest μ cn sn) : WP G M QE lo pc (.int x :: rest) μ cn sn :=
  fun hg p e s m args below meth c H locs ls hM hV hS hL => lv_tableIn hM.1 hM.2.1 hdg h1 h2 ho ht (k hg p e s m args below meth c H locs ls hM hV hS hL)
theorem wp_tableOut {dflt lo9 hi9 : Int} {offs : Array Int} {len : Nat} {x : Int32} {tgt : Nat} (hdg : decode (mt_c M) pc = .ok (.tableswitch dflt lo9 hi9 offs, len)) (h : x.toInt < lo9 ∨ hi9 < x.toInt) (ht : (pc : Int) + dflt = (tgt : Int)) (k : WP G M QE lo tgt rest μ cn sn) : WP G M QE lo pc (.int x :: rest) μ cn sn :=
  fun hg p e s m args below meth c H locs ls hM hV hS hL => lv_tableOut hM.1 hM.2.1 hdg h ht (k hg p e s m args below meth c H locs ls hM hV hS hL)
theorem wp_lookup {dflt : Int} {ps : Array (Int × Int)} {len : Nat} {x : Int32} {off : Int} {tgt : Nat} (hdg : decode (mt_c M) pc = .ok (.lookupswitch dflt ps, len)) (hp : (ps.toList.zip (ps.toList.drop 1)).all (fun (a, next) => a.1 < next.1) = true) (ho : Op.lookupswitch.offset ps.toList dflt x.toInt = off) (ht : (pc : Int) + off = (tgt : Int)) (k : WP G M QE lo tgt rest μ cn sn) : WP G M QE lo pc (.int x :: rest) μ cn sn :=
  fun hg p e s m args below meth c H locs ls hM hV hS hL => lv_lookup hM.1 hM.2.1 hdg hp ho ht (k hg p e s m args below meth c H locs ls hM hV hS hL)
theorem wp_iconst {n : Int} {v : Int32} (hdg : decode (mt_c M) pc = .ok (.iconst n, 1)) (hv : Int32.ofInt n = v) (k : WP G M QE lo (pc + 1) (.int v :: rest) μ cn sn) : WP G M QE lo pc (rest) μ cn sn :=
  fun hg p e s m args below meth c H locs ls hM hV hS hL => lv_iconst hM.1 hM.2.1 hdg hv (k hg p e s m args below meth c H locs ls hM hV hS hL)
theorem wp_bipush {n : Int} {v : Int32} (hdg : decode (mt_c M) pc = .ok (.bipush n, 2)) (hv : (Int8.ofInt n).toInt32 = v) (k : WP G M QE lo (pc + 2) (.int v :: rest) μ cn sn) : WP G M QE lo pc (rest) μ cn sn :=
  fun hg p e s m args below meth c H locs ls hM hV hS hL => lv_bipush hM.1 hM.2.1 hdg hv (k hg p e s m args below meth c H locs ls hM hV hS hL)
theorem wp_sipush {n : Int} {v : Int32} (hdg : decode (mt_c M) pc = .ok (.sipush n, 3)) (hv : (Int16.ofInt n).toInt32 = v) (k : WP G M QE lo (pc + 3) (.int v :: rest) μ cn sn) : WP G M QE lo pc (rest) μ cn sn :=
  fun hg p e s m args below meth c H locs ls hM hV hS hL => lv_sipush hM.1 hM.2.1 hdg hv (k hg p e s m args below meth c H locs ls hM hV hS hL)
theorem wp_lconst {n : Fin 2} {v : Int64} (hdg : decode (mt_c M) pc = .ok (.lconst n, 1)) (hv : Int64.ofNat (n : Nat) = v) (k : WP G M QE lo (pc + 1) (.long v :: rest) μ cn sn) : WP G M QE lo pc (rest) μ cn sn :=
  fun hg p e s m args below meth c H locs ls hM hV hS hL => lv_lconst hM.1 hM.2.1 hdg hv (k hg p e s m args below meth c H locs ls hM hV hS hL)
theorem wp_iadd {x y : Int32} (hdg : decode (mt_c M) pc = .ok (.iadd, 1)) (k : WP G M QE lo (pc + 1) (.int (x + y) :: rest) μ cn sn) : WP G M QE lo pc (.int y :: .int x :: rest) μ cn sn :=
  fun hg p e s m args below meth c H locs ls hM hV hS hL => lv_iadd hM.1 hM.2.1 hdg (k hg p e s m args below meth c H locs ls hM hV hS hL)
theorem wp_isub {x y : Int32} (hdg : decode (mt_c M) pc = .ok (.isub, 1)) (k : WP G M QE lo (pc + 1) (.int (x - y) :: rest) μ cn sn) : WP G M QE lo pc (.int y :: .int x :: rest) μ cn sn :=
  fun hg p e s m args below meth c H locs ls hM hV hS hL => lv_isub hM.1 hM.2.1 hdg (k hg p e s m args below meth c H locs ls hM hV hS hL)
theorem wp_imul {x y : Int32} (hdg : decode (mt_c M) pc = .ok (.imul, 1)) (k : WP G M QE lo (pc + 1) (.int (x * y) :: rest) μ cn sn) : WP G M QE lo pc (.int y :: .int x :: rest) μ cn sn :=
  fun hg p e s m args below meth c H locs ls hM hV hS hL => lv_imul hM.1 hM.2.1 hdg (k hg p e s m args below meth c H locs ls hM hV hS hL)
theorem wp_iand {x y : Int32} (hdg : decode (mt_c M) pc = .ok (.iand, 1)) (k : WP G M QE lo (pc + 1) (.int (x &&& y) :: rest) μ cn sn) : WP G M QE lo pc (.int y :: .int x :: rest) μ cn sn :=
  fun hg p e s m args below meth c H locs ls hM hV hS hL => lv_iand hM.1 hM.2.1 hdg (k hg p e s m args below meth c H locs ls hM hV hS hL)
theorem wp_ior {x y : Int32} (hdg : decode (mt_c M) pc = .ok (.ior, 1)) (k : WP G M QE lo (pc + 1) (.int (x ||| y) :: rest) μ cn sn) : WP G M QE lo pc (.int y :: .int x :: rest) μ cn sn :=
  fun hg p e s m args below meth c H locs ls hM hV hS hL => lv_ior hM.1 hM.2.1 hdg (k hg p e s m args below meth c H locs ls hM hV hS hL)
theorem wp_ixor {x y : Int32} (hdg : decode (mt_c M) pc = .ok (.ixor, 1)) (k : WP G M QE lo (pc + 1) (.int (x ^^^ y) :: rest) μ cn sn) : WP G M QE lo pc (.int y :: .int x :: rest) μ cn sn :=
  fun hg p e s m args below meth c H locs ls hM hV hS hL => lv_ixor hM.1 hM.2.1 hdg (k hg p e s m args below meth c H locs ls hM hV hS hL)
theorem wp_idiv {x y : Int32} (hdg : decode (mt_c M) pc = .ok (.idiv, 1)) (hne : ¬ y = 0) (k : WP G M QE lo (pc + 1) (.int (x / y) :: rest) μ cn sn) : WP G M QE lo pc (.int y :: .int x :: rest) μ cn sn :=
  fun hg p e s m args below meth c H locs ls hM hV hS hL => lv_idiv hM.1 hM.2.1 hdg hne (k hg p e s m args below meth c H locs ls hM hV hS hL)
theorem wp_irem {x y : Int32} (hdg : decode (mt_c M) pc = .ok (.irem, 1)) (hne : ¬ y = 0) (k : WP G M QE lo (pc + 1) (.int (x - x / y * y) :: rest) μ cn sn) : WP G M QE lo pc (.int y :: .int x :: rest) μ cn sn :=
  fun hg p e s m args below meth c H locs ls hM hV hS hL => lv_irem hM.1 hM.2.1 hdg hne (k hg p e s m args below meth c H locs ls hM hV hS hL)
theorem wp_ineg {x : Int32} (hdg : decode (mt_c M) pc = .ok (.ineg, 1)) (k : WP G M QE lo (pc + 1) (.int (-x) :: rest) μ cn sn) : WP G M QE lo pc (.int x :: rest) μ cn sn :=
  fun hg p e s m args below meth c H locs ls hM hV hS hL => lv_ineg hM.1 hM.2.1 hdg (k hg p e s m args below meth c H locs ls hM hV hS hL)
theorem wp_ladd {x y : Int64} (hdg : decode (mt_c M) pc = .ok (.ladd, 1)) (k : WP G M QE lo (pc + 1) (.long (x + y) :: rest) μ cn sn) : WP G M QE lo pc (.long y :: .long x :: rest) μ cn sn :=
  fun hg p e s m args below meth c H locs ls hM hV hS hL => lv_ladd hM.1 hM.2.1 hdg (k hg p e s m args below meth c H locs ls hM hV hS hL)
theorem wp_lsub {x y : Int64} (hdg : decode (mt_c M) pc = .ok (.lsub, 1)) (k : WP G M QE lo (pc + 1) (.long (x - y) :: rest) μ cn sn) : WP G M QE lo pc (.long y :: .long x :: rest) μ cn sn :=
  fun hg p e s m args below meth c H locs ls hM hV hS hL => lv_lsub hM.1 hM.2.1 hdg (k hg p e s m args below meth c H locs ls hM hV hS hL)
theorem wp_iushr {x y v : Int32} (hdg : decode (mt_c M) pc = .ok (.iushr, 1)) (hv : (x.toUInt32 >>> (y.toUInt32 &&& Int32.toUInt32 31)).toInt32 = v) (k : WP G M QE lo (pc + 1) (.int v :: rest) μ cn sn) : WP G M QE lo pc (.int y :: .int x :: rest) μ cn sn :=
  fun hg p e s m args below meth c H locs ls hM hV hS hL => lv_iushr hM.1 hM.2.1 hdg hv (k hg p e s m args below meth c H locs ls hM hV hS hL)
theorem wp_i2l {x : Int32} {v : Int64} (hdg : decode (mt_c M) pc = .ok (.i2l, 1)) (hv : x.toInt64 = v) (k : WP G M QE lo (pc + 1) (.long v :: rest) μ cn sn) : WP G M QE lo pc (.int x :: rest) μ cn sn :=
  fun hg p e s m args below meth c H locs ls hM hV hS hL => lv_i2l hM.1 hM.2.1 hdg hv (k hg p e s m args below meth c H locs ls hM hV hS hL)
theorem wp_l2i {x : Int64} {v : Int32} (hdg : decode (mt_c M) pc = .ok (.l2i, 1)) (hv : x.toInt32 = v) (k : WP G M QE lo (pc + 1) (.int v :: rest) μ cn sn) : WP G M QE lo pc (.long x :: rest) μ cn sn :=
  fun hg p e s m args below meth c H locs ls hM hV hS hL => lv_l2i hM.1 hM.2.1 hdg hv (k hg p e s m args below meth c H locs ls hM hV hS hL)
theorem wp_dup {va : Value} (hdg : decode (mt_c M) pc = .ok (.dup, 1)) (hva : va.category = 1) (k : WP G M QE lo (pc + 1) (va :: va :: rest) μ cn sn) : WP G M QE lo pc (va :: rest) μ cn sn :=
  fun hg p e s m args below meth c H locs ls hM hV hS hL => lv_dup hM.1 hM.2.1 hdg hva (k hg p e s m args below meth c H locs ls hM hV hS hL)
theorem wp_pop {va : Value} (hdg : decode (mt_c M) pc = .ok (.pop, 1)) (hva : va.category = 1) (k : WP G M QE lo (pc + 1) (rest) μ cn sn) : WP G M QE lo pc (va :: rest) μ cn sn :=
  fun hg p e s m args below meth c H locs ls hM hV hS hL => lv_pop hM.1 hM.2.1 hdg hva (k hg p e s m args below meth c H locs ls hM hV hS hL)
theorem wp_dup_x1 {va vb : Value} (hdg : decode (mt_c M) pc = .ok (.dup_x1, 1)) (hva : va.category = 1) (hvb : vb.category = 1) (k : WP G M QE lo (pc + 1) (va :: vb :: va :: rest) μ cn sn) : WP G M QE lo pc (va :: vb :: rest) μ cn sn :=
  fun hg p e s m args below meth c H locs ls hM hV hS hL => lv_dup_x1 hM.1 hM.2.1 hdg hva hvb (k hg p e s m args below meth c H locs ls hM hV hS hL)
theorem wp_dup_x2 {va vb vd : Value} (hdg : decode (mt_c M) pc = .ok (.dup_x2, 1)) (hva : va.category = 1) (hvb : vb.category = 1) (hvd : vd.category = 1) (k : WP G M QE lo (pc + 1) (va :: vb :: vd :: va :: rest) μ cn sn) : WP G M QE lo pc (va :: vb :: vd :: rest) μ cn sn :=
  fun hg p e s m args below meth c H locs ls hM hV hS hL => lv_dup_x2 hM.1 hM.2.1 hdg hva hvb hvd (k hg p e s m args below meth c H locs ls hM hV hS hL)
theorem wp_dup2_11 {va vb : Value} (hdg : decode (mt_c M) pc = .ok (.dup2, 1)) (hva : va.category = 1) (hvb : vb.category = 1) (k : WP G M QE lo (pc + 1) (va :: vb :: va :: vb :: rest) μ cn sn) : WP G M QE lo pc (va :: vb :: rest) μ cn sn :=
  fun hg p e s m args below meth c H locs ls hM hV hS hL => lv_dup2_11 hM.1 hM.2.1 hdg hva hvb (k hg p e s m args below meth c H locs ls hM hV hS hL)
theorem wp_pop2_2 {va : Value} (hdg : decode (mt_c M) pc = .ok (.pop2, 1)) (hva : va.category = 2) (k : WP G M QE lo (pc + 1) (rest) μ cn sn) : WP G M QE lo pc (va :: rest) μ cn sn :=
  fun hg p e s m args below meth c H locs ls hM hV hS hL => lv_pop2_2 hM.1 hM.2.1 hdg hva (k hg p e s m args below meth c H locs ls hM hV hS hL)
theorem wp_pop2_11 {va vb : Value} (hdg : decode (mt_c M) pc = .ok (.pop2, 1)) (hva : va.category = 1) (hvb : vb.category = 1) (k : WP G M QE lo (pc + 1) (rest) μ cn sn) : WP G M QE lo pc (va :: vb :: rest) μ cn sn :=
  fun hg p e s m args below meth c H locs ls hM hV hS hL => lv_pop2_11 hM.1 hM.2.1 hdg hva hvb (k hg p e s m args below meth c H locs ls hM hV hS hL)
theorem wp_goto {off : Int} {tgt : Nat} (hdg : decode (mt_c M) pc = .ok (.goto off, 3)) (ht : (pc : Int) + off = (tgt : Int)) (k : WP G M QE lo tgt rest μ cn sn) : WP G M QE lo pc rest μ cn sn :=
  fun hg p e s m args below meth c H locs ls hM hV hS hL => lv_goto hM.1 hM.2.1 hdg ht (k hg p e s m args below meth c H locs ls hM hV hS hL)
theorem wp_null (hdg : decode (mt_c M) pc = .ok (.aconst_null, 1)) (k : WP G M QE lo (pc + 1) (.null :: rest) μ cn sn) : WP G M QE lo pc rest μ cn sn :=
  fun hg p e s m args below meth c H locs ls hM hV hS hL => lv_null hM.1 hM.2.1 hdg (k hg p e s m args below meth c H locs ls hM hV hS hL)
theorem wp_if_eq {x : Int32} {off : Int} {tgt : Nat} (hdg : decode (mt_c M) pc = .ok (.ifCond .eq off, 3)) (ht : (pc : Int) + off = (tgt : Int)) (kt : x = 0 → WP G M QE lo tgt rest μ cn sn) (kf : ¬ x = 0 → WP G M QE lo (pc + 3) rest μ cn sn) : WP G M QE lo pc (.int x :: rest) μ cn sn :=
  fun hg p e s m args below meth c H locs ls hM hV hS hL => lv_if_eq hM.1 hM.2.1 hdg ht (fun h9 => kt h9 hg p e s m args below meth c H locs ls hM hV hS hL) (fun h9 => kf h9 hg p e s m args below meth c H locs ls hM hV hS hL)
theorem wp_if_ne {x : Int32} {off : Int} {tgt : Nat} (hdg : decode (mt_c M) pc = .ok (.ifCond .ne off, 3)) (ht : (pc : Int) + off = (tgt : Int)) (kt : ¬ x = 0 → WP G M QE lo tgt rest μ cn sn) (kf : x = 0 → WP G M QE lo (pc + 3) rest μ cn sn) : WP G M QE lo pc (.int x :: rest) μ cn sn :=
  fun hg p e s m args below meth c H locs ls hM hV hS hL => lv_if_ne hM.1 hM.2.1 hdg ht (fun h9 => kt h9 hg p e s m args below meth c H locs ls hM hV hS hL) (fun h9 => kf h9 hg p e s m args below meth c H locs ls hM hV hS hL)
theorem wp_if_lt {x : Int32} {off : Int} {tgt : Nat} (hdg : decode (mt_c M) pc = .ok (.ifCond .lt off, 3)) (ht : (pc : Int) + off = (tgt : Int)) (kt : x < 0 → WP G M QE lo tgt rest μ cn sn) (kf : ¬ x < 0 → WP G M QE lo (pc + 3) rest μ cn sn) : WP G M QE lo pc (.int x :: rest) μ cn sn :=
  fun hg p e s m args below meth c H locs ls hM hV hS hL => lv_if_lt hM.1 hM.2.1 hdg ht (fun h9 => kt h9 hg p e s m args below meth c H locs ls hM hV hS hL) (fun h9 => kf h9 hg p e s m args below meth c H locs ls hM hV hS hL)
theorem wp_if_ge {x : Int32} {off : Int} {tgt : Nat} (hdg : decode (mt_c M) pc = .ok (.ifCond .ge off, 3)) (ht : (pc : Int) + off = (tgt : Int)) (kt : 0 ≤ x → WP G M QE lo tgt rest μ cn sn) (kf : ¬ 0 ≤ x → WP G M QE lo (pc + 3) rest μ cn sn) : WP G M QE lo pc (.int x :: rest) μ cn sn :=
  fun hg p e s m args below meth c H locs ls hM hV hS hL => lv_if_ge hM.1 hM.2.1 hdg ht (fun h9 => kt h9 hg p e s m args below meth c H locs ls hM hV hS hL) (fun h9 => kf h9 hg p e s m args below meth c H locs ls hM hV hS hL)
theorem wp_if_gt {x : Int32} {off : Int} {tgt : Nat} (hdg : decode (mt_c M) pc = .ok (.ifCond .gt off, 3)) (ht : (pc : Int) + off = (tgt : Int)) (kt : 0 < x → WP G M QE lo tgt rest μ cn sn) (kf : ¬ 0 < x → WP G M QE lo (pc + 3) rest μ cn sn) : WP G M QE lo pc (.int x :: rest) μ cn sn :=
  fun hg p e s m args below meth c H locs ls hM hV hS hL => lv_if_gt hM.1 hM.2.1 hdg ht (fun h9 => kt h9 hg p e s m args below meth c H locs ls hM hV hS hL) (fun h9 => kf h9 hg p e s m args below meth c H locs ls hM hV hS hL)
theorem wp_if_le {x : Int32} {off : Int} {tgt : Nat} (hdg : decode (mt_c M) pc = .ok (.ifCond .le off, 3)) (ht : (pc : Int) + off = (tgt : Int)) (kt : x ≤ 0 → WP G M QE lo tgt rest μ cn sn) (kf : ¬ x ≤ 0 → WP G M QE lo (pc + 3) rest μ cn sn) : WP G M QE lo pc (.int x :: rest) μ cn sn :=
  fun hg p e s m args below meth c H locs ls hM hV hS hL => lv_if_le hM.1 hM.2.1 hdg ht (fun h9 => kt h9 hg p e s m args below meth c H locs ls hM hV hS hL) (fun h9 => kf h9 hg p e s m args below meth c H locs ls hM hV hS hL)
theorem wp_icmp_eq {x y : Int32} {off : Int} {tgt : Nat} (hdg : decode (mt_c M) pc = .ok (.if_icmp .eq off, 3)) (ht : (pc : Int) + off = (tgt : Int)) (kt : x = y → WP G M QE lo tgt rest μ cn sn) (kf : ¬ x = y → WP G M QE lo (pc + 3) rest μ cn sn) : WP G M QE lo pc (.int y :: .int x :: rest) μ cn sn :=
  fun hg p e s m args below meth c H locs ls hM hV hS hL => lv_icmp_eq hM.1 hM.2.1 hdg ht (fun h9 => kt h9 hg p e s m args below meth c H locs ls hM hV hS hL) (fun h9 => kf h9 hg p e s m args below meth c H locs ls hM hV hS hL)
theorem wp_icmp_ne {x y : Int32} {off : Int} {tgt : Nat} (hdg : decode (mt_c M) pc = .ok (.if_icmp .ne off, 3)) (ht : (pc : Int) + off = (tgt : Int)) (kt : ¬ x = y → WP G M QE lo tgt rest μ cn sn) (kf : x = y → WP G M QE lo (pc + 3) rest μ cn sn) : WP G M QE lo pc (.int y :: .int x :: rest) μ cn sn :=
  fun hg p e s m args below meth c H locs ls hM hV hS hL => lv_icmp_ne hM.1 hM.2.1 hdg ht (fun h9 => kt h9 hg p e s m args below meth c H locs ls hM hV hS hL) (fun h9 => kf h9 hg p e s m args below meth c H locs ls hM hV hS hL)
theorem wp_icmp_lt {x y : Int32} {off : Int} {tgt : Nat} (hdg : decode (mt_c M) pc = .ok (.if_icmp .lt off, 3)) (ht : (pc : Int) + off = (tgt : Int)) (kt : x < y → WP G M QE lo tgt rest μ cn sn) (kf : ¬ x < y → WP G M QE lo (pc + 3) rest μ cn sn) : WP G M QE lo pc (.int y :: .int x :: rest) μ cn sn :=
  fun hg p e s m args below meth c H locs ls hM hV hS hL => lv_icmp_lt hM.1 hM.2.1 hdg ht (fun h9 => kt h9 hg p e s m args below meth c H locs ls hM hV hS hL) (fun h9 => kf h9 hg p e s m args below meth c H locs ls hM hV hS hL)
theorem wp_icmp_ge {x y : Int32} {off : Int} {tgt : Nat} (hdg : decode (mt_c M) pc = .ok (.if_icmp .ge off, 3)) (ht : (pc : Int) + off = (tgt : Int)) (kt : y ≤ x → WP G M QE lo tgt rest μ cn sn) (kf : ¬ y ≤ x → WP G M QE lo (pc + 3) rest μ cn sn) : WP G M QE lo pc (.int y :: .int x :: rest) μ cn sn :=
  fun hg p e s m args below meth c H locs ls hM hV hS hL => lv_icmp_ge hM.1 hM.2.1 hdg ht (fun h9 => kt h9 hg p e s m args below meth c H locs ls hM hV hS hL) (fun h9 => kf h9 hg p e s m args below meth c H locs ls hM hV hS hL)
theorem wp_icmp_gt {x y : Int32} {off : Int} {tgt : Nat} (hdg : decode (mt_c M) pc = .ok (.if_icmp .gt off, 3)) (ht : (pc : Int) + off = (tgt : Int)) (kt : y < x → WP G M QE lo tgt rest μ cn sn) (kf : ¬ y < x → WP G M QE lo (pc + 3) rest μ cn sn) : WP G M QE lo pc (.int y :: .int x :: rest) μ cn sn :=
  fun hg p e s m args below meth c H locs ls hM hV hS hL => lv_icmp_gt hM.1 hM.2.1 hdg ht (fun h9 => kt h9 hg p e s m args below meth c H locs ls hM hV hS hL) (fun h9 => kf h9 hg p e s m args below meth c H locs ls hM hV hS hL)
theorem wp_icmp_le {x y : Int32} {off : Int} {tgt : Nat} (hdg : decode (mt_c M) pc = .ok (.if_icmp .le off, 3)) (ht : (pc : Int) + off = (tgt : Int)) (kt : x ≤ y → WP G M QE lo tgt rest μ cn sn) (kf : ¬ x ≤ y → WP G M QE lo (pc + 3) rest μ cn sn) : WP G M QE lo pc (.int y :: .int x :: rest) μ cn sn :=
  fun hg p e s m args below meth c H locs ls hM hV hS hL => lv_icmp_le hM.1 hM.2.1 hdg ht (fun h9 => kt h9 hg p e s m args below meth c H locs ls hM hV hS hL) (fun h9 => kf h9 hg p e s m args below meth c H locs ls hM hV hS hL)
theorem wp_get {idx ci k a : Nat} {fs : List Value} {v : Value} (hdg : decode (mt_c M) pc = .ok (.getfield idx, 3)) (hf : fl_P (mt_y M).cls idx ci k) (he : μ a = some (.inr (ci, fs))) (hv : fs[k]? = some v) (kk : WP G M QE lo (pc + 3) (v :: rest) μ cn sn) : WP G M QE lo pc (.ref a :: rest) μ cn sn := by
  obtain ⟨C, T, N, ty, h1, h2, h3⟩ := hf
  intro hg p e s m args below meth c H locs ls hM hV hS hL
  exact mv_get hM.1 hM.2.1 (hM.2.2.2.2.2.2.2.2.ts args) h1 hM.2.2.2.2.1 hM.2.2.2.2.2.2.2.2.1 hV he k h2 h3 hv hdg (kk hg p e s m args below meth c H locs ls hM hV hS hL)
theorem wp_put {idx ci k a : Nat} {t : FieldType} {fs : List Value} {v : Value} (hdg : decode (mt_c M) pc = .ok (.putfield idx, 3)) (hf : fp_P (mt_y M).cls idx ci k t) (he : μ a = some (.inr (ci, fs))) (hB : G.2.2.2 ≤ a) (hn : narrow t v = v) (hfit : fits t v = true) (hl : k < fs.length) (kk : WP G M QE lo (pc + 3) rest (mu_up μ a (.inr (ci, fs.set k v))) cn sn) : WP G M QE lo pc (v :: .ref a :: rest) μ cn sn := by
  obtain ⟨C, T, N, ty, h1, h2, h3, h4, h5⟩ := hf
  subst h5
  intro hg p e s m args below meth c H locs ls hM hV hS hL
  exact mv_put hM.1 hM.2.1 (hM.2.2.2.2.2.2.2.2.ts args) h1 hM.2.2.2.2.1 hM.2.2.2.2.2.2.2.2.1 hV hS he hB k h2 h3 h4 hn hfit hl hdg (fun H locs hV hS => kk hg p e s m args below meth c H locs ls hM hV hS hL)
theorem wp_putF {idx ci k a : Nat} {t : FieldType} {fs : List Value} {v : Value} (hdg : decode (mt_c M) pc = .ok (.putfield idx, 3)) (hf : ff_P (mt_y M).cls idx ci k t) (hin : (mt_y M).name = "<init>") (he : μ a = some (.inr (ci, fs))) (hB : G.2.2.2 ≤ a) (hn : narrow t v = v) (hfit : fits t v = true) (hl : k < fs.length) (kk : WP G M QE lo (pc + 3) rest (mu_up μ a (.inr (ci, fs.set k v))) cn sn) : WP G M QE lo pc (v :: .ref a :: rest) μ cn sn := by
  obtain ⟨C, T, N, ty, h1, h2, h3, h4, h6, h5⟩ := hf
  subst h5
  intro hg p e s m args below meth c H locs ls hM hV hS hL
  exact mv_putF hM.1 hM.2.1 (hM.2.2.2.2.2.2.2.2.ts args) h1 hM.2.2.2.2.1 hM.2.2.2.2.2.2.2.2.1 hV hS he hB k h2 h3 h4 (hM.2.2.2.2.2.2.2.1 hin) h6 hn hfit hl hdg (fun H locs hV hS => kk hg p e s m args below meth c H locs ls hM hV hS hL)
theorem wp_iald {a n j : Nat} {f : Nat → Int32} {i : Int32} (hdg : decode (mt_c M) pc = .ok (.iaload, 1)) (he : μ a = some (.inl (G.2.2.1 0, n, .inl f))) (hi : i = nI j) (hj : j < n) (hn : n < 2 ^ 31) (kk : WP G M QE lo (pc + 1) (.int (f j) :: rest) μ cn sn) : WP G M QE lo pc (.int i :: .ref a :: rest) μ cn sn := by
  subst hi
  intro hg p e s m args below meth c H locs ls hM hV hS hL
  refine mv_iald hM.1 hM.2.1 hM.2.2.2.2.2.2.2.2.1 hV 0 he rfl (vp_in_nI hj hn) hdg ?_
  rw [nI_clamp (Nat.lt_trans hj hn)]
  exact kk hg p e s m args below meth c H locs ls hM hV hS hL
theorem wp_zald {a n j : Nat} {f : Nat → Int32} {i : Int32} (hdg : decode (mt_c M) pc = .ok (.baload, 1)) (he : μ a = some (.inl (G.2.2.1 1, n, .inl f))) (hi : i = nI j) (hj : j < n) (hn : n < 2 ^ 31) (kk : WP G M QE lo (pc + 1) (.int (f j) :: rest) μ cn sn) : WP G M QE lo pc (.int i :: .ref a :: rest) μ cn sn := by
  subst hi
  intro hg p e s m args below meth c H locs ls hM hV hS hL
  refine mv_zald hM.1 hM.2.1 hM.2.2.2.2.2.2.2.2.1 hV 1 he rfl (vp_in_nI hj hn) hdg ?_
  rw [nI_clamp (Nat.lt_trans hj hn)]
  exact kk hg p e s m args below meth c H locs ls hM hV hS hL
theorem wp_lald {a n j : Nat} {f : Nat → Int64} {i : Int32} (hdg : decode (mt_c M) pc = .ok (.laload, 1)) (he : μ a = some (.inl (G.2.2.1 2, n, .inr (.inl f)))) (hi : i = nI j) (hj : j < n) (hn : n < 2 ^ 31) (kk : WP G M QE lo (pc + 1) (.long (f j) :: rest) μ cn sn) : WP G M QE lo pc (.int i :: .ref a :: rest) μ cn sn := by
  subst hi
  intro hg p e s m args below meth c H locs ls hM hV hS hL
  refine va_lald hM.1 hM.2.1 hM.2.2.2.2.2.2.2.2.1 (hV.one he) 0 2 rfl rfl (vp_in_nI hj hn) hdg ?_
  rw [nI_clamp (Nat.lt_trans hj hn)]
  exact kk hg p e s m args below meth c H locs ls hM hV hS hL
theorem wp_aald {a n j t x : Nat} {C : String} {f : Nat → Option Nat} {i : Int32} (hdg : decode (mt_c M) pc = .ok (.aaload, 1)) (ht : (TYS G.2.2.1)[t]? = some (G.2.2.1 t, .object C)) (he : μ a = some (.inl (G.2.2.1 t, n, .inr (.inr (.inr (.inr f)))))) (hi : i = nI j) (hj : j < n) (hn : n < 2 ^ 31) (hx : f j = some x) (kk : WP G M QE lo (pc + 1) (.ref x :: rest) μ cn sn) : WP G M QE lo pc (.int i :: .ref a :: rest) μ cn sn := by
  subst hi
  intro hg p e s m args below meth c H locs ls hM hV hS hL
  exact mv_aald hM.1 hM.2.1 hM.2.2.2.2.2.2.2.2.1 hV t he ht (vp_in_nI hj hn) (by rw [nI_clamp (Nat.lt_trans hj hn)]; exact hx) hdg (kk hg p e s m args below meth c H locs ls hM hV hS hL)
theorem wp_alen {a n t : Nat} {ty : FieldType} {x : (Nat → Int32) ⊕ (Nat → Int64) ⊕ (Nat → UInt32) ⊕ (Nat → UInt64) ⊕ (Nat → Option Nat)} (hdg : decode (mt_c M) pc = .ok (.arraylength, 1)) (ht : (TYS G.2.2.1)[t]? = some (G.2.2.1 t, ty)) (he : μ a = some (.inl (G.2.2.1 t, n, x))) (kk : WP G M QE lo (pc + 1) (.int (nI n) :: rest) μ cn sn) : WP G M QE lo pc (.ref a :: rest) μ cn sn := by
  intro hg p e s m args below meth c H locs ls hM hV hS hL
  exact mv_alen hM.1 hM.2.1 hM.2.2.2.2.2.2.2.2.1 hV t he ht rfl hdg (kk hg p e s m args below meth c H locs ls hM hV hS hL)
theorem wp_iast {a n j : Nat} {f : Nat → Int32} {i x : Int32} (hdg : decode (mt_c M) pc = .ok (.iastore, 1)) (he : μ a = some (.inl (G.2.2.1 0, n, .inl f))) (hB : G.2.2.2 ≤ a) (hi : i = nI j) (hj : j < n) (hn : n < 2 ^ 31) (kk : WP G M QE lo (pc + 1) rest (mu_up μ a (.inl (G.2.2.1 0, n, .inl (upd f j x)))) cn sn) : WP G M QE lo pc (.int x :: .int i :: .ref a :: rest) μ cn sn := by
  subst hi
  intro hg p e s m args below meth c H locs ls hM hV hS hL
  refine mv_iast hM.1 hM.2.1 hM.2.2.2.2.2.2.2.2.1 hV hS 0 he hB rfl (vp_in_nI hj hn) hdg (fun H locs hV hS => ?_)
  rw [nI_clamp (Nat.lt_trans hj hn)] at hV
  exact kk hg p e s m args below meth c H locs ls hM hV hS hL
theorem wp_zast {a n j : Nat} {f : Nat → Int32} {i x : Int32} (hdg : decode (mt_c M) pc = .ok (.bastore, 1)) (he : μ a = some (.inl (G.2.2.1 1, n, .inl f))) (hB : G.2.2.2 ≤ a) (hi : i = nI j) (hj : j < n) (hn : n < 2 ^ 31) (hx : vp_nar .boolean x = x) (kk : WP G M QE lo (pc + 1) rest (mu_up μ a (.inl (G.2.2.1 1, n, .inl (upd f j x)))) cn sn) : WP G M QE lo pc (.int x :: .int i :: .ref a :: rest) μ cn sn := by
  subst hi
  intro hg p e s m args below meth c H locs ls hM hV hS hL
  refine mv_zast hM.1 hM.2.1 hM.2.2.2.2.2.2.2.2.1 hV hS 1 he hB rfl (vp_in_nI hj hn) hx hdg (fun H locs hV hS => ?_)
  rw [nI_clamp (Nat.lt_trans hj hn)] at hV
  exact kk hg p e s m args below meth c H locs ls hM hV hS hL
theorem wp_aast {a n j t v ci : Nat} {r : vw_C} {f : Nat → Option Nat} {vs : List Value} {i : Int32} (hdg : decode (mt_c M) pc = .ok (.aastore, 1)) (ht : (TYS G.2.2.1)[t]? = some (G.2.2.1 t, .object r.1)) (hc : classes[ci]? = some r) (he : μ a = some (.inl (G.2.2.1 t, n, .inr (.inr (.inr (.inr f)))))) (hB : G.2.2.2 ≤ a) (hv : μ v = some (.inr (ci, vs))) (hi : i = nI j) (hj : j < n) (hn : n < 2 ^ 31) (kk : WP G M QE lo (pc + 1) rest (mu_up μ a (.inl (G.2.2.1 t, n, .inr (.inr (.inr (.inr (va_up f j (some v)))))))) cn sn) : WP G M QE lo pc (.ref v :: .int i :: .ref a :: rest) μ cn sn := by
  subst hi
  intro hg p e s m args below meth c H locs ls hM hV hS hL
  refine mv_aast hM.1 hM.2.1 hM.2.2.2.2.2.2.2.2.1 hV hS t ci he hB ht hv hc (vp_in_nI hj hn) hdg (fun H locs hV hS => ?_)
  rw [nI_clamp (Nat.lt_trans hj hn)] at hV
  exact kk hg p e s m args below meth c H locs ls hM hV hS hL
theorem wp_newI {N : Nat} (hdg : decode (mt_c M) pc = .ok (.newarray .int, 2)) (hw : Cond.arrayClass .int ∈ WALL) (hN : N < 10000) (hc : cn + 1 ≤ (mt_R M).cells) (hs : sn + N ≤ (mt_R M).slots) (kk : ∀ q : Nat, G.2.2.2 ≤ q → μ q = none → WP G M QE lo (pc + 2) (.ref q :: rest) (mu_up μ q (.inl (G.2.2.1 0, N, .inl (fun _ => 0)))) (cn + 1) (sn + N)) : WP G M QE lo pc (.int (nI N) :: rest) μ cn sn := by
  intro hg p e s m args below meth c H locs ls hM hV hS hL
  have hAm := hM.2.2.2.2.2.2.2.2
  exact mv_newa (atype := .int) (ty := .int) (a0 := (N, .inl (fun _ => 0))) hM.1 hM.2.1 hw (hAm.ts args) rfl hAm.1 hV hS 0 rfl (fun _ h => h) (fun _ => rfl) (nI_pos (by omega)) (nI_clamp (by omega)) (by show N * 4 ≤ _; omega) hc hs hdg (fun q H h1 h2 hV hS => kk q (Nat.le_trans hAm.2.2.2.2.2.2.2.2.2 h1) h2 hg p e s m args below meth c H locs ls hM hV hS hL)
theorem wp_newZ {N : Nat} (hdg : decode (mt_c M) pc = .ok (.newarray .boolean, 2)) (hw : Cond.arrayClass .boolean ∈ WALL) (hN : N < 10000) (hc : cn + 1 ≤ (mt_R M).cells) (hs : sn + N ≤ (mt_R M).slots) (kk : ∀ q : Nat, G.2.2.2 ≤ q → μ q = none → WP G M QE lo (pc + 2) (.ref q :: rest) (mu_up μ q (.inl (G.2.2.1 1, N, .inl (fun _ => 0)))) (cn + 1) (sn + N)) : WP G M QE lo pc (.int (nI N) :: rest) μ cn sn := by
  intro hg p e s m args below meth c H locs ls hM hV hS hL
  have hAm := hM.2.2.2.2.2.2.2.2
  exact mv_newa (atype := .boolean) (ty := .boolean) (a0 := (N, .inl (fun _ => 0))) hM.1 hM.2.1 hw (hAm.ts args) rfl hAm.1 hV hS 1 rfl (fun _ h => h) (fun _ => rfl) (nI_pos (by omega)) (nI_clamp (by omega)) (by show N * 1 ≤ _; omega) hc hs hdg (fun q H h1 h2 hV hS => kk q (Nat.le_trans hAm.2.2.2.2.2.2.2.2.2 h1) h2 hg p e s m args below meth c H locs ls hM hV hS hL)
theorem wp_newq {N t idx : Nat} {C : String} (hdg : decode (mt_c M) pc = .ok (.anewarray idx, 3)) (hw : Cond.classLink (mt_y M).cls idx C ∈ WALL) (ho : C ∈ AOS) (ht : (TYS G.2.2.1)[t]? = some (G.2.2.1 t, .object C)) (hN : N < 10000) (hc : cn + 1 ≤ (mt_R M).cells) (hs : sn + N ≤ (mt_R M).slots) (kk : ∀ q : Nat, G.2.2.2 ≤ q → μ q = none → WP G M QE lo (pc + 3) (.ref q :: rest) (mu_up μ q (.inl (G.2.2.1 t, N, .inr (.inr (.inr (.inr (fun _ => none))))))) (cn + 1) (sn + N)) : WP G M QE lo pc (.int (nI N) :: rest) μ cn sn := by
  intro hg p e s m args below meth c H locs ls hM hV hS hL
  have hAm := hM.2.2.2.2.2.2.2.2
  exact mv_newq hM.1 hM.2.1 (hAm.ts args) hM.2.2.2.2.1 hw (hAm.2.2.2.2.2.2.1 C ho) hAm.1 hV hS t ht (nI_pos (by omega)) (nI_clamp (by omega)) (by omega) hc hs hdg (fun q H h1 h2 hV hS => kk q (Nat.le_trans hAm.2.2.2.2.2.2.2.2.2 h1) h2 hg p e s m args below meth c H locs ls hM hV hS hL)
theorem wp_new {idx ci N : Nat} {fs : List Value} (hdg : decode (mt_c M) pc = .ok (.new idx, 3)) (hw : nw_P (mt_y M).cls idx ci N fs) (hc : cn + 1 ≤ (mt_R M).cells) (hs : sn + N ≤ (mt_R M).slots) (kk : ∀ q : Nat, G.2.2.2 ≤ q → μ q = none → WP G M QE lo (pc + 3) (.ref q :: rest) (mu_up μ q (.inr (ci, fs))) (cn + 1) (sn + N)) : WP G M QE lo pc rest μ cn sn := by
  obtain ⟨C, T, ty, h1, h2, h3, h4, h5⟩ := hw
  intro hg p e s m args below meth c H locs ls hM hV hS hL
  have hAm := hM.2.2.2.2.2.2.2.2
  exact mv_new hM.1 hM.2.1 (hAm.ts args) h1 hM.2.2.2.2.1 h2 h3 h4 hAm.1 hV hS h5 hc hs hdg (fun q H h1 h2 hV hS => kk q (Nat.le_trans hAm.2.2.2.2.2.2.2.2.2 h1) h2 hg p e s m args below meth c H locs ls hM hV hS hL)
theorem wp_objInit {idx a : Nat} (hdg : decode (mt_c M) pc = .ok (.invokespecial idx, 3)) (h1 : Cond.methodLink (mt_y M).cls idx objectInit ∈ WALL) (h2 : Cond.instanceMethod objectInit ∈ WALL) (h3 : Cond.code objectInit ⟨#[0xb1]⟩ 1 none ∈ WALL) (hf : 1 ≤ (mt_R M).frames) (hl : (rest.map fun v => v.category).sum + 12 ≤ (mt_R M).locals) (kk : WP G M QE lo (pc + 3) rest μ cn sn) : WP G M QE lo pc (.ref a :: rest) μ cn sn := by
  intro hg p e s m args below meth c H locs ls hM hV hS hL
  have hts := hM.2.2.2.2.2.2.2.2.ts args
  exact W.objInit hM.1 hM.2.1 hM.2.2.2.2.1 (hts _ h1) (hts _ h2) (hts _ h3) rfl (hL.1.trans hM.2.2.2.1.symm) rfl hdg hf (by show 2 * 0 + _ + 12 ≤ _; omega) (kk hg p e s m args below meth c H locs ls hM hV hS hL)
theorem mc_call {p : Program} {l : Launch} {e : Env} {R : Room} {s : State} {m : MethodId} {args : Array Value} {below : List Frame} {meth : Method} {c : Code} {H : Heap} {locs : List Loc} {cells slots : Nat} {Q : State → Prop} {D : va_G} {cl : List vw_C} {A : Nat → Prop} {ls : Array Slot} {st0 : List Value} {post : Option Value → mu_M → Prop} {px : String → mu_M → Prop} {mc ms : Nat} {a : Array Value}
    (hr : vx_Run p l e R s m args below meth c H locs cells slots mc ms (F0 m pc ls st0) rest (mc_Q D cl A post a) (mc_X D cl A px) A) (hS : va_S A s.heap H locs)
    (kx : ∀ (E : String) (ce : Cell) (q9 : Addr) (μ' : mu_M) (H1 : Heap) (locs1 : List Loc), px E μ' → mu_V D cl μ' H1 → va_S A s.heap H1 locs1 → H1[q9]? = some ce → ce.vm = .none → s.vm.findClass E = some ce.cls → vx_W p l e R s m args below meth c H1 locs1 (cells + mc) (slots + ms) Q (F0 m pc ls rest) q9)
    (kk : ∀ (v : Option Value) (μ' : mu_M) (H1 : Heap) (locs1 : List Loc), post v μ' → mu_V D cl μ' H1 → va_S A s.heap H1 locs1 → W p l e R s m args below meth c H1 locs1 (cells + mc) (slots + ms) Q (F0 m (pc + 3) ls (v.toList ++ rest))) :
    W p l e R s m args below meth c H locs cells slots Q (F0 m pc ls st0) := by
  intro T hT X
  rcases hr T hT X with ⟨v, st₀, t, T', L, h0, X', hL, e1, e2, ⟨⟨v', μ', hv, hp, hb⟩, hF⟩, st⟩ | ⟨q, st₀, t, T', L, E, ce, h0, X', hL, e1, e2, ⟨μ', hp, hb, hF⟩, hce, hcv, hcl, st⟩
  · cases hv
    obtain ⟨k1, k2, k3⟩ := vx_keep h0 e1 hS (fun _ _ h => h) (fun _ h => h) hL hF
    obtain ⟨t2, a1, b1⟩ := kk v μ' T'.heap (locs ++ L) hp (by rw [e1]; exact hb) k3 T' rfl X'
    exact ⟨t2, st t2 a1, b1⟩
  · obtain ⟨k1, k2, k3⟩ := vx_keep h0 e1 hS (fun _ _ h => h) (fun _ h => h) hL hF
    obtain ⟨t2, a1, b1⟩ := kx E ce q μ' T'.heap (locs ++ L) hp (by rw [e1]; exact hb) k3 (by rw [e1]; exact hce) hcv hcl T' rfl X'
    exact ⟨t2, st.trans a1, b1⟩
/-- a call, before its throw is looked at: what goes on behind it, and what a throw comes to (vx_W) -/
def WX (G : mt_G) (M : mt_M) (QE : mt_Q) (lo : List (Nat × Value)) (pc : Nat) (st : List Value) (E : String) (μ : mu_M) (cn sn : Nat) : Prop :=
  G.1.stackTraces = false → ∀ (p : Program) (e : Env) (s : State) (m : MethodId) (args : Array Value) (below : List Frame) (meth : Method) (c : Code) (H : Heap) (locs : List Loc) (ls : Array Slot) (ce : Cell) (q9 : Addr), mt_S G M p s m args meth c → mu_V G.2.1 classes μ H → va_S (AA G.2.2.2) s.heap H locs → lv_has ls (mt_l M) lo → H[q9]? = some ce → ce.vm = .none → s.vm.findClass E = some ce.cls →
    vx_W p G.1 e (mt_R M) s m args below meth c H locs cn sn (QE below args s) (F0 m pc ls st) q9
theorem WX.out {st : List Value} {E : String} {post : Option Value → mu_M → Prop} {px : String → mu_M → Prop} {hh : List (Nat × Nat × Nat × Nat)} (hh0 : mt_h M = some hh) (hcov : ∀ x ∈ tableOf hh, covers x pc = false) (hc : cn ≤ (mt_R M).cells) (hs : sn ≤ (mt_R M).slots) (hpx : px E μ) : WX G M (EC G M post px) lo pc st E μ cn sn := by
  intro hg p e s m args below meth c H locs ls ce q9 hM hV hS hL h1 h2 h3
  exact vx_out (E := E) (fun x hx => hcov x (by rw [← hM.2.2.2.2.2.2.1 hh hh0]; exact hx)) hM.2.2.2.2.2.1 h1 h2 h3 (fun t ht _ => ⟨μ, hpx, by rw [ht]; exact hV, hS.F ht⟩) hS.2.2 hc hs
theorem mc_cb {D : va_G} {cT : Nat → ClassId} {B0 : Nat} {R : Room} {s : State} {args : Array Value} {own : String} {index n : Nat} {M' : mt_M} (hAm : Amb D cT B0 s) (hw : cb_P own index M' n) (hc : cd_P M') (hR : (mt_R M').frames + 1 ≤ R.frames ∧ 8 + (mt_l M' + 11) + (mt_R M').locals ≤ R.locals) :
    CallB R s args own index (mt_y M') (mt_c M') (mt_l M') (mt_r M') [Cond.code (mt_y M') (mt_c M') (mt_l M') (mt_r M')] (mt_R M') (mt_R M').cells (mt_R M').slots n := by
  obtain ⟨hl, hi, hy, hd⟩ := hw
  refine ⟨rfl, rfl, hR.1, hR.2, fun w hw a' U hW => ?_, List.mem_cons_self, hAm.ts _ _ hc, hAm.ts _ _ hi, hy, fun sig h => ?_, hAm.ts _ _ hl⟩
  · rw [List.mem_singleton.mp hw]
    exact word_at hW (good_of_word (List.all_eq_true.mp WALL_good _ hc)) (hAm.2.1 _ hc)
  · rw [h] at hd
    exact (Option.some.inj hd).symm
theorem mc_pre {D : va_G} {cT : Nat → ClassId} {B0 : Nat} {s : State} {H : Heap} {locs : List Loc} {av : List Value} (hAm : Amb D cT B0 s) (hV : mu_V D classes μ H) (hS : va_S (AA B0) s.heap H locs) : ∀ U : State, U.heap = H → s.WarmedH U.vm → mc_P D cT B0 av μ av.toArray U :=
  fun U hU hW => ⟨rfl, hAm.at hS hU hW, by rw [hU]; exact hV⟩
section CallRows
variable {M' : mt_M} {st As : List Value} {b ci n idx : Nat} {fs : List Value} {post : Option Value → mu_M → Prop} {px : String → mu_M → Prop}
theorem wx_callV (hdg : decode (mt_c M) pc = .ok (.invokevirtual idx, 3)) (hw : cv_P (mt_y M).cls idx ci M' n) (hcd : cd_P M') (hR : rf_P M' M) (hM' : CT G M' (.ref b :: As) μ post px) (hb : μ b = some (.inr (ci, fs))) (hn : As.length = n) (hst : st = As.reverse ++ .ref b :: rest) (hroom : (rest.map fun v => v.category).sum ≤ 8) (hc : cn + (mt_R M').cells ≤ (mt_R M).cells) (hs : sn + (mt_R M').slots ≤ (mt_R M).slots)
    (kx : ∀ (E : String) (μ' : mu_M), px E μ' → WX G M QE lo pc rest E μ' (cn + (mt_R M').cells) (sn + (mt_R M').slots))
    (kk : ∀ (v : Option Value) (μ' : mu_M), post v μ' → WP G M QE lo (pc + 3) (v.toList ++ rest) μ' (cn + (mt_R M').cells) (sn + (mt_R M').slots)) : WP G M QE lo pc st μ cn sn := by
  obtain ⟨w1, w2, C, T, N, w3, w4⟩ := hw
  intro hg p e s m args below meth c H locs ls hM hV hS hL
  have hAm := hM.2.2.2.2.2.2.2.2
  exact mc_call (vx_runV (As := As) (b := b) (rest := rest) ⟨hM.1, hM.2.1, hM.2.2.2.1, hM.2.2.2.2.1, hAm.ts args⟩ (hM' hg) ⟨mc_cb hAm w1 hcd hR, hAm.ts _ _ w2, hAm.ts _ _ w4⟩ ⟨mc_blind _ _ _ _ μ, va_recv hAm.1 (hV.one hb) w3 (q0 := 0) rfl, mc_pre hAm hV hS⟩ rfl hn hL.1 hst (lv_room hroom) hdg ⟨hc, hs⟩) hS (fun E ce q9 μ' H1 locs1 h1 h2 h3 h4 h5 h6 => kx E μ' h1 hg p e s m args below meth c H1 locs1 ls ce q9 hM h2 h3 hL h4 h5 h6) (fun v μ' H locs h1 hV hS => kk v μ' h1 hg p e s m args below meth c H locs ls hM hV hS hL)
theorem wx_callS (hdg : decode (mt_c M) pc = .ok (.invokestatic idx, 3)) (hw : cs_P (mt_y M).cls idx M' n) (hcd : cd_P M') (hR : rf_P M' M) (hM' : CT G M' As μ post px) (hn : As.length = n) (hst : st = As.reverse ++ rest) (hroom : (rest.map fun v => v.category).sum ≤ 8) (hc : cn + (mt_R M').cells ≤ (mt_R M).cells) (hs : sn + (mt_R M').slots ≤ (mt_R M).slots)
    (kx : ∀ (E : String) (μ' : mu_M), px E μ' → WX G M QE lo pc rest E μ' (cn + (mt_R M').cells) (sn + (mt_R M').slots))
    (kk : ∀ (v : Option Value) (μ' : mu_M), post v μ' → WP G M QE lo (pc + 3) (v.toList ++ rest) μ' (cn + (mt_R M').cells) (sn + (mt_R M').slots)) : WP G M QE lo pc st μ cn sn := by
  obtain ⟨w1, w2⟩ := hw
  intro hg p e s m args below meth c H locs ls hM hV hS hL
  have hAm := hM.2.2.2.2.2.2.2.2
  exact mc_call (vx_runS (As := As) (rest := rest) ⟨hM.1, hM.2.1, hM.2.2.2.1, hM.2.2.2.2.1, hAm.ts args⟩ (hM' hg) ⟨mc_cb hAm w1 hcd hR, hAm.ts _ _ w2⟩ ⟨mc_blind _ _ _ _ μ, mc_pre hAm hV hS⟩ rfl hn hL.1 hst (lv_room hroom) hdg ⟨hc, hs⟩) hS (fun E ce q9 μ' H1 locs1 h1 h2 h3 h4 h5 h6 => kx E μ' h1 hg p e s m args below meth c H1 locs1 ls ce q9 hM h2 h3 hL h4 h5 h6) (fun v μ' H locs h1 hV hS => kk v μ' h1 hg p e s m args below meth c H locs ls hM hV hS hL)
theorem mc_callM {p : Program} {l : Launch} {e : Env} {R : Room} {s : State} {m : MethodId} {args : Array Value} {below : List Frame} {meth : Method} {c : Code} {H : Heap} {locs : List Loc} {cells slots : Nat} {Q : State → Prop} {D : va_G} {cl : List vw_C} {A : Nat → Prop} {ls : Array Slot} {st0 : List Value} {mc ms : Nat} {a : Array Value}
    (hr : va_Run p l e R s m args below meth c H locs cells slots mc ms (F0 m pc ls st0) rest (mc_Q D cl A post a) A) (hS : va_S A s.heap H locs)
    (kk : ∀ (v : Option Value) (μ' : mu_M) (H1 : Heap) (locs1 : List Loc), post v μ' → mu_V D cl μ' H1 → va_S A s.heap H1 locs1 → W p l e R s m args below meth c H1 locs1 (cells + mc) (slots + ms) Q (F0 m (pc + 3) ls (v.toList ++ rest))) :
    W p l e R s m args below meth c H locs cells slots Q (F0 m pc ls st0) := by
  intro T hT X
  obtain ⟨v, st₀, t, T', L, h0, X', hL, e1, e2, ⟨⟨v', μ', hv, hp, hb⟩, hF⟩, st⟩ := hr T hT X
  cases hv
  obtain ⟨k1, k2, k3⟩ := vx_keep h0 e1 hS (fun _ _ h => h) (fun _ h => h) hL hF
  obtain ⟨t2, a1, b1⟩ := kk v μ' T'.heap (locs ++ L) hp (by rw [e1]; exact hb) k3 T' rfl X'
  exact ⟨t2, st t2 a1, b1⟩
theorem wi_call (hdg : decode (mt_c M) pc = .ok (.invokespecial idx, 3)) (hw : ci_P (mt_y M).cls idx M' n) (hcd : cd_P M') (hR : rf_P M' M) (hM' : CTI G M' (.ref b :: As) μ post) (hn : As.length = n) (hst : st = As.reverse ++ .ref b :: rest) (hroom : (rest.map fun v => v.category).sum ≤ 8) (hc : cn + (mt_R M').cells ≤ (mt_R M).cells) (hs : sn + (mt_R M').slots ≤ (mt_R M).slots)
    (kk : ∀ (v : Option Value) (μ' : mu_M), post v μ' → WP G M QE lo (pc + 3) (v.toList ++ rest) μ' (cn + (mt_R M').cells) (sn + (mt_R M').slots)) : WP G M QE lo pc st μ cn sn := by
  obtain ⟨w1, w2, w3, w4⟩ := hw
  intro hg p e s m args below meth c H locs ls hM hV hS hL
  have hAm := hM.2.2.2.2.2.2.2.2
  have h9 := hM' hg
  have hcb := mc_cb (R := mt_R M) (args := args) hAm w1 hcd hR
  rw [w4] at h9 hcb
  exact mc_callM (va_runI (As := As) (b := b) (rest := rest) ⟨hM.1, hM.2.1, hM.2.2.2.1, hM.2.2.2.2.1, hAm.ts args⟩ h9 ⟨hcb, w3, hAm.ts _ _ w2⟩ ⟨mc_blind _ _ _ _ μ, mc_pre hAm hV hS⟩ rfl hn hL.1 hst (lv_room hroom) hdg ⟨hc, hs⟩) hS (fun v μ' H locs h1 hV hS => kk v μ' h1 hg p e s m args below meth c H locs ls hM hV hS hL)
theorem wi_callN {host : String} (hdg : decode (mt_c M) pc = .ok (.invokespecial idx, 3)) (hw : cn_P (mt_y M).cls idx M' host n) (hcd : cd_P M') (hR : rf_P M' M) (hM' : CTI G M' (.ref b :: As) μ post) (hn : As.length = n) (hst : st = As.reverse ++ .ref b :: rest) (hroom : (rest.map fun v => v.category).sum ≤ 8) (hc : cn + (mt_R M').cells ≤ (mt_R M).cells) (hs : sn + (mt_R M').slots ≤ (mt_R M).slots)
    (kk : ∀ (v : Option Value) (μ' : mu_M), post v μ' → WP G M QE lo (pc + 3) (v.toList ++ rest) μ' (cn + (mt_R M').cells) (sn + (mt_R M').slots)) : WP G M QE lo pc st μ cn sn := by
  obtain ⟨w1, w2, w3, w4, w5, w6, w7⟩ := hw
  intro hg p e s m args below meth c H locs ls hM hV hS hL
  have hAm := hM.2.2.2.2.2.2.2.2
  have h9 := hM' hg
  have hcd9 : Cond.code (mt_y M') (mt_c M') (mt_l M') none ∈ WALL := by have h8 := hcd; unfold cd_P at h8; rw [w7] at h8; exact h8
  rw [w7] at h9
  refine mc_callM (va_runIN (host := host) (As := As) (b := b) (rest := rest) ⟨hM.1, hM.2.1, hM.2.2.2.1, hM.2.2.2.2.1, hAm.ts args⟩ h9 ⟨⟨⟨rfl, rfl, hR.1, hR.2, fun w hw a' U hW => ?_, List.mem_cons_self⟩, hAm.ts _ _ hcd9, hAm.ts _ _ w2, w3, fun sig h => ?_, va_Nw.use rfl (hAm.2.2.2.2.2.1 _ w1)⟩, w6, hAm.ts _ _ w5⟩ ⟨mc_blind _ _ _ _ μ, mc_pre hAm hV hS⟩ rfl hn hL.1 hst (lv_room hroom) hdg ⟨hc, hs⟩) hS (fun v μ' H locs h1 hV hS => kk v μ' h1 hg p e s m args below meth c H locs ls hM hV hS hL)
  · rw [List.mem_singleton.mp hw]
    exact word_at hW (good_of_word (List.all_eq_true.mp WALL_good _ hcd9)) (hAm.2.1 _ hcd9)
  · rw [h] at w4
    exact (Option.some.inj w4).symm
end CallRows
section Ends
variable {post : Option Value → mu_M → Prop} {px : String → mu_M → Prop}
theorem wp_iret {v : Int32} (hdg : decode (mt_c M) pc = .ok (.ireturn, 1)) (hr : mt_r M = some .int) (hc : cn ≤ (mt_R M).cells) (hs : sn ≤ (mt_R M).slots) (hp : post (some (.int v)) μ) : WP G M (EC G M post px) lo pc [.int v] μ cn sn :=
  fun hg p e s m args below meth c H locs ls hM hV hS hL => W.widen hc hs (vx_ret (W.iret hM.1 hM.2.1 (hM.2.2.1.trans hr) (fun t ht _ => ⟨⟨_, μ, rfl, hp, by rw [ht]; exact hV⟩, hS.F ht⟩) hS.2.2 hdg hM.2.2.2.2.2.1))
theorem wp_zret {v : Int32} (hdg : decode (mt_c M) pc = .ok (.ireturn, 1)) (hr : mt_r M = some .boolean) (hn : narrow .boolean (.int v) = .int v) (hc : cn ≤ (mt_R M).cells) (hs : sn ≤ (mt_R M).slots) (hp : post (some (.int v)) μ) : WP G M (EC G M post px) lo pc [.int v] μ cn sn :=
  fun hg p e s m args below meth c H locs ls hM hV hS hL => W.widen hc hs (vx_ret (W.zret hM.1 hM.2.1 (hM.2.2.1.trans hr) hn (fun t ht _ => ⟨⟨_, μ, rfl, hp, by rw [ht]; exact hV⟩, hS.F ht⟩) hS.2.2 hdg hM.2.2.2.2.2.1))
theorem wp_vret (hdg : decode (mt_c M) pc = .ok (.return_, 1)) (hr : mt_r M = none) (hc : cn ≤ (mt_R M).cells) (hs : sn ≤ (mt_R M).slots) (hp : post none μ) : WP G M (EC G M post px) lo pc [] μ cn sn :=
  fun hg p e s m args below meth c H locs ls hM hV hS hL => W.widen hc hs (vx_ret (W.vret hM.1 hM.2.1 (hM.2.2.1.trans hr) (fun t ht _ => ⟨⟨_, μ, rfl, hp, by rw [ht]; exact hV⟩, hS.F ht⟩) hS.2.2 hdg hM.2.2.2.2.2.1))
theorem wp_vretI (hdg : decode (mt_c M) pc = .ok (.return_, 1)) (hr : mt_r M = none) (hc : cn ≤ (mt_R M).cells) (hs : sn ≤ (mt_R M).slots) (hp : post none μ) : WP G M (ECI G M post) lo pc [] μ cn sn :=
  fun hg p e s m args below meth c H locs ls hM hV hS hL => W.widen hc hs (W.vret hM.1 hM.2.1 (hM.2.2.1.trans hr) (fun t ht _ => ⟨⟨_, μ, rfl, hp, by rw [ht]; exact hV⟩, hS.F ht⟩) hS.2.2 hdg hM.2.2.2.2.2.1)
theorem wp_aret {q : Nat} {rt : FieldType} (hdg : decode (mt_c M) pc = .ok (.areturn, 1)) (hr : mt_r M = some rt) (hrt : (∃ n, rt = .object n) ∨ ∃ t, rt = .array t) (hc : cn ≤ (mt_R M).cells) (hs : sn ≤ (mt_R M).slots) (hp : post (some (.ref q)) μ) : WP G M (EC G M post px) lo pc [.ref q] μ cn sn :=
  fun hg p e s m args below meth c H locs ls hM hV hS hL => W.widen hc hs (vx_ret (W.aret hM.1 hM.2.1 (hM.2.2.1.trans hr) hrt (Or.inr ⟨q, rfl⟩) (fun t ht _ => ⟨⟨_, μ, rfl, hp, by rw [ht]; exact hV⟩, hS.F ht⟩) hS.2.2 hdg hM.2.2.2.2.2.1))
theorem wp_throw {cls text : String} {names : List String} {ik is ic : Nat} {hh : List (Nat × Nat × Nat × Nat)} (hw : th_P (mt_y M).cls cls text ik is ic names) (hh0 : mt_h M = some hh) (hcov : ∀ x ∈ tableOf hh, covers x (pc + 9) = false)
    (d0 : decode (mt_c M) pc = .ok (.new ik, 3)) (d3 : decode (mt_c M) (pc + 3) = .ok (.dup, 1)) (d4 : decode (mt_c M) (pc + 4) = .ok (.ldc is, 2)) (d6 : decode (mt_c M) (pc + 6) = .ok (.invokespecial ic, 3)) (d9 : decode (mt_c M) (pc + 9) = .ok (.athrow, 1))
    (hRf : names.length + 3 < (mt_R M).frames) (hRl : (rest.map fun v => v.category).sum + (13 * (names.length + 1) + 43) ≤ (mt_R M).locals) (hc : cn + 1 ≤ (mt_R M).cells) (hs : sn + 6 ≤ (mt_R M).slots) (hp : px cls μ) : WP G M (EC G M post px) lo pc rest μ cn sn := by
  obtain ⟨w1, w2, w3, w4, w5, w6, w7⟩ := hw
  intro hg p e s m args below meth c H locs ls hM hV hS hL
  have hAm := hM.2.2.2.2.2.2.2.2
  obtain ⟨sa, hsa⟩ := hAm.2.2.2.2.1 _ w5
  exact vx_throwS (A := AA G.2.2.2) (names := names) hM.1 hM.2.1 hg hM.2.2.2.2.1 w1 w2 (hAm.ts _ _ w3) (hAm.ts _ _ w4) hsa (fun w hw => (w6 w hw).elim (hAm.ts _ _) (fun z => bad_use (List.mem_filter.mp z).2 (hAm.2.2.2.2.2.2.2.1 _ z))) w7 hAm.2.2.1 hAm.2.2.2.1 hS (hL.1.trans hM.2.2.2.1.symm) d0 d3 d4 d6 d9 (fun x hx => hcov x (by rw [← hM.2.2.2.2.2.2.1 hh hh0]; exact hx)) hRf hRl hc hs hM.2.2.2.2.2.1
    (fun t _ hz ho => ⟨μ, hp, hV.kept ho, Nat.le_trans hS.1 hz, fun q h1 h2 => (ho q (Nat.lt_of_lt_of_le h1 hS.1)).trans (hS.2.1 q h1 h2)⟩) hS.2.2 hc hs
theorem wp_throwW {cls text : String} {names : List String} {ik is ic : Nat} {hh : List (Nat × Nat × Nat × Nat)} (hw : th_P (mt_y M).cls cls text ik is ic names) (hh0 : mt_h M = some hh) (hcov : ∀ x ∈ tableOf hh, covers x (pc + 10) = false)
    (d0 : decode (mt_c M) pc = .ok (.new ik, 3)) (d3 : decode (mt_c M) (pc + 3) = .ok (.dup, 1)) (d4 : decode (mt_c M) (pc + 4) = .ok (.ldc_w is, 3)) (d7 : decode (mt_c M) (pc + 7) = .ok (.invokespecial ic, 3)) (d10 : decode (mt_c M) (pc + 10) = .ok (.athrow, 1))
    (hRf : names.length + 3 < (mt_R M).frames) (hRl : (rest.map fun v => v.category).sum + (13 * (names.length + 1) + 43) ≤ (mt_R M).locals) (hc : cn + 1 ≤ (mt_R M).cells) (hs : sn + 6 ≤ (mt_R M).slots) (hp : px cls μ) : WP G M (EC G M post px) lo pc rest μ cn sn := by
  obtain ⟨w1, w2, w3, w4, w5, w6, w7⟩ := hw
  intro hg p e s m args below meth c H locs ls hM hV hS hL
  have hAm := hM.2.2.2.2.2.2.2.2
  obtain ⟨sa, hsa⟩ := hAm.2.2.2.2.1 _ w5
  exact vx_throwSW (A := AA G.2.2.2) (names := names) hM.1 hM.2.1 hg hM.2.2.2.2.1 w1 w2 (hAm.ts _ _ w3) (hAm.ts _ _ w4) hsa (fun w hw => (w6 w hw).elim (hAm.ts _ _) (fun z => bad_use (List.mem_filter.mp z).2 (hAm.2.2.2.2.2.2.2.1 _ z))) w7 hAm.2.2.1 hAm.2.2.2.1 hS (hL.1.trans hM.2.2.2.1.symm) d0 d3 d4 d7 d10 (fun x hx => hcov x (by rw [← hM.2.2.2.2.2.2.1 hh hh0]; exact hx)) hRf hRl hc hs hM.2.2.2.2.2.1
    (fun t _ hz ho => ⟨μ, hp, hV.kept ho, Nat.le_trans hS.1 hz, fun q h1 h2 => (ho q (Nat.lt_of_lt_of_le h1 hS.1)).trans (hS.2.1 q h1 h2)⟩) hS.2.2 hc hs
end Ends
end WPR
end
section
/-! 'throw new NoSuchElementException("trimmed")': its constructor calls by another place of its pool (13) than the other throwables' (7): the chain of constructors with a first link of its own. The proof of ns_ctorThrow goes as the library's own for one chain (Stand.ctorThrowS), with the first link apart. -/
def nsAtoms (own : String) (ic : Nat) (X Y : String) (ix : Nat) (b9 : ByteArray) (names : List String) : List Cond :=
  Bundle.throwableAtoms ++ Bundle.throwableSAtoms ++ Bundle.passSAtoms X Y ix b9 ++ Bundle.chainSAtoms Y names ++
  [.methodLink own ic (Bundle.initS X), .instantiable X 6, .castable X X, .selects X Bundle.tFill0 Bundle.tFill0, .selects X Bundle.tFill Bundle.tFill,
   .lays X Bundle.tN "cause" "Ljava/lang/Throwable;", .lays X Bundle.tN "stackTrace" Bundle.steD, .lays X Bundle.tN "suppressedExceptions" Bundle.listD, .lays X Bundle.tN "detailMessage" "Ljava/lang/String;",
   .isRef (.static Bundle.tN "UNASSIGNED_STACK" Bundle.steD), .isRef (.static Bundle.tN "SUPPRESSED_SENTINEL" Bundle.listD),
   .fieldLink Bundle.tN 198 Bundle.tN "backtrace" "Ljava/lang/Object;", .lays Bundle.tN Bundle.tN "backtrace" "Ljava/lang/Object;", .lays X Bundle.tN "backtrace" "Ljava/lang/Object;"]
section NSX
variable {p : Program} {l : Launch} {e : Env} {R : Room} {s : State} {m₀ : MethodId} {args : Array Value} {below : List Frame} {meth : Method} {c : Code} {W : State} {locs : List Loc} {cells slots : Nat}
set_option maxHeartbeats 2000000 in
theorem ns_ctorThrow (X : Stand p l e R s m₀ args below meth c W locs cells slots) (hexec : p.tables.exec = Jvm.exec) (htr : e.platform.stackTraces = false) {own cls Y9 : String} {names : List String} {ic ix : Nat} {b9 : ByteArray} (b0 : decode b9 0 = .ok (.aload_n 0, 1)) (b1 : decode b9 1 = .ok (.aload_n 1, 1)) (b2 : decode b9 2 = .ok (.invokespecial ix, 3)) (b5 : decode b9 5 = .ok (.return_, 1)) (hY9 : Bundle.fit Y9 = true)
    (hown : s.vm.findClass own = some m₀.cls) (hcls : Bundle.fit cls = true) (hnames : ∀ n ∈ names, Bundle.fit n = true)
    (h : ∀ a ∈ nsAtoms own ic cls Y9 ix b9 names, a.before args s = true)
    (hlocs : ∀ x ∈ locs, ∀ cell, s.heap[x.base]? = some cell → cell.vm.isStatics = false)
    {a : Addr} {cX : ClassId} {kX : Class} (hfoundX : s.vm.findClass cls = some cX) (hkX : s.vm.classes[cX]? = some kX) (hcell : W.heap[a]? = some (freshCell cX kX)) (hnew : s.heap.size ≤ a)
    {msg : Value} (hmsg : msg.isRef = true)
    {g : JFrame} (hg : g.method = m₀) (hsize : g.locals.size = c.maxLocals) (hlocked : g.locked = none) (hentered : g.entered = []) {rest : List Value} (hstack : g.stack = msg :: .ref a :: .ref a :: rest)
    (hd6 : decode c.code g.pc = .ok (.invokespecial ic, 3)) (hd9 : decode c.code (g.pc + 3) = .ok (.athrow, 1)) (hout : ∀ x ∈ c.exceptionTable.toList, covers x (g.pc + 3) = false)
    (hRframes : names.length + 4 < R.frames) (hRlocals : 2 * g.monitorRoom + ((Value.ref a :: rest).map fun v => v.category).sum + (13 * (names.length + 2) + 42) ≤ R.locals) (hlocks : meth.locks = false := by first | assumption | exact BodyLoose.notSynchronized (by assumption) | exact Body.notSynchronized (by assumption)) :
    ∃ U : State, Steps p.tables e below (W.setTop g) U ∧ U.status = .running ∧ Ended U below (.threw a) ∧ s.WarmedH U.vm ∧ s.sameButNew ({ U with vm := s.vm } : State) locs cells slots ∧
      ∃ ce, U.heap[a]? = some ce ∧ s.vm.findClass cls = some ce.cls ∧ ce.vm = .none := by
  have howns : e.platform.frameOwnsMonitors = true := by rw [X.admits.platform]
  have hfin : e.platform.finalization = false := by rw [X.admits.platform]
  have hpl : e.platform.magicAccessors = ({} : Platform).magicAccessors := by rw [X.admits.platform]
  have a' : ∀ x, x ∈ nsAtoms own ic cls Y9 ix b9 names → x.holds args s none s [] = true := fun x hx => h x hx
  obtain ⟨T, Z0, L, -, Y⟩ := ThrowableC.of_atoms (args := args) howns hfin hpl (fun x hx => h x (by simp [nsAtoms, hx]))
  obtain ⟨Z, M, LZ, LM, hnZ⟩ := Init0T.ofS_atoms (args := args) hpl L Y (fun x hx => h x (by simp [nsAtoms, hx]))
  obtain ⟨P1, L1, hP1m, hs9⟩ := PassC.ofS_atoms (args := args) (s := s) hpl (X := cls) (Y := Y9) (Bundle.fit_spec hcls).1 (Bundle.fit_spec hY9).2 b0 b1 b2 b5 (fun x hx => h x (by simp [nsAtoms, hx]))
  obtain ⟨P', Ps', hlen', L', hL', hm', hsup', hpass'⟩ := Bundle.chainS (args := args) hpl hnZ names Y9 hY9 hnames (fun x hx => h x (by simp [nsAtoms, hx]))
  obtain ⟨Ps, hPs⟩ : ∃ z, z = P' :: Ps' := ⟨_, rfl⟩
  have hlen : Ps.length = names.length + 1 := by rw [hPs]; simp [hlen']
  have hL : ∀ P, P ∈ Ps → P.LinksS e.platform s := by
    rw [hPs]
    intro Q hQ
    rcases List.mem_cons.mp hQ with rfl | hQ
    · exact L'
    · exact hL' Q hQ
  have hlink1 : P1.sup = firstOf (Z.m T.toThrowableT) (Ps.map (·.toPassT)) := by rw [hPs]; exact Option.some.inj (hs9.symm.trans hm')
  have hlink : PassesOn (Z.m T.toThrowableT) (Ps.map (·.toPassT)) := by rw [hPs]; exact ⟨hsup', hpass'⟩
  have hfound : s.vm.findClass cls = some P1.m.cls := findClass_of_methodNamed hP1m
  cases Option.some.inj (hfoundX.symm.trans hfound)
  obtain ⟨c1, kX', hc1, hk, hord, -, -, hn6⟩ := Cond.instantiable_spec (a' (.instantiable cls 6) (by simp [nsAtoms]))
  cases Option.some.inj (hc1.symm.trans hfound)
  cases Option.some.inj (hkX.symm.trans hk)
  have hsel0 : selectMethod e.platform s.vm P1.m.cls T.fill0 = .method T.fill0 := by
    obtain ⟨c2, r2, m2, q1, q2, q3, q4, -⟩ := Cond.selects_spec (a' (.selects cls Bundle.tFill0 Bundle.tFill0) (by simp [nsAtoms]))
    cases Option.some.inj (q1.symm.trans hfound)
    cases Option.some.inj (q2.symm.trans (State.methodFound?_of_named Y.fill0 (by decide)))
    cases Option.some.inj (q3.symm.trans Y.fill0)
    rw [Launch.admits_selectMethod X.admits]; exact q4
  have hselF : selectMethod e.platform s.vm P1.m.cls T.fill = .method T.fill := by
    obtain ⟨c2, r2, m2, q1, q2, q3, q4, -⟩ := Cond.selects_spec (a' (.selects cls Bundle.tFill Bundle.tFill) (by simp [nsAtoms]))
    cases Option.some.inj (q1.symm.trans hfound)
    cases Option.some.inj (q2.symm.trans (State.methodFound?_of_named Y.fill (by decide)))
    cases Option.some.inj (q3.symm.trans Y.fill)
    rw [Launch.admits_selectMethod X.admits]; exact q4
  obtain ⟨cellS0, hcS0, hiss⟩ := Y.statics
  obtain ⟨u0, hu0⟩ := Cond.staticRefV Y.unassigned L.unassignedStatic L.statics hcS0 hiss (a' (.isRef (.static Bundle.tN "UNASSIGNED_STACK" Bundle.steD)) (by simp [nsAtoms]))
  obtain ⟨sen, hsen⟩ := Cond.staticRefV Y.sentinel L.sentinelStatic L.statics hcS0 hiss (a' (.isRef (.static Bundle.tN "SUPPRESSED_SENTINEL" Bundle.listD)) (by simp [nsAtoms]))
  obtain ⟨ci198, i198, fB, hk198, hg198, ha198, hsB, -, hnB, htB, hffB⟩ := Cond.ownField (t := .object "java/lang/Object") Y.found L.cls (by decide +kernel) (a' (.fieldLink Bundle.tN 198 Bundle.tN "backtrace" "Ljava/lang/Object;") (by simp [nsAtoms])) (a' (.lays Bundle.tN Bundle.tN "backtrace" "Ljava/lang/Object;") (by simp [nsAtoms])) e.platform hpl
  obtain ⟨cellS, hcS', heS, -, hkeep⟩ := X.same.2.2.2.2.2 T.aS cellS0 hcS0
  have hcellS : W.heap[T.aS]? = some cellS := hcS'
  have hout' : ∀ i, (⟨T.aS, i⟩ : Loc) ∉ locs := fun i hmem => by
    have := hlocs _ hmem cellS0 hcS0
    rw [hiss] at this; cases this
  have hknownS : cellS.vm ≠ .unknown := by
    rw [heS]; intro hu
    rw [show cellS0.vm = .unknown from hu] at hiss
    cases hiss
  have hneS : T.aS ≠ a := Nat.ne_of_lt (Nat.lt_of_lt_of_le (Array.getElem?_eq_some_iff.mp hcS0).1 hnew)
  obtain ⟨iM, hffM⟩ := Y.msg
  obtain ⟨tyC, dC, hdC, hdnC⟩ := Cond.laysAt hfound hk Y.cause (a' (.lays cls Bundle.tN "cause" "Ljava/lang/Throwable;") (by simp [nsAtoms]))
  obtain ⟨tyS, dS, hdS, hdnS⟩ := Cond.laysAt hfound hk Y.stack (a' (.lays cls Bundle.tN "stackTrace" Bundle.steD) (by simp [nsAtoms]))
  obtain ⟨tyP, dP, hdP, hdnP⟩ := Cond.laysAt hfound hk Y.supp (a' (.lays cls Bundle.tN "suppressedExceptions" Bundle.listD) (by simp [nsAtoms]))
  obtain ⟨tyM, dM, hdM, hdnM⟩ := Cond.laysAt hfound hk hffM (a' (.lays cls Bundle.tN "detailMessage" "Ljava/lang/String;") (by simp [nsAtoms]))
  obtain ⟨tyB, dB, hdB, hdnB⟩ := Cond.laysAt hfound hk hffB (a' (.lays cls Bundle.tN "backtrace" "Ljava/lang/Object;") (by simp [nsAtoms]))
  have bC := Cond.laysApart hdB hdC hdnB hdnC (by rw [hnB, Y.causeName]; decide)
  have bS := Cond.laysApart hdB hdS hdnB hdnS (by rw [hnB, Y.stackName]; decide)
  have bP := Cond.laysApart hdB hdP hdnB hdnP (by rw [hnB, Y.suppName]; decide)
  have hskip : SkipFacts T e.platform s (fun u => u) u0 ((preparedCellV T.toThrowableT (freshCell P1.m.cls kX) a u0 sen).withEntry W.cur) :=
    ⟨{ ci198 := ci198, i198 := i198, fBack := fB }, ⟨hk198, hg198, ha198, hsB⟩, by
      have := fresh_default (c := P1.m.cls) tyB
      rw [htB] at this
      simpa [preparedCellV, Cell.setSlot, Cell.withEntry, Array.getElem?_setIfInBounds, bC, bS, bP, bC.symm, bS.symm, bP.symm, defaultValue] using this, fun _ _ => rfl⟩
  obtain ⟨tm, methC, cdC, kC, vm₁, hnC, -, -, -, -, -, -, -, hW₁, st1⟩ := Steps.initColdS (tb := p.tables) (e := e) (below := below) (s := s) (U := W) X.here hexec X.warmed hpl hown (t := Bundle.initS cls) rfl rfl (Bundle.fit_spec hcls).2
    (a' (.methodLink own ic (Bundle.initS cls)) (by simp [nsAtoms])) (h (.instanceMethod (Bundle.initS cls)) (by simp [nsAtoms, Bundle.passSAtoms])) (bytes := b9) (maxL := 2) (h (.code (Bundle.initS cls) b9 2 none) (by simp [nsAtoms, Bundle.passSAtoms]))
    (f := g) hg (a := a) (msg := msg) (rest := .ref a :: rest) hstack hd6
  cases Option.some.inj (hnC.symm.trans hP1m)
  have X₁ := X.noted hW₁
  obtain ⟨vm₂, X₂, st2⟩ := X₁.ctorMessageOffV hexec (g := { g with stack := .ref a :: rest }) hg hsize T L Z LZ M LM (P1 :: Ps)
    (fun P hP => by rcases List.mem_cons.mp hP with rfl | hP; exact L1; exact hL P hP) ⟨hlink1, hlink⟩ (u0 := u0) (sen := sen) (self := a) hmsg (cell := freshCell P1.m.cls kX) (cellS := cellS)
    hcell (fun _ => by simp) (by simp) rfl rfl hsel0 hselF hcellS hneS hknownS (by rw [hkeep _ (hout' _)]; exact hu0) (by rw [hkeep _ (hout' _)]; exact hsen)
    (Takes.of_laid hk hord tyC (by rw [Y.causeType]; rfl)) (Takes.of_laid hk hord tyS (by rw [Y.stackType]; exact fits_refV_array _ u0)) (Takes.of_laid hk hord tyP (by rw [Y.suppType]; exact fits_refV_object _ sen))
    (Takes.of_laid hk hord tyM (by rw [Y.msgType]; exact fits_refV_object _ ⟨msg, hmsg⟩)) Y.objLocals hskip htr [] hd6
    (by simp only [List.length_cons, hlen]; omega) (by simp only [List.length_cons, hlen]; exact hRlocals)
  obtain ⟨hwalk, hrun, hended, hWU, hsame⟩ := X₂.athrowLeaves hexec (g := { g with stack := .ref a :: rest, pc := g.pc + 3 }) hg hlocked hentered hout (a := a) (rest := rest) rfl hd9
  obtain ⟨c3, c4, hc3, hc4, hasg⟩ := Cond.castable_spec (a' (.castable cls cls) (by simp [nsAtoms]))
  cases Option.some.inj (hc3.symm.trans hfound)
  cases Option.some.inj (hc4.symm.trans hfound)
  have hlt : a < ((W.setVm vm₁).setVm vm₂).heap.size := (Array.getElem?_eq_some_iff.mp hcell).1
  have hU := heapAt_setCell_self (s := (W.setVm vm₁).setVm vm₂) (plainBareV T.toThrowableT (freshCell P1.m.cls kX) a u0 sen msg) hlt
  refine ⟨_, st1 _ (fun acts => ?_), hrun, hended, hWU, hsame.weaken (fun y hy hlt' => ?_) (Nat.le_refl _) (Nat.le_refl _), _, hU, ?_⟩
  · rw [doInvoke_state]
    exact st2 _ hwalk
  · rcases List.mem_append.mp hy with h1 | h1
    · exact h1
    · exfalso
      have hb : y.base = a := by
        simp only [List.mem_cons, List.not_mem_nil, or_false] at h1
        rcases h1 with rfl | rfl | rfl | rfl | rfl <;> rfl
      rw [hb] at hlt'
      exact Nat.not_lt.mpr hnew hlt'
  · exact ⟨hfound, rfl⟩
end NSX
abbrev nsA : List Cond := (nsAtoms "SharedLog" 252 "java/util/NoSuchElementException" "java/lang/RuntimeException" 13 prog_18_method_4_code ["java/lang/Exception"]).filter vx_no
set_option maxRecDepth 20000 in
theorem nsA_in : ∀ w ∈ nsA, w ∈ WALL ∨ w ∈ WBAD := by decide +kernel
set_option maxRecDepth 20000 in
theorem nsA_ot : ∀ w ∈ Cond.classLink "SharedLog" 249 "java/util/NoSuchElementException" :: Cond.initialized "java/util/NoSuchElementException" :: nsA, vx_ot w = true := by decide +kernel
set_option maxRecDepth 20000 in
theorem ns_k : Cond.classLink "SharedLog" 249 "java/util/NoSuchElementException" ∈ WALL := by decide +kernel
set_option maxRecDepth 20000 in
theorem ns_i : Cond.initialized "java/util/NoSuchElementException" ∈ WALL := by decide +kernel
set_option maxHeartbeats 2000000 in
theorem wp_nse {G : mt_G} {M : mt_M} {lo : List (Nat × Value)} {pc : Nat} {rest : List Value} {μ : mu_M} {cn sn : Nat} {post : Option Value → mu_M → Prop} {px : String → mu_M → Prop} {hh : List (Nat × Nat × Nat × Nat)} (hcl : (mt_y M).cls = "SharedLog") (hh0 : mt_h M = some hh) (hcov : ∀ x ∈ tableOf hh, covers x (pc + 9) = false)
    (d0 : decode (mt_c M) pc = .ok (.new 249, 3)) (d3 : decode (mt_c M) (pc + 3) = .ok (.dup, 1)) (d4 : decode (mt_c M) (pc + 4) = .ok (.ldc 251, 2)) (d6 : decode (mt_c M) (pc + 6) = .ok (.invokespecial 252, 3)) (d9 : decode (mt_c M) (pc + 9) = .ok (.athrow, 1))
    (hRf : 5 < (mt_R M).frames) (hRl : (rest.map fun v => v.category).sum + 82 ≤ (mt_R M).locals) (hc : cn + 1 ≤ (mt_R M).cells) (hs : sn + 6 ≤ (mt_R M).slots) (hp : px "java/util/NoSuchElementException" μ) : WP G M (EC G M post px) lo pc rest μ cn sn := by
  intro hg p e s m args below meth c H locs ls hM hV hS hL T hT X
  have hAm := hM.2.2.2.2.2.2.2.2
  have hown : s.vm.findClass "SharedLog" = some m.cls := by rw [← hcl]; exact hM.2.2.2.2.1
  have hexec := hM.1
  have hb := hM.2.1
  obtain ⟨sa, hstr⟩ := hAm.2.2.2.2.1 ("SharedLog", 251, "trimmed") (by decide +kernel)
  have htr : e.platform.stackTraces = false := (show e.platform.stackTraces = G.1.stackTraces by rw [X.admits.platform]).trans hg
  have Y := vx_rebase X (R' := { frames := (mt_R M).frames, locals := (mt_R M).locals, cells := 1, slots := 6 }) (Nat.le_refl _) (Nat.le_refl _) hc hs
  obtain ⟨s', hA⟩ : ∃ z, z = (T.setVm s.vm).setFrames (.invoking m args :: below) := ⟨_, rfl⟩
  rw [← hA] at Y
  have hvm : s'.vm = s.vm := by rw [hA]; rfl
  have hhp : s'.heap = H := by rw [hA]; exact hT
  have hW0 : s.WarmedH s'.vm := by rw [hvm]; exact State.WarmedH.refl s
  have hat : ∀ w ∈ nsA, w.before args s = true := fun w hw => (nsA_in w hw).elim (hAm.ts _ _) (fun z => bad_use (List.mem_filter.mp z).2 (hAm.2.2.2.2.2.2.2.1 _ z))
  have hat' : ∀ w ∈ nsA, w.before args s' = true := fun w hw => vx_ot_at hW0 hvm.symm (nsA_ot w (List.mem_cons_of_mem _ (List.mem_cons_of_mem _ hw))) (hat w hw)
  have hk' : (Cond.classLink "SharedLog" 249 "java/util/NoSuchElementException").before args s' = true := vx_ot_at hW0 hvm.symm (nsA_ot _ List.mem_cons_self) (hAm.ts args _ ns_k)
  have hini' : (Cond.initialized "java/util/NoSuchElementException").before args s' = true := vx_ot_at hW0 hvm.symm (nsA_ot _ (List.mem_cons_of_mem _ List.mem_cons_self)) (hAm.ts args _ ns_i)
  have hU' : vx_Zq Bundle.tN "UNASSIGNED_STACK" Bundle.steD (AA G.2.2.2) s' s'.heap := by rw [hhp]; exact vx_Zq.moved hW0.alike (hAm.2.2.1.kept hS.2.1)
  have hN' : vx_Zq Bundle.tN "SUPPRESSED_SENTINEL" Bundle.listD (AA G.2.2.2) s' s'.heap := by rw [hhp]; exact vx_Zq.moved hW0.alike (hAm.2.2.2.1.kept hS.2.1)
  have h : ∀ w ∈ nsAtoms "SharedLog" 252 "java/util/NoSuchElementException" "java/lang/RuntimeException" 13 prog_18_method_4_code ["java/lang/Exception"], w.before args s' = true := vx_own hat' (vx_isRefq hU'.1) (vx_isRefq hN'.1) hU'.2.word hN'.2.word
  have hown' : s'.vm.findClass "SharedLog" = some m.cls := by rw [hvm]; exact hown
  have hins : (Cond.instantiable "java/util/NoSuchElementException" 6).before args s' = true := h _ (by simp [nsAtoms])
  obtain ⟨vm₁, cX, kX, hfX, hkX, -, -, X₁, st1⟩ := Y.newCold hexec (own := "SharedLog") (C := "java/util/NoSuchElementException") (index := 249) (n := 6) hown' hk' hins hini'
    (g := F0 m pc ls rest) rfl (by rw [hb]; exact d0) (Nat.le_refl _) (Nat.le_refl _)
  generalize hT1 : (T.setVm vm₁).pushCell { cls := cX, slots := kX.instanceTypes.map defaultValue, vm := .none } = T1 at X₁ st1
  have hcat : (Value.ref T.heap.size).category = 1 := rfl
  have hcellA : T1.heap[T.heap.size]? = some (freshCell cX kX) := by rw [← hT1]; exact State.heap_pushCell_size _ _
  have d3' : decode c.code (pc + 3) = .ok (.dup, 1) := by rw [hb]; exact d3
  have d4' : decode c.code (pc + 4) = .ok (.ldc 251, 2) := by rw [hb]; exact d4
  have hstr' : vk_R "SharedLog" 251 "trimmed" sa s' := vk_R.warm hW0 hstr
  have hsize : ls.size = c.maxLocals := hL.1.trans hM.2.2.2.1.symm
  have hout : ∀ x ∈ c.exceptionTable.toList, covers x (pc + 9) = false := fun x hx => hcov x (by rw [← hM.2.2.2.2.2.2.1 hh hh0]; exact hx)
  obtain ⟨U, hsteps, hrun, hend, hW, hsame, ce, hce, hO1, hO2⟩ := ns_ctorThrow X₁ hexec htr (own := "SharedLog") (cls := "java/util/NoSuchElementException") (Y9 := "java/lang/RuntimeException") (names := ["java/lang/Exception"]) (ic := 252) (ix := 13) (b9 := prog_18_method_4_code) (by decide +kernel) (by decide +kernel) (by decide +kernel) (by decide +kernel) (by decide +kernel) hown' (by decide +kernel) (by decide +kernel) h (fun x hx => nomatch hx) hfX hkX hcellA (by rw [hhp, hT]; exact Nat.le_refl _) (msg := .ref sa) rfl
    (g := { method := m, pc := pc + 6, locals := ls, stack := .ref sa :: .ref T.heap.size :: .ref T.heap.size :: rest, locked := none }) rfl hsize rfl rfl (rest := rest) rfl
    (by rw [hb]; exact d6) (by rw [hb]; exact d9) hout (by show 1 + 4 < (mt_R M).frames; omega) (by simp only [List.map_cons, List.sum_cons, hcat]; show 2 * 0 + (1 + _) + (13 * (1 + 2) + 42) ≤ (mt_R M).locals; omega) hM.2.2.2.2.2.1
  obtain ⟨f1, f2⟩ := vx_frame hsame
  rw [hhp] at f1 f2
  have hWs : s.WarmedH U.vm := State.WarmedH.trans hW0 hW
  have hcl9 : s.vm.findClass "java/util/NoSuchElementException" = some ce.cls := by
    have h9 := hO1
    rw [hvm] at h9
    exact h9
  have hall : s.sameButNew ({ U with vm := s.vm } : State) locs (mt_R M).cells (mt_R M).slots := by
    subst hA
    obtain ⟨e1, e2⟩ := hsame
    rw [State.setFrames_setFrames] at e1
    have h2 : (T.setVm s.vm).sameButNew ({ U with vm := s.vm } : State) [] (0 + 1) (0 + 6) := ⟨e1, e2⟩
    have h3 := X.same.trans h2
    rw [List.append_nil] at h3
    exact h3.mono hc hs
  have ho : ∀ q : Nat, q < H.size → U.heap[q]? = H[q]? := fun q hq => f2 q hq (fun z hz => nomatch hz)
  refine ⟨U, ?_, .threw T.heap.size, hrun, hend, Or.inr ⟨T.heap.size, rfl, "java/util/NoSuchElementException", ce, locs, ⟨μ, hp, hV.kept ho, Nat.le_trans hS.1 f1, fun q h1 h2 => (ho q (Nat.lt_of_lt_of_le h1 hS.1)).trans (hS.2.1 q h1 h2)⟩, hce, hO2, hcl9, hWs, hall, hS.2.2⟩⟩
  refine st1 _ ?_
  show Steps p.tables e below (T1.setTop { method := m, pc := pc + 3, locals := ls, stack := .ref T.heap.size :: rest, locked := none }) _
  jvm_step X₁.here [X₁.here.top, hexec, d3', Value.category]
  exact X₁.ldcString hexec (own := "SharedLog") (text := "trimmed") (index := 251) (a := sa) hown' hstr'.1 hstr'.2
    (g := { method := m, pc := pc + 4, locals := ls, stack := .ref T.heap.size :: .ref T.heap.size :: rest, locked := none }) rfl d4' _ hsteps
end
