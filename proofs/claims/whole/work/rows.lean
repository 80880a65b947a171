section
-- ===== PART A: goes FIRST, ahead of the names: the tables' words, and 'selects' of the private methods out of them =====
/-- a private method of a class that the tables say can be made, by its rows of tables_1 -/
def lw_okq (q : MethodName × Nat) : Prop := (q.1.cls ≠ "java/lang/invoke/MethodHandle" ∧ q.1.cls ≠ "java/lang/invoke/VarHandle") ∧ Cond.instantiable q.1.cls q.2 ∈ tables_1 ∧ Cond.privateMethod q.1 ∈ tables_1 ∧ Cond.instanceMethod q.1 ∈ tables_1
theorem lw_p0 : lw_okq (⟨"java/lang/Throwable", "fillInStackTrace", "(I)Ljava/lang/Throwable;"⟩, 6) := ⟨⟨by decide +kernel, by decide +kernel⟩, List.mem_of_getElem? (i := 248) (by decide +kernel), List.mem_of_getElem? (i := 246) (by decide +kernel), List.mem_of_getElem? (i := 247) (by decide +kernel)⟩
theorem lw_p1 : lw_okq (⟨"SharedLog", "takeToken", "(LSharedLog$Client;)I"⟩, 7) := ⟨⟨by decide +kernel, by decide +kernel⟩, List.mem_of_getElem? (i := 18) (by decide +kernel), List.mem_of_getElem? (i := 278) (by decide +kernel), List.mem_of_getElem? (i := 279) (by decide +kernel)⟩
theorem lw_p2 : lw_okq (⟨"SharedLog", "requireSequencer", "(LSharedLog$Client;)V"⟩, 7) := ⟨⟨by decide +kernel, by decide +kernel⟩, List.mem_of_getElem? (i := 18) (by decide +kernel), List.mem_of_getElem? (i := 282) (by decide +kernel), List.mem_of_getElem? (i := 283) (by decide +kernel)⟩
theorem lw_p3 : lw_okq (⟨"SharedLog", "write", "(LSharedLog$Client;ILSharedLog$Entry;I)V"⟩, 7) := ⟨⟨by decide +kernel, by decide +kernel⟩, List.mem_of_getElem? (i := 18) (by decide +kernel), List.mem_of_getElem? (i := 322) (by decide +kernel), List.mem_of_getElem? (i := 323) (by decide +kernel)⟩
theorem lw_p4 : lw_okq (⟨"SharedLog", "use", "(LSharedLog$Client;I)LSharedLog$Unit;"⟩, 7) := ⟨⟨by decide +kernel, by decide +kernel⟩, List.mem_of_getElem? (i := 18) (by decide +kernel), List.mem_of_getElem? (i := 334) (by decide +kernel), List.mem_of_getElem? (i := 335) (by decide +kernel)⟩
theorem lw_p5 : lw_okq (⟨"SharedLog", "entryAtEnd", "(LSharedLog$Client;I)LSharedLog$Entry;"⟩, 7) := ⟨⟨by decide +kernel, by decide +kernel⟩, List.mem_of_getElem? (i := 18) (by decide +kernel), List.mem_of_getElem? (i := 367) (by decide +kernel), List.mem_of_getElem? (i := 368) (by decide +kernel)⟩
theorem lw_p6 : lw_okq (⟨"SharedLog", "trimOne", "(LSharedLog$Client;I)I"⟩, 7) := ⟨⟨by decide +kernel, by decide +kernel⟩, List.mem_of_getElem? (i := 18) (by decide +kernel), List.mem_of_getElem? (i := 403) (by decide +kernel), List.mem_of_getElem? (i := 404) (by decide +kernel)⟩
theorem lw_p7 : lw_okq (⟨"SharedLog", "requireChangeable", "(LSharedLog$Client;[I)V"⟩, 7) := ⟨⟨by decide +kernel, by decide +kernel⟩, List.mem_of_getElem? (i := 18) (by decide +kernel), List.mem_of_getElem? (i := 428) (by decide +kernel), List.mem_of_getElem? (i := 429) (by decide +kernel)⟩
theorem lw_p8 : lw_okq (⟨"SharedLog", "upCount", "([I)I"⟩, 7) := ⟨⟨by decide +kernel, by decide +kernel⟩, List.mem_of_getElem? (i := 18) (by decide +kernel), List.mem_of_getElem? (i := 433) (by decide +kernel), List.mem_of_getElem? (i := 434) (by decide +kernel)⟩
theorem lw_p9 : lw_okq (⟨"SharedLog", "sealAll", "(LSharedLog$Layout;[II)V"⟩, 7) := ⟨⟨by decide +kernel, by decide +kernel⟩, List.mem_of_getElem? (i := 18) (by decide +kernel), List.mem_of_getElem? (i := 446) (by decide +kernel), List.mem_of_getElem? (i := 447) (by decide +kernel)⟩
theorem lw_p10 : lw_okq (⟨"SharedLog", "sealRow", "([II)V"⟩, 7) := ⟨⟨by decide +kernel, by decide +kernel⟩, List.mem_of_getElem? (i := 18) (by decide +kernel), List.mem_of_getElem? (i := 450) (by decide +kernel), List.mem_of_getElem? (i := 451) (by decide +kernel)⟩
theorem lw_p11 : lw_okq (⟨"SharedLog", "merge", "([I[II)V"⟩, 7) := ⟨⟨by decide +kernel, by decide +kernel⟩, List.mem_of_getElem? (i := 18) (by decide +kernel), List.mem_of_getElem? (i := 454) (by decide +kernel), List.mem_of_getElem? (i := 455) (by decide +kernel)⟩
theorem lw_p12 : lw_okq (⟨"SharedLog", "firstHeld", "([II)LSharedLog$Entry;"⟩, 7) := ⟨⟨by decide +kernel, by decide +kernel⟩, List.mem_of_getElem? (i := 18) (by decide +kernel), List.mem_of_getElem? (i := 458) (by decide +kernel), List.mem_of_getElem? (i := 459) (by decide +kernel)⟩
theorem lw_p13 : lw_okq (⟨"SharedLog", "firstFreeOffset", "()I"⟩, 7) := ⟨⟨by decide +kernel, by decide +kernel⟩, List.mem_of_getElem? (i := 18) (by decide +kernel), List.mem_of_getElem? (i := 462) (by decide +kernel), List.mem_of_getElem? (i := 463) (by decide +kernel)⟩
theorem lw_p14 : lw_okq (⟨"SharedLog", "play", "(LSharedLog$Client;I)Z"⟩, 7) := ⟨⟨by decide +kernel, by decide +kernel⟩, List.mem_of_getElem? (i := 18) (by decide +kernel), List.mem_of_getElem? (i := 484) (by decide +kernel), List.mem_of_getElem? (i := 485) (by decide +kernel)⟩
theorem lw_p15 : lw_okq (⟨"SharedLog", "writeAndPlayCommit", "(LSharedLog$Client;)Z"⟩, 7) := ⟨⟨by decide +kernel, by decide +kernel⟩, List.mem_of_getElem? (i := 18) (by decide +kernel), List.mem_of_getElem? (i := 549) (by decide +kernel), List.mem_of_getElem? (i := 550) (by decide +kernel)⟩
def lw_privs_1 : List (MethodName × Nat) := [(⟨"java/lang/Throwable", "fillInStackTrace", "(I)Ljava/lang/Throwable;"⟩, 6), (⟨"SharedLog", "takeToken", "(LSharedLog$Client;)I"⟩, 7), (⟨"SharedLog", "requireSequencer", "(LSharedLog$Client;)V"⟩, 7), (⟨"SharedLog", "write", "(LSharedLog$Client;ILSharedLog$Entry;I)V"⟩, 7), (⟨"SharedLog", "use", "(LSharedLog$Client;I)LSharedLog$Unit;"⟩, 7), (⟨"SharedLog", "entryAtEnd", "(LSharedLog$Client;I)LSharedLog$Entry;"⟩, 7), (⟨"SharedLog", "trimOne", "(LSharedLog$Client;I)I"⟩, 7), (⟨"SharedLog", "requireChangeable", "(LSharedLog$Client;[I)V"⟩, 7), (⟨"SharedLog", "upCount", "([I)I"⟩, 7), (⟨"SharedLog", "sealAll", "(LSharedLog$Layout;[II)V"⟩, 7), (⟨"SharedLog", "sealRow", "([II)V"⟩, 7), (⟨"SharedLog", "merge", "([I[II)V"⟩, 7), (⟨"SharedLog", "firstHeld", "([II)LSharedLog$Entry;"⟩, 7), (⟨"SharedLog", "firstFreeOffset", "()I"⟩, 7), (⟨"SharedLog", "play", "(LSharedLog$Client;I)Z"⟩, 7), (⟨"SharedLog", "writeAndPlayCommit", "(LSharedLog$Client;)Z"⟩, 7)]
theorem lw_r1 : ∀ q ∈ lw_privs_1, lw_okq q := List.forall_mem_cons.mpr ⟨lw_p0, List.forall_mem_cons.mpr ⟨lw_p1, List.forall_mem_cons.mpr ⟨lw_p2, List.forall_mem_cons.mpr ⟨lw_p3, List.forall_mem_cons.mpr ⟨lw_p4, List.forall_mem_cons.mpr ⟨lw_p5, List.forall_mem_cons.mpr ⟨lw_p6, List.forall_mem_cons.mpr ⟨lw_p7, List.forall_mem_cons.mpr ⟨lw_p8, List.forall_mem_cons.mpr ⟨lw_p9, List.forall_mem_cons.mpr ⟨lw_p10, List.forall_mem_cons.mpr ⟨lw_p11, List.forall_mem_cons.mpr ⟨lw_p12, List.forall_mem_cons.mpr ⟨lw_p13, List.forall_mem_cons.mpr ⟨lw_p14, List.forall_mem_cons.mpr ⟨lw_p15, fun _ h => absurd h List.not_mem_nil⟩⟩⟩⟩⟩⟩⟩⟩⟩⟩⟩⟩⟩⟩⟩⟩
theorem lw_p16 : lw_okq (⟨"SharedLogModel", "learnNow", "(I)V"⟩, 26) := ⟨⟨by decide +kernel, by decide +kernel⟩, List.mem_of_getElem? (i := 590) (by decide +kernel), List.mem_of_getElem? (i := 596) (by decide +kernel), List.mem_of_getElem? (i := 597) (by decide +kernel)⟩
theorem lw_p17 : lw_okq (⟨"SharedLogModel", "out", "(II)Z"⟩, 26) := ⟨⟨by decide +kernel, by decide +kernel⟩, List.mem_of_getElem? (i := 590) (by decide +kernel), List.mem_of_getElem? (i := 687) (by decide +kernel), List.mem_of_getElem? (i := 688) (by decide +kernel)⟩
theorem lw_p18 : lw_okq (⟨"SharedLogModel", "fail", "(I)I"⟩, 26) := ⟨⟨by decide +kernel, by decide +kernel⟩, List.mem_of_getElem? (i := 590) (by decide +kernel), List.mem_of_getElem? (i := 691) (by decide +kernel), List.mem_of_getElem? (i := 692) (by decide +kernel)⟩
theorem lw_p19 : lw_okq (⟨"SharedLogModel", "noToken", "(I)Z"⟩, 26) := ⟨⟨by decide +kernel, by decide +kernel⟩, List.mem_of_getElem? (i := 590) (by decide +kernel), List.mem_of_getElem? (i := 695) (by decide +kernel), List.mem_of_getElem? (i := 696) (by decide +kernel)⟩
theorem lw_p20 : lw_okq (⟨"SharedLogModel", "write", "(III)I"⟩, 26) := ⟨⟨by decide +kernel, by decide +kernel⟩, List.mem_of_getElem? (i := 590) (by decide +kernel), List.mem_of_getElem? (i := 699) (by decide +kernel), List.mem_of_getElem? (i := 700) (by decide +kernel)⟩
theorem lw_p21 : lw_okq (⟨"SharedLogModel", "rowFor", "(II)I"⟩, 26) := ⟨⟨by decide +kernel, by decide +kernel⟩, List.mem_of_getElem? (i := 590) (by decide +kernel), List.mem_of_getElem? (i := 703) (by decide +kernel), List.mem_of_getElem? (i := 704) (by decide +kernel)⟩
theorem lw_p22 : lw_okq (⟨"SharedLogModel", "length", "(I)I"⟩, 26) := ⟨⟨by decide +kernel, by decide +kernel⟩, List.mem_of_getElem? (i := 590) (by decide +kernel), List.mem_of_getElem? (i := 707) (by decide +kernel), List.mem_of_getElem? (i := 708) (by decide +kernel)⟩
theorem lw_p23 : lw_okq (⟨"SharedLogModel", "unit", "(II)I"⟩, 26) := ⟨⟨by decide +kernel, by decide +kernel⟩, List.mem_of_getElem? (i := 590) (by decide +kernel), List.mem_of_getElem? (i := 711) (by decide +kernel), List.mem_of_getElem? (i := 712) (by decide +kernel)⟩
theorem lw_p24 : lw_okq (⟨"SharedLogModel", "usable", "(II)Z"⟩, 26) := ⟨⟨by decide +kernel, by decide +kernel⟩, List.mem_of_getElem? (i := 590) (by decide +kernel), List.mem_of_getElem? (i := 715) (by decide +kernel), List.mem_of_getElem? (i := 716) (by decide +kernel)⟩
theorem lw_p25 : lw_okq (⟨"SharedLogModel", "cell", "(II)I"⟩, 26) := ⟨⟨by decide +kernel, by decide +kernel⟩, List.mem_of_getElem? (i := 590) (by decide +kernel), List.mem_of_getElem? (i := 719) (by decide +kernel), List.mem_of_getElem? (i := 720) (by decide +kernel)⟩
theorem lw_p26 : lw_okq (⟨"SharedLogModel", "copy", "(II)V"⟩, 26) := ⟨⟨by decide +kernel, by decide +kernel⟩, List.mem_of_getElem? (i := 590) (by decide +kernel), List.mem_of_getElem? (i := 723) (by decide +kernel), List.mem_of_getElem? (i := 724) (by decide +kernel)⟩
theorem lw_p27 : lw_okq (⟨"SharedLogModel", "lastCell", "(II)I"⟩, 26) := ⟨⟨by decide +kernel, by decide +kernel⟩, List.mem_of_getElem? (i := 590) (by decide +kernel), List.mem_of_getElem? (i := 731) (by decide +kernel), List.mem_of_getElem? (i := 732) (by decide +kernel)⟩
theorem lw_p28 : lw_okq (⟨"SharedLogModel", "ones", "(I)I"⟩, 26) := ⟨⟨by decide +kernel, by decide +kernel⟩, List.mem_of_getElem? (i := 590) (by decide +kernel), List.mem_of_getElem? (i := 735) (by decide +kernel), List.mem_of_getElem? (i := 736) (by decide +kernel)⟩
theorem lw_p29 : lw_okq (⟨"SharedLogModel", "badRow", "(I)Z"⟩, 26) := ⟨⟨by decide +kernel, by decide +kernel⟩, List.mem_of_getElem? (i := 590) (by decide +kernel), List.mem_of_getElem? (i := 755) (by decide +kernel), List.mem_of_getElem? (i := 756) (by decide +kernel)⟩
theorem lw_p30 : lw_okq (⟨"SharedLogModel", "upUnits", "(I)I"⟩, 26) := ⟨⟨by decide +kernel, by decide +kernel⟩, List.mem_of_getElem? (i := 590) (by decide +kernel), List.mem_of_getElem? (i := 759) (by decide +kernel), List.mem_of_getElem? (i := 760) (by decide +kernel)⟩
theorem lw_p31 : lw_okq (⟨"SharedLogModel", "sealRow", "(I)V"⟩, 26) := ⟨⟨by decide +kernel, by decide +kernel⟩, List.mem_of_getElem? (i := 590) (by decide +kernel), List.mem_of_getElem? (i := 763) (by decide +kernel), List.mem_of_getElem? (i := 764) (by decide +kernel)⟩
def lw_privs_2 : List (MethodName × Nat) := [(⟨"SharedLogModel", "learnNow", "(I)V"⟩, 26), (⟨"SharedLogModel", "out", "(II)Z"⟩, 26), (⟨"SharedLogModel", "fail", "(I)I"⟩, 26), (⟨"SharedLogModel", "noToken", "(I)Z"⟩, 26), (⟨"SharedLogModel", "write", "(III)I"⟩, 26), (⟨"SharedLogModel", "rowFor", "(II)I"⟩, 26), (⟨"SharedLogModel", "length", "(I)I"⟩, 26), (⟨"SharedLogModel", "unit", "(II)I"⟩, 26), (⟨"SharedLogModel", "usable", "(II)Z"⟩, 26), (⟨"SharedLogModel", "cell", "(II)I"⟩, 26), (⟨"SharedLogModel", "copy", "(II)V"⟩, 26), (⟨"SharedLogModel", "lastCell", "(II)I"⟩, 26), (⟨"SharedLogModel", "ones", "(I)I"⟩, 26), (⟨"SharedLogModel", "badRow", "(I)Z"⟩, 26), (⟨"SharedLogModel", "upUnits", "(I)I"⟩, 26), (⟨"SharedLogModel", "sealRow", "(I)V"⟩, 26)]
theorem lw_r2 : ∀ q ∈ lw_privs_2, lw_okq q := List.forall_mem_cons.mpr ⟨lw_p16, List.forall_mem_cons.mpr ⟨lw_p17, List.forall_mem_cons.mpr ⟨lw_p18, List.forall_mem_cons.mpr ⟨lw_p19, List.forall_mem_cons.mpr ⟨lw_p20, List.forall_mem_cons.mpr ⟨lw_p21, List.forall_mem_cons.mpr ⟨lw_p22, List.forall_mem_cons.mpr ⟨lw_p23, List.forall_mem_cons.mpr ⟨lw_p24, List.forall_mem_cons.mpr ⟨lw_p25, List.forall_mem_cons.mpr ⟨lw_p26, List.forall_mem_cons.mpr ⟨lw_p27, List.forall_mem_cons.mpr ⟨lw_p28, List.forall_mem_cons.mpr ⟨lw_p29, List.forall_mem_cons.mpr ⟨lw_p30, List.forall_mem_cons.mpr ⟨lw_p31, fun _ h => absurd h List.not_mem_nil⟩⟩⟩⟩⟩⟩⟩⟩⟩⟩⟩⟩⟩⟩⟩⟩
theorem lw_p32 : lw_okq (⟨"SharedLogModel", "merge", "(III)V"⟩, 26) := ⟨⟨by decide +kernel, by decide +kernel⟩, List.mem_of_getElem? (i := 590) (by decide +kernel), List.mem_of_getElem? (i := 767) (by decide +kernel), List.mem_of_getElem? (i := 768) (by decide +kernel)⟩
theorem lw_p33 : lw_okq (⟨"SharedLogModel", "play", "(II)I"⟩, 26) := ⟨⟨by decide +kernel, by decide +kernel⟩, List.mem_of_getElem? (i := 590) (by decide +kernel), List.mem_of_getElem? (i := 783) (by decide +kernel), List.mem_of_getElem? (i := 784) (by decide +kernel)⟩
theorem lw_p34 : lw_okq (⟨"SharedLogModel", "sameAges", "(II[II)Z"⟩, 26) := ⟨⟨by decide +kernel, by decide +kernel⟩, List.mem_of_getElem? (i := 590) (by decide +kernel), List.mem_of_getElem? (i := 787) (by decide +kernel), List.mem_of_getElem? (i := 788) (by decide +kernel)⟩
theorem lw_p35 : lw_okq (⟨"SharedLogModel", "place", "(III)V"⟩, 26) := ⟨⟨by decide +kernel, by decide +kernel⟩, List.mem_of_getElem? (i := 590) (by decide +kernel), List.mem_of_getElem? (i := 791) (by decide +kernel), List.mem_of_getElem? (i := 792) (by decide +kernel)⟩
def lw_privs_3 : List (MethodName × Nat) := [(⟨"SharedLogModel", "merge", "(III)V"⟩, 26), (⟨"SharedLogModel", "play", "(II)I"⟩, 26), (⟨"SharedLogModel", "sameAges", "(II[II)Z"⟩, 26), (⟨"SharedLogModel", "place", "(III)V"⟩, 26)]
theorem lw_r3 : ∀ q ∈ lw_privs_3, lw_okq q := List.forall_mem_cons.mpr ⟨lw_p32, List.forall_mem_cons.mpr ⟨lw_p33, List.forall_mem_cons.mpr ⟨lw_p34, List.forall_mem_cons.mpr ⟨lw_p35, fun _ h => absurd h List.not_mem_nil⟩⟩⟩⟩
def lw_privs : List (MethodName × Nat) := lw_privs_1 ++ (lw_privs_2 ++ (lw_privs_3))
def lw_tbl : List Cond := k2_sels lw_privs ++ tables_1
theorem lw_privs_ok : ∀ q ∈ lw_privs, lw_okq q := by
  show ∀ q ∈ lw_privs_1 ++ (lw_privs_2 ++ (lw_privs_3)), lw_okq q
  exact List.forall_mem_append.mpr ⟨lw_r1, List.forall_mem_append.mpr ⟨lw_r2, lw_r3⟩⟩
end
section
/-! ===== BEGIN words of one list among another's, by their places ===== -/
theorem goodIn_r {big : List Cond} (ws : List Cond) (ps : List Nat) (hp : ws = ps.filterMap (fun i => big[i]?)) (h : ws.all goodWord = true) : GoodIn big ws := by
  intro w hw
  have h1 := List.all_eq_true.mp h w hw
  rw [hp] at hw
  obtain ⟨i, -, hi⟩ := List.mem_filterMap.mp hw
  have hm : w ∈ big := by first | exact List.mem_of_getElem? hi | exact List.getElem?_mem hi
  exact ⟨hm, good_of_word h1⟩
theorem goodIn_app {big a b : List Cond} (ha : GoodIn big a) (hb : GoodIn big b) : GoodIn big (a ++ b) := fun w h => (List.mem_append.mp h).elim (ha w) (hb w)
theorem goodIn_ca {big a b : List Cond} {c : Cond} (ha : GoodIn big (c :: a)) (hb : GoodIn big b) : GoodIn big (c :: (a ++ b)) := fun w h => (List.mem_cons.mp h).elim (fun e => ha w (List.mem_cons.mpr (Or.inl e))) (fun h => (List.mem_append.mp h).elim (fun h => ha w (List.mem_cons.mpr (Or.inr h))) (hb w))
theorem goodIn_sub {big ws : List Cond} (hm : ∀ w ∈ ws, w ∈ big) (h : ws.all goodWord = true) : GoodIn big ws := fun w hw => ⟨hm w hw, good_of_word (List.all_eq_true.mp h w hw)⟩
/-! ===== END ===== -/

/-! ===== BEGIN exceptions that leave a method, and their catching by the caller (launches without stack traces) ===== -/
section VXA
/-! The laws vx_back, vx_callV, vx_callS, vx_callSW, vx_throw0, vx_throwS follow proofs of the library, with one case more: JvmDerived/Free/Laws.lean (Back.of_free), Shelf42/LK1.lean (callV, callS), Shelf/KitTraced.lean (throwNew0V, throwNewS). -/
/-- where a method has thrown q: the class by its name, the cell, what was written, the world -/
def vx_T (XC : String → State → State → Prop) (st : State) (q : Addr) (t : State) (mc ms : Nat) (free : Addr → Prop) : Prop :=
  ∃ (E : String) (ce : Cell) (L : List Loc), XC E st t ∧ t.heap[q]? = some ce ∧ ce.vm = .none ∧ st.vm.findClass E = some ce.cls ∧ st.WarmedH t.vm ∧ st.sameButNew ({ t with vm := st.vm } : State) L mc ms ∧ ∀ z ∈ L, free z.base
def vx_Q (Qc : Array Value → State → Outcome → State → Prop) (XC : String → State → State → Prop) (mc ms : Nat) (free : Addr → Prop) : Array Value → State → Outcome → State → Prop := fun a st o t =>
  (Qc a st o t ∧ ∃ L, FrameEnd st o t L mc ms ∧ ∀ q ∈ L, free q.base) ∨ ∃ q, o = .threw q ∧ vx_T XC st q t mc ms free
/-- a callee that returns or throws -/
def vx_Met (l : Launch) (y : MethodName) (ws : List Cond) (rm : Room) (Pc : Array Value → State → Prop) (Qc : Array Value → State → Outcome → State → Prop) (XC : String → State → State → Prop) (mc ms : Nat) (free : Addr → Prop) : Prop :=
  MetFree l y (headSpec ws rm) Pc (fun _ _ _ _ _ => True) (vx_Q Qc XC mc ms free)
def vx_Post (XC : String → State → State → Prop) (mc ms : Nat) (free : Addr → Prop) : Pt → Array Value → Addr → Pt → Prop := fun A a q B =>
  ∃ (g : JFrame) (mk : MethodId) (t : State) (L : List Loc) (E : String) (ce : Cell), B.U.heap = t.heap ∧ B.U.vm = t.vm ∧ XC E (A.U.calling g mk a) t ∧ t.heap[q]? = some ce ∧ ce.vm = .none ∧ A.U.vm.findClass E = some ce.cls ∧ B.locs = A.locs ++ L ∧ (∀ z ∈ L, free z.base) ∧ B.cells = A.cells + mc ∧ B.slots = A.slots + ms
def vx_Back (l : Launch) (R : Room) (p : Program) (e : Env) (below : List Frame) (s : State) (sargs : Array Value) (y : MethodName) (len W9 : Nat)
    (Pre : Pt → Array Value → Prop) (Post : Pt → Array Value → Option Value → Pt → Prop) (PostX : Pt → Array Value → Addr → Pt → Prop) : Prop :=
  ∀ (m : MethodId) (meth : Method) (c : Code) (A : Pt) (g : JFrame) (ig : Instr) (mk : MethodId) (a : Array Value),
    Stand p l e R s m sargs below meth c A.U A.locs A.cells A.slots → g.method = m → g.locals.size = c.maxLocals → decode c.code g.pc = .ok (ig, len) →
    2 * g.monitorRoom + (g.stack.map fun v => v.category).sum ≤ W9 → A.U.methodNamed? y = some mk → Pre A a →
    (∃ (v : Option Value) (B : Pt), Stand p l e R s m sargs below meth c B.U B.locs B.cells B.slots ∧ Post A a v B ∧
      Steps p.tables e below (doInvoke e (A.U.setTop g) [] mk a).1 (B.U.setTop { g with pc := g.pc + len, stack := v.toList ++ g.stack })) ∨
    (∃ (q : Addr) (B : Pt), Stand p l e R s m sargs below meth c B.U B.locs B.cells B.slots ∧ PostX A a q B ∧
      Steps p.tables e below (doInvoke e (A.U.setTop g) [] mk a).1 ((B.U.setTop g).pushFrame (.throwing q)))
section Payer
variable {l : Launch} {R : Room} {p : Program} {e : Env} {below : List Frame} {s : State} {sargs : Array Value} {y : MethodName} {len W9 : Nat}
theorem vx_back {ws : List Cond} {rm : Room} {Pc : Array Value → State → Prop} {Qc : Array Value → State → Outcome → State → Prop} {XC : String → State → State → Prop} {mc ms : Nat} {free : Addr → Prop} {bytes : ByteArray} {maxL : Nat} {ret : Option FieldType}
    (hM : vx_Met l y ws rm Pc Qc XC mc ms free) (hblind : FrameBlind Pc) (hrc : rm.cells = mc) (hrs : rm.slots = ms)
    (hframes : rm.frames + 1 ≤ R.frames) (hlocals : W9 + (maxL + 11) + rm.locals ≤ R.locals)
    (hws : ∀ w ∈ ws, ∀ a' U, s.WarmedH U.vm → w.before a' U = true) (hcode : Cond.code y bytes maxL ret ∈ ws) (hinit : ∀ a' U, s.WarmedH U.vm → (Cond.initialized y.cls).before a' U = true) :
    vx_Back l R p e below s sargs y len W9 (PreOf R mc ms Pc) (PostOf Qc mc ms free) (vx_Post XC mc ms free) := by
  intro m meth c A g ig mk a X hg hsize hdg hW hn hp
  have h1 : (headSpec ws rm).pre.before a A.U = true := atoms_intro fun w hw => hws w hw _ _ X.warmed
  have h2 : (Cond.code y bytes maxL ret).before a A.U = true := hws _ hcode _ _ X.warmed
  have h3 : (Cond.initialized y.cls).before a A.U = true := hinit _ _ X.warmed
  have h4 : A.cells + (headSpec ws rm).room.cells ≤ R.cells := by rw [show (headSpec ws rm).room.cells = mc from hrc]; exact hp.1
  have h5 : A.slots + (headSpec ws rm).room.slots ≤ R.slots := by rw [show (headSpec ws rm).room.slots = ms from hrs]; exact hp.2.1
  have hPc : Pc a (A.U.calling g mk a) := hblind _ _ _ _ hp.2.2
  obtain ⟨U, Ls, c0, s0⟩ := A
  dsimp only [Pt.U, Pt.locs, Pt.cells, Pt.slots] at h1 h2 h3 h4 h5 X hn hPc ⊢
  obtain ⟨methY, cY, hmY, hcY, -, hlY, -, -, -, -⟩ := Cond.code_spec hn h2
  obtain ⟨kY, hkY, -⟩ := className_of_methodNamed hn
  have hinitY : kY.init = .initialized := Cond.initialized_spec (findClass_of_methodNamed hn) hkY h3
  have h : At U g.method c below := by rw [hg]; exact X.here
  have hlocals9 : W9 + (maxL + 11) + (headSpec ws rm).room.locals ≤ R.locals := hlocals
  have happ : (headSpec ws rm).appliesLoose y e.platform (U.calling g mk a) = true :=
    Spec.appliesLoose_calling (g := g) h hdg hn hkY hinitY
      (X.room_calling (g := g) (R' := (headSpec ws rm).room) hsize hmY hcY hframes (by rw [hlY]; omega) h4 h5) h1
  obtain ⟨mid, hmid⟩ := h.above
  have hfr : (U.setTop g).frames = (.java g :: mid) ++ below := by rw [State.frames_setTop' g h.top, hmid]; rfl
  obtain ⟨o, s₂, hsteps, -, hend, hq⟩ := Steps.callFree hM p X.admits X.cas X.clock (acts := []) hfr happ hPc trivial
  have hq' : vx_Q Qc XC mc ms free a (U.calling g mk a) o s₂ := hq
  rw [State.frames_setTop' g h.top] at hend
  obtain ⟨g₀, hg0⟩ := Option.isSome_iff_exists.mp h.top
  obtain ⟨r, hr⟩ := State.topJava?_eq_some.mp hg0
  have hr' : (({ U with heap := s₂.heap, slotsUsed := s₂.slotsUsed } : State).setVm s₂.vm).frames = .java g₀ :: r := hr
  rcases hq' with ⟨hqc, L, hfe, hL⟩ | ⟨q, rfl, E, ce, L, hx, hce, hcv, hcl, hW₂, hsm, hL⟩
  · obtain ⟨⟨v, rfl⟩, hW₂, e2, q2, q3, q4, q5, q6⟩ := id hfe
    have e3 : s₂ = ({ (U.calling g mk a).setFrames s₂.frames with heap := s₂.heap, slotsUsed := s₂.slotsUsed } : State).setVm s₂.vm := by
      have : s₂ = ({ s₂ with vm := (U.calling g mk a).vm } : State).setVm s₂.vm := rfl
      rw [e2] at this
      exact this
    obtain ⟨c₂, i₂, len₂, hc₂, hd₂, hf₂⟩ := hend
    have hW' : U.WarmedH s₂.vm := hW₂
    have hcc : c₂ = c := by
      have h1 : s₂.code? g.method = U.code? g.method := by
        rw [State.code?_eq, State.code?_eq, hW'.alike.method?]
      exact Option.some.inj (hc₂.symm.trans (h1.trans h.code))
    subst hcc
    have hlen : len₂ = len := by rw [hdg] at hd₂; cases hd₂; rfl
    subst hlen
    have hs₂ : s₂ = (({ U with heap := s₂.heap, slotsUsed := s₂.slotsUsed } : State).setVm s₂.vm).setTop { g with pc := g.pc + len₂, stack := v.toList ++ g.stack } := by
      refine e3.trans ?_
      rw [hf₂, State.calling_eq h.top, State.setFrames_setFrames, State.setTop_of_frames _ hr', hr]
      rfl
    have hsame : U.sameButNew ({ U with heap := s₂.heap, slotsUsed := s₂.slotsUsed } : State) L mc ms := by
      refine ⟨?_, q2, q3, q4, q5, q6⟩
      obtain ⟨t, ht, -⟩ := State.frames_cons hr
      show ({ U with heap := s₂.heap, slotsUsed := s₂.slotsUsed } : State) = { U.setFrames U.frames with heap := s₂.heap, slotsUsed := s₂.slotsUsed }
      rw [State.setFrames_self ht]
    subst hg
    refine Or.inl ⟨v, ⟨(({ U with heap := s₂.heap, slotsUsed := s₂.slotsUsed } : State).setVm s₂.vm), Ls ++ L, c0 + mc, s0 + ms⟩,
      ⟨X.admits, X.cas, X.clock, X.frames, X.room, X.hears, X.method, X.code, (X.here.setHeapUsed s₂.heap s₂.slotsUsed).setVm hW'.alike, X.tail, State.WarmedH.trans X.warmed hW', X.limits, X.bytes, X.same.trans (hsame.setVm s.vm)⟩,
      ⟨g, mk, s₂, L, rfl, rfl, hqc, rfl, hL, rfl, rfl⟩, ?_⟩
    show Steps p.tables e below _ ((({ U with heap := s₂.heap, slotsUsed := s₂.slotsUsed } : State).setVm s₂.vm).setTop { g with pc := g.pc + len₂, stack := v.toList ++ g.stack })
    rw [← hs₂]
    exact hsteps
  · obtain ⟨e2, q2, q3, q4, q5, q6⟩ := id hsm
    have e3 : s₂ = ({ (U.calling g mk a).setFrames s₂.frames with heap := s₂.heap, slotsUsed := s₂.slotsUsed } : State).setVm s₂.vm := by
      have : s₂ = ({ s₂ with vm := (U.calling g mk a).vm } : State).setVm s₂.vm := rfl
      rw [e2] at this
      exact this
    have hf₂ : s₂.frames = .throwing q :: .java g :: U.frames.tail := hend
    have hW' : U.WarmedH s₂.vm := hW₂
    have hs₂ : s₂ = ((({ U with heap := s₂.heap, slotsUsed := s₂.slotsUsed } : State).setVm s₂.vm).setTop g).pushFrame (.throwing q) := by
      refine e3.trans ?_
      rw [hf₂, State.calling_eq h.top, State.setFrames_setFrames, State.pushFrame, State.frames_setTop _ hr', State.setTop_of_frames _ hr', State.setFrames_setFrames, hr]
      rfl
    have hsame : U.sameButNew ({ U with heap := s₂.heap, slotsUsed := s₂.slotsUsed } : State) L mc ms := by
      refine ⟨?_, q2, q3, q4, q5, q6⟩
      obtain ⟨t, ht, -⟩ := State.frames_cons hr
      show ({ U with heap := s₂.heap, slotsUsed := s₂.slotsUsed } : State) = { U.setFrames U.frames with heap := s₂.heap, slotsUsed := s₂.slotsUsed }
      rw [State.setFrames_self ht]
    subst hg
    refine Or.inr ⟨q, ⟨(({ U with heap := s₂.heap, slotsUsed := s₂.slotsUsed } : State).setVm s₂.vm), Ls ++ L, c0 + mc, s0 + ms⟩,
      ⟨X.admits, X.cas, X.clock, X.frames, X.room, X.hears, X.method, X.code, (X.here.setHeapUsed s₂.heap s₂.slotsUsed).setVm hW'.alike, X.tail, State.WarmedH.trans X.warmed hW', X.limits, X.bytes, X.same.trans (hsame.setVm s.vm)⟩,
      ⟨g, mk, s₂, L, E, ce, rfl, rfl, hx, hce, hcv, hcl, rfl, hL, rfl, rfl⟩, ?_⟩
    show Steps p.tables e below _ (((({ U with heap := s₂.heap, slotsUsed := s₂.slotsUsed } : State).setVm s₂.vm).setTop g).pushFrame (.throwing q))
    rw [← hs₂]
    exact hsteps
end Payer
section Calls
variable {p : Program} {l : Launch} {e : Env} {R : Room} {s : State} {m : MethodId} {args : Array Value} {below : List Frame} {meth : Method} {c : Code} {T : State} {locs : List Loc} {cells slots : Nat}
theorem vx_callV (X : Stand p l e R s m args below meth c T locs cells slots) (hexec : p.tables.exec = Jvm.exec) {own C : String} {index : Nat} {y : MethodName} {bytes : ByteArray} {maxL : Nat} {ret : Option FieldType}
    (hown : s.vm.findClass own = some m.cls) (hlink : (Cond.methodLink own index y).before args s = true) (hinst : (Cond.instanceMethod y).before args s = true) (hsel : (Cond.selects C y y).before args s = true)
    (hcode : (Cond.code y bytes maxL ret).before args s = true) (hy : y.cls ≠ "java/lang/invoke/MethodHandle" ∧ y.cls ≠ "java/lang/invoke/VarHandle")
    {W9 : Nat} {Pre : Pt → Array Value → Prop} {Post : Pt → Array Value → Option Value → Pt → Prop} {PostX : Pt → Array Value → Addr → Pt → Prop} (hK : vx_Back l R p e below s args y 3 W9 Pre Post PostX)
    {b : Addr} {cellB : Cell} (hcell : T.heap[b]? = some cellB) (hobj : cellB.vm.isStatics = false) (hcls : s.vm.findClass C = some cellB.cls)
    {g : JFrame} (hg : g.method = m) (hsize : g.locals.size = c.maxLocals) {argsL rest : List Value} (hlen : ∀ sig, parseMethodDescriptor y.desc = some sig → argsL.length = sig.parameters.length)
    (hstack : g.stack = argsL.reverse ++ .ref b :: rest) (hW : 2 * g.monitorRoom + (rest.map fun v => v.category).sum ≤ W9) (hdg : decode c.code g.pc = .ok (.invokevirtual index, 3))
    (hpre : ∀ vm₁, s.WarmedH vm₁ → Pre ⟨T.setVm vm₁, locs, cells, slots⟩ (Value.ref b :: argsL).toArray) :
    (∃ (v : Option Value) (vm₁ : Vm) (B : Pt), s.WarmedH vm₁ ∧ Stand p l e R s m args below meth c B.U B.locs B.cells B.slots ∧ Post ⟨T.setVm vm₁, locs, cells, slots⟩ (Value.ref b :: argsL).toArray v B ∧
      ∀ target, Steps p.tables e below (B.U.setTop { g with pc := g.pc + 3, stack := v.toList ++ rest }) target → Steps p.tables e below (T.setTop g) target) ∨
    (∃ (q : Addr) (vm₁ : Vm) (B : Pt), s.WarmedH vm₁ ∧ Stand p l e R s m args below meth c B.U B.locs B.cells B.slots ∧ PostX ⟨T.setVm vm₁, locs, cells, slots⟩ (Value.ref b :: argsL).toArray q B ∧
      Steps p.tables e below (T.setTop g) ((B.U.setTop { g with stack := rest }).pushFrame (.throwing q))) := by
  obtain ⟨mk, methM, hnamed, hmethM, hstM, habM⟩ := Cond.instanceMethod_spec hinst
  obtain ⟨methM', cM, hmethM', -, -, -, -, -, -, hsigM⟩ := Cond.code_spec hnamed hcode
  cases hmethM.symm.trans hmethM'
  obtain ⟨c2, r2, m2, q1, q2, q3, q4, kP, hkP, hkPi⟩ := Cond.selects_spec hsel
  cases hcls.symm.trans q1
  cases (State.methodFound?_of_named hnamed hy).symm.trans q2
  cases hnamed.symm.trans q3
  have hselP : selectMethod e.platform s.vm cellB.cls mk = .method mk := by rw [Launch.admits_selectMethod X.admits]; exact q4
  obtain ⟨vm₁, X₁, hstep₁⟩ := X.invokevirtual hexec hown hlink hnamed hmethM hstM hkP hkPi hy (a := b) (cell := cellB) hcell
    (fun z h => by rw [h] at hobj; cases hobj) hselP hmethM habM hkP hkPi (g := g) hg (argsL := argsL) (rest := rest) (hlen _ hsigM) hstack hdg
  rcases hK m meth c ⟨T.setVm vm₁, locs, cells, slots⟩ { g with stack := rest } (.invokevirtual index) mk (Value.ref b :: argsL).toArray X₁ hg hsize hdg hW (X₁.named hnamed) (hpre vm₁ X₁.warmed) with ⟨v, B, X', hpost, hsteps⟩ | ⟨q, B, X', hpost, hsteps⟩
  · exact Or.inl ⟨v, vm₁, B, X₁.warmed, X', hpost, fun target h => hstep₁ _ fun acts => by rw [doInvoke_state]; exact hsteps.trans h⟩
  · exact Or.inr ⟨q, vm₁, B, X₁.warmed, X', hpost, hstep₁ _ fun acts => by rw [doInvoke_state]; exact hsteps⟩
theorem vx_callS (X : Stand p l e R s m args below meth c T locs cells slots) (hexec : p.tables.exec = Jvm.exec) {own : String} {index : Nat} {y : MethodName} {bytes : ByteArray} {maxL : Nat} {ret : Option FieldType}
    (hown : s.vm.findClass own = some m.cls) (hlink : (Cond.methodLink own index y).before args s = true) (hstat : (Cond.static y).before args s = true) (hinit : (Cond.initialized y.cls).before args s = true)
    (hcode : (Cond.code y bytes maxL ret).before args s = true) (hy : y.cls ≠ "java/lang/invoke/MethodHandle" ∧ y.cls ≠ "java/lang/invoke/VarHandle")
    {W9 : Nat} {Pre : Pt → Array Value → Prop} {Post : Pt → Array Value → Option Value → Pt → Prop} {PostX : Pt → Array Value → Addr → Pt → Prop} (hK : vx_Back l R p e below s args y 3 W9 Pre Post PostX)
    {g : JFrame} (hg : g.method = m) (hsize : g.locals.size = c.maxLocals) {argsL rest : List Value} (hlen : ∀ sig, parseMethodDescriptor y.desc = some sig → argsL.length = sig.parameters.length)
    (hstack : g.stack = argsL.reverse ++ rest) (hW : 2 * g.monitorRoom + (rest.map fun v => v.category).sum ≤ W9) (hdg : decode c.code g.pc = .ok (.invokestatic index, 3))
    (hpre : ∀ vm₁, s.WarmedH vm₁ → Pre ⟨T.setVm vm₁, locs, cells, slots⟩ argsL.toArray) :
    (∃ (v : Option Value) (vm₁ : Vm) (B : Pt), s.WarmedH vm₁ ∧ Stand p l e R s m args below meth c B.U B.locs B.cells B.slots ∧ Post ⟨T.setVm vm₁, locs, cells, slots⟩ argsL.toArray v B ∧
      ∀ target, Steps p.tables e below (B.U.setTop { g with pc := g.pc + 3, stack := v.toList ++ rest }) target → Steps p.tables e below (T.setTop g) target) ∨
    (∃ (q : Addr) (vm₁ : Vm) (B : Pt), s.WarmedH vm₁ ∧ Stand p l e R s m args below meth c B.U B.locs B.cells B.slots ∧ PostX ⟨T.setVm vm₁, locs, cells, slots⟩ argsL.toArray q B ∧
      Steps p.tables e below (T.setTop g) ((B.U.setTop { g with stack := rest }).pushFrame (.throwing q))) := by
  obtain ⟨mk, hnamed⟩ := Cond.code_named hcode
  obtain ⟨methM, cM, hmethM, -, -, -, -, -, -, hsigM⟩ := Cond.code_spec hnamed hcode
  have hstatic : methM.isStatic = true := Cond.static_spec hnamed hmethM hstat
  obtain ⟨kP, hkP, -⟩ := className_of_methodNamed hnamed
  have hinitP : kP.init = .initialized := Cond.initialized_spec (findClass_of_methodNamed hnamed) hkP hinit
  obtain ⟨vm₁, X₁, hstep₁⟩ := X.invokestatic hexec hown hlink hnamed hmethM hstatic hkP hinitP hy (g := g) hg (argsL := argsL) (rest := rest) (hlen _ hsigM) hstack hdg
  rcases hK m meth c ⟨T.setVm vm₁, locs, cells, slots⟩ { g with stack := rest } (.invokestatic index) mk argsL.toArray X₁ hg hsize hdg hW (X₁.named hnamed) (hpre vm₁ X₁.warmed) with ⟨v, B, X', hpost, hsteps⟩ | ⟨q, B, X', hpost, hsteps⟩
  · exact Or.inl ⟨v, vm₁, B, X₁.warmed, X', hpost, fun target h => hstep₁ _ fun acts => by rw [doInvoke_state]; exact hsteps.trans h⟩
  · exact Or.inr ⟨q, vm₁, B, X₁.warmed, X', hpost, hstep₁ _ fun acts => by rw [doInvoke_state]; exact hsteps⟩
end Calls
theorem vx_cls {s : State} {T : State} {vm₁ : Vm} {E : String} {k : ClassId} (hW : s.WarmedH vm₁) (h : (T.setVm vm₁).vm.findClass E = some k) : s.vm.findClass E = some k := by
  have h1 : vm₁.findClass E = some k := h
  rw [hW.alike.findClass] at h1
  exact h1
/-- the method's frame g, with q thrown over it -/
def vx_W (p : Program) (l : Launch) (e : Env) (R : Room) (s : State) (m : MethodId) (args : Array Value) (below : List Frame) (meth : Method) (c : Code) (H : Heap) (locs : List Loc) (cells slots : Nat) (Q : State → Prop) (g : JFrame) (q : Addr) : Prop :=
  ∀ T : State, T.heap = H → Stand p l e R s m args below meth c T locs cells slots → ∃ t, Steps p.tables e below ((T.setTop g).pushFrame (.throwing q)) t ∧ Q t
def vx_Run (p : Program) (l : Launch) (e : Env) (R : Room) (s : State) (m : MethodId) (args : Array Value) (below : List Frame) (meth : Method) (c : Code) (H : Heap) (locs : List Loc) (cells slots mc ms : Nat) (g : JFrame) (rest : List Value) (Qa : State → Outcome → State → Prop) (XC : String → State → State → Prop) (free : Addr → Prop) : Prop :=
  ∀ T : State, T.heap = H → Stand p l e R s m args below meth c T locs cells slots →
    (∃ (v : Option Value) (st₀ t T' : State) (L : List Loc), st₀.heap = H ∧ Stand p l e R s m args below meth c T' (locs ++ L) (cells + mc) (slots + ms) ∧ (∀ q ∈ L, free q.base) ∧ T'.heap = t.heap ∧ T'.vm = t.vm ∧ Qa st₀ (.returned v) t ∧
      Goes p e below T g T' { g with pc := g.pc + 3, stack := v.toList ++ rest }) ∨
    (∃ (q : Addr) (st₀ t T' : State) (L : List Loc) (E : String) (ce : Cell), st₀.heap = H ∧ Stand p l e R s m args below meth c T' (locs ++ L) (cells + mc) (slots + ms) ∧ (∀ z ∈ L, free z.base) ∧ T'.heap = t.heap ∧ T'.vm = t.vm ∧ XC E st₀ t ∧ t.heap[q]? = some ce ∧ ce.vm = .none ∧ s.vm.findClass E = some ce.cls ∧
      Steps p.tables e below (T.setTop g) ((T'.setTop { g with stack := rest }).pushFrame (.throwing q)))
def vx_X {S : Type} (px : S → Prop) (B : String → S → State → Prop) (A : Nat → Prop) : String → State → State → Prop := fun E st t => ∃ u : S, px u ∧ B E u t ∧ va_F A st t
section Runs
variable {p : Program} {l : Launch} {e : Env} {R : Room} {s : State} {m : MethodId} {args : Array Value} {below : List Frame} {meth : Method} {c : Code} {H : Heap} {locs : List Loc} {cells slots : Nat}
variable {y : MethodName} {bytes cc : ByteArray} {maxL nL mc ms n index : Nat} {ret : Option FieldType} {ws : List Cond} {rm : Room} {Pc : Array Value → State → Prop} {Qc : Array Value → State → Outcome → State → Prop} {XC : String → State → State → Prop} {free : Addr → Prop} {Ts : List Cond} {own C : String} {b : Addr} {As rest : List Value} {g : JFrame}
theorem vx_callBack (cb : CallB R s args own index y bytes maxL ret ws rm mc ms n) (hM : vx_Met l y ws rm Pc Qc XC mc ms free) (hbl : FrameBlind Pc) : vx_Back l R p e below s args y 3 8 (PreOf R mc ms Pc) (PostOf Qc mc ms free) (vx_Post XC mc ms free) := by
  obtain ⟨hrc, hrs, hfr, hlo, hws, hcw, -, hini, -⟩ := cb
  exact vx_back (bytes := bytes) (maxL := maxL) (ret := ret) hM hbl hrc hrs hfr hlo hws hcw (fun a' U hW => word_at hW (Or.inl (by first | rfl | simp [Cond.onTables, Cond.keeps, Cond.steady])) hini)
theorem vx_runV (S : CallFix p m c cc nL s args Ts own) (hM : vx_Met l y ws rm Pc Qc XC mc ms free) (cw : CallW R s args own C index y bytes maxL ret ws rm mc ms n) (hp : PreV s H C b Pc As)
    (hg : g.method = m) (hn : As.length = n) (hsize : g.locals.size = nL) (hstack : g.stack = As.reverse ++ .ref b :: rest) (hW : 2 * g.monitorRoom + (rest.map fun v => v.category).sum ≤ 8) (hdg : decode cc g.pc = .ok (.invokevirtual index, 3)) (hf : cells + mc ≤ R.cells ∧ slots + ms ≤ R.slots) :
    vx_Run p l e R s m args below meth c H locs cells slots mc ms g rest (Qc (Value.ref b :: As).toArray) XC free := by
  have hK : vx_Back l R p e below s args y 3 8 (PreOf R mc ms Pc) (PostOf Qc mc ms free) (vx_Post XC mc ms free) := vx_callBack cw.1 hM hp.1
  obtain ⟨⟨-, -, -, -, -, -, hcode, -, hy, hlen, hl⟩, hin, hse⟩ := cw
  obtain ⟨hx, hb, hml, ho, -⟩ := S
  obtain ⟨-, ⟨cellB, hcB, hoB, hclB⟩, hPc⟩ := hp
  intro T hT X
  rcases vx_callV X hx (C := C) (bytes := bytes) (maxL := maxL) (ret := ret) ho hl hin hse hcode hy hK (by rw [hT]; exact hcB) hoB hclB hg (hsize.trans hml.symm) (argsL := As) (rest := rest) (fun sig h => hn.trans (hlen sig h)) hstack hW (by rw [hb]; exact hdg)
    (fun vm₁ hW₁ => ⟨hf.1, hf.2, hPc (T.setVm vm₁) hT hW₁⟩) with ⟨v, vm₁, ⟨U', l2, c2, s2⟩, hW₁, X', ⟨g', mk, t, L, e1, e2, hq, h1, hL, h2, h3⟩, st⟩ | ⟨q, vm₁, ⟨U', l2, c2, s2⟩, hW₁, X', ⟨g', mk, t, L, E, ce, e1, e2, hq, hce, hcv, hcl, h1, hL, h2, h3⟩, st⟩
  · dsimp only [Pt.U, Pt.locs, Pt.cells, Pt.slots] at X' e1 e2 h1 h2 h3 st
    subst h1; subst h2; subst h3
    exact Or.inl ⟨v, (T.setVm vm₁).calling g' mk (Value.ref b :: As).toArray, t, U', L, hT, X', hL, e1, e2, hq, st⟩
  · dsimp only [Pt.U, Pt.locs, Pt.cells, Pt.slots] at X' e1 e2 h1 h2 h3 st hcl
    subst h1; subst h2; subst h3
    exact Or.inr ⟨q, (T.setVm vm₁).calling g' mk (Value.ref b :: As).toArray, t, U', L, E, ce, hT, X', hL, e1, e2, hq, hce, hcv, vx_cls hW₁ hcl, st⟩
theorem vx_runS (S : CallFix p m c cc nL s args Ts own) (hM : vx_Met l y ws rm Pc Qc XC mc ms free) (cw : CallB R s args own index y bytes maxL ret ws rm mc ms n ∧ (Cond.static y).before args s = true) (hp : PreS s H Pc As)
    (hg : g.method = m) (hn : As.length = n) (hsize : g.locals.size = nL) (hstack : g.stack = As.reverse ++ rest) (hW : 2 * g.monitorRoom + (rest.map fun v => v.category).sum ≤ 8) (hdg : decode cc g.pc = .ok (.invokestatic index, 3)) (hf : cells + mc ≤ R.cells ∧ slots + ms ≤ R.slots) :
    vx_Run p l e R s m args below meth c H locs cells slots mc ms g rest (Qc As.toArray) XC free := by
  have hK : vx_Back l R p e below s args y 3 8 (PreOf R mc ms Pc) (PostOf Qc mc ms free) (vx_Post XC mc ms free) := vx_callBack cw.1 hM hp.1
  obtain ⟨⟨-, -, -, -, -, -, hcode, hini, hy, hlen, hl⟩, hstt⟩ := cw
  obtain ⟨hx, hb, hml, ho, -⟩ := S
  intro T hT X
  rcases vx_callS X hx (bytes := bytes) (maxL := maxL) (ret := ret) ho hl hstt hini hcode hy hK hg (hsize.trans hml.symm) (argsL := As) (rest := rest) (fun sig h => hn.trans (hlen sig h)) hstack hW (by rw [hb]; exact hdg)
    (fun vm₁ hW₁ => ⟨hf.1, hf.2, hp.2 (T.setVm vm₁) hT hW₁⟩) with ⟨v, vm₁, ⟨U', l2, c2, s2⟩, hW₁, X', ⟨g', mk, t, L, e1, e2, hq, h1, hL, h2, h3⟩, st⟩ | ⟨q, vm₁, ⟨U', l2, c2, s2⟩, hW₁, X', ⟨g', mk, t, L, E, ce, e1, e2, hq, hce, hcv, hcl, h1, hL, h2, h3⟩, st⟩
  · dsimp only [Pt.U, Pt.locs, Pt.cells, Pt.slots] at X' e1 e2 h1 h2 h3 st
    subst h1; subst h2; subst h3
    exact Or.inl ⟨v, (T.setVm vm₁).calling g' mk As.toArray, t, U', L, hT, X', hL, e1, e2, hq, st⟩
  · dsimp only [Pt.U, Pt.locs, Pt.cells, Pt.slots] at X' e1 e2 h1 h2 h3 st hcl
    subst h1; subst h2; subst h3
    exact Or.inr ⟨q, (T.setVm vm₁).calling g' mk As.toArray, t, U', L, E, ce, hT, X', hL, e1, e2, hq, hce, hcv, vx_cls hW₁ hcl, st⟩
end Runs
section Rows
variable {p : Program} {l : Launch} {e : Env} {R : Room} {s : State} {m : MethodId} {args : Array Value} {below : List Frame} {meth : Method} {c : Code} {H : Heap} {locs : List Loc} {cells slots : Nat} {Q : State → Prop}
variable {mc ms : Nat} {free : Addr → Prop} {A0 A1 : Nat → Prop} {H0 : Heap} {a : Array Value} {pc : Nat} {ls : Array Slot} {st0 rest : List Value}
theorem vx_keep {st₀ t T' : State} {L : List Loc} (h0 : st₀.heap = H) (e1 : T'.heap = t.heap) (hS : va_S A0 H0 H locs) (hA : ∀ q, q < H.size → A1 q → A0 q) (hf : ∀ q, free q → A0 q) (hL : ∀ q ∈ L, free q.base) (hF : va_F A1 st₀ t) :
    H.size ≤ T'.heap.size ∧ (∀ q : Nat, q < H.size → ¬ A1 q → T'.heap[q]? = H[q]?) ∧ va_S A0 H0 T'.heap (locs ++ L) := by
  obtain ⟨hz, hk⟩ := hF
  rw [h0] at hz hk
  exact ⟨by rw [e1]; exact hz, fun q h1 h2 => by rw [e1]; exact hk q h1 h2,
    ⟨Nat.le_trans hS.1 (by rw [e1]; exact hz), fun q h1 h2 => by rw [e1, hk q (Nat.lt_of_lt_of_le h1 hS.1) (fun z => h2 (hA q (Nat.lt_of_lt_of_le h1 hS.1) z))]; exact hS.2.1 q h1 h2, fun q hq => by
      rcases List.mem_append.mp hq with h | h
      · exact hS.2.2 q h
      · exact hf _ (hL q h)⟩⟩
theorem vx_calli {S SX : Type} {post : Int32 → S → Prop} {px : SX → Prop} {B : S → State → Prop} {BX : String → SX → State → Prop} {AX : Nat → Prop} (hr : vx_Run p l e R s m args below meth c H locs cells slots mc ms (F0 m pc ls st0) rest (va_Qi post B A1 a) (vx_X px BX AX) free) (hS : va_S A0 H0 H locs) (hA : ∀ q, q < H.size → A1 q → A0 q) (hf : ∀ q, free q → A0 q) (hAX : ∀ q, q < H.size → AX q → A0 q)
    (kx : ∀ (E : String) (ce : Cell) (q9 : Addr) (u : SX) (t : State) (H1 : Heap) (locs1 : List Loc), t.heap = H1 → s.vm.Alike t.vm → px u → BX E u t → H.size ≤ H1.size → (∀ q : Nat, q < H.size → ¬ AX q → H1[q]? = H[q]?) → va_S A0 H0 H1 locs1 → H1[q9]? = some ce → ce.vm = .none → s.vm.findClass E = some ce.cls → vx_W p l e R s m args below meth c H1 locs1 (cells + mc) (slots + ms) Q (F0 m pc ls rest) q9)
    (kk : ∀ (r : Int32) (u : S) (t : State) (H1 : Heap) (locs1 : List Loc), t.heap = H1 → s.vm.Alike t.vm → post r u → B u t → H.size ≤ H1.size → (∀ q : Nat, q < H.size → ¬ A1 q → H1[q]? = H[q]?) → va_S A0 H0 H1 locs1 → W p l e R s m args below meth c H1 locs1 (cells + mc) (slots + ms) Q (F0 m (pc + 3) ls (.int r :: rest))) : W p l e R s m args below meth c H locs cells slots Q (F0 m pc ls st0) := by
  intro T hT X
  rcases hr T hT X with ⟨v, st₀, t, T', L, h0, X', hL, e1, e2, ⟨⟨r, u, hv, hp, hb⟩, hF⟩, st⟩ | ⟨q, st₀, t, T', L, E, ce, h0, X', hL, e1, e2, ⟨u, hp, hb, hF⟩, hce, hcv, hcl, st⟩
  · cases hv
    obtain ⟨k1, k2, k3⟩ := vx_keep h0 e1 hS hA hf hL hF
    obtain ⟨t2, a1, b1⟩ := kk r u t T'.heap (locs ++ L) e1.symm (by rw [← e2]; exact X'.warmed.alike) hp hb k1 k2 k3 T' rfl X'
    exact ⟨t2, st t2 a1, b1⟩
  · obtain ⟨k1, k2, k3⟩ := vx_keep h0 e1 hS hAX hf hL hF
    obtain ⟨t2, a1, b1⟩ := kx E ce q u t T'.heap (locs ++ L) e1.symm (by rw [← e2]; exact X'.warmed.alike) hp hb k1 k2 k3 (by rw [e1]; exact hce) hcv hcl T' rfl X'
    exact ⟨t2, st.trans a1, b1⟩
theorem vx_calll {S SX : Type} {post : Int64 → S → Prop} {px : SX → Prop} {B : S → State → Prop} {BX : String → SX → State → Prop} {AX : Nat → Prop} (hr : vx_Run p l e R s m args below meth c H locs cells slots mc ms (F0 m pc ls st0) rest (va_Ql post B A1 a) (vx_X px BX AX) free) (hS : va_S A0 H0 H locs) (hA : ∀ q, q < H.size → A1 q → A0 q) (hf : ∀ q, free q → A0 q) (hAX : ∀ q, q < H.size → AX q → A0 q)
    (kx : ∀ (E : String) (ce : Cell) (q9 : Addr) (u : SX) (t : State) (H1 : Heap) (locs1 : List Loc), t.heap = H1 → s.vm.Alike t.vm → px u → BX E u t → H.size ≤ H1.size → (∀ q : Nat, q < H.size → ¬ AX q → H1[q]? = H[q]?) → va_S A0 H0 H1 locs1 → H1[q9]? = some ce → ce.vm = .none → s.vm.findClass E = some ce.cls → vx_W p l e R s m args below meth c H1 locs1 (cells + mc) (slots + ms) Q (F0 m pc ls rest) q9)
    (kk : ∀ (r : Int64) (u : S) (t : State) (H1 : Heap) (locs1 : List Loc), t.heap = H1 → s.vm.Alike t.vm → post r u → B u t → H.size ≤ H1.size → (∀ q : Nat, q < H.size → ¬ A1 q → H1[q]? = H[q]?) → va_S A0 H0 H1 locs1 → W p l e R s m args below meth c H1 locs1 (cells + mc) (slots + ms) Q (F0 m (pc + 3) ls (.long r :: rest))) : W p l e R s m args below meth c H locs cells slots Q (F0 m pc ls st0) := by
  intro T hT X
  rcases hr T hT X with ⟨v, st₀, t, T', L, h0, X', hL, e1, e2, ⟨⟨r, u, hv, hp, hb⟩, hF⟩, st⟩ | ⟨q, st₀, t, T', L, E, ce, h0, X', hL, e1, e2, ⟨u, hp, hb, hF⟩, hce, hcv, hcl, st⟩
  · cases hv
    obtain ⟨k1, k2, k3⟩ := vx_keep h0 e1 hS hA hf hL hF
    obtain ⟨t2, a1, b1⟩ := kk r u t T'.heap (locs ++ L) e1.symm (by rw [← e2]; exact X'.warmed.alike) hp hb k1 k2 k3 T' rfl X'
    exact ⟨t2, st t2 a1, b1⟩
  · obtain ⟨k1, k2, k3⟩ := vx_keep h0 e1 hS hAX hf hL hF
    obtain ⟨t2, a1, b1⟩ := kx E ce q u t T'.heap (locs ++ L) e1.symm (by rw [← e2]; exact X'.warmed.alike) hp hb k1 k2 k3 (by rw [e1]; exact hce) hcv hcl T' rfl X'
    exact ⟨t2, st.trans a1, b1⟩
theorem vx_callf {S SX : Type} {post : UInt32 → S → Prop} {px : SX → Prop} {B : S → State → Prop} {BX : String → SX → State → Prop} {AX : Nat → Prop} (hr : vx_Run p l e R s m args below meth c H locs cells slots mc ms (F0 m pc ls st0) rest (va_Qf post B A1 a) (vx_X px BX AX) free) (hS : va_S A0 H0 H locs) (hA : ∀ q, q < H.size → A1 q → A0 q) (hf : ∀ q, free q → A0 q) (hAX : ∀ q, q < H.size → AX q → A0 q)
    (kx : ∀ (E : String) (ce : Cell) (q9 : Addr) (u : SX) (t : State) (H1 : Heap) (locs1 : List Loc), t.heap = H1 → s.vm.Alike t.vm → px u → BX E u t → H.size ≤ H1.size → (∀ q : Nat, q < H.size → ¬ AX q → H1[q]? = H[q]?) → va_S A0 H0 H1 locs1 → H1[q9]? = some ce → ce.vm = .none → s.vm.findClass E = some ce.cls → vx_W p l e R s m args below meth c H1 locs1 (cells + mc) (slots + ms) Q (F0 m pc ls rest) q9)
    (kk : ∀ (r : UInt32) (u : S) (t : State) (H1 : Heap) (locs1 : List Loc), t.heap = H1 → s.vm.Alike t.vm → post r u → B u t → H.size ≤ H1.size → (∀ q : Nat, q < H.size → ¬ A1 q → H1[q]? = H[q]?) → va_S A0 H0 H1 locs1 → W p l e R s m args below meth c H1 locs1 (cells + mc) (slots + ms) Q (F0 m (pc + 3) ls (.float r :: rest))) : W p l e R s m args below meth c H locs cells slots Q (F0 m pc ls st0) := by
  intro T hT X
  rcases hr T hT X with ⟨v, st₀, t, T', L, h0, X', hL, e1, e2, ⟨⟨r, u, hv, hp, hb⟩, hF⟩, st⟩ | ⟨q, st₀, t, T', L, E, ce, h0, X', hL, e1, e2, ⟨u, hp, hb, hF⟩, hce, hcv, hcl, st⟩
  · cases hv
    obtain ⟨k1, k2, k3⟩ := vx_keep h0 e1 hS hA hf hL hF
    obtain ⟨t2, a1, b1⟩ := kk r u t T'.heap (locs ++ L) e1.symm (by rw [← e2]; exact X'.warmed.alike) hp hb k1 k2 k3 T' rfl X'
    exact ⟨t2, st t2 a1, b1⟩
  · obtain ⟨k1, k2, k3⟩ := vx_keep h0 e1 hS hAX hf hL hF
    obtain ⟨t2, a1, b1⟩ := kx E ce q u t T'.heap (locs ++ L) e1.symm (by rw [← e2]; exact X'.warmed.alike) hp hb k1 k2 k3 (by rw [e1]; exact hce) hcv hcl T' rfl X'
    exact ⟨t2, st.trans a1, b1⟩
theorem vx_calld {S SX : Type} {post : UInt64 → S → Prop} {px : SX → Prop} {B : S → State → Prop} {BX : String → SX → State → Prop} {AX : Nat → Prop} (hr : vx_Run p l e R s m args below meth c H locs cells slots mc ms (F0 m pc ls st0) rest (va_Qd post B A1 a) (vx_X px BX AX) free) (hS : va_S A0 H0 H locs) (hA : ∀ q, q < H.size → A1 q → A0 q) (hf : ∀ q, free q → A0 q) (hAX : ∀ q, q < H.size → AX q → A0 q)
    (kx : ∀ (E : String) (ce : Cell) (q9 : Addr) (u : SX) (t : State) (H1 : Heap) (locs1 : List Loc), t.heap = H1 → s.vm.Alike t.vm → px u → BX E u t → H.size ≤ H1.size → (∀ q : Nat, q < H.size → ¬ AX q → H1[q]? = H[q]?) → va_S A0 H0 H1 locs1 → H1[q9]? = some ce → ce.vm = .none → s.vm.findClass E = some ce.cls → vx_W p l e R s m args below meth c H1 locs1 (cells + mc) (slots + ms) Q (F0 m pc ls rest) q9)
    (kk : ∀ (r : UInt64) (u : S) (t : State) (H1 : Heap) (locs1 : List Loc), t.heap = H1 → s.vm.Alike t.vm → post r u → B u t → H.size ≤ H1.size → (∀ q : Nat, q < H.size → ¬ A1 q → H1[q]? = H[q]?) → va_S A0 H0 H1 locs1 → W p l e R s m args below meth c H1 locs1 (cells + mc) (slots + ms) Q (F0 m (pc + 3) ls (.double r :: rest))) : W p l e R s m args below meth c H locs cells slots Q (F0 m pc ls st0) := by
  intro T hT X
  rcases hr T hT X with ⟨v, st₀, t, T', L, h0, X', hL, e1, e2, ⟨⟨r, u, hv, hp, hb⟩, hF⟩, st⟩ | ⟨q, st₀, t, T', L, E, ce, h0, X', hL, e1, e2, ⟨u, hp, hb, hF⟩, hce, hcv, hcl, st⟩
  · cases hv
    obtain ⟨k1, k2, k3⟩ := vx_keep h0 e1 hS hA hf hL hF
    obtain ⟨t2, a1, b1⟩ := kk r u t T'.heap (locs ++ L) e1.symm (by rw [← e2]; exact X'.warmed.alike) hp hb k1 k2 k3 T' rfl X'
    exact ⟨t2, st t2 a1, b1⟩
  · obtain ⟨k1, k2, k3⟩ := vx_keep h0 e1 hS hAX hf hL hF
    obtain ⟨t2, a1, b1⟩ := kx E ce q u t T'.heap (locs ++ L) e1.symm (by rw [← e2]; exact X'.warmed.alike) hp hb k1 k2 k3 (by rw [e1]; exact hce) hcv hcl T' rfl X'
    exact ⟨t2, st.trans a1, b1⟩
theorem vx_callv {S SX : Type} {post : S → Prop} {px : SX → Prop} {B : S → State → Prop} {BX : String → SX → State → Prop} {AX : Nat → Prop} (hr : vx_Run p l e R s m args below meth c H locs cells slots mc ms (F0 m pc ls st0) rest (va_Qv post B A1 a) (vx_X px BX AX) free) (hS : va_S A0 H0 H locs) (hA : ∀ q, q < H.size → A1 q → A0 q) (hf : ∀ q, free q → A0 q) (hAX : ∀ q, q < H.size → AX q → A0 q)
    (kx : ∀ (E : String) (ce : Cell) (q9 : Addr) (u : SX) (t : State) (H1 : Heap) (locs1 : List Loc), t.heap = H1 → s.vm.Alike t.vm → px u → BX E u t → H.size ≤ H1.size → (∀ q : Nat, q < H.size → ¬ AX q → H1[q]? = H[q]?) → va_S A0 H0 H1 locs1 → H1[q9]? = some ce → ce.vm = .none → s.vm.findClass E = some ce.cls → vx_W p l e R s m args below meth c H1 locs1 (cells + mc) (slots + ms) Q (F0 m pc ls rest) q9)
    (kk : ∀ (u : S) (t : State) (H1 : Heap) (locs1 : List Loc), t.heap = H1 → s.vm.Alike t.vm → post u → B u t → H.size ≤ H1.size → (∀ q : Nat, q < H.size → ¬ A1 q → H1[q]? = H[q]?) → va_S A0 H0 H1 locs1 → W p l e R s m args below meth c H1 locs1 (cells + mc) (slots + ms) Q (F0 m (pc + 3) ls (rest))) : W p l e R s m args below meth c H locs cells slots Q (F0 m pc ls st0) := by
  intro T hT X
  rcases hr T hT X with ⟨v, st₀, t, T', L, h0, X', hL, e1, e2, ⟨⟨u, hv, hp, hb⟩, hF⟩, st⟩ | ⟨q, st₀, t, T', L, E, ce, h0, X', hL, e1, e2, ⟨u, hp, hb, hF⟩, hce, hcv, hcl, st⟩
  · cases hv
    obtain ⟨k1, k2, k3⟩ := vx_keep h0 e1 hS hA hf hL hF
    obtain ⟨t2, a1, b1⟩ := kk u t T'.heap (locs ++ L) e1.symm (by rw [← e2]; exact X'.warmed.alike) hp hb k1 k2 k3 T' rfl X'
    exact ⟨t2, st t2 a1, b1⟩
  · obtain ⟨k1, k2, k3⟩ := vx_keep h0 e1 hS hAX hf hL hF
    obtain ⟨t2, a1, b1⟩ := kx E ce q u t T'.heap (locs ++ L) e1.symm (by rw [← e2]; exact X'.warmed.alike) hp hb k1 k2 k3 (by rw [e1]; exact hce) hcv hcl T' rfl X'
    exact ⟨t2, st.trans a1, b1⟩
/-- caught by the row x of this method's table; the rows ahead don't take it -/
theorem vx_catch {own name : String} {E : String} {ce : Cell} {q : Addr} (hown : s.vm.findClass own = some m.cls) (pre : List ExceptionTableEntry) (x : ExceptionTableEntry) (suf : List ExceptionTableEntry) (hsplit : c.exceptionTable.toList = pre ++ x :: suf)
    (hpass : ∀ z ∈ pre, covers z pc = false ∨ (z.catchType ≠ 0 ∧ ∃ nm : String, (Cond.classLink own z.catchType nm).before args s = true ∧ va_Nc E nm s)) (hx : covers x pc = true) (h0 : x.catchType ≠ 0)
    (hlink : (Cond.classLink own x.catchType name).before args s = true) (hcast : (Cond.castable E name).before args s = true) (hcell : H[q]? = some ce) (hv : ce.vm = .none) (hcl : s.vm.findClass E = some ce.cls)
    (kk : W p l e R s m args below meth c H locs cells slots Q (F0 m x.handlerPc ls [.ref q])) : vx_W p l e R s m args below meth c H locs cells slots Q (F0 m pc ls rest) q := by
  intro T hT X
  have hpl : e.platform.magicAccessors = ({} : Platform).magicAccessors := by rw [X.admits.platform]
  obtain ⟨c3, c4, hc3, hc4, hasg⟩ := Cond.castable_spec hcast
  cases Option.some.inj (hc3.symm.trans hcl)
  obtain ⟨c5, hc5, hcl5⟩ := Cond.classLink_spec hown hlink e.platform hpl
  cases Option.some.inj (hc4.symm.trans hc5)
  obtain ⟨vm', X', st⟩ := X.thenCaughtThrough q (g := F0 m pc ls rest) rfl (Steps.refl _) (by rw [hT]; exact hcell) (by rw [hv]; rfl) (by obtain ⟨k9, h9, -⟩ := Vm.findClass_spec hcl; exact ⟨k9, h9⟩) pre x suf hsplit
    (fun z hz => by
      rcases hpass z hz with h | ⟨hz0, nm, hl1, hn1⟩
      · exact Or.inl h
      · obtain ⟨c6, hc6, hcl6⟩ := Cond.classLink_spec hown hl1 e.platform hpl
        obtain ⟨a8, b8, h1, h2, h3⟩ := hn1
        cases Option.some.inj (h1.symm.trans hcl)
        cases Option.some.inj (h2.symm.trans hc6)
        exact Or.inr ⟨hz0, _, hcl6, h3⟩) hx (Or.inr ⟨h0, c4, hcl5, hasg⟩)
  obtain ⟨t, a1, b1⟩ := kk (T.setVm vm') hT X'
  exact ⟨t, st.trans a1, b1⟩
end Rows
section Ends
variable {p : Program} {l : Launch} {e : Env} {R : Room} {s : State} {m : MethodId} {args : Array Value} {below : List Frame} {meth : Method} {c : Code} {H : Heap} {locs : List Loc} {cells slots : Nat} {Q : State → Prop}
variable {mc ms : Nat} {free : Addr → Prop} {A0 A1 : Nat → Prop} {H0 : Heap} {a : Array Value} {ls : Array Slot} {st0 rest : List Value}
variable {Qc : Array Value → State → Outcome → State → Prop} {XC : String → State → State → Prop}
/-- what a body that may throw owes at its end -/
def vx_MQ (below : List Frame) (Qc : Array Value → State → Outcome → State → Prop) (XC : String → State → State → Prop) (a : Array Value) (s : State) (mc ms : Nat) (free : Addr → Prop) : State → Prop := fun t =>
  ∃ o, t.status = .running ∧ Ended t below o ∧ vx_Q Qc XC mc ms free a s o t
theorem vx_ret {g : JFrame} {mc ms : Nat} (k : W p l e R s m args below meth c H locs cells slots (MQ below Qc args s mc ms free) g) : W p l e R s m args below meth c H locs cells slots (vx_MQ below Qc XC args s mc ms free) g := by
  intro T hT X
  obtain ⟨t, a1, o, b1, b2, b3, b4⟩ := k T hT X
  exact ⟨t, a1, o, b1, b2, Or.inl ⟨b3, b4⟩⟩
/-- not caught here: it goes on to the caller -/
theorem vx_widen {g : JFrame} {q : Addr} {k n : Nat} (h1 : cells ≤ k) (h2 : slots ≤ n) (kk : vx_W p l e R s m args below meth c H locs k n Q g q) : vx_W p l e R s m args below meth c H locs cells slots Q g q := fun T hT X => kk T hT (stand_widen X h1 h2)
theorem vx_out {pc : Nat} {E : String} {ce : Cell} {q : Addr} {mc ms : Nat} (hout : ∀ x ∈ c.exceptionTable.toList, covers x pc = false) (hlocks : meth.locks = false) (hcell : H[q]? = some ce) (hv : ce.vm = .none) (hcl : s.vm.findClass E = some ce.cls)
    (hx : ∀ t : State, t.heap = H → s.vm.Alike t.vm → XC E s t) (hf : ∀ z ∈ locs, free z.base) (hc : cells ≤ mc) (hs : slots ≤ ms) :
    vx_W p l e R s m args below meth c H locs cells slots (vx_MQ below Qc XC args s mc ms free) (F0 m pc ls rest) q := by
  intro T hT X
  obtain ⟨st1, hrun, hend, hW, hsm⟩ := X.leaveThrown q (g := F0 m pc ls rest) rfl rfl rfl hout hlocks
  have hcell9 : (T.setFrames (.throwing q :: below)).heap[q]? = some ce := by
    show T.heap[q]? = some ce
    rw [hT]; exact hcell
  exact ⟨_, st1, .threw q, hrun, hend, Or.inr ⟨q, rfl, E, ce, locs, hx _ hT hW.alike, hcell9, hv, hcl, hW, hsm.mono hc hs, hf⟩⟩
theorem vx_frame {U : State} {k n : Nat} (h : s.sameButNew ({ U with vm := s.vm } : State) locs k n) : s.heap.size ≤ U.heap.size ∧ ∀ q : Nat, q < s.heap.size → (∀ z ∈ locs, z.base ≠ q) → U.heap[q]? = s.heap[q]? := by
  obtain ⟨-, h2, -, -, -, h6⟩ := h
  refine ⟨h2, fun q hq hz => ?_⟩
  obtain ⟨c9, e1, e2, e3, e4⟩ := h6 q _ (Array.getElem?_eq_getElem hq)
  have hs : c9.slots = (s.heap[q]).slots := Array.ext_getElem? fun i => e4 i fun hm => hz _ hm rfl
  have h9 : c9 = s.heap[q] := by
    rw [hs] at e2
    exact e2
  have e5 : U.heap[q]? = some c9 := e1
  rw [e5, h9, Array.getElem?_eq_getElem hq]
/-- the words of a throw but the four that speak of the heap -/
def vx_no (w : Cond) : Bool := decide (w ≠ .isRef (.static Bundle.tN "UNASSIGNED_STACK" Bundle.steD)) && decide (w ≠ .isRef (.static Bundle.tN "SUPPRESSED_SENTINEL" Bundle.listD)) && decide (w ≠ .laysStatic Bundle.tN "UNASSIGNED_STACK" Bundle.steD) && decide (w ≠ .laysStatic Bundle.tN "SUPPRESSED_SENTINEL" Bundle.listD)
def vx_at0 (own : String) (ic : Nat) (X : String) (names : List String) : List Cond := (Bundle.ownAtoms0 own ic X names).filter vx_no
def vx_atS (own : String) (ic : Nat) (X : String) (names : List String) : List Cond := (Bundle.ownAtoms own ic X names).filter vx_no
/-- a word that the tables alone decide, or a good one -/
def vx_ot (w : Cond) : Bool := w.onTables || goodWord w
theorem vx_ot_at {args a' : Array Value} {s U : State} {w : Cond} (hW : s.WarmedH U.vm) (hvm : s.vm = U.vm) (hg : vx_ot w = true) (h : w.before args s = true) : w.before a' U = true := by
  simp only [vx_ot, Bool.or_eq_true] at hg
  rcases hg with hg | hg
  · exact va_tabs hg hvm h
  · exact word_at hW (good_of_word hg) h
/-- a list's words: the good ones out of the method's own list, the others by premises of their own -/
theorem vx_hat {args : Array Value} {s : State} {L B : List Cond} (h1 : ∀ w ∈ L.filter goodWord, w.before args s = true) (h2 : ∀ w ∈ L.filter (fun w => !goodWord w), w ∈ B) (h3 : ∀ w ∈ B, w.before args s = true) : ∀ w ∈ L, w.before args s = true := by
  intro w hw
  by_cases g : goodWord w = true
  · exact h1 w (List.mem_filter.mpr ⟨hw, g⟩)
  · refine h3 w (h2 w (List.mem_filter.mpr ⟨hw, ?_⟩))
    show (!goodWord w) = true
    cases hgw : goodWord w
    · rfl
    · exact absurd hgw g
theorem vx_c {args : Array Value} {s : State} {w : Cond} {B : List Cond} (h : w.before args s = true) (t : ∀ w ∈ B, w.before args s = true) : ∀ w' ∈ w :: B, w'.before args s = true := fun w' h' => (List.mem_cons.mp h').elim (fun e => by rw [e]; exact h) (t w')
theorem vx_n {args : Array Value} {s : State} : ∀ w ∈ ([] : List Cond), w.before args s = true := fun _ h => nomatch h
theorem vx_own {args : Array Value} {s : State} {L : List Cond} (h1 : ∀ w ∈ L.filter vx_no, w.before args s = true)
    (hU : (Cond.isRef (.static Bundle.tN "UNASSIGNED_STACK" Bundle.steD)).before args s = true) (hN : (Cond.isRef (.static Bundle.tN "SUPPRESSED_SENTINEL" Bundle.listD)).before args s = true)
    (lU : (Cond.laysStatic Bundle.tN "UNASSIGNED_STACK" Bundle.steD).before args s = true) (lN : (Cond.laysStatic Bundle.tN "SUPPRESSED_SENTINEL" Bundle.listD).before args s = true) : ∀ w ∈ L, w.before args s = true := by
  intro w hw
  by_cases e1 : w = .isRef (.static Bundle.tN "UNASSIGNED_STACK" Bundle.steD)
  · rw [e1]; exact hU
  · by_cases e2 : w = .isRef (.static Bundle.tN "SUPPRESSED_SENTINEL" Bundle.listD)
    · rw [e2]; exact hN
    · by_cases e3 : w = .laysStatic Bundle.tN "UNASSIGNED_STACK" Bundle.steD
      · rw [e3]; exact lU
      · by_cases e4 : w = .laysStatic Bundle.tN "SUPPRESSED_SENTINEL" Bundle.listD
        · rw [e4]; exact lN
        · exact h1 w (List.mem_filter.mpr ⟨hw, by unfold vx_no; rw [decide_eq_true e1, decide_eq_true e2, decide_eq_true e3, decide_eq_true e4]; rfl⟩)
/-- where a static field lies, its class's statics cell in H -/
def vx_L (C n d : String) (A : Nat → Prop) (U : State) (H : Heap) : Prop := ∃ (c : ClassId) (k : Class) (i : Nat) (f : Field) (a : Nat) (cell : Cell), U.vm.findClass C = some c ∧ U.fieldFound? C n d = some (c, k, i, f) ∧ f.isStatic = true ∧ k.statics = some a ∧ H[a]? = some cell ∧ cell.vm.isStatics = true ∧ cell.cls = c ∧ f.slot < cell.slots.size ∧ k.staticTypes[f.slot]? = some f.type ∧ ¬ A a
theorem vx_L.moved {C n d : String} {A : Nat → Prop} {u U : State} {H : Heap} (hvm : u.vm.Alike U.vm) (h : vx_L C n d A u H) : vx_L C n d A U H := by
  obtain ⟨c, k, i, f, a, cell, h1, h2, h3, h4, h5, h6, h7, h8, h9, h10⟩ := h
  obtain ⟨k', hi', he⟩ := State.fieldFound?_setVm hvm h2
  exact ⟨c, k', i, f, a, cell, by rw [hvm.findClass]; exact h1, hi', h3, by rw [he]; exact h4, h5, h6, h7, h8, by rw [he]; exact h9, h10⟩
theorem vx_L.kept {C n d : String} {A : Nat → Prop} {U : State} {H H1 : Heap} (h : vx_L C n d A U H) (hq : ∀ a : Nat, a < H.size → ¬ A a → H1[a]? = H[a]?) : vx_L C n d A U H1 := by
  obtain ⟨c, k, i, f, a, cell, h1, h2, h3, h4, h5, h6, h7, h8, h9, h10⟩ := h
  exact ⟨c, k, i, f, a, cell, h1, h2, h3, h4, by rw [hq a (Array.getElem?_eq_some_iff.mp h5).1 h10]; exact h5, h6, h7, h8, h9, h10⟩
theorem vx_L.narrow {C n d : String} {A B : Nat → Prop} {U : State} {H : Heap} (h : vx_L C n d A U H) (hAB : ∀ q, B q → A q) : vx_L C n d B U H := by
  obtain ⟨c, k, i, f, a, cell, h1, h2, h3, h4, h5, h6, h7, h8, h9, h10⟩ := h
  exact ⟨c, k, i, f, a, cell, h1, h2, h3, h4, h5, h6, h7, h8, h9, fun z => h10 (hAB _ z)⟩
theorem vx_L.word {C n d : String} {A : Nat → Prop} {s : State} {args : Array Value} (h : vx_L C n d A s s.heap) : (Cond.laysStatic C n d).before args s = true := by
  obtain ⟨c, k, i, f, a, cell, h1, h2, h3, h4, h5, h6, h7, h8, h9, -⟩ := h
  show (Cond.laysStatic C n d).holds args s none s [] = true
  exact Cond.laysStatic_of h1 h2 h3 h4 h5 h6 h7 h8 h9
/-- .. and what it holds: null or some reference -/
def vx_Zq (C n d : String) (A : Nat → Prop) (U : State) (H : Heap) : Prop := va_Zq C n d A U H ∧ vx_L C n d A U H
theorem vx_Zq.moved {C n d : String} {A : Nat → Prop} {u U : State} {H : Heap} (hvm : u.vm.Alike U.vm) (h : vx_Zq C n d A u H) : vx_Zq C n d A U H := ⟨va_Zq.moved hvm h.1, vx_L.moved hvm h.2⟩
theorem vx_Zq.kept {C n d : String} {A : Nat → Prop} {U : State} {H H1 : Heap} (h : vx_Zq C n d A U H) (hq : ∀ a : Nat, a < H.size → ¬ A a → H1[a]? = H[a]?) : vx_Zq C n d A U H1 := ⟨va_Zq.kept h.1 hq, vx_L.kept h.2 hq⟩
theorem vx_Zq.narrow {C n d : String} {A B : Nat → Prop} {U : State} {H : Heap} (h : vx_Zq C n d A U H) (hAB : ∀ q, B q → A q) : vx_Zq C n d B U H := ⟨va_Zq.narrow h.1 hAB, vx_L.narrow h.2 hAB⟩
theorem vx_Zqof {args : Array Value} {s : State} {C n d : String} {A : Nat → Prop} (hl : (Cond.laysStatic C n d).before args s = true) (hini : (Cond.initialized C).before args s = true) (h : (Cond.isRef (.static C n d)).before args s = true) (hA : ∀ a : Nat, a < s.heap.size → ¬ A a) : vx_Zq C n d A s s.heap := by
  refine ⟨va_Zqof hl hini h hA, ?_⟩
  obtain ⟨c, k, i, f, a, cell, h1, h2, h3, h4, h5, h6, h7, h8, h9⟩ := Cond.laysStatic_spec hl
  exact ⟨c, k, i, f, a, cell, h1, h2, h3, h4, h5, h6, h7, h8, h9, hA a (Array.getElem?_eq_some_iff.mp h5).1⟩
theorem vx_isRef {C n d : String} {v : Value} {A : Nat → Prop} {s : State} {args : Array Value} (h : va_Z C n d v A s s.heap) (hv : v.isRef = true) : (Cond.isRef (.static C n d)).before args s = true := by
  obtain ⟨cf, kf, fi, f, a, cell, h1, h2, h3, h4, h5, h6, h7, -⟩ := h
  have he : (Term.static C n d).eval args s none [] s = some v := by
    simp [Term.eval, State.fieldNamed?, h1, h2, h4, h5, h6, h7]
  simp only [Cond.before, Cond.holds, Cond.value, he]
  cases v <;> simp_all [Value.isRef]
theorem vx_isRefq {C n d : String} {A : Nat → Prop} {s : State} {args : Array Value} (h : va_Zq C n d A s s.heap) : (Cond.isRef (.static C n d)).before args s = true := by
  rcases h with h | ⟨t, h⟩
  · exact vx_isRef h rfl
  · exact vx_isRef h rfl
/-- the same frame, seen from here: as if the method were called anew in this heap -/
theorem vx_rebase {T : State} (X : Stand p l e R s m args below meth c T locs cells slots) {R' : Room} (hf : R'.frames ≤ R.frames) (hl : R'.locals ≤ R.locals) (hc : cells + R'.cells ≤ R.cells) (hs : slots + R'.slots ≤ R.slots) :
    Stand p l e R' ((T.setVm s.vm).setFrames (.invoking m args :: below)) m args below meth c T [] 0 0 := by
  have htop : (T.setVm s.vm).topJava?.isSome := X.here.top
  have hF : ((T.setVm s.vm).setFrames (.invoking m args :: below)).frames = .invoking m args :: below := State.frames_setFrames _ (State.cur_lt_of_top htop)
  obtain ⟨g₀, hg0⟩ := Option.isSome_iff_exists.mp htop
  obtain ⟨r, hr⟩ := State.topJava?_eq_some.mp hg0
  have hl9 : e.platform.stackLimits (T.setVm s.vm).me = e.platform.stackLimits s.me := X.limits
  have hb9 : (T.setVm s.vm).me.stackBytes = s.me.stackBytes := X.bytes
  refine ⟨X.admits, X.cas, X.clock, hF, ?_, X.hears, X.method, X.code, X.here, X.tail, X.warmed, ?_, ?_, ?_⟩
  · have h := X.room
    have hU : ((T.setVm s.vm).setFrames (.invoking m args :: below)).localsInUse = s.localsInUse := by
      rw [State.localsInUse_invoking hF (meth := meth) (c := c) X.method X.code, State.localsInUse_invoking X.frames X.method X.code]
    simp only [State.hasRoom, Bool.and_eq_true, decide_eq_true_eq] at h ⊢
    obtain ⟨⟨⟨⟨h1, h2, h3, h4, h5, h6⟩, h7⟩, h8⟩, h9⟩ := h
    rw [X.frames, List.length_cons] at h2 h3
    have q1 := X.heapSize
    have q2 := X.used
    simp only [hF, hU, List.length_cons, State.stackLimits_setFrames, State.stackBytes_setFrames, hl9, hb9]
    refine ⟨⟨⟨⟨by omega, by omega, by omega, by omega, by omega, h6⟩, ?_⟩, ?_⟩, X.book⟩
    · show T.heap.size + R'.cells ≤ e.platform.maxCells
      omega
    · show T.slotsUsed + R'.slots ≤ e.platform.maxSlots
      omega
  · rw [State.stackLimits_setFrames]; rfl
  · rw [State.stackBytes_setFrames]; rfl
  · refine ⟨?_, Nat.le_refl _, Nat.le_refl _, ?_, ?_, fun a c9 h9 => ⟨c9, h9, rfl, rfl, fun _ _ => rfl⟩⟩
    · obtain ⟨t, ht, -⟩ := State.frames_cons hr
      show T.setVm s.vm = { ((T.setVm s.vm).setFrames (.invoking m args :: below)).setFrames (T.setVm s.vm).frames with heap := T.heap, slotsUsed := T.slotsUsed }
      rw [State.setFrames_setFrames, State.setFrames_self ht]
      rfl
    · show T.slotsUsed = T.slotsUsed + ((T.heap.toList.drop T.heap.size).map (·.slots.size)).sum
      rw [List.drop_eq_nil_of_le (Nat.le_of_eq Array.length_toList)]
      rfl
    · show ((T.heap.toList.drop T.heap.size).map (·.slots.size)).sum ≤ 0
      rw [List.drop_eq_nil_of_le (Nat.le_of_eq Array.length_toList)]
      exact Nat.le_refl _
/-- 'throw new E()': new; dup; invokespecial; athrow -/
theorem vx_throw0 {cc : ByteArray} {pc : Nat} (hexec : p.tables.exec = Jvm.exec) (hb : c.code = cc) (hl : l.stackTraces = false) {own cls : String} {names : List String} {ik ic mc ms : Nat} {A : Nat → Prop}
    (hown : s.vm.findClass own = some m.cls) (hcls : Bundle.fit cls = true) (hnames : ∀ n ∈ names, Bundle.fit n = true)
    (hk : (Cond.classLink own ik cls).before args s = true) (hini : (Cond.initialized cls).before args s = true) (hat : ∀ w ∈ vx_at0 own ic cls names, w.before args s = true)
    (hgood : ∀ w ∈ Cond.classLink own ik cls :: Cond.initialized cls :: vx_at0 own ic cls names, vx_ot w = true)
    (hU : vx_Zq Bundle.tN "UNASSIGNED_STACK" Bundle.steD A s s.heap) (hN : vx_Zq Bundle.tN "SUPPRESSED_SENTINEL" Bundle.listD A s s.heap) (hS : va_S A s.heap H locs) (hsize : ls.size = c.maxLocals)
    (d0 : decode cc pc = .ok (.new ik, 3)) (d3 : decode cc (pc + 3) = .ok (.dup, 1)) (d4 : decode cc (pc + 4) = .ok (.invokespecial ic, 3)) (d7 : decode cc (pc + 7) = .ok (.athrow, 1))
    (hout : ∀ x ∈ c.exceptionTable.toList, covers x (pc + 7) = false)
    (hRframes : names.length + 3 < R.frames) (hRlocals : (rest.map fun v => v.category).sum + (13 * (names.length + 1) + 42) ≤ R.locals) (hRcells : cells + 1 ≤ R.cells) (hRslots : slots + 6 ≤ R.slots) (hlocks : meth.locks = false)
    (hx : ∀ t : State, s.vm.Alike t.vm → H.size ≤ t.heap.size → (∀ q : Nat, q < H.size → t.heap[q]? = H[q]?) → XC cls s t)
    (hf : ∀ z ∈ locs, free z.base) (hc : cells + 1 ≤ mc) (hs : slots + 6 ≤ ms) :
    W p l e R s m args below meth c H locs cells slots (vx_MQ below Qc XC args s mc ms free) (F0 m pc ls rest) := by
  intro T hT X
  have htr : e.platform.stackTraces = false := (show e.platform.stackTraces = l.stackTraces by rw [X.admits.platform]).trans hl
  have Y := vx_rebase X (R' := { frames := R.frames, locals := R.locals, cells := 1, slots := 6 }) (Nat.le_refl _) (Nat.le_refl _) hRcells hRslots
  obtain ⟨s', hA⟩ : ∃ z, z = (T.setVm s.vm).setFrames (.invoking m args :: below) := ⟨_, rfl⟩
  rw [← hA] at Y
  have hvm : s'.vm = s.vm := by rw [hA]; rfl
  have hhp : s'.heap = H := by rw [hA]; exact hT
  have hW0 : s.WarmedH s'.vm := by rw [hvm]; exact State.WarmedH.refl s
  have hat' : ∀ w ∈ vx_at0 own ic cls names, w.before args s' = true := fun w hw => vx_ot_at hW0 hvm.symm (hgood w (List.mem_cons_of_mem _ (List.mem_cons_of_mem _ hw))) (hat w hw)
  have hk' : (Cond.classLink own ik cls).before args s' = true := vx_ot_at hW0 hvm.symm (hgood _ List.mem_cons_self) hk
  have hini' : (Cond.initialized cls).before args s' = true := vx_ot_at hW0 hvm.symm (hgood _ (List.mem_cons_of_mem _ List.mem_cons_self)) hini
  have hU' : vx_Zq Bundle.tN "UNASSIGNED_STACK" Bundle.steD A s' s'.heap := by rw [hhp]; exact vx_Zq.moved hW0.alike (hU.kept hS.2.1)
  have hN' : vx_Zq Bundle.tN "SUPPRESSED_SENTINEL" Bundle.listD A s' s'.heap := by rw [hhp]; exact vx_Zq.moved hW0.alike (hN.kept hS.2.1)
  have h : ∀ w ∈ Bundle.ownAtoms0 own ic cls names, w.before args s' = true := vx_own hat' (vx_isRefq hU'.1) (vx_isRefq hN'.1) hU'.2.word hN'.2.word
  have hown' : s'.vm.findClass own = some m.cls := by rw [hvm]; exact hown
  have hins : (Cond.instantiable cls 6).before args s' = true := h _ (by simp [Bundle.ownAtoms0])
  obtain ⟨vm₁, cX, kX, hfX, hkX, -, -, X₁, st1⟩ := Y.newCold hexec (own := own) (C := cls) (index := ik) (n := 6) hown' hk' hins hini'
    (g := F0 m pc ls rest) rfl (by rw [hb]; exact d0) (Nat.le_refl _) (Nat.le_refl _)
  generalize hT1 : (T.setVm vm₁).pushCell { cls := cX, slots := kX.instanceTypes.map defaultValue, vm := .none } = T1 at X₁ st1
  have hcat : (Value.ref T.heap.size).category = 1 := rfl
  have hcellA : T1.heap[T.heap.size]? = some (freshCell cX kX) := by rw [← hT1]; exact State.heap_pushCell_size _ _
  have d3' : decode c.code (pc + 3) = .ok (.dup, 1) := by rw [hb]; exact d3
  obtain ⟨U, hsteps, hrun, hend, hW, hsame, ce, hce, hO⟩ := X₁.ctorThrow0 hexec htr (own := own) (cls := cls) (names := names) (ic := ic) hown' hcls hnames h (fun x hx => nomatch hx) hfX hkX hcellA (by rw [hhp, hT]; exact Nat.le_refl _)
    (g := { method := m, pc := pc + 4, locals := ls, stack := .ref T.heap.size :: .ref T.heap.size :: rest, locked := none }) rfl hsize rfl rfl (rest := rest) rfl
    (by rw [hb]; exact d4) (by rw [hb]; exact d7) hout hRframes (by simp only [List.map_cons, List.sum_cons, hcat]; omega) hlocks
  obtain ⟨f1, f2⟩ := vx_frame hsame
  rw [hhp] at f1 f2
  have hWs : s.WarmedH U.vm := State.WarmedH.trans hW0 hW
  have hcl : s.vm.findClass cls = some ce.cls := by
    have h9 := hO.cls
    rw [hvm] at h9
    exact h9
  have hall : s.sameButNew ({ U with vm := s.vm } : State) locs mc ms := by
    subst hA
    obtain ⟨e1, e2⟩ := hsame
    rw [State.setFrames_setFrames] at e1
    have h2 : (T.setVm s.vm).sameButNew ({ U with vm := s.vm } : State) [] (0 + 1) (0 + 6) := ⟨e1, e2⟩
    have h3 := X.same.trans h2
    rw [List.append_nil] at h3
    exact h3.mono hc hs
  refine ⟨U, ?_, .threw T.heap.size, hrun, hend, Or.inr ⟨T.heap.size, rfl, cls, ce, locs, hx U hWs.alike f1 (fun q hq => f2 q hq (fun z hz => nomatch hz)), hce, hO.vm, hcl, hWs, hall, hf⟩⟩
  refine st1 _ ?_
  show Steps p.tables e below (T1.setTop { method := m, pc := pc + 3, locals := ls, stack := .ref T.heap.size :: rest, locked := none }) _
  jvm_step X₁.here [X₁.here.top, hexec, d3', Value.category]
  exact hsteps
/-- 'throw new E("text")': new; dup; ldc; invokespecial; athrow -/
theorem vx_throwS {cc : ByteArray} {pc : Nat} (hexec : p.tables.exec = Jvm.exec) (hb : c.code = cc) (hl : l.stackTraces = false) {own cls text : String} {names : List String} {ik is ic mc ms sa : Nat} {A : Nat → Prop}
    (hown : s.vm.findClass own = some m.cls) (hcls : Bundle.fit cls = true) (hnames : ∀ n ∈ names, Bundle.fit n = true)
    (hk : (Cond.classLink own ik cls).before args s = true) (hini : (Cond.initialized cls).before args s = true) (hstr : vk_R own is text sa s) (hat : ∀ w ∈ vx_atS own ic cls names, w.before args s = true)
    (hgood : ∀ w ∈ Cond.classLink own ik cls :: Cond.initialized cls :: vx_atS own ic cls names, vx_ot w = true)
    (hU : vx_Zq Bundle.tN "UNASSIGNED_STACK" Bundle.steD A s s.heap) (hN : vx_Zq Bundle.tN "SUPPRESSED_SENTINEL" Bundle.listD A s s.heap) (hS : va_S A s.heap H locs) (hsize : ls.size = c.maxLocals)
    (d0 : decode cc pc = .ok (.new ik, 3)) (d3 : decode cc (pc + 3) = .ok (.dup, 1)) (d4 : decode cc (pc + 4) = .ok (.ldc is, 2)) (d6 : decode cc (pc + 6) = .ok (.invokespecial ic, 3)) (d9 : decode cc (pc + 9) = .ok (.athrow, 1))
    (hout : ∀ x ∈ c.exceptionTable.toList, covers x (pc + 9) = false)
    (hRframes : names.length + 3 < R.frames) (hRlocals : (rest.map fun v => v.category).sum + (13 * (names.length + 1) + 43) ≤ R.locals) (hRcells : cells + 1 ≤ R.cells) (hRslots : slots + 6 ≤ R.slots) (hlocks : meth.locks = false)
    (hx : ∀ t : State, s.vm.Alike t.vm → H.size ≤ t.heap.size → (∀ q : Nat, q < H.size → t.heap[q]? = H[q]?) → XC cls s t)
    (hf : ∀ z ∈ locs, free z.base) (hc : cells + 1 ≤ mc) (hs : slots + 6 ≤ ms) :
    W p l e R s m args below meth c H locs cells slots (vx_MQ below Qc XC args s mc ms free) (F0 m pc ls rest) := by
  intro T hT X
  have htr : e.platform.stackTraces = false := (show e.platform.stackTraces = l.stackTraces by rw [X.admits.platform]).trans hl
  have Y := vx_rebase X (R' := { frames := R.frames, locals := R.locals, cells := 1, slots := 6 }) (Nat.le_refl _) (Nat.le_refl _) hRcells hRslots
  obtain ⟨s', hA⟩ : ∃ z, z = (T.setVm s.vm).setFrames (.invoking m args :: below) := ⟨_, rfl⟩
  rw [← hA] at Y
  have hvm : s'.vm = s.vm := by rw [hA]; rfl
  have hhp : s'.heap = H := by rw [hA]; exact hT
  have hW0 : s.WarmedH s'.vm := by rw [hvm]; exact State.WarmedH.refl s
  have hat' : ∀ w ∈ vx_atS own ic cls names, w.before args s' = true := fun w hw => vx_ot_at hW0 hvm.symm (hgood w (List.mem_cons_of_mem _ (List.mem_cons_of_mem _ hw))) (hat w hw)
  have hk' : (Cond.classLink own ik cls).before args s' = true := vx_ot_at hW0 hvm.symm (hgood _ List.mem_cons_self) hk
  have hini' : (Cond.initialized cls).before args s' = true := vx_ot_at hW0 hvm.symm (hgood _ (List.mem_cons_of_mem _ List.mem_cons_self)) hini
  have hU' : vx_Zq Bundle.tN "UNASSIGNED_STACK" Bundle.steD A s' s'.heap := by rw [hhp]; exact vx_Zq.moved hW0.alike (hU.kept hS.2.1)
  have hN' : vx_Zq Bundle.tN "SUPPRESSED_SENTINEL" Bundle.listD A s' s'.heap := by rw [hhp]; exact vx_Zq.moved hW0.alike (hN.kept hS.2.1)
  have h : ∀ w ∈ Bundle.ownAtoms own ic cls names, w.before args s' = true := vx_own hat' (vx_isRefq hU'.1) (vx_isRefq hN'.1) hU'.2.word hN'.2.word
  have hown' : s'.vm.findClass own = some m.cls := by rw [hvm]; exact hown
  have hins : (Cond.instantiable cls 6).before args s' = true := h _ (by simp [Bundle.ownAtoms])
  obtain ⟨vm₁, cX, kX, hfX, hkX, -, -, X₁, st1⟩ := Y.newCold hexec (own := own) (C := cls) (index := ik) (n := 6) hown' hk' hins hini'
    (g := F0 m pc ls rest) rfl (by rw [hb]; exact d0) (Nat.le_refl _) (Nat.le_refl _)
  generalize hT1 : (T.setVm vm₁).pushCell { cls := cX, slots := kX.instanceTypes.map defaultValue, vm := .none } = T1 at X₁ st1
  have hcat : (Value.ref T.heap.size).category = 1 := rfl
  have hcellA : T1.heap[T.heap.size]? = some (freshCell cX kX) := by rw [← hT1]; exact State.heap_pushCell_size _ _
  have d3' : decode c.code (pc + 3) = .ok (.dup, 1) := by rw [hb]; exact d3
  have d4' : decode c.code (pc + 4) = .ok (.ldc is, 2) := by rw [hb]; exact d4
  have hstr' : vk_R own is text sa s' := vk_R.warm hW0 hstr
  obtain ⟨U, hsteps, hrun, hend, hW, hsame, ce, hce, hO⟩ := X₁.ctorThrowS hexec htr (own := own) (cls := cls) (names := names) (ic := ic) hown' hcls hnames h (fun x hx => nomatch hx) hfX hkX hcellA (by rw [hhp, hT]; exact Nat.le_refl _) (msg := .ref sa) rfl
    (g := { method := m, pc := pc + 6, locals := ls, stack := .ref sa :: .ref T.heap.size :: .ref T.heap.size :: rest, locked := none }) rfl hsize rfl rfl (rest := rest) rfl
    (by rw [hb]; exact d6) (by rw [hb]; exact d9) hout hRframes (by simp only [List.map_cons, List.sum_cons, hcat]; omega) hlocks
  obtain ⟨f1, f2⟩ := vx_frame hsame
  rw [hhp] at f1 f2
  have hWs : s.WarmedH U.vm := State.WarmedH.trans hW0 hW
  have hcl : s.vm.findClass cls = some ce.cls := by
    have h9 := hO.cls
    rw [hvm] at h9
    exact h9
  have hall : s.sameButNew ({ U with vm := s.vm } : State) locs mc ms := by
    subst hA
    obtain ⟨e1, e2⟩ := hsame
    rw [State.setFrames_setFrames] at e1
    have h2 : (T.setVm s.vm).sameButNew ({ U with vm := s.vm } : State) [] (0 + 1) (0 + 6) := ⟨e1, e2⟩
    have h3 := X.same.trans h2
    rw [List.append_nil] at h3
    exact h3.mono hc hs
  refine ⟨U, ?_, .threw T.heap.size, hrun, hend, Or.inr ⟨T.heap.size, rfl, cls, ce, locs, hx U hWs.alike f1 (fun q hq => f2 q hq (fun z hz => nomatch hz)), hce, hO.vm, hcl, hWs, hall, hf⟩⟩
  refine st1 _ ?_
  show Steps p.tables e below (T1.setTop { method := m, pc := pc + 3, locals := ls, stack := .ref T.heap.size :: rest, locked := none }) _
  jvm_step X₁.here [X₁.here.top, hexec, d3', Value.category]
  exact X₁.ldcString hexec (own := own) (text := text) (index := is) (a := sa) hown' hstr'.1 hstr'.2
    (g := { method := m, pc := pc + 4, locals := ls, stack := .ref T.heap.size :: .ref T.heap.size :: rest, locked := none }) rfl d4' _ hsteps
/-- 'throw new E("text")', the text by a wide index -/
theorem vx_throwSW {cc : ByteArray} {pc : Nat} (hexec : p.tables.exec = Jvm.exec) (hb : c.code = cc) (hl : l.stackTraces = false) {own cls text : String} {names : List String} {ik is ic mc ms sa : Nat} {A : Nat → Prop}
    (hown : s.vm.findClass own = some m.cls) (hcls : Bundle.fit cls = true) (hnames : ∀ n ∈ names, Bundle.fit n = true)
    (hk : (Cond.classLink own ik cls).before args s = true) (hini : (Cond.initialized cls).before args s = true) (hstr : vk_R own is text sa s) (hat : ∀ w ∈ vx_atS own ic cls names, w.before args s = true)
    (hgood : ∀ w ∈ Cond.classLink own ik cls :: Cond.initialized cls :: vx_atS own ic cls names, vx_ot w = true)
    (hU : vx_Zq Bundle.tN "UNASSIGNED_STACK" Bundle.steD A s s.heap) (hN : vx_Zq Bundle.tN "SUPPRESSED_SENTINEL" Bundle.listD A s s.heap) (hS : va_S A s.heap H locs) (hsize : ls.size = c.maxLocals)
    (d0 : decode cc pc = .ok (.new ik, 3)) (d3 : decode cc (pc + 3) = .ok (.dup, 1)) (d4 : decode cc (pc + 4) = .ok (.ldc_w is, 3)) (d7 : decode cc (pc + 7) = .ok (.invokespecial ic, 3)) (d10 : decode cc (pc + 10) = .ok (.athrow, 1))
    (hout : ∀ x ∈ c.exceptionTable.toList, covers x (pc + 10) = false)
    (hRframes : names.length + 3 < R.frames) (hRlocals : (rest.map fun v => v.category).sum + (13 * (names.length + 1) + 43) ≤ R.locals) (hRcells : cells + 1 ≤ R.cells) (hRslots : slots + 6 ≤ R.slots) (hlocks : meth.locks = false)
    (hx : ∀ t : State, s.vm.Alike t.vm → H.size ≤ t.heap.size → (∀ q : Nat, q < H.size → t.heap[q]? = H[q]?) → XC cls s t)
    (hf : ∀ z ∈ locs, free z.base) (hc : cells + 1 ≤ mc) (hs : slots + 6 ≤ ms) :
    W p l e R s m args below meth c H locs cells slots (vx_MQ below Qc XC args s mc ms free) (F0 m pc ls rest) := by
  intro T hT X
  have htr : e.platform.stackTraces = false := (show e.platform.stackTraces = l.stackTraces by rw [X.admits.platform]).trans hl
  have Y := vx_rebase X (R' := { frames := R.frames, locals := R.locals, cells := 1, slots := 6 }) (Nat.le_refl _) (Nat.le_refl _) hRcells hRslots
  obtain ⟨s', hA⟩ : ∃ z, z = (T.setVm s.vm).setFrames (.invoking m args :: below) := ⟨_, rfl⟩
  rw [← hA] at Y
  have hvm : s'.vm = s.vm := by rw [hA]; rfl
  have hhp : s'.heap = H := by rw [hA]; exact hT
  have hW0 : s.WarmedH s'.vm := by rw [hvm]; exact State.WarmedH.refl s
  have hat' : ∀ w ∈ vx_atS own ic cls names, w.before args s' = true := fun w hw => vx_ot_at hW0 hvm.symm (hgood w (List.mem_cons_of_mem _ (List.mem_cons_of_mem _ hw))) (hat w hw)
  have hk' : (Cond.classLink own ik cls).before args s' = true := vx_ot_at hW0 hvm.symm (hgood _ List.mem_cons_self) hk
  have hini' : (Cond.initialized cls).before args s' = true := vx_ot_at hW0 hvm.symm (hgood _ (List.mem_cons_of_mem _ List.mem_cons_self)) hini
  have hU' : vx_Zq Bundle.tN "UNASSIGNED_STACK" Bundle.steD A s' s'.heap := by rw [hhp]; exact vx_Zq.moved hW0.alike (hU.kept hS.2.1)
  have hN' : vx_Zq Bundle.tN "SUPPRESSED_SENTINEL" Bundle.listD A s' s'.heap := by rw [hhp]; exact vx_Zq.moved hW0.alike (hN.kept hS.2.1)
  have h : ∀ w ∈ Bundle.ownAtoms own ic cls names, w.before args s' = true := vx_own hat' (vx_isRefq hU'.1) (vx_isRefq hN'.1) hU'.2.word hN'.2.word
  have hown' : s'.vm.findClass own = some m.cls := by rw [hvm]; exact hown
  have hins : (Cond.instantiable cls 6).before args s' = true := h _ (by simp [Bundle.ownAtoms])
  obtain ⟨vm₁, cX, kX, hfX, hkX, -, -, X₁, st1⟩ := Y.newCold hexec (own := own) (C := cls) (index := ik) (n := 6) hown' hk' hins hini'
    (g := F0 m pc ls rest) rfl (by rw [hb]; exact d0) (Nat.le_refl _) (Nat.le_refl _)
  generalize hT1 : (T.setVm vm₁).pushCell { cls := cX, slots := kX.instanceTypes.map defaultValue, vm := .none } = T1 at X₁ st1
  have hcat : (Value.ref T.heap.size).category = 1 := rfl
  have hcellA : T1.heap[T.heap.size]? = some (freshCell cX kX) := by rw [← hT1]; exact State.heap_pushCell_size _ _
  have d3' : decode c.code (pc + 3) = .ok (.dup, 1) := by rw [hb]; exact d3
  have d4' : decode c.code (pc + 4) = .ok (.ldc_w is, 3) := by rw [hb]; exact d4
  have hstr' : vk_R own is text sa s' := vk_R.warm hW0 hstr
  obtain ⟨U, hsteps, hrun, hend, hW, hsame, ce, hce, hO⟩ := X₁.ctorThrowS hexec htr (own := own) (cls := cls) (names := names) (ic := ic) hown' hcls hnames h (fun x hx => nomatch hx) hfX hkX hcellA (by rw [hhp, hT]; exact Nat.le_refl _) (msg := .ref sa) rfl
    (g := { method := m, pc := pc + 7, locals := ls, stack := .ref sa :: .ref T.heap.size :: .ref T.heap.size :: rest, locked := none }) rfl hsize rfl rfl (rest := rest) rfl
    (by rw [hb]; exact d7) (by rw [hb]; exact d10) hout hRframes (by simp only [List.map_cons, List.sum_cons, hcat]; omega) hlocks
  obtain ⟨f1, f2⟩ := vx_frame hsame
  rw [hhp] at f1 f2
  have hWs : s.WarmedH U.vm := State.WarmedH.trans hW0 hW
  have hcl : s.vm.findClass cls = some ce.cls := by
    have h9 := hO.cls
    rw [hvm] at h9
    exact h9
  have hall : s.sameButNew ({ U with vm := s.vm } : State) locs mc ms := by
    subst hA
    obtain ⟨e1, e2⟩ := hsame
    rw [State.setFrames_setFrames] at e1
    have h2 : (T.setVm s.vm).sameButNew ({ U with vm := s.vm } : State) [] (0 + 1) (0 + 6) := ⟨e1, e2⟩
    have h3 := X.same.trans h2
    rw [List.append_nil] at h3
    exact h3.mono hc hs
  refine ⟨U, ?_, .threw T.heap.size, hrun, hend, Or.inr ⟨T.heap.size, rfl, cls, ce, locs, hx U hWs.alike f1 (fun q hq => f2 q hq (fun z hz => nomatch hz)), hce, hO.vm, hcl, hWs, hall, hf⟩⟩
  refine st1 _ ?_
  show Steps p.tables e below (T1.setTop { method := m, pc := pc + 3, locals := ls, stack := .ref T.heap.size :: rest, locked := none }) _
  jvm_step X₁.here [X₁.here.top, hexec, d3', Value.category]
  exact X₁.ldcStringW hexec (own := own) (text := text) (index := is) (a := sa) hown' hstr'.1 hstr'.2
    (g := { method := m, pc := pc + 4, locals := ls, stack := .ref T.heap.size :: .ref T.heap.size :: rest, locked := none }) rfl d4' _ hsteps
end Ends
section Bodies
variable {l : Launch}
theorem vx_ofW {y : MethodName} {ws ws' : List Cond} {rm : Room} {Pc : Array Value → State → Prop} {Qc : Array Value → State → Outcome → State → Prop} {XC : String → State → State → Prop} {mc ms : Nat} {free : Addr → Prop} {cc : ByteArray} {maxL : Nat} {ret : Option FieldType}
    (hy : plainName y.cls = true) (hw : ws = Cond.code y cc maxL ret :: ws')
    (body : ∀ p e s m args below meth c s₁, BodyLoose p l y (headSpec ws rm) cc maxL ret e s m args below meth c s₁ → c.maxLocals = maxL → (∀ x ∈ c.exceptionTable.toList, False) → Pc args s →
      W p l e (headSpec ws rm).room s m args below meth c s.heap [] 0 0 (vx_MQ below Qc XC args s mc ms free) (entryFrame m args maxL)) : vx_Met l y ws rm Pc Qc XC mc ms free := by
  refine MetFree.of_bodyS (code := cc) (maxLocals := maxL) (ret := ret) hy ?_ ?_
  · intro args s m h hn
    obtain ⟨meth, c, h1, h2, h3, h4, h5, h6, -, -⟩ := Cond.code_spec hn (atoms_spec (ws := ws) h _ (by rw [hw]; exact List.mem_cons_self))
    exact ⟨meth, c, h1, h2, h3, h4, h5, h6⟩
  · intro p e s m args below meth c s₁ B hml hP _
    have hh0 : s₁.heap = s.heap := by rw [B.state]; rfl
    have ht : ∀ x ∈ c.exceptionTable.toList, False := by
      obtain ⟨meth9, c9, h1, h2, -, -, -, -, h7, -⟩ := Cond.code_spec B.named (atoms_spec (ws := ws) B.pre _ (by rw [hw]; exact List.mem_cons_self))
      cases Option.some.inj (h1.symm.trans B.method)
      cases Option.some.inj (h2.symm.trans (Stand.of_body B).code)
      intro x hx
      rw [Array.isEmpty_iff.mp h7] at hx
      cases hx
    obtain ⟨t, a1, o, b1, b2, b3⟩ := body p e s m args below meth c s₁ B hml ht hP s₁ hh0 (Stand.of_body B)
    exact ⟨t, o, a1, b1, b2, b3⟩
/-- the table of a body with handlers -/
theorem vx_table {p : Program} {x y : MethodName} {S : Spec} {cc bytes : ByteArray} {maxL maxL' : Nat} {ret ret' : Option FieldType} {e : Env} {s s₁ : State} {m : MethodId} {args : Array Value} {below : List Frame} {meth : Method} {c : Code} {hh : List (Nat × Nat × Nat × Nat)}
    (B : BodyLoose p l y S cc maxL ret e s m args below meth c s₁) (h : (Cond.codeWith y bytes maxL' ret' hh).before args s = true) : c.exceptionTable.toList = tableOf hh := by
  obtain ⟨m9, meth9, c9, hn9, h1, h2, -, -, h6, -⟩ := Cond.codeWith_spec h
  cases Option.some.inj (hn9.symm.trans B.named)
  cases Option.some.inj (h1.symm.trans B.method)
  cases Option.some.inj (h2.symm.trans (Stand.of_body B).code)
  rw [← h6, table_eq]
end Bodies
end VXA
/-! ===== END ===== -/
/-! ===== BEGIN a static call of a method with an exception table ===== -/
section VXS
variable {p : Program} {l : Launch} {e : Env} {R : Room} {s : State} {m : MethodId} {args : Array Value} {below : List Frame} {meth : Method} {c : Code} {T : State} {H : Heap} {locs : List Loc} {cells slots : Nat}
abbrev vx_CSW (R : Room) (s : State) (args : Array Value) (own : String) (index : Nat) (y : MethodName) (bytes : ByteArray) (maxL : Nat) (ret : Option FieldType) (hh : List (Nat × Nat × Nat × Nat)) (ws : List Cond) (rm : Room) (mc ms n : Nat) : Prop :=
  (rm.cells = mc ∧ rm.slots = ms ∧ rm.frames + 1 ≤ R.frames ∧ 8 + (maxL + 11) + rm.locals ≤ R.locals ∧ (∀ w ∈ ws, ∀ (a' : Array Value) (U : State), s.WarmedH U.vm → w.before a' U = true) ∧ Cond.codeWith y bytes maxL ret hh ∈ ws) ∧
  (Cond.codeWith y bytes maxL ret hh).before args s = true ∧ (Cond.initialized y.cls).before args s = true ∧ (y.cls ≠ "java/lang/invoke/MethodHandle" ∧ y.cls ≠ "java/lang/invoke/VarHandle") ∧
  (∀ sig, parseMethodDescriptor y.desc = some sig → n = sig.parameters.length) ∧ (Cond.methodLink own index y).before args s = true ∧ (Cond.static y).before args s = true
theorem vx_cwSW {own : String} {index maxL mc ms : Nat} {y : MethodName} {bytes : ByteArray} {ret : Option FieldType} {hh : List (Nat × Nat × Nat × Nat)} {Ts ws ws' : List Cond} {rm : Room} (n : Nat) (ht : ∀ w ∈ Ts, w.before args s = true) (hT : GoodIn Ts (va_wsS own index y ws)) (hw : ws = Cond.codeWith y bytes maxL ret hh :: ws') (hrc : rm.cells = mc) (hrs : rm.slots = ms)
    (hd : y.cls ≠ "java/lang/invoke/MethodHandle" ∧ y.cls ≠ "java/lang/invoke/VarHandle" ∧ (parseMethodDescriptor y.desc).map (fun d => d.parameters.length) = some n) (hR : rm.frames + 1 ≤ R.frames ∧ 8 + (maxL + 11) + rm.locals ≤ R.locals) :
    vx_CSW R s args own index y bytes maxL ret hh ws rm mc ms n := by
  have ok : ∀ w ∈ va_wsS own index y ws, w.before args s = true := fun w h => ht w (hT w h).1
  have hG : GoodIn Ts ws := fun w h => hT w (by unfold va_wsS; exact List.mem_append_right _ h)
  have hc : Cond.codeWith y bytes maxL ret hh ∈ ws := by rw [hw]; exact List.mem_cons_self
  refine ⟨⟨hrc, hrs, hR.1, hR.2, pay_in ht hG, hc⟩, ht _ (hG _ hc).1, ok _ (by simp [va_wsS]), ⟨hd.1, hd.2.1⟩, fun sig h => ?_, ok _ (by simp [va_wsS]), ok _ (by simp [va_wsS])⟩
  have h2 := hd.2.2
  rw [h] at h2
  exact (Option.some.inj h2).symm
theorem vx_callSW (X : Stand p l e R s m args below meth c T locs cells slots) (hexec : p.tables.exec = Jvm.exec) {own : String} {index : Nat} {y : MethodName} {bytes : ByteArray} {maxL : Nat} {ret : Option FieldType} {hh : List (Nat × Nat × Nat × Nat)}
    (hown : s.vm.findClass own = some m.cls) (hlink : (Cond.methodLink own index y).before args s = true) (hstat : (Cond.static y).before args s = true) (hinit : (Cond.initialized y.cls).before args s = true)
    (hcode : (Cond.codeWith y bytes maxL ret hh).before args s = true) (hy : y.cls ≠ "java/lang/invoke/MethodHandle" ∧ y.cls ≠ "java/lang/invoke/VarHandle")
    {W9 : Nat} {Pre : Pt → Array Value → Prop} {Post : Pt → Array Value → Option Value → Pt → Prop} (hK : Back l R p e below s args y 3 W9 Pre Post)
    {g : JFrame} (hg : g.method = m) (hsize : g.locals.size = c.maxLocals) {argsL rest : List Value} (hlen : ∀ sig, parseMethodDescriptor y.desc = some sig → argsL.length = sig.parameters.length)
    (hstack : g.stack = argsL.reverse ++ rest) (hW : 2 * g.monitorRoom + (rest.map fun v => v.category).sum ≤ W9) (hdg : decode c.code g.pc = .ok (.invokestatic index, 3))
    (hpre : ∀ vm₁, s.WarmedH vm₁ → Pre ⟨T.setVm vm₁, locs, cells, slots⟩ argsL.toArray) :
    ∃ (v : Option Value) (vm₁ : Vm) (B : Pt), s.WarmedH vm₁ ∧ Stand p l e R s m args below meth c B.U B.locs B.cells B.slots ∧ Post ⟨T.setVm vm₁, locs, cells, slots⟩ argsL.toArray v B ∧
      ∀ target, Steps p.tables e below (B.U.setTop { g with pc := g.pc + 3, stack := v.toList ++ rest }) target → Steps p.tables e below (T.setTop g) target := by
  obtain ⟨mk, methM, cM, hnamed, hmethM, -, -, -, -, -, -, hsigM⟩ := Cond.codeWith_spec hcode
  have hstatic : methM.isStatic = true := Cond.static_spec hnamed hmethM hstat
  obtain ⟨kP, hkP, -⟩ := className_of_methodNamed hnamed
  have hinitP : kP.init = .initialized := Cond.initialized_spec (findClass_of_methodNamed hnamed) hkP hinit
  obtain ⟨vm₁, X₁, hstep₁⟩ := X.invokestatic hexec hown hlink hnamed hmethM hstatic hkP hinitP hy (g := g) hg (argsL := argsL) (rest := rest) (hlen _ hsigM) hstack hdg
  obtain ⟨v, B, X', hpost, hsteps⟩ := hK m meth c ⟨T.setVm vm₁, locs, cells, slots⟩ { g with stack := rest } (.invokestatic index) mk argsL.toArray X₁ hg hsize hdg hW (X₁.named hnamed) (hpre vm₁ X₁.warmed)
  exact ⟨v, vm₁, B, X₁.warmed, X', hpost, fun target h => hstep₁ _ fun acts => by rw [doInvoke_state]; exact hsteps.trans h⟩
theorem vx_runSW {y : MethodName} {bytes cc : ByteArray} {maxL nL mc ms n index : Nat} {ret : Option FieldType} {hh : List (Nat × Nat × Nat × Nat)} {ws : List Cond} {rm : Room} {Pc : Array Value → State → Prop} {Qc : Array Value → State → Outcome → State → Prop} {free : Addr → Prop} {Ts : List Cond} {own : String} {As rest : List Value} {g : JFrame}
    (S : CallFix p m c cc nL s args Ts own) (hM : Met l y ws rm Pc Qc mc ms free) (cw : vx_CSW R s args own index y bytes maxL ret hh ws rm mc ms n) (hp : PreS s H Pc As)
    (hg : g.method = m) (hn : As.length = n) (hsize : g.locals.size = nL) (hstack : g.stack = As.reverse ++ rest) (hW : 2 * g.monitorRoom + (rest.map fun v => v.category).sum ≤ 8) (hdg : decode cc g.pc = .ok (.invokestatic index, 3)) (hf : cells + mc ≤ R.cells ∧ slots + ms ≤ R.slots) :
    va_Run p l e R s m args below meth c H locs cells slots mc ms g rest (Qc As.toArray) (free) := by
  obtain ⟨⟨hrc, hrs, hfr, hlo, hws, hcw⟩, hcode, hini, hy, hlen, hl, hstt⟩ := cw
  have hK : Back l R p e below s args y 3 8 (PreOf R mc ms Pc) (PostOf Qc mc ms free) := va_backW (hh := hh) (bytes := bytes) (maxL := maxL) (ret := ret) hM hp.1 hrc hrs hfr hlo hws hcw (fun a' U hW => word_at hW (Or.inl (by first | rfl | simp [Cond.onTables, Cond.keeps, Cond.steady])) hini)
  obtain ⟨hx, hb, hml, ho, -⟩ := S
  intro T hT X
  obtain ⟨v, vm₁, ⟨U', l2, c2, s2⟩, hW₁, X', ⟨g', mk, t, L, e1, e2, hq, h1, hL, h2, h3⟩, st⟩ := vx_callSW X hx (hh := hh) (bytes := bytes) (maxL := maxL) (ret := ret) ho hl hstt hini hcode hy hK hg (hsize.trans hml.symm) (argsL := As) (rest := rest) (fun sig h => hn.trans (hlen sig h)) hstack hW (by rw [hb]; exact hdg)
    (fun vm₁ hW₁ => ⟨hf.1, hf.2, hp.2 (T.setVm vm₁) hT hW₁⟩)
  dsimp only [Pt.U, Pt.locs, Pt.cells, Pt.slots] at X' e1 e2 h1 h2 h3 st
  subst h1; subst h2; subst h3
  exact ⟨v, (T.setVm vm₁).calling g' mk As.toArray, t, U', L, hT, X', hL, e1, e2, hq, st⟩
/-- not caught here, past rows that name other classes: it goes on to the caller -/
theorem vx_outP {p : Program} {l : Launch} {e : Env} {R : Room} {s : State} {m : MethodId} {args : Array Value} {below : List Frame} {meth : Method} {c : Code} {H : Heap} {locs : List Loc} {cells slots : Nat} {free : Addr → Prop} {ls : Array Slot} {rest : List Value} {Qc : Array Value → State → Outcome → State → Prop} {XC : String → State → State → Prop}
    {pc : Nat} {own E : String} {ce : Cell} {q : Addr} {mc ms : Nat} (hown : s.vm.findClass own = some m.cls) (hlocks : meth.locks = false)
    (hpass : ∀ z ∈ c.exceptionTable.toList, covers z pc = false ∨ (z.catchType ≠ 0 ∧ ∃ nm : String, (Cond.classLink own z.catchType nm).before args s = true ∧ va_Nc E nm s)) (hcell : H[q]? = some ce) (hv : ce.vm = .none) (hcl : s.vm.findClass E = some ce.cls)
    (hx : ∀ t : State, t.heap = H → s.vm.Alike t.vm → XC E s t) (hf : ∀ z ∈ locs, free z.base) (hc : cells ≤ mc) (hs : slots ≤ ms) :
    vx_W p l e R s m args below meth c H locs cells slots (vx_MQ below Qc XC args s mc ms free) (F0 m pc ls rest) q := by
  intro T hT X
  have hpl : e.platform.magicAccessors = ({} : Platform).magicAccessors := by rw [X.admits.platform]
  obtain ⟨vm', hW', X', st⟩ := X.outThrough hlocks q (g := F0 m pc ls rest) rfl rfl rfl (cell := ce) (by rw [hT]; exact hcell) (by rw [hv]; rfl)
    (by obtain ⟨k9, h9, -⟩ := Vm.findClass_spec hcl; exact ⟨k9, h9⟩) (fun z hz => by
      rcases hpass z hz with h | ⟨hz0, nm, hl1, hn1⟩
      · exact Or.inl h
      · obtain ⟨c6, hc6, hcl6⟩ := Cond.classLink_spec hown hl1 e.platform hpl
        obtain ⟨a8, b8, h1, h2, h3⟩ := hn1
        cases Option.some.inj (h1.symm.trans hcl)
        cases Option.some.inj (h2.symm.trans hc6)
        exact Or.inr ⟨hz0, _, hcl6, h3⟩)
  obtain ⟨g₀, hfr⟩ := X'.frames_eq
  have hcell9 : ((T.setVm vm').setFrames (.throwing q :: below)).heap[q]? = some ce := by
    show T.heap[q]? = some ce
    rw [hT]; exact hcell
  have hend : Ended ((T.setVm vm').setFrames (.throwing q :: below)) below (.threw q) := State.frames_setFrames _ (State.cur_lt_of_frames hfr)
  refine ⟨(T.setVm vm').setFrames (.throwing q :: below), ?_, .threw q, X'.here.running, hend, Or.inr ⟨q, rfl, E, ce, locs, hx _ hT (X'.ends _).1.alike, hcell9, hv, hcl, (X'.ends _).1, (X'.ends _).2.mono hc hs, hf⟩⟩
  rw [X.pushThrowing_eq]
  exact st
/-- a thing of a world lies in the heap -/
theorem vx_lt {D : va_G} {cl : List vw_C} {ws : va_W} {H1 : Heap} (h : va_P D cl ws H1) {k : Nat} {q : Nat × va_E} (hk : ws[k]? = some q) : q.1 < H1.size := (h k q hk).lt
end VXS
/-! ===== END ===== -/
/-! ===== BEGIN methods with a table of their own: called by a name, returning or throwing ===== -/
section VXH
/-! vx_backW, vx_callVX, vx_callSX, vx_callVW, vx_runVW, vx_runVX, vx_runSX, vx_ofWH follow the same proofs as their sisters above (Free/Laws.lean, Shelf42/LK1.lean); vx_outP calls Shelf42/NT130.lean (outThrough). -/
section
variable {l : Launch} {R : Room} {p : Program} {e : Env} {below : List Frame} {s : State} {sargs : Array Value} {y : MethodName} {len W9 : Nat}
theorem vx_backW {ws : List Cond} {rm : Room} {Pc : Array Value → State → Prop} {Qc : Array Value → State → Outcome → State → Prop} {XC : String → State → State → Prop} {mc ms : Nat} {free : Addr → Prop} {bytes : ByteArray} {maxL : Nat} {ret : Option FieldType} {hh : List (Nat × Nat × Nat × Nat)}
    (hM : vx_Met l y ws rm Pc Qc XC mc ms free) (hblind : FrameBlind Pc) (hrc : rm.cells = mc) (hrs : rm.slots = ms)
    (hframes : rm.frames + 1 ≤ R.frames) (hlocals : W9 + (maxL + 11) + rm.locals ≤ R.locals)
    (hws : ∀ w ∈ ws, ∀ a' U, s.WarmedH U.vm → w.before a' U = true) (hcode : Cond.codeWith y bytes maxL ret hh ∈ ws) (hinit : ∀ a' U, s.WarmedH U.vm → (Cond.initialized y.cls).before a' U = true) :
    vx_Back l R p e below s sargs y len W9 (PreOf R mc ms Pc) (PostOf Qc mc ms free) (vx_Post XC mc ms free) := by
  intro m meth c A g ig mk a X hg hsize hdg hW hn hp
  have h1 : (headSpec ws rm).pre.before a A.U = true := atoms_intro fun w hw => hws w hw _ _ X.warmed
  have h2 : (Cond.codeWith y bytes maxL ret hh).before a A.U = true := hws _ hcode _ _ X.warmed
  have h3 : (Cond.initialized y.cls).before a A.U = true := hinit _ _ X.warmed
  have h4 : A.cells + (headSpec ws rm).room.cells ≤ R.cells := by rw [show (headSpec ws rm).room.cells = mc from hrc]; exact hp.1
  have h5 : A.slots + (headSpec ws rm).room.slots ≤ R.slots := by rw [show (headSpec ws rm).room.slots = ms from hrs]; exact hp.2.1
  have hPc : Pc a (A.U.calling g mk a) := hblind _ _ _ _ hp.2.2
  obtain ⟨U, Ls, c0, s0⟩ := A
  dsimp only [Pt.U, Pt.locs, Pt.cells, Pt.slots] at h1 h2 h3 h4 h5 X hn hPc ⊢
  obtain ⟨m9, methY, cY, hn9, hmY, hcY, -, hlY, -⟩ := Cond.codeWith_spec h2
  cases Option.some.inj (hn9.symm.trans hn)
  obtain ⟨kY, hkY, -⟩ := className_of_methodNamed hn
  have hinitY : kY.init = .initialized := Cond.initialized_spec (findClass_of_methodNamed hn) hkY h3
  have h : At U g.method c below := by rw [hg]; exact X.here
  have hlocals9 : W9 + (maxL + 11) + (headSpec ws rm).room.locals ≤ R.locals := hlocals
  have happ : (headSpec ws rm).appliesLoose y e.platform (U.calling g mk a) = true :=
    Spec.appliesLoose_calling (g := g) h hdg hn hkY hinitY
      (X.room_calling (g := g) (R' := (headSpec ws rm).room) hsize hmY hcY hframes (by rw [hlY]; omega) h4 h5) h1
  obtain ⟨mid, hmid⟩ := h.above
  have hfr : (U.setTop g).frames = (.java g :: mid) ++ below := by rw [State.frames_setTop' g h.top, hmid]; rfl
  obtain ⟨o, s₂, hsteps, -, hend, hq⟩ := Steps.callFree hM p X.admits X.cas X.clock (acts := []) hfr happ hPc trivial
  have hq' : vx_Q Qc XC mc ms free a (U.calling g mk a) o s₂ := hq
  rw [State.frames_setTop' g h.top] at hend
  obtain ⟨g₀, hg0⟩ := Option.isSome_iff_exists.mp h.top
  obtain ⟨r, hr⟩ := State.topJava?_eq_some.mp hg0
  have hr' : (({ U with heap := s₂.heap, slotsUsed := s₂.slotsUsed } : State).setVm s₂.vm).frames = .java g₀ :: r := hr
  rcases hq' with ⟨hqc, L, hfe, hL⟩ | ⟨q, rfl, E, ce, L, hx, hce, hcv, hcl, hW₂, hsm, hL⟩
  · obtain ⟨⟨v, rfl⟩, hW₂, e2, q2, q3, q4, q5, q6⟩ := id hfe
    have e3 : s₂ = ({ (U.calling g mk a).setFrames s₂.frames with heap := s₂.heap, slotsUsed := s₂.slotsUsed } : State).setVm s₂.vm := by
      have : s₂ = ({ s₂ with vm := (U.calling g mk a).vm } : State).setVm s₂.vm := rfl
      rw [e2] at this
      exact this
    obtain ⟨c₂, i₂, len₂, hc₂, hd₂, hf₂⟩ := hend
    have hW' : U.WarmedH s₂.vm := hW₂
    have hcc : c₂ = c := by
      have h1 : s₂.code? g.method = U.code? g.method := by
        rw [State.code?_eq, State.code?_eq, hW'.alike.method?]
      exact Option.some.inj (hc₂.symm.trans (h1.trans h.code))
    subst hcc
    have hlen : len₂ = len := by rw [hdg] at hd₂; cases hd₂; rfl
    subst hlen
    have hs₂ : s₂ = (({ U with heap := s₂.heap, slotsUsed := s₂.slotsUsed } : State).setVm s₂.vm).setTop { g with pc := g.pc + len₂, stack := v.toList ++ g.stack } := by
      refine e3.trans ?_
      rw [hf₂, State.calling_eq h.top, State.setFrames_setFrames, State.setTop_of_frames _ hr', hr]
      rfl
    have hsame : U.sameButNew ({ U with heap := s₂.heap, slotsUsed := s₂.slotsUsed } : State) L mc ms := by
      refine ⟨?_, q2, q3, q4, q5, q6⟩
      obtain ⟨t, ht, -⟩ := State.frames_cons hr
      show ({ U with heap := s₂.heap, slotsUsed := s₂.slotsUsed } : State) = { U.setFrames U.frames with heap := s₂.heap, slotsUsed := s₂.slotsUsed }
      rw [State.setFrames_self ht]
    subst hg
    refine Or.inl ⟨v, ⟨(({ U with heap := s₂.heap, slotsUsed := s₂.slotsUsed } : State).setVm s₂.vm), Ls ++ L, c0 + mc, s0 + ms⟩,
      ⟨X.admits, X.cas, X.clock, X.frames, X.room, X.hears, X.method, X.code, (X.here.setHeapUsed s₂.heap s₂.slotsUsed).setVm hW'.alike, X.tail, State.WarmedH.trans X.warmed hW', X.limits, X.bytes, X.same.trans (hsame.setVm s.vm)⟩,
      ⟨g, mk, s₂, L, rfl, rfl, hqc, rfl, hL, rfl, rfl⟩, ?_⟩
    show Steps p.tables e below _ ((({ U with heap := s₂.heap, slotsUsed := s₂.slotsUsed } : State).setVm s₂.vm).setTop { g with pc := g.pc + len₂, stack := v.toList ++ g.stack })
    rw [← hs₂]
    exact hsteps
  · obtain ⟨e2, q2, q3, q4, q5, q6⟩ := id hsm
    have e3 : s₂ = ({ (U.calling g mk a).setFrames s₂.frames with heap := s₂.heap, slotsUsed := s₂.slotsUsed } : State).setVm s₂.vm := by
      have : s₂ = ({ s₂ with vm := (U.calling g mk a).vm } : State).setVm s₂.vm := rfl
      rw [e2] at this
      exact this
    have hf₂ : s₂.frames = .throwing q :: .java g :: U.frames.tail := hend
    have hW' : U.WarmedH s₂.vm := hW₂
    have hs₂ : s₂ = ((({ U with heap := s₂.heap, slotsUsed := s₂.slotsUsed } : State).setVm s₂.vm).setTop g).pushFrame (.throwing q) := by
      refine e3.trans ?_
      rw [hf₂, State.calling_eq h.top, State.setFrames_setFrames, State.pushFrame, State.frames_setTop _ hr', State.setTop_of_frames _ hr', State.setFrames_setFrames, hr]
      rfl
    have hsame : U.sameButNew ({ U with heap := s₂.heap, slotsUsed := s₂.slotsUsed } : State) L mc ms := by
      refine ⟨?_, q2, q3, q4, q5, q6⟩
      obtain ⟨t, ht, -⟩ := State.frames_cons hr
      show ({ U with heap := s₂.heap, slotsUsed := s₂.slotsUsed } : State) = { U.setFrames U.frames with heap := s₂.heap, slotsUsed := s₂.slotsUsed }
      rw [State.setFrames_self ht]
    subst hg
    refine Or.inr ⟨q, ⟨(({ U with heap := s₂.heap, slotsUsed := s₂.slotsUsed } : State).setVm s₂.vm), Ls ++ L, c0 + mc, s0 + ms⟩,
      ⟨X.admits, X.cas, X.clock, X.frames, X.room, X.hears, X.method, X.code, (X.here.setHeapUsed s₂.heap s₂.slotsUsed).setVm hW'.alike, X.tail, State.WarmedH.trans X.warmed hW', X.limits, X.bytes, X.same.trans (hsame.setVm s.vm)⟩,
      ⟨g, mk, s₂, L, E, ce, rfl, rfl, hx, hce, hcv, hcl, rfl, hL, rfl, rfl⟩, ?_⟩
    show Steps p.tables e below _ (((({ U with heap := s₂.heap, slotsUsed := s₂.slotsUsed } : State).setVm s₂.vm).setTop g).pushFrame (.throwing q))
    rw [← hs₂]
    exact hsteps
end
variable {p : Program} {l : Launch} {e : Env} {R : Room} {s : State} {m : MethodId} {args : Array Value} {below : List Frame} {meth : Method} {c : Code} {T : State} {H : Heap} {locs : List Loc} {cells slots : Nat}
theorem vx_callVX (X : Stand p l e R s m args below meth c T locs cells slots) (hexec : p.tables.exec = Jvm.exec) {own C : String} {index : Nat} {y : MethodName} {bytes : ByteArray} {maxL : Nat} {ret : Option FieldType} {hh : List (Nat × Nat × Nat × Nat)}
    (hown : s.vm.findClass own = some m.cls) (hlink : (Cond.methodLink own index y).before args s = true) (hinst : (Cond.instanceMethod y).before args s = true) (hsel : (Cond.selects C y y).before args s = true)
    (hcode : (Cond.codeWith y bytes maxL ret hh).before args s = true) (hy : y.cls ≠ "java/lang/invoke/MethodHandle" ∧ y.cls ≠ "java/lang/invoke/VarHandle")
    {W9 : Nat} {Pre : Pt → Array Value → Prop} {Post : Pt → Array Value → Option Value → Pt → Prop} {PostX : Pt → Array Value → Addr → Pt → Prop} (hK : vx_Back l R p e below s args y 3 W9 Pre Post PostX)
    {b : Addr} {cellB : Cell} (hcell : T.heap[b]? = some cellB) (hobj : cellB.vm.isStatics = false) (hcls : s.vm.findClass C = some cellB.cls)
    {g : JFrame} (hg : g.method = m) (hsize : g.locals.size = c.maxLocals) {argsL rest : List Value} (hlen : ∀ sig, parseMethodDescriptor y.desc = some sig → argsL.length = sig.parameters.length)
    (hstack : g.stack = argsL.reverse ++ .ref b :: rest) (hW : 2 * g.monitorRoom + (rest.map fun v => v.category).sum ≤ W9) (hdg : decode c.code g.pc = .ok (.invokevirtual index, 3))
    (hpre : ∀ vm₁, s.WarmedH vm₁ → Pre ⟨T.setVm vm₁, locs, cells, slots⟩ (Value.ref b :: argsL).toArray) :
    (∃ (v : Option Value) (vm₁ : Vm) (B : Pt), s.WarmedH vm₁ ∧ Stand p l e R s m args below meth c B.U B.locs B.cells B.slots ∧ Post ⟨T.setVm vm₁, locs, cells, slots⟩ (Value.ref b :: argsL).toArray v B ∧
      ∀ target, Steps p.tables e below (B.U.setTop { g with pc := g.pc + 3, stack := v.toList ++ rest }) target → Steps p.tables e below (T.setTop g) target) ∨
    (∃ (q : Addr) (vm₁ : Vm) (B : Pt), s.WarmedH vm₁ ∧ Stand p l e R s m args below meth c B.U B.locs B.cells B.slots ∧ PostX ⟨T.setVm vm₁, locs, cells, slots⟩ (Value.ref b :: argsL).toArray q B ∧
      Steps p.tables e below (T.setTop g) ((B.U.setTop { g with stack := rest }).pushFrame (.throwing q))) := by
  obtain ⟨mk, methM, hnamed, hmethM, hstM, habM⟩ := Cond.instanceMethod_spec hinst
  obtain ⟨m8, methM', cM, hn8, hmethM', -, -, -, -, -, -, hsigM⟩ := Cond.codeWith_spec hcode
  cases Option.some.inj (hn8.symm.trans hnamed)
  cases hmethM.symm.trans hmethM'
  obtain ⟨c2, r2, m2, q1, q2, q3, q4, kP, hkP, hkPi⟩ := Cond.selects_spec hsel
  cases hcls.symm.trans q1
  cases (State.methodFound?_of_named hnamed hy).symm.trans q2
  cases hnamed.symm.trans q3
  have hselP : selectMethod e.platform s.vm cellB.cls mk = .method mk := by rw [Launch.admits_selectMethod X.admits]; exact q4
  obtain ⟨vm₁, X₁, hstep₁⟩ := X.invokevirtual hexec hown hlink hnamed hmethM hstM hkP hkPi hy (a := b) (cell := cellB) hcell
    (fun z h => by rw [h] at hobj; cases hobj) hselP hmethM habM hkP hkPi (g := g) hg (argsL := argsL) (rest := rest) (hlen _ hsigM) hstack hdg
  rcases hK m meth c ⟨T.setVm vm₁, locs, cells, slots⟩ { g with stack := rest } (.invokevirtual index) mk (Value.ref b :: argsL).toArray X₁ hg hsize hdg hW (X₁.named hnamed) (hpre vm₁ X₁.warmed) with ⟨v, B, X', hpost, hsteps⟩ | ⟨q, B, X', hpost, hsteps⟩
  · exact Or.inl ⟨v, vm₁, B, X₁.warmed, X', hpost, fun target h => hstep₁ _ fun acts => by rw [doInvoke_state]; exact hsteps.trans h⟩
  · exact Or.inr ⟨q, vm₁, B, X₁.warmed, X', hpost, hstep₁ _ fun acts => by rw [doInvoke_state]; exact hsteps⟩
theorem vx_callSX (X : Stand p l e R s m args below meth c T locs cells slots) (hexec : p.tables.exec = Jvm.exec) {own : String} {index : Nat} {y : MethodName} {bytes : ByteArray} {maxL : Nat} {ret : Option FieldType} {hh : List (Nat × Nat × Nat × Nat)}
    (hown : s.vm.findClass own = some m.cls) (hlink : (Cond.methodLink own index y).before args s = true) (hstat : (Cond.static y).before args s = true) (hinit : (Cond.initialized y.cls).before args s = true)
    (hcode : (Cond.codeWith y bytes maxL ret hh).before args s = true) (hy : y.cls ≠ "java/lang/invoke/MethodHandle" ∧ y.cls ≠ "java/lang/invoke/VarHandle")
    {W9 : Nat} {Pre : Pt → Array Value → Prop} {Post : Pt → Array Value → Option Value → Pt → Prop} {PostX : Pt → Array Value → Addr → Pt → Prop} (hK : vx_Back l R p e below s args y 3 W9 Pre Post PostX)
    {g : JFrame} (hg : g.method = m) (hsize : g.locals.size = c.maxLocals) {argsL rest : List Value} (hlen : ∀ sig, parseMethodDescriptor y.desc = some sig → argsL.length = sig.parameters.length)
    (hstack : g.stack = argsL.reverse ++ rest) (hW : 2 * g.monitorRoom + (rest.map fun v => v.category).sum ≤ W9) (hdg : decode c.code g.pc = .ok (.invokestatic index, 3))
    (hpre : ∀ vm₁, s.WarmedH vm₁ → Pre ⟨T.setVm vm₁, locs, cells, slots⟩ argsL.toArray) :
    (∃ (v : Option Value) (vm₁ : Vm) (B : Pt), s.WarmedH vm₁ ∧ Stand p l e R s m args below meth c B.U B.locs B.cells B.slots ∧ Post ⟨T.setVm vm₁, locs, cells, slots⟩ argsL.toArray v B ∧
      ∀ target, Steps p.tables e below (B.U.setTop { g with pc := g.pc + 3, stack := v.toList ++ rest }) target → Steps p.tables e below (T.setTop g) target) ∨
    (∃ (q : Addr) (vm₁ : Vm) (B : Pt), s.WarmedH vm₁ ∧ Stand p l e R s m args below meth c B.U B.locs B.cells B.slots ∧ PostX ⟨T.setVm vm₁, locs, cells, slots⟩ argsL.toArray q B ∧
      Steps p.tables e below (T.setTop g) ((B.U.setTop { g with stack := rest }).pushFrame (.throwing q))) := by
  obtain ⟨mk, methM, cM, hnamed, hmethM, -, -, -, -, -, -, hsigM⟩ := Cond.codeWith_spec hcode
  have hstatic : methM.isStatic = true := Cond.static_spec hnamed hmethM hstat
  obtain ⟨kP, hkP, -⟩ := className_of_methodNamed hnamed
  have hinitP : kP.init = .initialized := Cond.initialized_spec (findClass_of_methodNamed hnamed) hkP hinit
  obtain ⟨vm₁, X₁, hstep₁⟩ := X.invokestatic hexec hown hlink hnamed hmethM hstatic hkP hinitP hy (g := g) hg (argsL := argsL) (rest := rest) (hlen _ hsigM) hstack hdg
  rcases hK m meth c ⟨T.setVm vm₁, locs, cells, slots⟩ { g with stack := rest } (.invokestatic index) mk argsL.toArray X₁ hg hsize hdg hW (X₁.named hnamed) (hpre vm₁ X₁.warmed) with ⟨v, B, X', hpost, hsteps⟩ | ⟨q, B, X', hpost, hsteps⟩
  · exact Or.inl ⟨v, vm₁, B, X₁.warmed, X', hpost, fun target h => hstep₁ _ fun acts => by rw [doInvoke_state]; exact hsteps.trans h⟩
  · exact Or.inr ⟨q, vm₁, B, X₁.warmed, X', hpost, hstep₁ _ fun acts => by rw [doInvoke_state]; exact hsteps⟩
theorem vx_callVW (X : Stand p l e R s m args below meth c T locs cells slots) (hexec : p.tables.exec = Jvm.exec) {own C : String} {index : Nat} {y : MethodName} {bytes : ByteArray} {maxL : Nat} {ret : Option FieldType} {hh : List (Nat × Nat × Nat × Nat)}
    (hown : s.vm.findClass own = some m.cls) (hlink : (Cond.methodLink own index y).before args s = true) (hinst : (Cond.instanceMethod y).before args s = true) (hsel : (Cond.selects C y y).before args s = true)
    (hcode : (Cond.codeWith y bytes maxL ret hh).before args s = true) (hy : y.cls ≠ "java/lang/invoke/MethodHandle" ∧ y.cls ≠ "java/lang/invoke/VarHandle")
    {W9 : Nat} {Pre : Pt → Array Value → Prop} {Post : Pt → Array Value → Option Value → Pt → Prop} (hK : Back l R p e below s args y 3 W9 Pre Post)
    {b : Addr} {cellB : Cell} (hcell : T.heap[b]? = some cellB) (hobj : cellB.vm.isStatics = false) (hcls : s.vm.findClass C = some cellB.cls)
    {g : JFrame} (hg : g.method = m) (hsize : g.locals.size = c.maxLocals) {argsL rest : List Value} (hlen : ∀ sig, parseMethodDescriptor y.desc = some sig → argsL.length = sig.parameters.length)
    (hstack : g.stack = argsL.reverse ++ .ref b :: rest) (hW : 2 * g.monitorRoom + (rest.map fun v => v.category).sum ≤ W9) (hdg : decode c.code g.pc = .ok (.invokevirtual index, 3))
    (hpre : ∀ vm₁, s.WarmedH vm₁ → Pre ⟨T.setVm vm₁, locs, cells, slots⟩ (Value.ref b :: argsL).toArray) :
    ∃ (v : Option Value) (vm₁ : Vm) (B : Pt), s.WarmedH vm₁ ∧ Stand p l e R s m args below meth c B.U B.locs B.cells B.slots ∧ Post ⟨T.setVm vm₁, locs, cells, slots⟩ (Value.ref b :: argsL).toArray v B ∧
      ∀ target, Steps p.tables e below (B.U.setTop { g with pc := g.pc + 3, stack := v.toList ++ rest }) target → Steps p.tables e below (T.setTop g) target := by
  obtain ⟨mk, methM, hnamed, hmethM, hstM, habM⟩ := Cond.instanceMethod_spec hinst
  obtain ⟨m8, methM', cM, hn8, hmethM', -, -, -, -, -, -, hsigM⟩ := Cond.codeWith_spec hcode
  cases Option.some.inj (hn8.symm.trans hnamed)
  cases hmethM.symm.trans hmethM'
  obtain ⟨c2, r2, m2, q1, q2, q3, q4, kP, hkP, hkPi⟩ := Cond.selects_spec hsel
  cases hcls.symm.trans q1
  cases (State.methodFound?_of_named hnamed hy).symm.trans q2
  cases hnamed.symm.trans q3
  have hselP : selectMethod e.platform s.vm cellB.cls mk = .method mk := by rw [Launch.admits_selectMethod X.admits]; exact q4
  obtain ⟨vm₁, X₁, hstep₁⟩ := X.invokevirtual hexec hown hlink hnamed hmethM hstM hkP hkPi hy (a := b) (cell := cellB) hcell
    (fun z h => by rw [h] at hobj; cases hobj) hselP hmethM habM hkP hkPi (g := g) hg (argsL := argsL) (rest := rest) (hlen _ hsigM) hstack hdg
  obtain ⟨v, B, X', hpost, hsteps⟩ := hK m meth c ⟨T.setVm vm₁, locs, cells, slots⟩ { g with stack := rest } (.invokevirtual index) mk (Value.ref b :: argsL).toArray X₁ hg hsize hdg hW (X₁.named hnamed) (hpre vm₁ X₁.warmed)
  exact ⟨v, vm₁, B, X₁.warmed, X', hpost, fun target h => hstep₁ _ fun acts => by rw [doInvoke_state]; exact hsteps.trans h⟩
abbrev vx_CVW (R : Room) (s : State) (args : Array Value) (own C : String) (index : Nat) (y : MethodName) (bytes : ByteArray) (maxL : Nat) (ret : Option FieldType) (hh : List (Nat × Nat × Nat × Nat)) (ws : List Cond) (rm : Room) (mc ms n : Nat) : Prop :=
  (rm.cells = mc ∧ rm.slots = ms ∧ rm.frames + 1 ≤ R.frames ∧ 8 + (maxL + 11) + rm.locals ≤ R.locals ∧ (∀ w ∈ ws, ∀ (a' : Array Value) (U : State), s.WarmedH U.vm → w.before a' U = true) ∧ Cond.codeWith y bytes maxL ret hh ∈ ws) ∧
  (Cond.codeWith y bytes maxL ret hh).before args s = true ∧ (Cond.initialized y.cls).before args s = true ∧ (y.cls ≠ "java/lang/invoke/MethodHandle" ∧ y.cls ≠ "java/lang/invoke/VarHandle") ∧
  (∀ sig, parseMethodDescriptor y.desc = some sig → n = sig.parameters.length) ∧ (Cond.methodLink own index y).before args s = true ∧ (Cond.instanceMethod y).before args s = true ∧ (Cond.selects C y y).before args s = true
theorem vx_cwVW {own C : String} {index maxL mc ms : Nat} {y : MethodName} {bytes : ByteArray} {ret : Option FieldType} {hh : List (Nat × Nat × Nat × Nat)} {Ts ws ws' : List Cond} {rm : Room} (n : Nat) (ht : ∀ w ∈ Ts, w.before args s = true) (hT : GoodIn Ts (wsV own index C y ws)) (hw : ws = Cond.codeWith y bytes maxL ret hh :: ws') (hrc : rm.cells = mc) (hrs : rm.slots = ms)
    (hd : y.cls = C ∧ y.cls ≠ "java/lang/invoke/MethodHandle" ∧ y.cls ≠ "java/lang/invoke/VarHandle" ∧ (parseMethodDescriptor y.desc).map (fun d => d.parameters.length) = some n) (hR : rm.frames + 1 ≤ R.frames ∧ 8 + (maxL + 11) + rm.locals ≤ R.locals) :
    vx_CVW R s args own C index y bytes maxL ret hh ws rm mc ms n := by
  obtain ⟨hC, hd⟩ := hd
  subst hC
  have ok : ∀ w ∈ wsV own index y.cls y ws, w.before args s = true := fun w h => ht w (hT w h).1
  have hG : GoodIn Ts ws := fun w h => hT w (by unfold wsV; exact List.mem_append_right _ h)
  have hc : Cond.codeWith y bytes maxL ret hh ∈ ws := by rw [hw]; exact List.mem_cons_self
  refine ⟨⟨hrc, hrs, hR.1, hR.2, pay_in ht hG, hc⟩, ht _ (hG _ hc).1, ok _ (by simp [wsV]), ⟨hd.1, hd.2.1⟩, fun sig h => ?_, ok _ (by simp [wsV]), ok _ (by simp [wsV]), ok _ (by simp [wsV])⟩
  have h2 := hd.2.2
  rw [h] at h2
  exact (Option.some.inj h2).symm
theorem vx_runVW {y : MethodName} {bytes cc : ByteArray} {maxL nL mc ms n index : Nat} {ret : Option FieldType} {hh : List (Nat × Nat × Nat × Nat)} {ws : List Cond} {rm : Room} {Pc : Array Value → State → Prop} {Qc : Array Value → State → Outcome → State → Prop} {free : Addr → Prop} {Ts : List Cond} {own C : String} {b : Addr} {As rest : List Value} {g : JFrame}
    (S : CallFix p m c cc nL s args Ts own) (hM : Met l y ws rm Pc Qc mc ms free) (cw : vx_CVW R s args own C index y bytes maxL ret hh ws rm mc ms n) (hp : PreV s H C b Pc As)
    (hg : g.method = m) (hn : As.length = n) (hsize : g.locals.size = nL) (hstack : g.stack = As.reverse ++ .ref b :: rest) (hW : 2 * g.monitorRoom + (rest.map fun v => v.category).sum ≤ 8) (hdg : decode cc g.pc = .ok (.invokevirtual index, 3)) (hf : cells + mc ≤ R.cells ∧ slots + ms ≤ R.slots) :
    va_Run p l e R s m args below meth c H locs cells slots mc ms g rest (Qc (Value.ref b :: As).toArray) free := by
  obtain ⟨⟨hrc, hrs, hfr, hlo, hws, hcw⟩, hcode, hini, hy, hlen, hl, hin, hse⟩ := cw
  have hK : Back l R p e below s args y 3 8 (PreOf R mc ms Pc) (PostOf Qc mc ms free) := va_backW (hh := hh) (bytes := bytes) (maxL := maxL) (ret := ret) hM hp.1 hrc hrs hfr hlo hws hcw (fun a' U hW => word_at hW (Or.inl (by first | rfl | simp [Cond.onTables, Cond.keeps, Cond.steady])) hini)
  obtain ⟨hx, hb, hml, ho, -⟩ := S
  obtain ⟨-, ⟨cellB, hcB, hoB, hclB⟩, hPc⟩ := hp
  intro T hT X
  obtain ⟨v, vm₁, ⟨U', l2, c2, s2⟩, hW₁, X', ⟨g', mk, t, L, e1, e2, hq, h1, hL, h2, h3⟩, st⟩ := vx_callVW X hx (C := C) (hh := hh) (bytes := bytes) (maxL := maxL) (ret := ret) ho hl hin hse hcode hy hK (by rw [hT]; exact hcB) hoB hclB hg (hsize.trans hml.symm) (argsL := As) (rest := rest) (fun sig h => hn.trans (hlen sig h)) hstack hW (by rw [hb]; exact hdg)
    (fun vm₁ hW₁ => ⟨hf.1, hf.2, hPc (T.setVm vm₁) hT hW₁⟩)
  dsimp only [Pt.U, Pt.locs, Pt.cells, Pt.slots] at X' e1 e2 h1 h2 h3 st
  subst h1; subst h2; subst h3
  exact ⟨v, (T.setVm vm₁).calling g' mk (Value.ref b :: As).toArray, t, U', L, hT, X', hL, e1, e2, hq, st⟩
section
variable {y : MethodName} {bytes cc : ByteArray} {maxL nL mc ms n index : Nat} {ret : Option FieldType} {ws : List Cond} {rm : Room} {Pc : Array Value → State → Prop} {Qc : Array Value → State → Outcome → State → Prop} {XC : String → State → State → Prop} {free : Addr → Prop} {Ts : List Cond} {own C : String} {b : Addr} {As rest : List Value} {g : JFrame}
theorem vx_runVX {hh : List (Nat × Nat × Nat × Nat)} (S : CallFix p m c cc nL s args Ts own) (hM : vx_Met l y ws rm Pc Qc XC mc ms free) (cw : vx_CVW R s args own C index y bytes maxL ret hh ws rm mc ms n) (hp : PreV s H C b Pc As)
    (hg : g.method = m) (hn : As.length = n) (hsize : g.locals.size = nL) (hstack : g.stack = As.reverse ++ .ref b :: rest) (hW : 2 * g.monitorRoom + (rest.map fun v => v.category).sum ≤ 8) (hdg : decode cc g.pc = .ok (.invokevirtual index, 3)) (hf : cells + mc ≤ R.cells ∧ slots + ms ≤ R.slots) :
    vx_Run p l e R s m args below meth c H locs cells slots mc ms g rest (Qc (Value.ref b :: As).toArray) XC free := by
  obtain ⟨⟨hrc, hrs, hfr, hlo, hws, hcw⟩, hcode, hini, hy, hlen, hl, hin, hse⟩ := cw
  have hK : vx_Back l R p e below s args y 3 8 (PreOf R mc ms Pc) (PostOf Qc mc ms free) (vx_Post XC mc ms free) := vx_backW (hh := hh) (bytes := bytes) (maxL := maxL) (ret := ret) hM hp.1 hrc hrs hfr hlo hws hcw (fun a' U hW => word_at hW (Or.inl (by first | rfl | simp [Cond.onTables, Cond.keeps, Cond.steady])) hini)
  obtain ⟨hx, hb, hml, ho, -⟩ := S
  obtain ⟨-, ⟨cellB, hcB, hoB, hclB⟩, hPc⟩ := hp
  intro T hT X
  rcases vx_callVX X hx (C := C) (hh := hh) (bytes := bytes) (maxL := maxL) (ret := ret) ho hl hin hse hcode hy hK (by rw [hT]; exact hcB) hoB hclB hg (hsize.trans hml.symm) (argsL := As) (rest := rest) (fun sig h => hn.trans (hlen sig h)) hstack hW (by rw [hb]; exact hdg)
    (fun vm₁ hW₁ => ⟨hf.1, hf.2, hPc (T.setVm vm₁) hT hW₁⟩) with ⟨v, vm₁, ⟨U', l2, c2, s2⟩, hW₁, X', ⟨g', mk, t, L, e1, e2, hq, h1, hL, h2, h3⟩, st⟩ | ⟨q, vm₁, ⟨U', l2, c2, s2⟩, hW₁, X', ⟨g', mk, t, L, E, ce, e1, e2, hq, hce, hcv, hcl, h1, hL, h2, h3⟩, st⟩
  · dsimp only [Pt.U, Pt.locs, Pt.cells, Pt.slots] at X' e1 e2 h1 h2 h3 st
    subst h1; subst h2; subst h3
    exact Or.inl ⟨v, (T.setVm vm₁).calling g' mk (Value.ref b :: As).toArray, t, U', L, hT, X', hL, e1, e2, hq, st⟩
  · dsimp only [Pt.U, Pt.locs, Pt.cells, Pt.slots] at X' e1 e2 h1 h2 h3 st hcl
    subst h1; subst h2; subst h3
    exact Or.inr ⟨q, (T.setVm vm₁).calling g' mk (Value.ref b :: As).toArray, t, U', L, E, ce, hT, X', hL, e1, e2, hq, hce, hcv, vx_cls hW₁ hcl, st⟩
theorem vx_runSX {hh : List (Nat × Nat × Nat × Nat)} (S : CallFix p m c cc nL s args Ts own) (hM : vx_Met l y ws rm Pc Qc XC mc ms free) (cw : vx_CSW R s args own index y bytes maxL ret hh ws rm mc ms n) (hp : PreS s H Pc As)
    (hg : g.method = m) (hn : As.length = n) (hsize : g.locals.size = nL) (hstack : g.stack = As.reverse ++ rest) (hW : 2 * g.monitorRoom + (rest.map fun v => v.category).sum ≤ 8) (hdg : decode cc g.pc = .ok (.invokestatic index, 3)) (hf : cells + mc ≤ R.cells ∧ slots + ms ≤ R.slots) :
    vx_Run p l e R s m args below meth c H locs cells slots mc ms g rest (Qc As.toArray) XC free := by
  obtain ⟨⟨hrc, hrs, hfr, hlo, hws, hcw⟩, hcode, hini, hy, hlen, hl, hstt⟩ := cw
  have hK : vx_Back l R p e below s args y 3 8 (PreOf R mc ms Pc) (PostOf Qc mc ms free) (vx_Post XC mc ms free) := vx_backW (hh := hh) (bytes := bytes) (maxL := maxL) (ret := ret) hM hp.1 hrc hrs hfr hlo hws hcw (fun a' U hW => word_at hW (Or.inl (by first | rfl | simp [Cond.onTables, Cond.keeps, Cond.steady])) hini)
  obtain ⟨hx, hb, hml, ho, -⟩ := S
  intro T hT X
  rcases vx_callSX X hx (hh := hh) (bytes := bytes) (maxL := maxL) (ret := ret) ho hl hstt hini hcode hy hK hg (hsize.trans hml.symm) (argsL := As) (rest := rest) (fun sig h => hn.trans (hlen sig h)) hstack hW (by rw [hb]; exact hdg)
    (fun vm₁ hW₁ => ⟨hf.1, hf.2, hp.2 (T.setVm vm₁) hT hW₁⟩) with ⟨v, vm₁, ⟨U', l2, c2, s2⟩, hW₁, X', ⟨g', mk, t, L, e1, e2, hq, h1, hL, h2, h3⟩, st⟩ | ⟨q, vm₁, ⟨U', l2, c2, s2⟩, hW₁, X', ⟨g', mk, t, L, E, ce, e1, e2, hq, hce, hcv, hcl, h1, hL, h2, h3⟩, st⟩
  · dsimp only [Pt.U, Pt.locs, Pt.cells, Pt.slots] at X' e1 e2 h1 h2 h3 st
    subst h1; subst h2; subst h3
    exact Or.inl ⟨v, (T.setVm vm₁).calling g' mk As.toArray, t, U', L, hT, X', hL, e1, e2, hq, st⟩
  · dsimp only [Pt.U, Pt.locs, Pt.cells, Pt.slots] at X' e1 e2 h1 h2 h3 st hcl
    subst h1; subst h2; subst h3
    exact Or.inr ⟨q, (T.setVm vm₁).calling g' mk As.toArray, t, U', L, E, ce, hT, X', hL, e1, e2, hq, hce, hcv, vx_cls hW₁ hcl, st⟩
end
end VXH
theorem vx_ofWH {l : Launch} {y : MethodName} {ws ws' : List Cond} {rm : Room} {Pc : Array Value → State → Prop} {Qc : Array Value → State → Outcome → State → Prop} {XC : String → State → State → Prop} {mc ms : Nat} {free : Addr → Prop} {cc : ByteArray} {maxL : Nat} {ret : Option FieldType} {hh : List (Nat × Nat × Nat × Nat)}
    (hy : plainName y.cls = true) (hw : ws = Cond.codeWith y cc maxL ret hh :: ws')
    (body : ∀ p e s m args below meth c s₁, BodyLoose p l y (headSpec ws rm) cc maxL ret e s m args below meth c s₁ → c.maxLocals = maxL → Pc args s →
      W p l e (headSpec ws rm).room s m args below meth c s.heap [] 0 0 (vx_MQ below Qc XC args s mc ms free) (entryFrame m args maxL)) : vx_Met l y ws rm Pc Qc XC mc ms free := by
  refine MetFree.of_bodyS (code := cc) (maxLocals := maxL) (ret := ret) hy ?_ ?_
  · intro args s m h hn
    obtain ⟨m9, meth, c, hn9, h1, h2, h3, h4, -, h5, h6, -⟩ := Cond.codeWith_spec (atoms_spec (ws := ws) h _ (by rw [hw]; exact List.mem_cons_self))
    cases hn.symm.trans hn9
    exact ⟨meth, c, h1, h2, h3, h4, h5, h6⟩
  · intro p e s m args below meth c s₁ B hml hP _
    have hh0 : s₁.heap = s.heap := by rw [B.state]; rfl
    obtain ⟨t, a1, o, b1, b2, b3⟩ := body p e s m args below meth c s₁ B hml hP s₁ hh0 (Stand.of_body B)
    exact ⟨t, o, a1, b1, b2, b3⟩
/-! ===== END ===== -/
end
section
/-! NAMES, by program out of the Statement and javap's listing -/
def WALL : List Cond := lw_tbl.filter goodWord
theorem WALL_good : WALL.all goodWord = true := List.all_eq_true.mpr (fun _ h => (List.mem_filter.mp h).2)
def isBad : Cond → Bool
  | .castable .. => true
  | .declares _ => true
  | _ => false
def WBAD : List Cond := lw_tbl.filter isBad
theorem WBAD_in : ∀ w ∈ WBAD, w ∈ lw_tbl := fun _ h => (List.mem_filter.mp h).1
theorem WALL_in : ∀ w ∈ WALL, w ∈ lw_tbl := fun _ h => (List.mem_filter.mp h).1
def F_Log : u_T := fun k => match k with
  | 0 => ("SharedLog", "units", "[LSharedLog$Unit;", true)
  | 1 => ("SharedLog", "clients", "[LSharedLog$Client;", true)
  | 2 => ("SharedLog", "sequencer", "LSharedLog$Sequencer;", true)
  | 3 => ("SharedLog", "nothing", "LSharedLog$Entry;", true)
  | 4 => ("SharedLog", "junk", "LSharedLog$Entry;", true)
  | 5 => ("SharedLog", "trimmed", "LSharedLog$Entry;", true)
  | _ => ("SharedLog", "installed", "LSharedLog$Layout;", false)
def ty_Log : Nat → FieldType := fun k => match k with
  | 0 => (.array (.object "SharedLog$Unit"))
  | 1 => (.array (.object "SharedLog$Client"))
  | 2 => (.object "SharedLog$Sequencer")
  | 3 => (.object "SharedLog$Entry")
  | 4 => (.object "SharedLog$Entry")
  | 5 => (.object "SharedLog$Entry")
  | _ => (.object "SharedLog$Layout")
def F_Unit : u_T := fun k => match k with
  | 0 => ("SharedLog$Unit", "cells", "[LSharedLog$Entry;", true)
  | 1 => ("SharedLog$Unit", "isUp", "Z", false)
  | _ => ("SharedLog$Unit", "seal", "I", false)
def ty_Unit : Nat → FieldType := fun k => match k with
  | 0 => (.array (.object "SharedLog$Entry"))
  | 1 => .boolean
  | _ => .int
def F_Entry : u_T := fun k => match k with
  | 0 => ("SharedLog$Entry", "kind", "I", true)
  | 1 => ("SharedLog$Entry", "answer", "I", true)
  | _ => ("SharedLog$Entry", "work", "LSharedLog$Work;", true)
def ty_Entry : Nat → FieldType := fun k => match k with
  | 0 => .int
  | 1 => .int
  | _ => (.object "SharedLog$Work")
def F_Layout : u_T := fun k => match k with
  | 0 => ("SharedLog$Layout", "epoch", "I", true)
  | 1 => ("SharedLog$Layout", "even", "[I", true)
  | _ => ("SharedLog$Layout", "odd", "[I", true)
def ty_Layout : Nat → FieldType := fun k => match k with
  | 0 => .int
  | 1 => (.array .int)
  | _ => (.array .int)
def F_Seq : u_T := fun k => match k with
  | 0 => ("SharedLog$Sequencer", "lost", "Z", false)
  | 1 => ("SharedLog$Sequencer", "epoch", "I", false)
  | _ => ("SharedLog$Sequencer", "next", "I", false)
def ty_Seq : Nat → FieldType := fun k => match k with
  | 0 => .boolean
  | 1 => .int
  | _ => .int
def F_Work : u_T := fun k => match k with
  | 0 => ("SharedLog$Work", "reads", "[Z", true)
  | 1 => ("SharedLog$Work", "readAges", "[I", true)
  | 2 => ("SharedLog$Work", "puts", "[Z", true)
  | _ => ("SharedLog$Work", "values", "[I", true)
def ty_Work : Nat → FieldType := fun k => match k with
  | 0 => (.array .boolean)
  | 1 => (.array .int)
  | 2 => (.array .boolean)
  | _ => (.array .int)
def F_Client : u_T := fun k => match k with
  | 0 => ("SharedLog$Client", "values", "[I", true)
  | 1 => ("SharedLog$Client", "ages", "[I", true)
  | 2 => ("SharedLog$Client", "transaction", "LSharedLog$Work;", true)
  | 3 => ("SharedLog$Client", "inTransaction", "Z", false)
  | 4 => ("SharedLog$Client", "position", "I", false)
  | _ => ("SharedLog$Client", "known", "LSharedLog$Layout;", false)
def ty_Client : Nat → FieldType := fun k => match k with
  | 0 => (.array .int)
  | 1 => (.array .int)
  | 2 => (.object "SharedLog$Work")
  | 3 => .boolean
  | 4 => .int
  | _ => (.object "SharedLog$Layout")
def F_Model : u_T := fun k => match k with
  | 0 => ("SharedLogModel", "failed", "I", false)
  | 1 => ("SharedLogModel", "kind", "[I", true)
  | 2 => ("SharedLogModel", "register", "[I", true)
  | 3 => ("SharedLogModel", "value", "[I", true)
  | 4 => ("SharedLogModel", "reads", "[I", true)
  | 5 => ("SharedLogModel", "puts", "[I", true)
  | 6 => ("SharedLogModel", "readAge", "[I", true)
  | 7 => ("SharedLogModel", "putValue", "[I", true)
  | 8 => ("SharedLogModel", "down", "[Z", true)
  | 9 => ("SharedLogModel", "seal", "[I", true)
  | 10 => ("SharedLogModel", "epoch", "I", false)
  | 11 => ("SharedLogModel", "row", "[I", true)
  | 12 => ("SharedLogModel", "sequencer", "I", false)
  | 13 => ("SharedLogModel", "lost", "Z", false)
  | 14 => ("SharedLogModel", "next", "I", false)
  | 15 => ("SharedLogModel", "knows", "[I", true)
  | 16 => ("SharedLogModel", "knownRow", "[I", true)
  | 17 => ("SharedLogModel", "position", "[I", true)
  | 18 => ("SharedLogModel", "now", "[I", true)
  | 19 => ("SharedLogModel", "age", "[I", true)
  | 20 => ("SharedLogModel", "open", "[Z", true)
  | 21 => ("SharedLogModel", "seen", "[I", true)
  | 22 => ("SharedLogModel", "seenAge", "[I", true)
  | 23 => ("SharedLogModel", "given", "[I", true)
  | 24 => ("SharedLogModel", "givenValue", "[I", true)
  | _ => ("SharedLogModel", "took", "Z", false)
def ty_Model : Nat → FieldType := fun k => match k with
  | 0 => .int
  | 1 => (.array .int)
  | 2 => (.array .int)
  | 3 => (.array .int)
  | 4 => (.array .int)
  | 5 => (.array .int)
  | 6 => (.array .int)
  | 7 => (.array .int)
  | 8 => (.array .boolean)
  | 9 => (.array .int)
  | 10 => .int
  | 11 => (.array .int)
  | 12 => .int
  | 13 => .boolean
  | 14 => .int
  | 15 => (.array .int)
  | 16 => (.array .int)
  | 17 => (.array .int)
  | 18 => (.array .int)
  | 19 => (.array .int)
  | 20 => (.array .boolean)
  | 21 => (.array .int)
  | 22 => (.array .int)
  | 23 => (.array .int)
  | 24 => (.array .int)
  | _ => .boolean
abbrev classes : List vw_C := [("SharedLog", F_Log, 7), ("SharedLog$Unit", F_Unit, 3), ("SharedLog$Entry", F_Entry, 3), ("SharedLog$Layout", F_Layout, 3), ("SharedLog$Sequencer", F_Seq, 3), ("SharedLog$Work", F_Work, 4), ("SharedLog$Client", F_Client, 6), ("SharedLogModel", F_Model, 26)]
abbrev TYS (cT : Nat → ClassId) : List (ClassId × FieldType) := [(cT 0, .int), (cT 1, .boolean), (cT 2, .long), (cT 3, .object "SharedLog$Unit"), (cT 4, .object "SharedLog$Client"), (cT 5, .object "SharedLog$Entry")]
def AOS : List String := ["SharedLog$Unit", "SharedLog$Client", "SharedLog$Entry"]
def STRS : List (String × Nat × String) := [("SharedLog", 226, "a number out of range"), ("SharedLog", 236, "no sequencer of this epoch"), ("SharedLog", 240, "the log is full"), ("SharedLog", 243, "a unit that is not up, or sealed"), ("SharedLog", 245, "written or trimmed already"), ("SharedLog", 247, "nothing there"), ("SharedLog", 251, "trimmed"), ("SharedLog", 96, "junk"), ("SharedLog", 232, "no row of units"), ("SharedLog", 264, "an old layout"), ("SharedLog", 269, "a unit of the row is not up"), ("SharedLog", 271, "no unit of a chain is up"), ("SharedLog", 184, "a transaction already"), ("SharedLog", 234, "no transaction")]
def NSTS : List (String × Nat × MethodName × String) := [("SharedLog", 23, ({ cls := "SharedLog$Sequencer", name := "<init>", desc := "()V" } : Jvm.MethodName), "SharedLog"), ("SharedLog", 30, ({ cls := "SharedLog$Work", name := "<init>", desc := "()V" } : Jvm.MethodName), "SharedLog"), ("SharedLog$Client", 20, ({ cls := "SharedLog$Work", name := "<init>", desc := "()V" } : Jvm.MethodName), "SharedLog")]
def NCS : List (String × String) := [("SharedLog", "java/lang/IllegalArgumentException"), ("SharedLog$Sequencer", "java/lang/IllegalArgumentException"), ("SharedLog$Work", "java/lang/IllegalArgumentException"), ("SharedLog$Entry", "java/lang/IllegalArgumentException"), ("SharedLog$Layout", "java/lang/IllegalArgumentException"), ("SharedLog$Unit", "java/lang/IllegalArgumentException"), ("SharedLog$Client", "java/lang/IllegalArgumentException"), ("SharedLogModel", "java/lang/IllegalArgumentException"), ("java/lang/IllegalStateException", "java/lang/IllegalArgumentException"), ("java/lang/IndexOutOfBoundsException", "java/lang/IllegalArgumentException"), ("java/lang/UnsupportedOperationException", "java/lang/IllegalArgumentException"), ("java/util/NoSuchElementException", "java/lang/IllegalArgumentException"), ("SharedLog", "java/lang/IllegalStateException"), ("SharedLog$Sequencer", "java/lang/IllegalStateException"), ("SharedLog$Work", "java/lang/IllegalStateException"), ("SharedLog$Entry", "java/lang/IllegalStateException"), ("SharedLog$Layout", "java/lang/IllegalStateException"), ("SharedLog$Unit", "java/lang/IllegalStateException"), ("SharedLog$Client", "java/lang/IllegalStateException"), ("SharedLogModel", "java/lang/IllegalStateException"), ("java/lang/IllegalArgumentException", "java/lang/IllegalStateException"), ("java/lang/IndexOutOfBoundsException", "java/lang/IllegalStateException"), ("java/lang/UnsupportedOperationException", "java/lang/IllegalStateException"), ("java/util/NoSuchElementException", "java/lang/IllegalStateException"), ("SharedLog", "java/lang/UnsupportedOperationException"), ("SharedLog$Sequencer", "java/lang/UnsupportedOperationException"), ("SharedLog$Work", "java/lang/UnsupportedOperationException"), ("SharedLog$Entry", "java/lang/UnsupportedOperationException"), ("SharedLog$Layout", "java/lang/UnsupportedOperationException"), ("SharedLog$Unit", "java/lang/UnsupportedOperationException"), ("SharedLog$Client", "java/lang/UnsupportedOperationException"), ("SharedLogModel", "java/lang/UnsupportedOperationException"), ("java/lang/IllegalArgumentException", "java/lang/UnsupportedOperationException"), ("java/lang/IllegalStateException", "java/lang/UnsupportedOperationException"), ("java/lang/IndexOutOfBoundsException", "java/lang/UnsupportedOperationException"), ("java/util/NoSuchElementException", "java/lang/UnsupportedOperationException"), ("SharedLog", "java/lang/IndexOutOfBoundsException"), ("SharedLog$Sequencer", "java/lang/IndexOutOfBoundsException"), ("SharedLog$Work", "java/lang/IndexOutOfBoundsException"), ("SharedLog$Entry", "java/lang/IndexOutOfBoundsException"), ("SharedLog$Layout", "java/lang/IndexOutOfBoundsException"), ("SharedLog$Unit", "java/lang/IndexOutOfBoundsException"), ("SharedLog$Client", "java/lang/IndexOutOfBoundsException"), ("SharedLogModel", "java/lang/IndexOutOfBoundsException"), ("java/lang/IllegalArgumentException", "java/lang/IndexOutOfBoundsException"), ("java/lang/IllegalStateException", "java/lang/IndexOutOfBoundsException"), ("java/lang/UnsupportedOperationException", "java/lang/IndexOutOfBoundsException"), ("java/util/NoSuchElementException", "java/lang/IndexOutOfBoundsException"), ("SharedLog", "java/util/NoSuchElementException"), ("SharedLog$Sequencer", "java/util/NoSuchElementException"), ("SharedLog$Work", "java/util/NoSuchElementException"), ("SharedLog$Entry", "java/util/NoSuchElementException"), ("SharedLog$Layout", "java/util/NoSuchElementException"), ("SharedLog$Unit", "java/util/NoSuchElementException"), ("SharedLog$Client", "java/util/NoSuchElementException"), ("SharedLogModel", "java/util/NoSuchElementException"), ("java/lang/IllegalArgumentException", "java/util/NoSuchElementException"), ("java/lang/IllegalStateException", "java/util/NoSuchElementException"), ("java/lang/IndexOutOfBoundsException", "java/util/NoSuchElementException"), ("java/lang/UnsupportedOperationException", "java/util/NoSuchElementException")]
theorem oi_Log : Cond.methodLink "SharedLog" 1 objectInit ∈ WALL := List.mem_filter.mpr ⟨List.mem_append_right _ (List.mem_of_getElem? (i := 22) (by decide +kernel)), by decide +kernel⟩
theorem oi_Model : Cond.methodLink "SharedLogModel" 1 objectInit ∈ WALL := List.mem_filter.mpr ⟨List.mem_append_right _ (List.mem_of_getElem? (i := 594) (by decide +kernel)), by decide +kernel⟩
theorem oi_Client : Cond.methodLink "SharedLog$Client" 3 objectInit ∈ WALL := List.mem_filter.mpr ⟨List.mem_append_right _ (List.mem_of_getElem? (i := 139) (by decide +kernel)), by decide +kernel⟩
theorem oi_Entry : Cond.methodLink "SharedLog$Entry" 1 objectInit ∈ WALL := List.mem_filter.mpr ⟨List.mem_append_right _ (List.mem_of_getElem? (i := 80) (by decide +kernel)), by decide +kernel⟩
theorem oi_Layout : Cond.methodLink "SharedLog$Layout" 3 objectInit ∈ WALL := List.mem_filter.mpr ⟨List.mem_append_right _ (List.mem_of_getElem? (i := 103) (by decide +kernel)), by decide +kernel⟩
theorem oi_Seq : Cond.methodLink "SharedLog$Sequencer" 3 objectInit ∈ WALL := List.mem_filter.mpr ⟨List.mem_append_right _ (List.mem_of_getElem? (i := 34) (by decide +kernel)), by decide +kernel⟩
theorem oi_Unit : Cond.methodLink "SharedLog$Unit" 3 objectInit ∈ WALL := List.mem_filter.mpr ⟨List.mem_append_right _ (List.mem_of_getElem? (i := 119) (by decide +kernel)), by decide +kernel⟩
theorem oi_Work : Cond.methodLink "SharedLog$Work" 3 objectInit ∈ WALL := List.mem_filter.mpr ⟨List.mem_append_right _ (List.mem_of_getElem? (i := 53) (by decide +kernel)), by decide +kernel⟩
theorem oi_i : Cond.instanceMethod objectInit ∈ WALL := List.mem_filter.mpr ⟨List.mem_append_right _ (List.mem_of_getElem? (i := 23) (by decide +kernel)), by decide +kernel⟩
theorem oi_c : Cond.code objectInit ⟨#[0xb1]⟩ 1 none ∈ WALL := List.mem_filter.mpr ⟨List.mem_append_right _ (List.mem_of_getElem? (i := 24) (by decide +kernel)), by decide +kernel⟩
theorem ac_I : Cond.arrayClass .int ∈ WALL := List.mem_filter.mpr ⟨List.mem_append_right _ (List.mem_of_getElem? (i := 74) (by decide +kernel)), by decide +kernel⟩
theorem ac_Z : Cond.arrayClass .boolean ∈ WALL := List.mem_filter.mpr ⟨List.mem_append_right _ (List.mem_of_getElem? (i := 73) (by decide +kernel)), by decide +kernel⟩
theorem ac_J : Cond.arrayClass .long ∈ WALL := List.mem_filter.mpr ⟨List.mem_append_right _ (List.mem_of_getElem? (i := 830) (by decide +kernel)), by decide +kernel⟩
theorem t_0 : (Jvm.Cond.initialized "SharedLogLaw") ∈ WALL := List.mem_filter.mpr ⟨List.mem_append_right _ (List.mem_of_getElem? (i := 0) (by decide +kernel)), by decide +kernel⟩
theorem t_1 : (Jvm.Cond.initialized "SharedLog") ∈ WALL := List.mem_filter.mpr ⟨List.mem_append_right _ (List.mem_of_getElem? (i := 1) (by decide +kernel)), by decide +kernel⟩
theorem t_2 : (Jvm.Cond.initialized "SharedLog$Sequencer") ∈ WALL := List.mem_filter.mpr ⟨List.mem_append_right _ (List.mem_of_getElem? (i := 2) (by decide +kernel)), by decide +kernel⟩
theorem t_3 : (Jvm.Cond.initialized "SharedLog$Work") ∈ WALL := List.mem_filter.mpr ⟨List.mem_append_right _ (List.mem_of_getElem? (i := 3) (by decide +kernel)), by decide +kernel⟩
theorem t_4 : (Jvm.Cond.initialized "SharedLog$Entry") ∈ WALL := List.mem_filter.mpr ⟨List.mem_append_right _ (List.mem_of_getElem? (i := 4) (by decide +kernel)), by decide +kernel⟩
theorem t_5 : (Jvm.Cond.initialized "SharedLog$Layout") ∈ WALL := List.mem_filter.mpr ⟨List.mem_append_right _ (List.mem_of_getElem? (i := 5) (by decide +kernel)), by decide +kernel⟩
theorem t_6 : (Jvm.Cond.initialized "SharedLog$Unit") ∈ WALL := List.mem_filter.mpr ⟨List.mem_append_right _ (List.mem_of_getElem? (i := 6) (by decide +kernel)), by decide +kernel⟩
theorem t_7 : (Jvm.Cond.initialized "SharedLog$Client") ∈ WALL := List.mem_filter.mpr ⟨List.mem_append_right _ (List.mem_of_getElem? (i := 7) (by decide +kernel)), by decide +kernel⟩
theorem t_8 : (Jvm.Cond.initialized "SharedLogModel") ∈ WALL := List.mem_filter.mpr ⟨List.mem_append_right _ (List.mem_of_getElem? (i := 8) (by decide +kernel)), by decide +kernel⟩
theorem t_12 : (Jvm.Cond.initialized "java/lang/IllegalArgumentException") ∈ WALL := List.mem_filter.mpr ⟨List.mem_append_right _ (List.mem_of_getElem? (i := 12) (by decide +kernel)), by decide +kernel⟩
theorem t_13 : (Jvm.Cond.initialized "java/lang/IllegalStateException") ∈ WALL := List.mem_filter.mpr ⟨List.mem_append_right _ (List.mem_of_getElem? (i := 13) (by decide +kernel)), by decide +kernel⟩
theorem t_14 : (Jvm.Cond.initialized "java/lang/IndexOutOfBoundsException") ∈ WALL := List.mem_filter.mpr ⟨List.mem_append_right _ (List.mem_of_getElem? (i := 14) (by decide +kernel)), by decide +kernel⟩
theorem t_15 : (Jvm.Cond.initialized "java/lang/UnsupportedOperationException") ∈ WALL := List.mem_filter.mpr ⟨List.mem_append_right _ (List.mem_of_getElem? (i := 15) (by decide +kernel)), by decide +kernel⟩
theorem t_17 : (Jvm.Cond.classLink "SharedLogLaw" (8 : Nat) "SharedLog") ∈ WALL := List.mem_filter.mpr ⟨List.mem_append_right _ (List.mem_of_getElem? (i := 17) (by decide +kernel)), by decide +kernel⟩
theorem t_18 : (Jvm.Cond.instantiable "SharedLog" (7 : Nat)) ∈ WALL := List.mem_filter.mpr ⟨List.mem_append_right _ (List.mem_of_getElem? (i := 18) (by decide +kernel)), by decide +kernel⟩
theorem t_19 : (Jvm.Cond.methodLink "SharedLogLaw" (76 : Nat) ({ cls := "SharedLog", name := "<init>", desc := "()V" } : Jvm.MethodName)) ∈ WALL := List.mem_filter.mpr ⟨List.mem_append_right _ (List.mem_of_getElem? (i := 19) (by decide +kernel)), by decide +kernel⟩
theorem t_20 : (Jvm.Cond.instanceMethod ({ cls := "SharedLog", name := "<init>", desc := "()V" } : Jvm.MethodName)) ∈ WALL := List.mem_filter.mpr ⟨List.mem_append_right _ (List.mem_of_getElem? (i := 20) (by decide +kernel)), by decide +kernel⟩
theorem t_21 : (Jvm.Cond.code ({ cls := "SharedLog", name := "<init>", desc := "()V" } : Jvm.MethodName) prog_1_method_1_code (3 : Nat) (Option.none : Option Jvm.ClassFile.FieldType)) ∈ WALL := List.mem_filter.mpr ⟨List.mem_append_right _ (List.mem_of_getElem? (i := 21) (by decide +kernel)), by decide +kernel⟩
theorem t_25 : (Jvm.Cond.classLink "SharedLog" (9 : Nat) "SharedLog$Unit") ∈ WALL := List.mem_filter.mpr ⟨List.mem_append_right _ (List.mem_of_getElem? (i := 25) (by decide +kernel)), by decide +kernel⟩
theorem t_27 : (Jvm.Cond.classLink "SharedLog" (15 : Nat) "SharedLog$Client") ∈ WALL := List.mem_filter.mpr ⟨List.mem_append_right _ (List.mem_of_getElem? (i := 27) (by decide +kernel)), by decide +kernel⟩
theorem t_29 : (Jvm.Cond.classLink "SharedLog" (21 : Nat) "SharedLog$Sequencer") ∈ WALL := List.mem_filter.mpr ⟨List.mem_append_right _ (List.mem_of_getElem? (i := 29) (by decide +kernel)), by decide +kernel⟩
theorem t_30 : (Jvm.Cond.instantiable "SharedLog$Sequencer" (3 : Nat)) ∈ WALL := List.mem_filter.mpr ⟨List.mem_append_right _ (List.mem_of_getElem? (i := 30) (by decide +kernel)), by decide +kernel⟩
theorem t_32 : (Jvm.Cond.instanceMethod ({ cls := "SharedLog$Sequencer", name := "<init>", desc := "()V" } : Jvm.MethodName)) ∈ WALL := List.mem_filter.mpr ⟨List.mem_append_right _ (List.mem_of_getElem? (i := 32) (by decide +kernel)), by decide +kernel⟩
theorem t_33 : (Jvm.Cond.code ({ cls := "SharedLog$Sequencer", name := "<init>", desc := "()V" } : Jvm.MethodName) prog_5_method_1_code (1 : Nat) (Option.none : Option Jvm.ClassFile.FieldType)) ∈ WALL := List.mem_filter.mpr ⟨List.mem_append_right _ (List.mem_of_getElem? (i := 33) (by decide +kernel)), by decide +kernel⟩
theorem t_35 : (Jvm.Cond.fieldLink "SharedLog$Sequencer" (9 : Nat) "SharedLog$Sequencer" "lost" "Z") ∈ WALL := List.mem_filter.mpr ⟨List.mem_append_right _ (List.mem_of_getElem? (i := 35) (by decide +kernel)), by decide +kernel⟩
theorem t_36 : (Jvm.Cond.fieldLink "SharedLog" (161 : Nat) "SharedLog$Sequencer" "lost" "Z") ∈ WALL := List.mem_filter.mpr ⟨List.mem_append_right _ (List.mem_of_getElem? (i := 36) (by decide +kernel)), by decide +kernel⟩
theorem t_37 : (Jvm.Cond.fieldLink "SharedLog$Sequencer" (15 : Nat) "SharedLog$Sequencer" "epoch" "I") ∈ WALL := List.mem_filter.mpr ⟨List.mem_append_right _ (List.mem_of_getElem? (i := 37) (by decide +kernel)), by decide +kernel⟩
theorem t_38 : (Jvm.Cond.fieldLink "SharedLog" (223 : Nat) "SharedLog$Sequencer" "epoch" "I") ∈ WALL := List.mem_filter.mpr ⟨List.mem_append_right _ (List.mem_of_getElem? (i := 38) (by decide +kernel)), by decide +kernel⟩
theorem t_39 : (Jvm.Cond.fieldLink "SharedLog$Sequencer" (19 : Nat) "SharedLog$Sequencer" "next" "I") ∈ WALL := List.mem_filter.mpr ⟨List.mem_append_right _ (List.mem_of_getElem? (i := 39) (by decide +kernel)), by decide +kernel⟩
theorem t_40 : (Jvm.Cond.fieldLink "SharedLog" (152 : Nat) "SharedLog$Sequencer" "next" "I") ∈ WALL := List.mem_filter.mpr ⟨List.mem_append_right _ (List.mem_of_getElem? (i := 40) (by decide +kernel)), by decide +kernel⟩
theorem t_48 : (Jvm.Cond.classLink "SharedLog" (28 : Nat) "SharedLog$Work") ∈ WALL := List.mem_filter.mpr ⟨List.mem_append_right _ (List.mem_of_getElem? (i := 48) (by decide +kernel)), by decide +kernel⟩
theorem t_49 : (Jvm.Cond.instantiable "SharedLog$Work" (4 : Nat)) ∈ WALL := List.mem_filter.mpr ⟨List.mem_append_right _ (List.mem_of_getElem? (i := 49) (by decide +kernel)), by decide +kernel⟩
theorem t_51 : (Jvm.Cond.instanceMethod ({ cls := "SharedLog$Work", name := "<init>", desc := "()V" } : Jvm.MethodName)) ∈ WALL := List.mem_filter.mpr ⟨List.mem_append_right _ (List.mem_of_getElem? (i := 51) (by decide +kernel)), by decide +kernel⟩
theorem t_52 : (Jvm.Cond.code ({ cls := "SharedLog$Work", name := "<init>", desc := "()V" } : Jvm.MethodName) prog_7_method_1_code (1 : Nat) (Option.none : Option Jvm.ClassFile.FieldType)) ∈ WALL := List.mem_filter.mpr ⟨List.mem_append_right _ (List.mem_of_getElem? (i := 52) (by decide +kernel)), by decide +kernel⟩
theorem t_54 : (Jvm.Cond.fieldLink "SharedLog$Work" (9 : Nat) "SharedLog$Work" "reads" "[Z") ∈ WALL := List.mem_filter.mpr ⟨List.mem_append_right _ (List.mem_of_getElem? (i := 54) (by decide +kernel)), by decide +kernel⟩
theorem t_55 : (Jvm.Cond.fieldLink "SharedLog$Client" (37 : Nat) "SharedLog$Work" "reads" "[Z") ∈ WALL := List.mem_filter.mpr ⟨List.mem_append_right _ (List.mem_of_getElem? (i := 55) (by decide +kernel)), by decide +kernel⟩
theorem t_56 : (Jvm.Cond.fieldLink "SharedLog$Work" (15 : Nat) "SharedLog$Work" "readAges" "[I") ∈ WALL := List.mem_filter.mpr ⟨List.mem_append_right _ (List.mem_of_getElem? (i := 56) (by decide +kernel)), by decide +kernel⟩
theorem t_57 : (Jvm.Cond.fieldLink "SharedLog$Client" (41 : Nat) "SharedLog$Work" "readAges" "[I") ∈ WALL := List.mem_filter.mpr ⟨List.mem_append_right _ (List.mem_of_getElem? (i := 57) (by decide +kernel)), by decide +kernel⟩
theorem t_58 : (Jvm.Cond.fieldLink "SharedLog$Work" (19 : Nat) "SharedLog$Work" "puts" "[Z") ∈ WALL := List.mem_filter.mpr ⟨List.mem_append_right _ (List.mem_of_getElem? (i := 58) (by decide +kernel)), by decide +kernel⟩
theorem t_59 : (Jvm.Cond.fieldLink "SharedLog$Client" (48 : Nat) "SharedLog$Work" "puts" "[Z") ∈ WALL := List.mem_filter.mpr ⟨List.mem_append_right _ (List.mem_of_getElem? (i := 59) (by decide +kernel)), by decide +kernel⟩
theorem t_60 : (Jvm.Cond.fieldLink "SharedLog" (197 : Nat) "SharedLog$Work" "puts" "[Z") ∈ WALL := List.mem_filter.mpr ⟨List.mem_append_right _ (List.mem_of_getElem? (i := 60) (by decide +kernel)), by decide +kernel⟩
theorem t_61 : (Jvm.Cond.fieldLink "SharedLog$Work" (22 : Nat) "SharedLog$Work" "values" "[I") ∈ WALL := List.mem_filter.mpr ⟨List.mem_append_right _ (List.mem_of_getElem? (i := 61) (by decide +kernel)), by decide +kernel⟩
theorem t_62 : (Jvm.Cond.fieldLink "SharedLog$Client" (51 : Nat) "SharedLog$Work" "values" "[I") ∈ WALL := List.mem_filter.mpr ⟨List.mem_append_right _ (List.mem_of_getElem? (i := 62) (by decide +kernel)), by decide +kernel⟩
theorem t_63 : (Jvm.Cond.fieldLink "SharedLog" (201 : Nat) "SharedLog$Work" "values" "[I") ∈ WALL := List.mem_filter.mpr ⟨List.mem_append_right _ (List.mem_of_getElem? (i := 63) (by decide +kernel)), by decide +kernel⟩
theorem t_75 : (Jvm.Cond.classLink "SharedLog" (31 : Nat) "SharedLog$Entry") ∈ WALL := List.mem_filter.mpr ⟨List.mem_append_right _ (List.mem_of_getElem? (i := 75) (by decide +kernel)), by decide +kernel⟩
theorem t_76 : (Jvm.Cond.instantiable "SharedLog$Entry" (3 : Nat)) ∈ WALL := List.mem_filter.mpr ⟨List.mem_append_right _ (List.mem_of_getElem? (i := 76) (by decide +kernel)), by decide +kernel⟩
theorem t_77 : (Jvm.Cond.methodLink "SharedLog" (33 : Nat) ({ cls := "SharedLog$Entry", name := "<init>", desc := "(IILSharedLog$Work;)V" } : Jvm.MethodName)) ∈ WALL := List.mem_filter.mpr ⟨List.mem_append_right _ (List.mem_of_getElem? (i := 77) (by decide +kernel)), by decide +kernel⟩
theorem t_78 : (Jvm.Cond.instanceMethod ({ cls := "SharedLog$Entry", name := "<init>", desc := "(IILSharedLog$Work;)V" } : Jvm.MethodName)) ∈ WALL := List.mem_filter.mpr ⟨List.mem_append_right _ (List.mem_of_getElem? (i := 78) (by decide +kernel)), by decide +kernel⟩
theorem t_79 : (Jvm.Cond.code ({ cls := "SharedLog$Entry", name := "<init>", desc := "(IILSharedLog$Work;)V" } : Jvm.MethodName) prog_3_method_1_code (4 : Nat) (Option.none : Option Jvm.ClassFile.FieldType)) ∈ WALL := List.mem_filter.mpr ⟨List.mem_append_right _ (List.mem_of_getElem? (i := 79) (by decide +kernel)), by decide +kernel⟩
theorem t_81 : (Jvm.Cond.fieldLink "SharedLog$Entry" (7 : Nat) "SharedLog$Entry" "kind" "I") ∈ WALL := List.mem_filter.mpr ⟨List.mem_append_right _ (List.mem_of_getElem? (i := 81) (by decide +kernel)), by decide +kernel⟩
theorem t_82 : (Jvm.Cond.fieldLink "SharedLog$Unit" (25 : Nat) "SharedLog$Entry" "kind" "I") ∈ WALL := List.mem_filter.mpr ⟨List.mem_append_right _ (List.mem_of_getElem? (i := 82) (by decide +kernel)), by decide +kernel⟩
theorem t_83 : (Jvm.Cond.fieldLink "SharedLog" (90 : Nat) "SharedLog$Entry" "kind" "I") ∈ WALL := List.mem_filter.mpr ⟨List.mem_append_right _ (List.mem_of_getElem? (i := 83) (by decide +kernel)), by decide +kernel⟩
theorem t_84 : (Jvm.Cond.fieldLink "SharedLog$Entry" (13 : Nat) "SharedLog$Entry" "answer" "I") ∈ WALL := List.mem_filter.mpr ⟨List.mem_append_right _ (List.mem_of_getElem? (i := 84) (by decide +kernel)), by decide +kernel⟩
theorem t_85 : (Jvm.Cond.fieldLink "SharedLog" (100 : Nat) "SharedLog$Entry" "answer" "I") ∈ WALL := List.mem_filter.mpr ⟨List.mem_append_right _ (List.mem_of_getElem? (i := 85) (by decide +kernel)), by decide +kernel⟩
theorem t_86 : (Jvm.Cond.fieldLink "SharedLog$Entry" (16 : Nat) "SharedLog$Entry" "work" "LSharedLog$Work;") ∈ WALL := List.mem_filter.mpr ⟨List.mem_append_right _ (List.mem_of_getElem? (i := 86) (by decide +kernel)), by decide +kernel⟩
theorem t_87 : (Jvm.Cond.fieldLink "SharedLog" (253 : Nat) "SharedLog$Entry" "work" "LSharedLog$Work;") ∈ WALL := List.mem_filter.mpr ⟨List.mem_append_right _ (List.mem_of_getElem? (i := 87) (by decide +kernel)), by decide +kernel⟩
theorem t_95 : (Jvm.Cond.classLink "SharedLog" (46 : Nat) "SharedLog$Layout") ∈ WALL := List.mem_filter.mpr ⟨List.mem_append_right _ (List.mem_of_getElem? (i := 95) (by decide +kernel)), by decide +kernel⟩
theorem t_96 : (Jvm.Cond.instantiable "SharedLog$Layout" (3 : Nat)) ∈ WALL := List.mem_filter.mpr ⟨List.mem_append_right _ (List.mem_of_getElem? (i := 96) (by decide +kernel)), by decide +kernel⟩
theorem t_97 : (Jvm.Cond.methodLink "SharedLog" (48 : Nat) ({ cls := "SharedLog", name := "rowOf", desc := "(I)[I" } : Jvm.MethodName)) ∈ WALL := List.mem_filter.mpr ⟨List.mem_append_right _ (List.mem_of_getElem? (i := 97) (by decide +kernel)), by decide +kernel⟩
theorem t_98 : (Jvm.Cond.static ({ cls := "SharedLog", name := "rowOf", desc := "(I)[I" } : Jvm.MethodName)) ∈ WALL := List.mem_filter.mpr ⟨List.mem_append_right _ (List.mem_of_getElem? (i := 98) (by decide +kernel)), by decide +kernel⟩
theorem t_99 : (Jvm.Cond.code ({ cls := "SharedLog", name := "rowOf", desc := "(I)[I" } : Jvm.MethodName) prog_1_method_23_code (5 : Nat) (Option.some (Jvm.ClassFile.FieldType.array Jvm.ClassFile.FieldType.int))) ∈ WALL := List.mem_filter.mpr ⟨List.mem_append_right _ (List.mem_of_getElem? (i := 99) (by decide +kernel)), by decide +kernel⟩
theorem t_100 : (Jvm.Cond.methodLink "SharedLog" (52 : Nat) ({ cls := "SharedLog$Layout", name := "<init>", desc := "(I[I[I)V" } : Jvm.MethodName)) ∈ WALL := List.mem_filter.mpr ⟨List.mem_append_right _ (List.mem_of_getElem? (i := 100) (by decide +kernel)), by decide +kernel⟩
theorem t_101 : (Jvm.Cond.instanceMethod ({ cls := "SharedLog$Layout", name := "<init>", desc := "(I[I[I)V" } : Jvm.MethodName)) ∈ WALL := List.mem_filter.mpr ⟨List.mem_append_right _ (List.mem_of_getElem? (i := 101) (by decide +kernel)), by decide +kernel⟩
theorem t_102 : (Jvm.Cond.code ({ cls := "SharedLog$Layout", name := "<init>", desc := "(I[I[I)V" } : Jvm.MethodName) prog_4_method_1_code (4 : Nat) (Option.none : Option Jvm.ClassFile.FieldType)) ∈ WALL := List.mem_filter.mpr ⟨List.mem_append_right _ (List.mem_of_getElem? (i := 102) (by decide +kernel)), by decide +kernel⟩
theorem t_104 : (Jvm.Cond.fieldLink "SharedLog$Layout" (9 : Nat) "SharedLog$Layout" "epoch" "I") ∈ WALL := List.mem_filter.mpr ⟨List.mem_append_right _ (List.mem_of_getElem? (i := 104) (by decide +kernel)), by decide +kernel⟩
theorem t_105 : (Jvm.Cond.fieldLink "SharedLog" (119 : Nat) "SharedLog$Layout" "epoch" "I") ∈ WALL := List.mem_filter.mpr ⟨List.mem_append_right _ (List.mem_of_getElem? (i := 105) (by decide +kernel)), by decide +kernel⟩
theorem t_106 : (Jvm.Cond.fieldLink "SharedLog$Layout" (15 : Nat) "SharedLog$Layout" "even" "[I") ∈ WALL := List.mem_filter.mpr ⟨List.mem_append_right _ (List.mem_of_getElem? (i := 106) (by decide +kernel)), by decide +kernel⟩
theorem t_107 : (Jvm.Cond.fieldLink "SharedLog$Layout" (19 : Nat) "SharedLog$Layout" "odd" "[I") ∈ WALL := List.mem_filter.mpr ⟨List.mem_append_right _ (List.mem_of_getElem? (i := 107) (by decide +kernel)), by decide +kernel⟩
theorem t_115 : (Jvm.Cond.instantiable "SharedLog$Unit" (3 : Nat)) ∈ WALL := List.mem_filter.mpr ⟨List.mem_append_right _ (List.mem_of_getElem? (i := 115) (by decide +kernel)), by decide +kernel⟩
theorem t_116 : (Jvm.Cond.methodLink "SharedLog" (59 : Nat) ({ cls := "SharedLog$Unit", name := "<init>", desc := "(LSharedLog$Entry;)V" } : Jvm.MethodName)) ∈ WALL := List.mem_filter.mpr ⟨List.mem_append_right _ (List.mem_of_getElem? (i := 116) (by decide +kernel)), by decide +kernel⟩
theorem t_117 : (Jvm.Cond.instanceMethod ({ cls := "SharedLog$Unit", name := "<init>", desc := "(LSharedLog$Entry;)V" } : Jvm.MethodName)) ∈ WALL := List.mem_filter.mpr ⟨List.mem_append_right _ (List.mem_of_getElem? (i := 117) (by decide +kernel)), by decide +kernel⟩
theorem t_118 : (Jvm.Cond.code ({ cls := "SharedLog$Unit", name := "<init>", desc := "(LSharedLog$Entry;)V" } : Jvm.MethodName) prog_6_method_1_code (3 : Nat) (Option.none : Option Jvm.ClassFile.FieldType)) ∈ WALL := List.mem_filter.mpr ⟨List.mem_append_right _ (List.mem_of_getElem? (i := 118) (by decide +kernel)), by decide +kernel⟩
theorem t_120 : (Jvm.Cond.classLink "SharedLog$Unit" (9 : Nat) "SharedLog$Entry") ∈ WALL := List.mem_filter.mpr ⟨List.mem_append_right _ (List.mem_of_getElem? (i := 120) (by decide +kernel)), by decide +kernel⟩
theorem t_122 : (Jvm.Cond.fieldLink "SharedLog$Unit" (11 : Nat) "SharedLog$Unit" "cells" "[LSharedLog$Entry;") ∈ WALL := List.mem_filter.mpr ⟨List.mem_append_right _ (List.mem_of_getElem? (i := 122) (by decide +kernel)), by decide +kernel⟩
theorem t_123 : (Jvm.Cond.fieldLink "SharedLog" (111 : Nat) "SharedLog$Unit" "cells" "[LSharedLog$Entry;") ∈ WALL := List.mem_filter.mpr ⟨List.mem_append_right _ (List.mem_of_getElem? (i := 123) (by decide +kernel)), by decide +kernel⟩
theorem t_124 : (Jvm.Cond.fieldLink "SharedLog$Unit" (17 : Nat) "SharedLog$Unit" "isUp" "Z") ∈ WALL := List.mem_filter.mpr ⟨List.mem_append_right _ (List.mem_of_getElem? (i := 124) (by decide +kernel)), by decide +kernel⟩
theorem t_125 : (Jvm.Cond.fieldLink "SharedLog" (154 : Nat) "SharedLog$Unit" "isUp" "Z") ∈ WALL := List.mem_filter.mpr ⟨List.mem_append_right _ (List.mem_of_getElem? (i := 125) (by decide +kernel)), by decide +kernel⟩
theorem t_126 : (Jvm.Cond.fieldLink "SharedLog$Unit" (21 : Nat) "SharedLog$Unit" "seal" "I") ∈ WALL := List.mem_filter.mpr ⟨List.mem_append_right _ (List.mem_of_getElem? (i := 126) (by decide +kernel)), by decide +kernel⟩
theorem t_127 : (Jvm.Cond.fieldLink "SharedLog" (158 : Nat) "SharedLog$Unit" "seal" "I") ∈ WALL := List.mem_filter.mpr ⟨List.mem_append_right _ (List.mem_of_getElem? (i := 127) (by decide +kernel)), by decide +kernel⟩
theorem t_135 : (Jvm.Cond.instantiable "SharedLog$Client" (6 : Nat)) ∈ WALL := List.mem_filter.mpr ⟨List.mem_append_right _ (List.mem_of_getElem? (i := 135) (by decide +kernel)), by decide +kernel⟩
theorem t_136 : (Jvm.Cond.methodLink "SharedLog" (62 : Nat) ({ cls := "SharedLog$Client", name := "<init>", desc := "(LSharedLog$Layout;)V" } : Jvm.MethodName)) ∈ WALL := List.mem_filter.mpr ⟨List.mem_append_right _ (List.mem_of_getElem? (i := 136) (by decide +kernel)), by decide +kernel⟩
theorem t_137 : (Jvm.Cond.instanceMethod ({ cls := "SharedLog$Client", name := "<init>", desc := "(LSharedLog$Layout;)V" } : Jvm.MethodName)) ∈ WALL := List.mem_filter.mpr ⟨List.mem_append_right _ (List.mem_of_getElem? (i := 137) (by decide +kernel)), by decide +kernel⟩
theorem t_138 : (Jvm.Cond.code ({ cls := "SharedLog$Client", name := "<init>", desc := "(LSharedLog$Layout;)V" } : Jvm.MethodName) prog_2_method_1_code (2 : Nat) (Option.none : Option Jvm.ClassFile.FieldType)) ∈ WALL := List.mem_filter.mpr ⟨List.mem_append_right _ (List.mem_of_getElem? (i := 138) (by decide +kernel)), by decide +kernel⟩
theorem t_140 : (Jvm.Cond.classLink "SharedLog$Client" (18 : Nat) "SharedLog$Work") ∈ WALL := List.mem_filter.mpr ⟨List.mem_append_right _ (List.mem_of_getElem? (i := 140) (by decide +kernel)), by decide +kernel⟩
theorem t_142 : (Jvm.Cond.fieldLink "SharedLog$Client" (9 : Nat) "SharedLog$Client" "values" "[I") ∈ WALL := List.mem_filter.mpr ⟨List.mem_append_right _ (List.mem_of_getElem? (i := 142) (by decide +kernel)), by decide +kernel⟩
theorem t_143 : (Jvm.Cond.fieldLink "SharedLog" (175 : Nat) "SharedLog$Client" "values" "[I") ∈ WALL := List.mem_filter.mpr ⟨List.mem_append_right _ (List.mem_of_getElem? (i := 143) (by decide +kernel)), by decide +kernel⟩
theorem t_144 : (Jvm.Cond.fieldLink "SharedLog$Client" (15 : Nat) "SharedLog$Client" "ages" "[I") ∈ WALL := List.mem_filter.mpr ⟨List.mem_append_right _ (List.mem_of_getElem? (i := 144) (by decide +kernel)), by decide +kernel⟩
theorem t_145 : (Jvm.Cond.fieldLink "SharedLog" (202 : Nat) "SharedLog$Client" "ages" "[I") ∈ WALL := List.mem_filter.mpr ⟨List.mem_append_right _ (List.mem_of_getElem? (i := 145) (by decide +kernel)), by decide +kernel⟩
theorem t_146 : (Jvm.Cond.fieldLink "SharedLog$Client" (21 : Nat) "SharedLog$Client" "transaction" "LSharedLog$Work;") ∈ WALL := List.mem_filter.mpr ⟨List.mem_append_right _ (List.mem_of_getElem? (i := 146) (by decide +kernel)), by decide +kernel⟩
theorem t_147 : (Jvm.Cond.fieldLink "SharedLog" (187 : Nat) "SharedLog$Client" "transaction" "LSharedLog$Work;") ∈ WALL := List.mem_filter.mpr ⟨List.mem_append_right _ (List.mem_of_getElem? (i := 147) (by decide +kernel)), by decide +kernel⟩
theorem t_148 : (Jvm.Cond.fieldLink "SharedLog$Client" (25 : Nat) "SharedLog$Client" "inTransaction" "Z") ∈ WALL := List.mem_filter.mpr ⟨List.mem_append_right _ (List.mem_of_getElem? (i := 148) (by decide +kernel)), by decide +kernel⟩
theorem t_149 : (Jvm.Cond.fieldLink "SharedLog" (179 : Nat) "SharedLog$Client" "inTransaction" "Z") ∈ WALL := List.mem_filter.mpr ⟨List.mem_append_right _ (List.mem_of_getElem? (i := 149) (by decide +kernel)), by decide +kernel⟩
theorem t_150 : (Jvm.Cond.fieldLink "SharedLog$Client" (29 : Nat) "SharedLog$Client" "position" "I") ∈ WALL := List.mem_filter.mpr ⟨List.mem_append_right _ (List.mem_of_getElem? (i := 150) (by decide +kernel)), by decide +kernel⟩
theorem t_151 : (Jvm.Cond.fieldLink "SharedLog" (172 : Nat) "SharedLog$Client" "position" "I") ∈ WALL := List.mem_filter.mpr ⟨List.mem_append_right _ (List.mem_of_getElem? (i := 151) (by decide +kernel)), by decide +kernel⟩
theorem t_152 : (Jvm.Cond.fieldLink "SharedLog$Client" (33 : Nat) "SharedLog$Client" "known" "LSharedLog$Layout;") ∈ WALL := List.mem_filter.mpr ⟨List.mem_append_right _ (List.mem_of_getElem? (i := 152) (by decide +kernel)), by decide +kernel⟩
theorem t_153 : (Jvm.Cond.fieldLink "SharedLog" (80 : Nat) "SharedLog$Client" "known" "LSharedLog$Layout;") ∈ WALL := List.mem_filter.mpr ⟨List.mem_append_right _ (List.mem_of_getElem? (i := 153) (by decide +kernel)), by decide +kernel⟩
theorem t_167 : (Jvm.Cond.fieldLink "SharedLog" (11 : Nat) "SharedLog" "units" "[LSharedLog$Unit;") ∈ WALL := List.mem_filter.mpr ⟨List.mem_append_right _ (List.mem_of_getElem? (i := 167) (by decide +kernel)), by decide +kernel⟩
theorem t_168 : (Jvm.Cond.fieldLink "SharedLog" (17 : Nat) "SharedLog" "clients" "[LSharedLog$Client;") ∈ WALL := List.mem_filter.mpr ⟨List.mem_append_right _ (List.mem_of_getElem? (i := 168) (by decide +kernel)), by decide +kernel⟩
theorem t_169 : (Jvm.Cond.fieldLink "SharedLog" (24 : Nat) "SharedLog" "sequencer" "LSharedLog$Sequencer;") ∈ WALL := List.mem_filter.mpr ⟨List.mem_append_right _ (List.mem_of_getElem? (i := 169) (by decide +kernel)), by decide +kernel⟩
theorem t_170 : (Jvm.Cond.fieldLink "SharedLog" (36 : Nat) "SharedLog" "nothing" "LSharedLog$Entry;") ∈ WALL := List.mem_filter.mpr ⟨List.mem_append_right _ (List.mem_of_getElem? (i := 170) (by decide +kernel)), by decide +kernel⟩
theorem t_171 : (Jvm.Cond.fieldLink "SharedLog" (40 : Nat) "SharedLog" "junk" "LSharedLog$Entry;") ∈ WALL := List.mem_filter.mpr ⟨List.mem_append_right _ (List.mem_of_getElem? (i := 171) (by decide +kernel)), by decide +kernel⟩
theorem t_172 : (Jvm.Cond.fieldLink "SharedLog" (43 : Nat) "SharedLog" "trimmed" "LSharedLog$Entry;") ∈ WALL := List.mem_filter.mpr ⟨List.mem_append_right _ (List.mem_of_getElem? (i := 172) (by decide +kernel)), by decide +kernel⟩
theorem t_173 : (Jvm.Cond.fieldLink "SharedLog" (55 : Nat) "SharedLog" "installed" "LSharedLog$Layout;") ∈ WALL := List.mem_filter.mpr ⟨List.mem_append_right _ (List.mem_of_getElem? (i := 173) (by decide +kernel)), by decide +kernel⟩
theorem t_189 : (Jvm.Cond.methodLink "SharedLogLaw" (112 : Nat) ({ cls := "SharedLog", name := "lose", desc := "()I" } : Jvm.MethodName)) ∈ WALL := List.mem_filter.mpr ⟨List.mem_append_right _ (List.mem_of_getElem? (i := 189) (by decide +kernel)), by decide +kernel⟩
theorem t_190 : (Jvm.Cond.instanceMethod ({ cls := "SharedLog", name := "lose", desc := "()I" } : Jvm.MethodName)) ∈ WALL := List.mem_filter.mpr ⟨List.mem_append_right _ (List.mem_of_getElem? (i := 190) (by decide +kernel)), by decide +kernel⟩
theorem t_191 : (Jvm.Cond.selects "SharedLog" ({ cls := "SharedLog", name := "lose", desc := "()I" } : Jvm.MethodName) ({ cls := "SharedLog", name := "lose", desc := "()I" } : Jvm.MethodName)) ∈ WALL := List.mem_filter.mpr ⟨List.mem_append_right _ (List.mem_of_getElem? (i := 191) (by decide +kernel)), by decide +kernel⟩
theorem t_192 : (Jvm.Cond.code ({ cls := "SharedLog", name := "lose", desc := "()I" } : Jvm.MethodName) prog_1_method_9_code (1 : Nat) (Option.some Jvm.ClassFile.FieldType.int)) ∈ WALL := List.mem_filter.mpr ⟨List.mem_append_right _ (List.mem_of_getElem? (i := 192) (by decide +kernel)), by decide +kernel⟩
theorem t_193 : (Jvm.Cond.methodLink "SharedLogLaw" (80 : Nat) ({ cls := "SharedLogLaw", name := "append", desc := "(LSharedLog;IIII[J)I" } : Jvm.MethodName)) ∈ WALL := List.mem_filter.mpr ⟨List.mem_append_right _ (List.mem_of_getElem? (i := 193) (by decide +kernel)), by decide +kernel⟩
theorem t_194 : (Jvm.Cond.static ({ cls := "SharedLogLaw", name := "append", desc := "(LSharedLog;IIII[J)I" } : Jvm.MethodName)) ∈ WALL := List.mem_filter.mpr ⟨List.mem_append_right _ (List.mem_of_getElem? (i := 194) (by decide +kernel)), by decide +kernel⟩
theorem t_200 : (Jvm.Cond.methodLink "SharedLogLaw" (7 : Nat) ({ cls := "SharedLog", name := "append", desc := "(IIII)I" } : Jvm.MethodName)) ∈ WALL := List.mem_filter.mpr ⟨List.mem_append_right _ (List.mem_of_getElem? (i := 200) (by decide +kernel)), by decide +kernel⟩
theorem t_201 : (Jvm.Cond.instanceMethod ({ cls := "SharedLog", name := "append", desc := "(IIII)I" } : Jvm.MethodName)) ∈ WALL := List.mem_filter.mpr ⟨List.mem_append_right _ (List.mem_of_getElem? (i := 201) (by decide +kernel)), by decide +kernel⟩
theorem t_202 : (Jvm.Cond.selects "SharedLog" ({ cls := "SharedLog", name := "append", desc := "(IIII)I" } : Jvm.MethodName) ({ cls := "SharedLog", name := "append", desc := "(IIII)I" } : Jvm.MethodName)) ∈ WALL := List.mem_filter.mpr ⟨List.mem_append_right _ (List.mem_of_getElem? (i := 202) (by decide +kernel)), by decide +kernel⟩
theorem t_203 : (Jvm.Cond.code ({ cls := "SharedLog", name := "append", desc := "(IIII)I" } : Jvm.MethodName) prog_1_method_2_code (9 : Nat) (Option.some Jvm.ClassFile.FieldType.int)) ∈ WALL := List.mem_filter.mpr ⟨List.mem_append_right _ (List.mem_of_getElem? (i := 203) (by decide +kernel)), by decide +kernel⟩
theorem t_204 : (Jvm.Cond.methodLink "SharedLog" (65 : Nat) ({ cls := "SharedLog", name := "requireWithin", desc := "(II)V" } : Jvm.MethodName)) ∈ WALL := List.mem_filter.mpr ⟨List.mem_append_right _ (List.mem_of_getElem? (i := 204) (by decide +kernel)), by decide +kernel⟩
theorem t_205 : (Jvm.Cond.static ({ cls := "SharedLog", name := "requireWithin", desc := "(II)V" } : Jvm.MethodName)) ∈ WALL := List.mem_filter.mpr ⟨List.mem_append_right _ (List.mem_of_getElem? (i := 205) (by decide +kernel)), by decide +kernel⟩
theorem t_206 : (Jvm.Cond.code ({ cls := "SharedLog", name := "requireWithin", desc := "(II)V" } : Jvm.MethodName) prog_1_method_20_code (2 : Nat) (Option.none : Option Jvm.ClassFile.FieldType)) ∈ WALL := List.mem_filter.mpr ⟨List.mem_append_right _ (List.mem_of_getElem? (i := 206) (by decide +kernel)), by decide +kernel⟩
theorem t_207 : (Jvm.Cond.classLink "SharedLog" (224 : Nat) "java/lang/IllegalArgumentException") ∈ WALL := List.mem_filter.mpr ⟨List.mem_append_right _ (List.mem_of_getElem? (i := 207) (by decide +kernel)), by decide +kernel⟩
theorem t_277 : (Jvm.Cond.methodLink "SharedLog" (69 : Nat) ({ cls := "SharedLog", name := "takeToken", desc := "(LSharedLog$Client;)I" } : Jvm.MethodName)) ∈ WALL := List.mem_filter.mpr ⟨List.mem_append_right _ (List.mem_of_getElem? (i := 277) (by decide +kernel)), by decide +kernel⟩
theorem t_279 : (Jvm.Cond.instanceMethod ({ cls := "SharedLog", name := "takeToken", desc := "(LSharedLog$Client;)I" } : Jvm.MethodName)) ∈ WALL := List.mem_filter.mpr ⟨List.mem_append_right _ (List.mem_of_getElem? (i := 279) (by decide +kernel)), by decide +kernel⟩
theorem t_280 : (Jvm.Cond.code ({ cls := "SharedLog", name := "takeToken", desc := "(LSharedLog$Client;)I" } : Jvm.MethodName) prog_1_method_27_code (3 : Nat) (Option.some Jvm.ClassFile.FieldType.int)) ∈ WALL := List.mem_filter.mpr ⟨List.mem_append_right _ (List.mem_of_getElem? (i := 280) (by decide +kernel)), by decide +kernel⟩
theorem t_281 : (Jvm.Cond.methodLink "SharedLog" (164 : Nat) ({ cls := "SharedLog", name := "requireSequencer", desc := "(LSharedLog$Client;)V" } : Jvm.MethodName)) ∈ WALL := List.mem_filter.mpr ⟨List.mem_append_right _ (List.mem_of_getElem? (i := 281) (by decide +kernel)), by decide +kernel⟩
theorem t_283 : (Jvm.Cond.instanceMethod ({ cls := "SharedLog", name := "requireSequencer", desc := "(LSharedLog$Client;)V" } : Jvm.MethodName)) ∈ WALL := List.mem_filter.mpr ⟨List.mem_append_right _ (List.mem_of_getElem? (i := 283) (by decide +kernel)), by decide +kernel⟩
theorem t_284 : (Jvm.Cond.code ({ cls := "SharedLog", name := "requireSequencer", desc := "(LSharedLog$Client;)V" } : Jvm.MethodName) prog_1_method_26_code (2 : Nat) (Option.none : Option Jvm.ClassFile.FieldType)) ∈ WALL := List.mem_filter.mpr ⟨List.mem_append_right _ (List.mem_of_getElem? (i := 284) (by decide +kernel)), by decide +kernel⟩
theorem t_285 : (Jvm.Cond.classLink "SharedLog" (182 : Nat) "java/lang/IllegalStateException") ∈ WALL := List.mem_filter.mpr ⟨List.mem_append_right _ (List.mem_of_getElem? (i := 285) (by decide +kernel)), by decide +kernel⟩
theorem t_301 : (Jvm.Cond.classLink "SharedLog" (238 : Nat) "java/lang/IndexOutOfBoundsException") ∈ WALL := List.mem_filter.mpr ⟨List.mem_append_right _ (List.mem_of_getElem? (i := 301) (by decide +kernel)), by decide +kernel⟩
theorem t_317 : (Jvm.Cond.methodLink "SharedLog" (73 : Nat) ({ cls := "SharedLog$Work", name := "setPut", desc := "(II)V" } : Jvm.MethodName)) ∈ WALL := List.mem_filter.mpr ⟨List.mem_append_right _ (List.mem_of_getElem? (i := 317) (by decide +kernel)), by decide +kernel⟩
theorem t_318 : (Jvm.Cond.instanceMethod ({ cls := "SharedLog$Work", name := "setPut", desc := "(II)V" } : Jvm.MethodName)) ∈ WALL := List.mem_filter.mpr ⟨List.mem_append_right _ (List.mem_of_getElem? (i := 318) (by decide +kernel)), by decide +kernel⟩
theorem t_319 : (Jvm.Cond.selects "SharedLog$Work" ({ cls := "SharedLog$Work", name := "setPut", desc := "(II)V" } : Jvm.MethodName) ({ cls := "SharedLog$Work", name := "setPut", desc := "(II)V" } : Jvm.MethodName)) ∈ WALL := List.mem_filter.mpr ⟨List.mem_append_right _ (List.mem_of_getElem? (i := 319) (by decide +kernel)), by decide +kernel⟩
theorem t_320 : (Jvm.Cond.code ({ cls := "SharedLog$Work", name := "setPut", desc := "(II)V" } : Jvm.MethodName) prog_7_method_4_code (3 : Nat) (Option.none : Option Jvm.ClassFile.FieldType)) ∈ WALL := List.mem_filter.mpr ⟨List.mem_append_right _ (List.mem_of_getElem? (i := 320) (by decide +kernel)), by decide +kernel⟩
theorem t_321 : (Jvm.Cond.methodLink "SharedLog" (76 : Nat) ({ cls := "SharedLog", name := "write", desc := "(LSharedLog$Client;ILSharedLog$Entry;I)V" } : Jvm.MethodName)) ∈ WALL := List.mem_filter.mpr ⟨List.mem_append_right _ (List.mem_of_getElem? (i := 321) (by decide +kernel)), by decide +kernel⟩
theorem t_323 : (Jvm.Cond.instanceMethod ({ cls := "SharedLog", name := "write", desc := "(LSharedLog$Client;ILSharedLog$Entry;I)V" } : Jvm.MethodName)) ∈ WALL := List.mem_filter.mpr ⟨List.mem_append_right _ (List.mem_of_getElem? (i := 323) (by decide +kernel)), by decide +kernel⟩
theorem t_324 : (Jvm.Cond.code ({ cls := "SharedLog", name := "write", desc := "(LSharedLog$Client;ILSharedLog$Entry;I)V" } : Jvm.MethodName) prog_1_method_29_code (8 : Nat) (Option.none : Option Jvm.ClassFile.FieldType)) ∈ WALL := List.mem_filter.mpr ⟨List.mem_append_right _ (List.mem_of_getElem? (i := 324) (by decide +kernel)), by decide +kernel⟩
theorem t_325 : (Jvm.Cond.methodLink "SharedLog" (83 : Nat) ({ cls := "SharedLog$Layout", name := "chainOf", desc := "(I)[I" } : Jvm.MethodName)) ∈ WALL := List.mem_filter.mpr ⟨List.mem_append_right _ (List.mem_of_getElem? (i := 325) (by decide +kernel)), by decide +kernel⟩
theorem t_326 : (Jvm.Cond.instanceMethod ({ cls := "SharedLog$Layout", name := "chainOf", desc := "(I)[I" } : Jvm.MethodName)) ∈ WALL := List.mem_filter.mpr ⟨List.mem_append_right _ (List.mem_of_getElem? (i := 326) (by decide +kernel)), by decide +kernel⟩
theorem t_327 : (Jvm.Cond.selects "SharedLog$Layout" ({ cls := "SharedLog$Layout", name := "chainOf", desc := "(I)[I" } : Jvm.MethodName) ({ cls := "SharedLog$Layout", name := "chainOf", desc := "(I)[I" } : Jvm.MethodName)) ∈ WALL := List.mem_filter.mpr ⟨List.mem_append_right _ (List.mem_of_getElem? (i := 327) (by decide +kernel)), by decide +kernel⟩
theorem t_328 : (Jvm.Cond.code ({ cls := "SharedLog$Layout", name := "chainOf", desc := "(I)[I" } : Jvm.MethodName) prog_4_method_3_code (2 : Nat) (Option.some (Jvm.ClassFile.FieldType.array Jvm.ClassFile.FieldType.int))) ∈ WALL := List.mem_filter.mpr ⟨List.mem_append_right _ (List.mem_of_getElem? (i := 328) (by decide +kernel)), by decide +kernel⟩
theorem t_329 : (Jvm.Cond.methodLink "SharedLog$Layout" (22 : Nat) ({ cls := "SharedLog$Layout", name := "chain", desc := "(I)[I" } : Jvm.MethodName)) ∈ WALL := List.mem_filter.mpr ⟨List.mem_append_right _ (List.mem_of_getElem? (i := 329) (by decide +kernel)), by decide +kernel⟩
theorem t_330 : (Jvm.Cond.instanceMethod ({ cls := "SharedLog$Layout", name := "chain", desc := "(I)[I" } : Jvm.MethodName)) ∈ WALL := List.mem_filter.mpr ⟨List.mem_append_right _ (List.mem_of_getElem? (i := 330) (by decide +kernel)), by decide +kernel⟩
theorem t_331 : (Jvm.Cond.selects "SharedLog$Layout" ({ cls := "SharedLog$Layout", name := "chain", desc := "(I)[I" } : Jvm.MethodName) ({ cls := "SharedLog$Layout", name := "chain", desc := "(I)[I" } : Jvm.MethodName)) ∈ WALL := List.mem_filter.mpr ⟨List.mem_append_right _ (List.mem_of_getElem? (i := 331) (by decide +kernel)), by decide +kernel⟩
theorem t_332 : (Jvm.Cond.code ({ cls := "SharedLog$Layout", name := "chain", desc := "(I)[I" } : Jvm.MethodName) prog_4_method_2_code (2 : Nat) (Option.some (Jvm.ClassFile.FieldType.array Jvm.ClassFile.FieldType.int))) ∈ WALL := List.mem_filter.mpr ⟨List.mem_append_right _ (List.mem_of_getElem? (i := 332) (by decide +kernel)), by decide +kernel⟩
theorem t_333 : (Jvm.Cond.methodLink "SharedLog" (103 : Nat) ({ cls := "SharedLog", name := "use", desc := "(LSharedLog$Client;I)LSharedLog$Unit;" } : Jvm.MethodName)) ∈ WALL := List.mem_filter.mpr ⟨List.mem_append_right _ (List.mem_of_getElem? (i := 333) (by decide +kernel)), by decide +kernel⟩
theorem t_335 : (Jvm.Cond.instanceMethod ({ cls := "SharedLog", name := "use", desc := "(LSharedLog$Client;I)LSharedLog$Unit;" } : Jvm.MethodName)) ∈ WALL := List.mem_filter.mpr ⟨List.mem_append_right _ (List.mem_of_getElem? (i := 335) (by decide +kernel)), by decide +kernel⟩
theorem t_336 : (Jvm.Cond.code ({ cls := "SharedLog", name := "use", desc := "(LSharedLog$Client;I)LSharedLog$Unit;" } : Jvm.MethodName) prog_1_method_28_code (4 : Nat) (Option.some (Jvm.ClassFile.FieldType.object "SharedLog$Unit"))) ∈ WALL := List.mem_filter.mpr ⟨List.mem_append_right _ (List.mem_of_getElem? (i := 336) (by decide +kernel)), by decide +kernel⟩
theorem t_338 : (Jvm.Cond.methodLink "SharedLog" (107 : Nat) ({ cls := "SharedLog$Unit", name := "holds", desc := "(I)Z" } : Jvm.MethodName)) ∈ WALL := List.mem_filter.mpr ⟨List.mem_append_right _ (List.mem_of_getElem? (i := 338) (by decide +kernel)), by decide +kernel⟩
theorem t_339 : (Jvm.Cond.instanceMethod ({ cls := "SharedLog$Unit", name := "holds", desc := "(I)Z" } : Jvm.MethodName)) ∈ WALL := List.mem_filter.mpr ⟨List.mem_append_right _ (List.mem_of_getElem? (i := 339) (by decide +kernel)), by decide +kernel⟩
theorem t_340 : (Jvm.Cond.selects "SharedLog$Unit" ({ cls := "SharedLog$Unit", name := "holds", desc := "(I)Z" } : Jvm.MethodName) ({ cls := "SharedLog$Unit", name := "holds", desc := "(I)Z" } : Jvm.MethodName)) ∈ WALL := List.mem_filter.mpr ⟨List.mem_append_right _ (List.mem_of_getElem? (i := 340) (by decide +kernel)), by decide +kernel⟩
theorem t_341 : (Jvm.Cond.code ({ cls := "SharedLog$Unit", name := "holds", desc := "(I)Z" } : Jvm.MethodName) prog_6_method_2_code (2 : Nat) (Option.some Jvm.ClassFile.FieldType.boolean)) ∈ WALL := List.mem_filter.mpr ⟨List.mem_append_right _ (List.mem_of_getElem? (i := 341) (by decide +kernel)), by decide +kernel⟩
theorem t_342 : (Jvm.Cond.classLink "SharedLog" (94 : Nat) "java/lang/UnsupportedOperationException") ∈ WALL := List.mem_filter.mpr ⟨List.mem_append_right _ (List.mem_of_getElem? (i := 342) (by decide +kernel)), by decide +kernel⟩
theorem t_358 : (Jvm.Cond.methodLink "SharedLogLaw" (90 : Nat) ({ cls := "SharedLogLaw", name := "read", desc := "(LSharedLog;II[J)I" } : Jvm.MethodName)) ∈ WALL := List.mem_filter.mpr ⟨List.mem_append_right _ (List.mem_of_getElem? (i := 358) (by decide +kernel)), by decide +kernel⟩
theorem t_359 : (Jvm.Cond.static ({ cls := "SharedLogLaw", name := "read", desc := "(LSharedLog;II[J)I" } : Jvm.MethodName)) ∈ WALL := List.mem_filter.mpr ⟨List.mem_append_right _ (List.mem_of_getElem? (i := 359) (by decide +kernel)), by decide +kernel⟩
theorem t_362 : (Jvm.Cond.methodLink "SharedLogLaw" (21 : Nat) ({ cls := "SharedLog", name := "read", desc := "(II)I" } : Jvm.MethodName)) ∈ WALL := List.mem_filter.mpr ⟨List.mem_append_right _ (List.mem_of_getElem? (i := 362) (by decide +kernel)), by decide +kernel⟩
theorem t_363 : (Jvm.Cond.instanceMethod ({ cls := "SharedLog", name := "read", desc := "(II)I" } : Jvm.MethodName)) ∈ WALL := List.mem_filter.mpr ⟨List.mem_append_right _ (List.mem_of_getElem? (i := 363) (by decide +kernel)), by decide +kernel⟩
theorem t_364 : (Jvm.Cond.selects "SharedLog" ({ cls := "SharedLog", name := "read", desc := "(II)I" } : Jvm.MethodName) ({ cls := "SharedLog", name := "read", desc := "(II)I" } : Jvm.MethodName)) ∈ WALL := List.mem_filter.mpr ⟨List.mem_append_right _ (List.mem_of_getElem? (i := 364) (by decide +kernel)), by decide +kernel⟩
theorem t_365 : (Jvm.Cond.code ({ cls := "SharedLog", name := "read", desc := "(II)I" } : Jvm.MethodName) prog_1_method_3_code (4 : Nat) (Option.some Jvm.ClassFile.FieldType.int)) ∈ WALL := List.mem_filter.mpr ⟨List.mem_append_right _ (List.mem_of_getElem? (i := 365) (by decide +kernel)), by decide +kernel⟩
theorem t_366 : (Jvm.Cond.methodLink "SharedLog" (86 : Nat) ({ cls := "SharedLog", name := "entryAtEnd", desc := "(LSharedLog$Client;I)LSharedLog$Entry;" } : Jvm.MethodName)) ∈ WALL := List.mem_filter.mpr ⟨List.mem_append_right _ (List.mem_of_getElem? (i := 366) (by decide +kernel)), by decide +kernel⟩
theorem t_368 : (Jvm.Cond.instanceMethod ({ cls := "SharedLog", name := "entryAtEnd", desc := "(LSharedLog$Client;I)LSharedLog$Entry;" } : Jvm.MethodName)) ∈ WALL := List.mem_filter.mpr ⟨List.mem_append_right _ (List.mem_of_getElem? (i := 368) (by decide +kernel)), by decide +kernel⟩
theorem t_369 : (Jvm.Cond.code ({ cls := "SharedLog", name := "entryAtEnd", desc := "(LSharedLog$Client;I)LSharedLog$Entry;" } : Jvm.MethodName) prog_1_method_30_code (5 : Nat) (Option.some (Jvm.ClassFile.FieldType.object "SharedLog$Entry"))) ∈ WALL := List.mem_filter.mpr ⟨List.mem_append_right _ (List.mem_of_getElem? (i := 369) (by decide +kernel)), by decide +kernel⟩
theorem t_388 : (Jvm.Cond.methodLink "SharedLogLaw" (94 : Nat) ({ cls := "SharedLogLaw", name := "fill", desc := "(LSharedLog;II[J)I" } : Jvm.MethodName)) ∈ WALL := List.mem_filter.mpr ⟨List.mem_append_right _ (List.mem_of_getElem? (i := 388) (by decide +kernel)), by decide +kernel⟩
theorem t_389 : (Jvm.Cond.static ({ cls := "SharedLogLaw", name := "fill", desc := "(LSharedLog;II[J)I" } : Jvm.MethodName)) ∈ WALL := List.mem_filter.mpr ⟨List.mem_append_right _ (List.mem_of_getElem? (i := 389) (by decide +kernel)), by decide +kernel⟩
theorem t_391 : (Jvm.Cond.methodLink "SharedLogLaw" (27 : Nat) ({ cls := "SharedLog", name := "fill", desc := "(II)I" } : Jvm.MethodName)) ∈ WALL := List.mem_filter.mpr ⟨List.mem_append_right _ (List.mem_of_getElem? (i := 391) (by decide +kernel)), by decide +kernel⟩
theorem t_392 : (Jvm.Cond.instanceMethod ({ cls := "SharedLog", name := "fill", desc := "(II)I" } : Jvm.MethodName)) ∈ WALL := List.mem_filter.mpr ⟨List.mem_append_right _ (List.mem_of_getElem? (i := 392) (by decide +kernel)), by decide +kernel⟩
theorem t_393 : (Jvm.Cond.selects "SharedLog" ({ cls := "SharedLog", name := "fill", desc := "(II)I" } : Jvm.MethodName) ({ cls := "SharedLog", name := "fill", desc := "(II)I" } : Jvm.MethodName)) ∈ WALL := List.mem_filter.mpr ⟨List.mem_append_right _ (List.mem_of_getElem? (i := 393) (by decide +kernel)), by decide +kernel⟩
theorem t_394 : (Jvm.Cond.code ({ cls := "SharedLog", name := "fill", desc := "(II)I" } : Jvm.MethodName) prog_1_method_4_code (9 : Nat) (Option.some Jvm.ClassFile.FieldType.int)) ∈ WALL := List.mem_filter.mpr ⟨List.mem_append_right _ (List.mem_of_getElem? (i := 394) (by decide +kernel)), by decide +kernel⟩
theorem t_395 : (Jvm.Cond.methodLink "SharedLogLaw" (97 : Nat) ({ cls := "SharedLogLaw", name := "trim", desc := "(LSharedLog;II[J)I" } : Jvm.MethodName)) ∈ WALL := List.mem_filter.mpr ⟨List.mem_append_right _ (List.mem_of_getElem? (i := 395) (by decide +kernel)), by decide +kernel⟩
theorem t_396 : (Jvm.Cond.static ({ cls := "SharedLogLaw", name := "trim", desc := "(LSharedLog;II[J)I" } : Jvm.MethodName)) ∈ WALL := List.mem_filter.mpr ⟨List.mem_append_right _ (List.mem_of_getElem? (i := 396) (by decide +kernel)), by decide +kernel⟩
theorem t_398 : (Jvm.Cond.methodLink "SharedLogLaw" (30 : Nat) ({ cls := "SharedLog", name := "trim", desc := "(II)I" } : Jvm.MethodName)) ∈ WALL := List.mem_filter.mpr ⟨List.mem_append_right _ (List.mem_of_getElem? (i := 398) (by decide +kernel)), by decide +kernel⟩
theorem t_399 : (Jvm.Cond.instanceMethod ({ cls := "SharedLog", name := "trim", desc := "(II)I" } : Jvm.MethodName)) ∈ WALL := List.mem_filter.mpr ⟨List.mem_append_right _ (List.mem_of_getElem? (i := 399) (by decide +kernel)), by decide +kernel⟩
theorem t_400 : (Jvm.Cond.selects "SharedLog" ({ cls := "SharedLog", name := "trim", desc := "(II)I" } : Jvm.MethodName) ({ cls := "SharedLog", name := "trim", desc := "(II)I" } : Jvm.MethodName)) ∈ WALL := List.mem_filter.mpr ⟨List.mem_append_right _ (List.mem_of_getElem? (i := 400) (by decide +kernel)), by decide +kernel⟩
theorem t_401 : (Jvm.Cond.code ({ cls := "SharedLog", name := "trim", desc := "(II)I" } : Jvm.MethodName) prog_1_method_5_code (5 : Nat) (Option.some Jvm.ClassFile.FieldType.int)) ∈ WALL := List.mem_filter.mpr ⟨List.mem_append_right _ (List.mem_of_getElem? (i := 401) (by decide +kernel)), by decide +kernel⟩
theorem t_402 : (Jvm.Cond.methodLink "SharedLog" (115 : Nat) ({ cls := "SharedLog", name := "trimOne", desc := "(LSharedLog$Client;I)I" } : Jvm.MethodName)) ∈ WALL := List.mem_filter.mpr ⟨List.mem_append_right _ (List.mem_of_getElem? (i := 402) (by decide +kernel)), by decide +kernel⟩
theorem t_404 : (Jvm.Cond.instanceMethod ({ cls := "SharedLog", name := "trimOne", desc := "(LSharedLog$Client;I)I" } : Jvm.MethodName)) ∈ WALL := List.mem_filter.mpr ⟨List.mem_append_right _ (List.mem_of_getElem? (i := 404) (by decide +kernel)), by decide +kernel⟩
theorem t_405 : (Jvm.Cond.code ({ cls := "SharedLog", name := "trimOne", desc := "(LSharedLog$Client;I)I" } : Jvm.MethodName) prog_1_method_31_code (7 : Nat) (Option.some Jvm.ClassFile.FieldType.int)) ∈ WALL := List.mem_filter.mpr ⟨List.mem_append_right _ (List.mem_of_getElem? (i := 405) (by decide +kernel)), by decide +kernel⟩
theorem t_406 : (Jvm.Cond.methodLink "SharedLogLaw" (100 : Nat) ({ cls := "SharedLogLaw", name := "learn", desc := "(LSharedLog;I[J)I" } : Jvm.MethodName)) ∈ WALL := List.mem_filter.mpr ⟨List.mem_append_right _ (List.mem_of_getElem? (i := 406) (by decide +kernel)), by decide +kernel⟩
theorem t_407 : (Jvm.Cond.static ({ cls := "SharedLogLaw", name := "learn", desc := "(LSharedLog;I[J)I" } : Jvm.MethodName)) ∈ WALL := List.mem_filter.mpr ⟨List.mem_append_right _ (List.mem_of_getElem? (i := 407) (by decide +kernel)), by decide +kernel⟩
theorem t_409 : (Jvm.Cond.methodLink "SharedLogLaw" (33 : Nat) ({ cls := "SharedLog", name := "learn", desc := "(I)I" } : Jvm.MethodName)) ∈ WALL := List.mem_filter.mpr ⟨List.mem_append_right _ (List.mem_of_getElem? (i := 409) (by decide +kernel)), by decide +kernel⟩
theorem t_410 : (Jvm.Cond.instanceMethod ({ cls := "SharedLog", name := "learn", desc := "(I)I" } : Jvm.MethodName)) ∈ WALL := List.mem_filter.mpr ⟨List.mem_append_right _ (List.mem_of_getElem? (i := 410) (by decide +kernel)), by decide +kernel⟩
theorem t_411 : (Jvm.Cond.selects "SharedLog" ({ cls := "SharedLog", name := "learn", desc := "(I)I" } : Jvm.MethodName) ({ cls := "SharedLog", name := "learn", desc := "(I)I" } : Jvm.MethodName)) ∈ WALL := List.mem_filter.mpr ⟨List.mem_append_right _ (List.mem_of_getElem? (i := 411) (by decide +kernel)), by decide +kernel⟩
theorem t_412 : (Jvm.Cond.code ({ cls := "SharedLog", name := "learn", desc := "(I)I" } : Jvm.MethodName) prog_1_method_6_code (2 : Nat) (Option.some Jvm.ClassFile.FieldType.int)) ∈ WALL := List.mem_filter.mpr ⟨List.mem_append_right _ (List.mem_of_getElem? (i := 412) (by decide +kernel)), by decide +kernel⟩
theorem t_413 : (Jvm.Cond.methodLink "SharedLogLaw" (104 : Nat) ({ cls := "SharedLogLaw", name := "change", desc := "(LSharedLog;III[J)I" } : Jvm.MethodName)) ∈ WALL := List.mem_filter.mpr ⟨List.mem_append_right _ (List.mem_of_getElem? (i := 413) (by decide +kernel)), by decide +kernel⟩
theorem t_414 : (Jvm.Cond.static ({ cls := "SharedLogLaw", name := "change", desc := "(LSharedLog;III[J)I" } : Jvm.MethodName)) ∈ WALL := List.mem_filter.mpr ⟨List.mem_append_right _ (List.mem_of_getElem? (i := 414) (by decide +kernel)), by decide +kernel⟩
theorem t_416 : (Jvm.Cond.methodLink "SharedLogLaw" (37 : Nat) ({ cls := "SharedLog", name := "change", desc := "(III)I" } : Jvm.MethodName)) ∈ WALL := List.mem_filter.mpr ⟨List.mem_append_right _ (List.mem_of_getElem? (i := 416) (by decide +kernel)), by decide +kernel⟩
theorem t_417 : (Jvm.Cond.instanceMethod ({ cls := "SharedLog", name := "change", desc := "(III)I" } : Jvm.MethodName)) ∈ WALL := List.mem_filter.mpr ⟨List.mem_append_right _ (List.mem_of_getElem? (i := 417) (by decide +kernel)), by decide +kernel⟩
theorem t_418 : (Jvm.Cond.selects "SharedLog" ({ cls := "SharedLog", name := "change", desc := "(III)I" } : Jvm.MethodName) ({ cls := "SharedLog", name := "change", desc := "(III)I" } : Jvm.MethodName)) ∈ WALL := List.mem_filter.mpr ⟨List.mem_append_right _ (List.mem_of_getElem? (i := 418) (by decide +kernel)), by decide +kernel⟩
theorem t_419 : (Jvm.Cond.code ({ cls := "SharedLog", name := "change", desc := "(III)I" } : Jvm.MethodName) prog_1_method_7_code (8 : Nat) (Option.some Jvm.ClassFile.FieldType.int)) ∈ WALL := List.mem_filter.mpr ⟨List.mem_append_right _ (List.mem_of_getElem? (i := 419) (by decide +kernel)), by decide +kernel⟩
theorem t_420 : (Jvm.Cond.methodLink "SharedLog" (122 : Nat) ({ cls := "SharedLog", name := "requireRow", desc := "(I)V" } : Jvm.MethodName)) ∈ WALL := List.mem_filter.mpr ⟨List.mem_append_right _ (List.mem_of_getElem? (i := 420) (by decide +kernel)), by decide +kernel⟩
theorem t_421 : (Jvm.Cond.static ({ cls := "SharedLog", name := "requireRow", desc := "(I)V" } : Jvm.MethodName)) ∈ WALL := List.mem_filter.mpr ⟨List.mem_append_right _ (List.mem_of_getElem? (i := 421) (by decide +kernel)), by decide +kernel⟩
theorem t_422 : (Jvm.Cond.code ({ cls := "SharedLog", name := "requireRow", desc := "(I)V" } : Jvm.MethodName) prog_1_method_21_code (1 : Nat) (Option.none : Option Jvm.ClassFile.FieldType)) ∈ WALL := List.mem_filter.mpr ⟨List.mem_append_right _ (List.mem_of_getElem? (i := 422) (by decide +kernel)), by decide +kernel⟩
theorem t_423 : (Jvm.Cond.methodLink "SharedLog" (229 : Nat) ({ cls := "SharedLog", name := "isRow", desc := "(I)Z" } : Jvm.MethodName)) ∈ WALL := List.mem_filter.mpr ⟨List.mem_append_right _ (List.mem_of_getElem? (i := 423) (by decide +kernel)), by decide +kernel⟩
theorem t_424 : (Jvm.Cond.static ({ cls := "SharedLog", name := "isRow", desc := "(I)Z" } : Jvm.MethodName)) ∈ WALL := List.mem_filter.mpr ⟨List.mem_append_right _ (List.mem_of_getElem? (i := 424) (by decide +kernel)), by decide +kernel⟩
theorem t_425 : (Jvm.Cond.code ({ cls := "SharedLog", name := "isRow", desc := "(I)Z" } : Jvm.MethodName) prog_1_method_22_code (4 : Nat) (Option.some Jvm.ClassFile.FieldType.boolean)) ∈ WALL := List.mem_filter.mpr ⟨List.mem_append_right _ (List.mem_of_getElem? (i := 425) (by decide +kernel)), by decide +kernel⟩
theorem t_427 : (Jvm.Cond.methodLink "SharedLog" (126 : Nat) ({ cls := "SharedLog", name := "requireChangeable", desc := "(LSharedLog$Client;[I)V" } : Jvm.MethodName)) ∈ WALL := List.mem_filter.mpr ⟨List.mem_append_right _ (List.mem_of_getElem? (i := 427) (by decide +kernel)), by decide +kernel⟩
theorem t_429 : (Jvm.Cond.instanceMethod ({ cls := "SharedLog", name := "requireChangeable", desc := "(LSharedLog$Client;[I)V" } : Jvm.MethodName)) ∈ WALL := List.mem_filter.mpr ⟨List.mem_append_right _ (List.mem_of_getElem? (i := 429) (by decide +kernel)), by decide +kernel⟩
theorem t_430 : (Jvm.Cond.code ({ cls := "SharedLog", name := "requireChangeable", desc := "(LSharedLog$Client;[I)V" } : Jvm.MethodName) prog_1_method_34_code (4 : Nat) (Option.none : Option Jvm.ClassFile.FieldType)) ∈ WALL := List.mem_filter.mpr ⟨List.mem_append_right _ (List.mem_of_getElem? (i := 430) (by decide +kernel)), by decide +kernel⟩
theorem t_432 : (Jvm.Cond.methodLink "SharedLog" (266 : Nat) ({ cls := "SharedLog", name := "upCount", desc := "([I)I" } : Jvm.MethodName)) ∈ WALL := List.mem_filter.mpr ⟨List.mem_append_right _ (List.mem_of_getElem? (i := 432) (by decide +kernel)), by decide +kernel⟩
theorem t_434 : (Jvm.Cond.instanceMethod ({ cls := "SharedLog", name := "upCount", desc := "([I)I" } : Jvm.MethodName)) ∈ WALL := List.mem_filter.mpr ⟨List.mem_append_right _ (List.mem_of_getElem? (i := 434) (by decide +kernel)), by decide +kernel⟩
theorem t_435 : (Jvm.Cond.code ({ cls := "SharedLog", name := "upCount", desc := "([I)I" } : Jvm.MethodName) prog_1_method_35_code (4 : Nat) (Option.some Jvm.ClassFile.FieldType.int)) ∈ WALL := List.mem_filter.mpr ⟨List.mem_append_right _ (List.mem_of_getElem? (i := 435) (by decide +kernel)), by decide +kernel⟩
theorem t_437 : (Jvm.Cond.methodLink "SharedLog" (138 : Nat) ({ cls := "SharedLog$Layout", name := "chain", desc := "(I)[I" } : Jvm.MethodName)) ∈ WALL := List.mem_filter.mpr ⟨List.mem_append_right _ (List.mem_of_getElem? (i := 437) (by decide +kernel)), by decide +kernel⟩
theorem t_439 : (Jvm.Cond.methodLink "SharedLog" (130 : Nat) ({ cls := "SharedLog$Layout", name := "next", desc := "(I[I)LSharedLog$Layout;" } : Jvm.MethodName)) ∈ WALL := List.mem_filter.mpr ⟨List.mem_append_right _ (List.mem_of_getElem? (i := 439) (by decide +kernel)), by decide +kernel⟩
theorem t_440 : (Jvm.Cond.instanceMethod ({ cls := "SharedLog$Layout", name := "next", desc := "(I[I)LSharedLog$Layout;" } : Jvm.MethodName)) ∈ WALL := List.mem_filter.mpr ⟨List.mem_append_right _ (List.mem_of_getElem? (i := 440) (by decide +kernel)), by decide +kernel⟩
theorem t_441 : (Jvm.Cond.selects "SharedLog$Layout" ({ cls := "SharedLog$Layout", name := "next", desc := "(I[I)LSharedLog$Layout;" } : Jvm.MethodName) ({ cls := "SharedLog$Layout", name := "next", desc := "(I[I)LSharedLog$Layout;" } : Jvm.MethodName)) ∈ WALL := List.mem_filter.mpr ⟨List.mem_append_right _ (List.mem_of_getElem? (i := 441) (by decide +kernel)), by decide +kernel⟩
theorem t_442 : (Jvm.Cond.code ({ cls := "SharedLog$Layout", name := "next", desc := "(I[I)LSharedLog$Layout;" } : Jvm.MethodName) prog_4_method_4_code (3 : Nat) (Option.some (Jvm.ClassFile.FieldType.object "SharedLog$Layout"))) ∈ WALL := List.mem_filter.mpr ⟨List.mem_append_right _ (List.mem_of_getElem? (i := 442) (by decide +kernel)), by decide +kernel⟩
theorem t_443 : (Jvm.Cond.classLink "SharedLog$Layout" (10 : Nat) "SharedLog$Layout") ∈ WALL := List.mem_filter.mpr ⟨List.mem_append_right _ (List.mem_of_getElem? (i := 443) (by decide +kernel)), by decide +kernel⟩
theorem t_444 : (Jvm.Cond.methodLink "SharedLog$Layout" (26 : Nat) ({ cls := "SharedLog$Layout", name := "<init>", desc := "(I[I[I)V" } : Jvm.MethodName)) ∈ WALL := List.mem_filter.mpr ⟨List.mem_append_right _ (List.mem_of_getElem? (i := 444) (by decide +kernel)), by decide +kernel⟩
theorem t_445 : (Jvm.Cond.methodLink "SharedLog" (134 : Nat) ({ cls := "SharedLog", name := "sealAll", desc := "(LSharedLog$Layout;[II)V" } : Jvm.MethodName)) ∈ WALL := List.mem_filter.mpr ⟨List.mem_append_right _ (List.mem_of_getElem? (i := 445) (by decide +kernel)), by decide +kernel⟩
theorem t_447 : (Jvm.Cond.instanceMethod ({ cls := "SharedLog", name := "sealAll", desc := "(LSharedLog$Layout;[II)V" } : Jvm.MethodName)) ∈ WALL := List.mem_filter.mpr ⟨List.mem_append_right _ (List.mem_of_getElem? (i := 447) (by decide +kernel)), by decide +kernel⟩
theorem t_448 : (Jvm.Cond.code ({ cls := "SharedLog", name := "sealAll", desc := "(LSharedLog$Layout;[II)V" } : Jvm.MethodName) prog_1_method_36_code (5 : Nat) (Option.none : Option Jvm.ClassFile.FieldType)) ∈ WALL := List.mem_filter.mpr ⟨List.mem_append_right _ (List.mem_of_getElem? (i := 448) (by decide +kernel)), by decide +kernel⟩
theorem t_449 : (Jvm.Cond.methodLink "SharedLog" (273 : Nat) ({ cls := "SharedLog", name := "sealRow", desc := "([II)V" } : Jvm.MethodName)) ∈ WALL := List.mem_filter.mpr ⟨List.mem_append_right _ (List.mem_of_getElem? (i := 449) (by decide +kernel)), by decide +kernel⟩
theorem t_451 : (Jvm.Cond.instanceMethod ({ cls := "SharedLog", name := "sealRow", desc := "([II)V" } : Jvm.MethodName)) ∈ WALL := List.mem_filter.mpr ⟨List.mem_append_right _ (List.mem_of_getElem? (i := 451) (by decide +kernel)), by decide +kernel⟩
theorem t_452 : (Jvm.Cond.code ({ cls := "SharedLog", name := "sealRow", desc := "([II)V" } : Jvm.MethodName) prog_1_method_37_code (5 : Nat) (Option.none : Option Jvm.ClassFile.FieldType)) ∈ WALL := List.mem_filter.mpr ⟨List.mem_append_right _ (List.mem_of_getElem? (i := 452) (by decide +kernel)), by decide +kernel⟩
theorem t_453 : (Jvm.Cond.methodLink "SharedLog" (141 : Nat) ({ cls := "SharedLog", name := "merge", desc := "([I[II)V" } : Jvm.MethodName)) ∈ WALL := List.mem_filter.mpr ⟨List.mem_append_right _ (List.mem_of_getElem? (i := 453) (by decide +kernel)), by decide +kernel⟩
theorem t_455 : (Jvm.Cond.instanceMethod ({ cls := "SharedLog", name := "merge", desc := "([I[II)V" } : Jvm.MethodName)) ∈ WALL := List.mem_filter.mpr ⟨List.mem_append_right _ (List.mem_of_getElem? (i := 455) (by decide +kernel)), by decide +kernel⟩
theorem t_456 : (Jvm.Cond.code ({ cls := "SharedLog", name := "merge", desc := "([I[II)V" } : Jvm.MethodName) prog_1_method_38_code (7 : Nat) (Option.none : Option Jvm.ClassFile.FieldType)) ∈ WALL := List.mem_filter.mpr ⟨List.mem_append_right _ (List.mem_of_getElem? (i := 456) (by decide +kernel)), by decide +kernel⟩
theorem t_457 : (Jvm.Cond.methodLink "SharedLog" (277 : Nat) ({ cls := "SharedLog", name := "firstHeld", desc := "([II)LSharedLog$Entry;" } : Jvm.MethodName)) ∈ WALL := List.mem_filter.mpr ⟨List.mem_append_right _ (List.mem_of_getElem? (i := 457) (by decide +kernel)), by decide +kernel⟩
theorem t_459 : (Jvm.Cond.instanceMethod ({ cls := "SharedLog", name := "firstHeld", desc := "([II)LSharedLog$Entry;" } : Jvm.MethodName)) ∈ WALL := List.mem_filter.mpr ⟨List.mem_append_right _ (List.mem_of_getElem? (i := 459) (by decide +kernel)), by decide +kernel⟩
theorem t_460 : (Jvm.Cond.code ({ cls := "SharedLog", name := "firstHeld", desc := "([II)LSharedLog$Entry;" } : Jvm.MethodName) prog_1_method_39_code (5 : Nat) (Option.some (Jvm.ClassFile.FieldType.object "SharedLog$Entry"))) ∈ WALL := List.mem_filter.mpr ⟨List.mem_append_right _ (List.mem_of_getElem? (i := 460) (by decide +kernel)), by decide +kernel⟩
theorem t_461 : (Jvm.Cond.methodLink "SharedLog" (145 : Nat) ({ cls := "SharedLog", name := "firstFreeOffset", desc := "()I" } : Jvm.MethodName)) ∈ WALL := List.mem_filter.mpr ⟨List.mem_append_right _ (List.mem_of_getElem? (i := 461) (by decide +kernel)), by decide +kernel⟩
theorem t_463 : (Jvm.Cond.instanceMethod ({ cls := "SharedLog", name := "firstFreeOffset", desc := "()I" } : Jvm.MethodName)) ∈ WALL := List.mem_filter.mpr ⟨List.mem_append_right _ (List.mem_of_getElem? (i := 463) (by decide +kernel)), by decide +kernel⟩
theorem t_464 : (Jvm.Cond.code ({ cls := "SharedLog", name := "firstFreeOffset", desc := "()I" } : Jvm.MethodName) prog_1_method_40_code (2 : Nat) (Option.some Jvm.ClassFile.FieldType.int)) ∈ WALL := List.mem_filter.mpr ⟨List.mem_append_right _ (List.mem_of_getElem? (i := 464) (by decide +kernel)), by decide +kernel⟩
theorem t_465 : (Jvm.Cond.methodLink "SharedLog" (149 : Nat) ({ cls := "SharedLog$Sequencer", name := "restart", desc := "(II)V" } : Jvm.MethodName)) ∈ WALL := List.mem_filter.mpr ⟨List.mem_append_right _ (List.mem_of_getElem? (i := 465) (by decide +kernel)), by decide +kernel⟩
theorem t_466 : (Jvm.Cond.instanceMethod ({ cls := "SharedLog$Sequencer", name := "restart", desc := "(II)V" } : Jvm.MethodName)) ∈ WALL := List.mem_filter.mpr ⟨List.mem_append_right _ (List.mem_of_getElem? (i := 466) (by decide +kernel)), by decide +kernel⟩
theorem t_467 : (Jvm.Cond.selects "SharedLog$Sequencer" ({ cls := "SharedLog$Sequencer", name := "restart", desc := "(II)V" } : Jvm.MethodName) ({ cls := "SharedLog$Sequencer", name := "restart", desc := "(II)V" } : Jvm.MethodName)) ∈ WALL := List.mem_filter.mpr ⟨List.mem_append_right _ (List.mem_of_getElem? (i := 467) (by decide +kernel)), by decide +kernel⟩
theorem t_468 : (Jvm.Cond.code ({ cls := "SharedLog$Sequencer", name := "restart", desc := "(II)V" } : Jvm.MethodName) prog_5_method_2_code (3 : Nat) (Option.none : Option Jvm.ClassFile.FieldType)) ∈ WALL := List.mem_filter.mpr ⟨List.mem_append_right _ (List.mem_of_getElem? (i := 468) (by decide +kernel)), by decide +kernel⟩
theorem t_469 : (Jvm.Cond.methodLink "SharedLogLaw" (108 : Nat) ({ cls := "SharedLogLaw", name := "up", desc := "(LSharedLog;IZ[J)I" } : Jvm.MethodName)) ∈ WALL := List.mem_filter.mpr ⟨List.mem_append_right _ (List.mem_of_getElem? (i := 469) (by decide +kernel)), by decide +kernel⟩
theorem t_470 : (Jvm.Cond.static ({ cls := "SharedLogLaw", name := "up", desc := "(LSharedLog;IZ[J)I" } : Jvm.MethodName)) ∈ WALL := List.mem_filter.mpr ⟨List.mem_append_right _ (List.mem_of_getElem? (i := 470) (by decide +kernel)), by decide +kernel⟩
theorem t_472 : (Jvm.Cond.methodLink "SharedLogLaw" (41 : Nat) ({ cls := "SharedLog", name := "up", desc := "(IZ)I" } : Jvm.MethodName)) ∈ WALL := List.mem_filter.mpr ⟨List.mem_append_right _ (List.mem_of_getElem? (i := 472) (by decide +kernel)), by decide +kernel⟩
theorem t_473 : (Jvm.Cond.instanceMethod ({ cls := "SharedLog", name := "up", desc := "(IZ)I" } : Jvm.MethodName)) ∈ WALL := List.mem_filter.mpr ⟨List.mem_append_right _ (List.mem_of_getElem? (i := 473) (by decide +kernel)), by decide +kernel⟩
theorem t_474 : (Jvm.Cond.selects "SharedLog" ({ cls := "SharedLog", name := "up", desc := "(IZ)I" } : Jvm.MethodName) ({ cls := "SharedLog", name := "up", desc := "(IZ)I" } : Jvm.MethodName)) ∈ WALL := List.mem_filter.mpr ⟨List.mem_append_right _ (List.mem_of_getElem? (i := 474) (by decide +kernel)), by decide +kernel⟩
theorem t_475 : (Jvm.Cond.code ({ cls := "SharedLog", name := "up", desc := "(IZ)I" } : Jvm.MethodName) prog_1_method_8_code (3 : Nat) (Option.some Jvm.ClassFile.FieldType.int)) ∈ WALL := List.mem_filter.mpr ⟨List.mem_append_right _ (List.mem_of_getElem? (i := 475) (by decide +kernel)), by decide +kernel⟩
theorem t_476 : (Jvm.Cond.methodLink "SharedLogLaw" (116 : Nat) ({ cls := "SharedLogLaw", name := "sync", desc := "(LSharedLog;I[J)I" } : Jvm.MethodName)) ∈ WALL := List.mem_filter.mpr ⟨List.mem_append_right _ (List.mem_of_getElem? (i := 476) (by decide +kernel)), by decide +kernel⟩
theorem t_477 : (Jvm.Cond.static ({ cls := "SharedLogLaw", name := "sync", desc := "(LSharedLog;I[J)I" } : Jvm.MethodName)) ∈ WALL := List.mem_filter.mpr ⟨List.mem_append_right _ (List.mem_of_getElem? (i := 477) (by decide +kernel)), by decide +kernel⟩
theorem t_479 : (Jvm.Cond.methodLink "SharedLogLaw" (45 : Nat) ({ cls := "SharedLog", name := "sync", desc := "(I)I" } : Jvm.MethodName)) ∈ WALL := List.mem_filter.mpr ⟨List.mem_append_right _ (List.mem_of_getElem? (i := 479) (by decide +kernel)), by decide +kernel⟩
theorem t_480 : (Jvm.Cond.instanceMethod ({ cls := "SharedLog", name := "sync", desc := "(I)I" } : Jvm.MethodName)) ∈ WALL := List.mem_filter.mpr ⟨List.mem_append_right _ (List.mem_of_getElem? (i := 480) (by decide +kernel)), by decide +kernel⟩
theorem t_481 : (Jvm.Cond.selects "SharedLog" ({ cls := "SharedLog", name := "sync", desc := "(I)I" } : Jvm.MethodName) ({ cls := "SharedLog", name := "sync", desc := "(I)I" } : Jvm.MethodName)) ∈ WALL := List.mem_filter.mpr ⟨List.mem_append_right _ (List.mem_of_getElem? (i := 481) (by decide +kernel)), by decide +kernel⟩
theorem t_482 : (Jvm.Cond.code ({ cls := "SharedLog", name := "sync", desc := "(I)I" } : Jvm.MethodName) prog_1_method_10_code (3 : Nat) (Option.some Jvm.ClassFile.FieldType.int)) ∈ WALL := List.mem_filter.mpr ⟨List.mem_append_right _ (List.mem_of_getElem? (i := 482) (by decide +kernel)), by decide +kernel⟩
theorem t_483 : (Jvm.Cond.methodLink "SharedLog" (168 : Nat) ({ cls := "SharedLog", name := "play", desc := "(LSharedLog$Client;I)Z" } : Jvm.MethodName)) ∈ WALL := List.mem_filter.mpr ⟨List.mem_append_right _ (List.mem_of_getElem? (i := 483) (by decide +kernel)), by decide +kernel⟩
theorem t_485 : (Jvm.Cond.instanceMethod ({ cls := "SharedLog", name := "play", desc := "(LSharedLog$Client;I)Z" } : Jvm.MethodName)) ∈ WALL := List.mem_filter.mpr ⟨List.mem_append_right _ (List.mem_of_getElem? (i := 485) (by decide +kernel)), by decide +kernel⟩
theorem t_486 : (Jvm.Cond.code ({ cls := "SharedLog", name := "play", desc := "(LSharedLog$Client;I)Z" } : Jvm.MethodName) prog_1_method_32_code (5 : Nat) (Option.some Jvm.ClassFile.FieldType.boolean)) ∈ WALL := List.mem_filter.mpr ⟨List.mem_append_right _ (List.mem_of_getElem? (i := 486) (by decide +kernel)), by decide +kernel⟩
theorem t_487 : (Jvm.Cond.methodLink "SharedLog" (256 : Nat) ({ cls := "SharedLog$Client", name := "apply", desc := "(LSharedLog$Work;I)Z" } : Jvm.MethodName)) ∈ WALL := List.mem_filter.mpr ⟨List.mem_append_right _ (List.mem_of_getElem? (i := 487) (by decide +kernel)), by decide +kernel⟩
theorem t_488 : (Jvm.Cond.instanceMethod ({ cls := "SharedLog$Client", name := "apply", desc := "(LSharedLog$Work;I)Z" } : Jvm.MethodName)) ∈ WALL := List.mem_filter.mpr ⟨List.mem_append_right _ (List.mem_of_getElem? (i := 488) (by decide +kernel)), by decide +kernel⟩
theorem t_489 : (Jvm.Cond.selects "SharedLog$Client" ({ cls := "SharedLog$Client", name := "apply", desc := "(LSharedLog$Work;I)Z" } : Jvm.MethodName) ({ cls := "SharedLog$Client", name := "apply", desc := "(LSharedLog$Work;I)Z" } : Jvm.MethodName)) ∈ WALL := List.mem_filter.mpr ⟨List.mem_append_right _ (List.mem_of_getElem? (i := 489) (by decide +kernel)), by decide +kernel⟩
theorem t_490 : (Jvm.Cond.code ({ cls := "SharedLog$Client", name := "apply", desc := "(LSharedLog$Work;I)Z" } : Jvm.MethodName) prog_2_method_3_code (4 : Nat) (Option.some Jvm.ClassFile.FieldType.boolean)) ∈ WALL := List.mem_filter.mpr ⟨List.mem_append_right _ (List.mem_of_getElem? (i := 490) (by decide +kernel)), by decide +kernel⟩
theorem t_491 : (Jvm.Cond.methodLink "SharedLog$Client" (44 : Nat) ({ cls := "SharedLog$Client", name := "agesMatch", desc := "(LSharedLog$Work;)Z" } : Jvm.MethodName)) ∈ WALL := List.mem_filter.mpr ⟨List.mem_append_right _ (List.mem_of_getElem? (i := 491) (by decide +kernel)), by decide +kernel⟩
theorem t_492 : (Jvm.Cond.instanceMethod ({ cls := "SharedLog$Client", name := "agesMatch", desc := "(LSharedLog$Work;)Z" } : Jvm.MethodName)) ∈ WALL := List.mem_filter.mpr ⟨List.mem_append_right _ (List.mem_of_getElem? (i := 492) (by decide +kernel)), by decide +kernel⟩
theorem t_493 : (Jvm.Cond.selects "SharedLog$Client" ({ cls := "SharedLog$Client", name := "agesMatch", desc := "(LSharedLog$Work;)Z" } : Jvm.MethodName) ({ cls := "SharedLog$Client", name := "agesMatch", desc := "(LSharedLog$Work;)Z" } : Jvm.MethodName)) ∈ WALL := List.mem_filter.mpr ⟨List.mem_append_right _ (List.mem_of_getElem? (i := 493) (by decide +kernel)), by decide +kernel⟩
theorem t_494 : (Jvm.Cond.code ({ cls := "SharedLog$Client", name := "agesMatch", desc := "(LSharedLog$Work;)Z" } : Jvm.MethodName) prog_2_method_2_code (3 : Nat) (Option.some Jvm.ClassFile.FieldType.boolean)) ∈ WALL := List.mem_filter.mpr ⟨List.mem_append_right _ (List.mem_of_getElem? (i := 494) (by decide +kernel)), by decide +kernel⟩
theorem t_495 : (Jvm.Cond.methodLink "SharedLogLaw" (119 : Nat) ({ cls := "SharedLogLaw", name := "get", desc := "(LSharedLog;II[J)I" } : Jvm.MethodName)) ∈ WALL := List.mem_filter.mpr ⟨List.mem_append_right _ (List.mem_of_getElem? (i := 495) (by decide +kernel)), by decide +kernel⟩
theorem t_496 : (Jvm.Cond.static ({ cls := "SharedLogLaw", name := "get", desc := "(LSharedLog;II[J)I" } : Jvm.MethodName)) ∈ WALL := List.mem_filter.mpr ⟨List.mem_append_right _ (List.mem_of_getElem? (i := 496) (by decide +kernel)), by decide +kernel⟩
theorem t_498 : (Jvm.Cond.methodLink "SharedLogLaw" (48 : Nat) ({ cls := "SharedLog", name := "get", desc := "(II)I" } : Jvm.MethodName)) ∈ WALL := List.mem_filter.mpr ⟨List.mem_append_right _ (List.mem_of_getElem? (i := 498) (by decide +kernel)), by decide +kernel⟩
theorem t_499 : (Jvm.Cond.instanceMethod ({ cls := "SharedLog", name := "get", desc := "(II)I" } : Jvm.MethodName)) ∈ WALL := List.mem_filter.mpr ⟨List.mem_append_right _ (List.mem_of_getElem? (i := 499) (by decide +kernel)), by decide +kernel⟩
theorem t_500 : (Jvm.Cond.selects "SharedLog" ({ cls := "SharedLog", name := "get", desc := "(II)I" } : Jvm.MethodName) ({ cls := "SharedLog", name := "get", desc := "(II)I" } : Jvm.MethodName)) ∈ WALL := List.mem_filter.mpr ⟨List.mem_append_right _ (List.mem_of_getElem? (i := 500) (by decide +kernel)), by decide +kernel⟩
theorem t_501 : (Jvm.Cond.code ({ cls := "SharedLog", name := "get", desc := "(II)I" } : Jvm.MethodName) prog_1_method_11_code (3 : Nat) (Option.some Jvm.ClassFile.FieldType.int)) ∈ WALL := List.mem_filter.mpr ⟨List.mem_append_right _ (List.mem_of_getElem? (i := 501) (by decide +kernel)), by decide +kernel⟩
theorem t_502 : (Jvm.Cond.methodLink "SharedLogLaw" (122 : Nat) ({ cls := "SharedLogLaw", name := "begin", desc := "(LSharedLog;I[J)I" } : Jvm.MethodName)) ∈ WALL := List.mem_filter.mpr ⟨List.mem_append_right _ (List.mem_of_getElem? (i := 502) (by decide +kernel)), by decide +kernel⟩
theorem t_503 : (Jvm.Cond.static ({ cls := "SharedLogLaw", name := "begin", desc := "(LSharedLog;I[J)I" } : Jvm.MethodName)) ∈ WALL := List.mem_filter.mpr ⟨List.mem_append_right _ (List.mem_of_getElem? (i := 503) (by decide +kernel)), by decide +kernel⟩
theorem t_505 : (Jvm.Cond.methodLink "SharedLogLaw" (51 : Nat) ({ cls := "SharedLog", name := "begin", desc := "(I)I" } : Jvm.MethodName)) ∈ WALL := List.mem_filter.mpr ⟨List.mem_append_right _ (List.mem_of_getElem? (i := 505) (by decide +kernel)), by decide +kernel⟩
theorem t_506 : (Jvm.Cond.instanceMethod ({ cls := "SharedLog", name := "begin", desc := "(I)I" } : Jvm.MethodName)) ∈ WALL := List.mem_filter.mpr ⟨List.mem_append_right _ (List.mem_of_getElem? (i := 506) (by decide +kernel)), by decide +kernel⟩
theorem t_507 : (Jvm.Cond.selects "SharedLog" ({ cls := "SharedLog", name := "begin", desc := "(I)I" } : Jvm.MethodName) ({ cls := "SharedLog", name := "begin", desc := "(I)I" } : Jvm.MethodName)) ∈ WALL := List.mem_filter.mpr ⟨List.mem_append_right _ (List.mem_of_getElem? (i := 507) (by decide +kernel)), by decide +kernel⟩
theorem t_508 : (Jvm.Cond.code ({ cls := "SharedLog", name := "begin", desc := "(I)I" } : Jvm.MethodName) prog_1_method_12_code (3 : Nat) (Option.some Jvm.ClassFile.FieldType.int)) ∈ WALL := List.mem_filter.mpr ⟨List.mem_append_right _ (List.mem_of_getElem? (i := 508) (by decide +kernel)), by decide +kernel⟩
theorem t_510 : (Jvm.Cond.methodLink "SharedLog" (191 : Nat) ({ cls := "SharedLog$Work", name := "clear", desc := "()V" } : Jvm.MethodName)) ∈ WALL := List.mem_filter.mpr ⟨List.mem_append_right _ (List.mem_of_getElem? (i := 510) (by decide +kernel)), by decide +kernel⟩
theorem t_511 : (Jvm.Cond.instanceMethod ({ cls := "SharedLog$Work", name := "clear", desc := "()V" } : Jvm.MethodName)) ∈ WALL := List.mem_filter.mpr ⟨List.mem_append_right _ (List.mem_of_getElem? (i := 511) (by decide +kernel)), by decide +kernel⟩
theorem t_512 : (Jvm.Cond.selects "SharedLog$Work" ({ cls := "SharedLog$Work", name := "clear", desc := "()V" } : Jvm.MethodName) ({ cls := "SharedLog$Work", name := "clear", desc := "()V" } : Jvm.MethodName)) ∈ WALL := List.mem_filter.mpr ⟨List.mem_append_right _ (List.mem_of_getElem? (i := 512) (by decide +kernel)), by decide +kernel⟩
theorem t_513 : (Jvm.Cond.code ({ cls := "SharedLog$Work", name := "clear", desc := "()V" } : Jvm.MethodName) prog_7_method_2_code (2 : Nat) (Option.none : Option Jvm.ClassFile.FieldType)) ∈ WALL := List.mem_filter.mpr ⟨List.mem_append_right _ (List.mem_of_getElem? (i := 513) (by decide +kernel)), by decide +kernel⟩
theorem t_514 : (Jvm.Cond.methodLink "SharedLogLaw" (125 : Nat) ({ cls := "SharedLogLaw", name := "see", desc := "(LSharedLog;II[J)I" } : Jvm.MethodName)) ∈ WALL := List.mem_filter.mpr ⟨List.mem_append_right _ (List.mem_of_getElem? (i := 514) (by decide +kernel)), by decide +kernel⟩
theorem t_515 : (Jvm.Cond.static ({ cls := "SharedLogLaw", name := "see", desc := "(LSharedLog;II[J)I" } : Jvm.MethodName)) ∈ WALL := List.mem_filter.mpr ⟨List.mem_append_right _ (List.mem_of_getElem? (i := 515) (by decide +kernel)), by decide +kernel⟩
theorem t_517 : (Jvm.Cond.methodLink "SharedLogLaw" (54 : Nat) ({ cls := "SharedLog", name := "see", desc := "(II)I" } : Jvm.MethodName)) ∈ WALL := List.mem_filter.mpr ⟨List.mem_append_right _ (List.mem_of_getElem? (i := 517) (by decide +kernel)), by decide +kernel⟩
theorem t_518 : (Jvm.Cond.instanceMethod ({ cls := "SharedLog", name := "see", desc := "(II)I" } : Jvm.MethodName)) ∈ WALL := List.mem_filter.mpr ⟨List.mem_append_right _ (List.mem_of_getElem? (i := 518) (by decide +kernel)), by decide +kernel⟩
theorem t_519 : (Jvm.Cond.selects "SharedLog" ({ cls := "SharedLog", name := "see", desc := "(II)I" } : Jvm.MethodName) ({ cls := "SharedLog", name := "see", desc := "(II)I" } : Jvm.MethodName)) ∈ WALL := List.mem_filter.mpr ⟨List.mem_append_right _ (List.mem_of_getElem? (i := 519) (by decide +kernel)), by decide +kernel⟩
theorem t_520 : (Jvm.Cond.code ({ cls := "SharedLog", name := "see", desc := "(II)I" } : Jvm.MethodName) prog_1_method_13_code (5 : Nat) (Option.some Jvm.ClassFile.FieldType.int)) ∈ WALL := List.mem_filter.mpr ⟨List.mem_append_right _ (List.mem_of_getElem? (i := 520) (by decide +kernel)), by decide +kernel⟩
theorem t_521 : (Jvm.Cond.methodLink "SharedLog" (194 : Nat) ({ cls := "SharedLog", name := "requireTransaction", desc := "(LSharedLog$Client;)V" } : Jvm.MethodName)) ∈ WALL := List.mem_filter.mpr ⟨List.mem_append_right _ (List.mem_of_getElem? (i := 521) (by decide +kernel)), by decide +kernel⟩
theorem t_522 : (Jvm.Cond.static ({ cls := "SharedLog", name := "requireTransaction", desc := "(LSharedLog$Client;)V" } : Jvm.MethodName)) ∈ WALL := List.mem_filter.mpr ⟨List.mem_append_right _ (List.mem_of_getElem? (i := 522) (by decide +kernel)), by decide +kernel⟩
theorem t_523 : (Jvm.Cond.code ({ cls := "SharedLog", name := "requireTransaction", desc := "(LSharedLog$Client;)V" } : Jvm.MethodName) prog_1_method_25_code (1 : Nat) (Option.none : Option Jvm.ClassFile.FieldType)) ∈ WALL := List.mem_filter.mpr ⟨List.mem_append_right _ (List.mem_of_getElem? (i := 523) (by decide +kernel)), by decide +kernel⟩
theorem t_525 : (Jvm.Cond.methodLink "SharedLog" (205 : Nat) ({ cls := "SharedLog$Work", name := "noteRead", desc := "(II)V" } : Jvm.MethodName)) ∈ WALL := List.mem_filter.mpr ⟨List.mem_append_right _ (List.mem_of_getElem? (i := 525) (by decide +kernel)), by decide +kernel⟩
theorem t_526 : (Jvm.Cond.instanceMethod ({ cls := "SharedLog$Work", name := "noteRead", desc := "(II)V" } : Jvm.MethodName)) ∈ WALL := List.mem_filter.mpr ⟨List.mem_append_right _ (List.mem_of_getElem? (i := 526) (by decide +kernel)), by decide +kernel⟩
theorem t_527 : (Jvm.Cond.selects "SharedLog$Work" ({ cls := "SharedLog$Work", name := "noteRead", desc := "(II)V" } : Jvm.MethodName) ({ cls := "SharedLog$Work", name := "noteRead", desc := "(II)V" } : Jvm.MethodName)) ∈ WALL := List.mem_filter.mpr ⟨List.mem_append_right _ (List.mem_of_getElem? (i := 527) (by decide +kernel)), by decide +kernel⟩
theorem t_528 : (Jvm.Cond.code ({ cls := "SharedLog$Work", name := "noteRead", desc := "(II)V" } : Jvm.MethodName) prog_7_method_3_code (3 : Nat) (Option.none : Option Jvm.ClassFile.FieldType)) ∈ WALL := List.mem_filter.mpr ⟨List.mem_append_right _ (List.mem_of_getElem? (i := 528) (by decide +kernel)), by decide +kernel⟩
theorem t_529 : (Jvm.Cond.methodLink "SharedLogLaw" (128 : Nat) ({ cls := "SharedLogLaw", name := "put", desc := "(LSharedLog;III[J)I" } : Jvm.MethodName)) ∈ WALL := List.mem_filter.mpr ⟨List.mem_append_right _ (List.mem_of_getElem? (i := 529) (by decide +kernel)), by decide +kernel⟩
theorem t_530 : (Jvm.Cond.static ({ cls := "SharedLogLaw", name := "put", desc := "(LSharedLog;III[J)I" } : Jvm.MethodName)) ∈ WALL := List.mem_filter.mpr ⟨List.mem_append_right _ (List.mem_of_getElem? (i := 530) (by decide +kernel)), by decide +kernel⟩
theorem t_532 : (Jvm.Cond.methodLink "SharedLogLaw" (57 : Nat) ({ cls := "SharedLog", name := "put", desc := "(III)I" } : Jvm.MethodName)) ∈ WALL := List.mem_filter.mpr ⟨List.mem_append_right _ (List.mem_of_getElem? (i := 532) (by decide +kernel)), by decide +kernel⟩
theorem t_533 : (Jvm.Cond.instanceMethod ({ cls := "SharedLog", name := "put", desc := "(III)I" } : Jvm.MethodName)) ∈ WALL := List.mem_filter.mpr ⟨List.mem_append_right _ (List.mem_of_getElem? (i := 533) (by decide +kernel)), by decide +kernel⟩
theorem t_534 : (Jvm.Cond.selects "SharedLog" ({ cls := "SharedLog", name := "put", desc := "(III)I" } : Jvm.MethodName) ({ cls := "SharedLog", name := "put", desc := "(III)I" } : Jvm.MethodName)) ∈ WALL := List.mem_filter.mpr ⟨List.mem_append_right _ (List.mem_of_getElem? (i := 534) (by decide +kernel)), by decide +kernel⟩
theorem t_535 : (Jvm.Cond.code ({ cls := "SharedLog", name := "put", desc := "(III)I" } : Jvm.MethodName) prog_1_method_14_code (5 : Nat) (Option.some Jvm.ClassFile.FieldType.int)) ∈ WALL := List.mem_filter.mpr ⟨List.mem_append_right _ (List.mem_of_getElem? (i := 535) (by decide +kernel)), by decide +kernel⟩
theorem t_536 : (Jvm.Cond.methodLink "SharedLog" (208 : Nat) ({ cls := "SharedLog$Work", name := "putCount", desc := "()I" } : Jvm.MethodName)) ∈ WALL := List.mem_filter.mpr ⟨List.mem_append_right _ (List.mem_of_getElem? (i := 536) (by decide +kernel)), by decide +kernel⟩
theorem t_537 : (Jvm.Cond.instanceMethod ({ cls := "SharedLog$Work", name := "putCount", desc := "()I" } : Jvm.MethodName)) ∈ WALL := List.mem_filter.mpr ⟨List.mem_append_right _ (List.mem_of_getElem? (i := 537) (by decide +kernel)), by decide +kernel⟩
theorem t_538 : (Jvm.Cond.selects "SharedLog$Work" ({ cls := "SharedLog$Work", name := "putCount", desc := "()I" } : Jvm.MethodName) ({ cls := "SharedLog$Work", name := "putCount", desc := "()I" } : Jvm.MethodName)) ∈ WALL := List.mem_filter.mpr ⟨List.mem_append_right _ (List.mem_of_getElem? (i := 538) (by decide +kernel)), by decide +kernel⟩
theorem t_539 : (Jvm.Cond.code ({ cls := "SharedLog$Work", name := "putCount", desc := "()I" } : Jvm.MethodName) prog_7_method_5_code (3 : Nat) (Option.some Jvm.ClassFile.FieldType.int)) ∈ WALL := List.mem_filter.mpr ⟨List.mem_append_right _ (List.mem_of_getElem? (i := 539) (by decide +kernel)), by decide +kernel⟩
theorem t_540 : (Jvm.Cond.methodLink "SharedLogLaw" (131 : Nat) ({ cls := "SharedLogLaw", name := "commit", desc := "(LSharedLog;I[J)I" } : Jvm.MethodName)) ∈ WALL := List.mem_filter.mpr ⟨List.mem_append_right _ (List.mem_of_getElem? (i := 540) (by decide +kernel)), by decide +kernel⟩
theorem t_541 : (Jvm.Cond.static ({ cls := "SharedLogLaw", name := "commit", desc := "(LSharedLog;I[J)I" } : Jvm.MethodName)) ∈ WALL := List.mem_filter.mpr ⟨List.mem_append_right _ (List.mem_of_getElem? (i := 541) (by decide +kernel)), by decide +kernel⟩
theorem t_543 : (Jvm.Cond.methodLink "SharedLogLaw" (60 : Nat) ({ cls := "SharedLog", name := "commit", desc := "(I)Z" } : Jvm.MethodName)) ∈ WALL := List.mem_filter.mpr ⟨List.mem_append_right _ (List.mem_of_getElem? (i := 543) (by decide +kernel)), by decide +kernel⟩
theorem t_544 : (Jvm.Cond.instanceMethod ({ cls := "SharedLog", name := "commit", desc := "(I)Z" } : Jvm.MethodName)) ∈ WALL := List.mem_filter.mpr ⟨List.mem_append_right _ (List.mem_of_getElem? (i := 544) (by decide +kernel)), by decide +kernel⟩
theorem t_545 : (Jvm.Cond.selects "SharedLog" ({ cls := "SharedLog", name := "commit", desc := "(I)Z" } : Jvm.MethodName) ({ cls := "SharedLog", name := "commit", desc := "(I)Z" } : Jvm.MethodName)) ∈ WALL := List.mem_filter.mpr ⟨List.mem_append_right _ (List.mem_of_getElem? (i := 545) (by decide +kernel)), by decide +kernel⟩
theorem t_546 : (Jvm.Cond.code ({ cls := "SharedLog", name := "commit", desc := "(I)Z" } : Jvm.MethodName) prog_1_method_15_code (4 : Nat) (Option.some Jvm.ClassFile.FieldType.boolean)) ∈ WALL := List.mem_filter.mpr ⟨List.mem_append_right _ (List.mem_of_getElem? (i := 546) (by decide +kernel)), by decide +kernel⟩
theorem t_547 : (Jvm.Cond.methodLink "SharedLog" (211 : Nat) ({ cls := "SharedLog$Client", name := "agesMatch", desc := "(LSharedLog$Work;)Z" } : Jvm.MethodName)) ∈ WALL := List.mem_filter.mpr ⟨List.mem_append_right _ (List.mem_of_getElem? (i := 547) (by decide +kernel)), by decide +kernel⟩
theorem t_548 : (Jvm.Cond.methodLink "SharedLog" (215 : Nat) ({ cls := "SharedLog", name := "writeAndPlayCommit", desc := "(LSharedLog$Client;)Z" } : Jvm.MethodName)) ∈ WALL := List.mem_filter.mpr ⟨List.mem_append_right _ (List.mem_of_getElem? (i := 548) (by decide +kernel)), by decide +kernel⟩
theorem t_550 : (Jvm.Cond.instanceMethod ({ cls := "SharedLog", name := "writeAndPlayCommit", desc := "(LSharedLog$Client;)Z" } : Jvm.MethodName)) ∈ WALL := List.mem_filter.mpr ⟨List.mem_append_right _ (List.mem_of_getElem? (i := 550) (by decide +kernel)), by decide +kernel⟩
theorem t_551 : (Jvm.Cond.code ({ cls := "SharedLog", name := "writeAndPlayCommit", desc := "(LSharedLog$Client;)Z" } : Jvm.MethodName) prog_1_method_33_code (4 : Nat) (Option.some Jvm.ClassFile.FieldType.boolean)) ∈ WALL := List.mem_filter.mpr ⟨List.mem_append_right _ (List.mem_of_getElem? (i := 551) (by decide +kernel)), by decide +kernel⟩
theorem t_552 : (Jvm.Cond.methodLink "SharedLog" (260 : Nat) ({ cls := "SharedLog$Work", name := "copy", desc := "()LSharedLog$Work;" } : Jvm.MethodName)) ∈ WALL := List.mem_filter.mpr ⟨List.mem_append_right _ (List.mem_of_getElem? (i := 552) (by decide +kernel)), by decide +kernel⟩
theorem t_553 : (Jvm.Cond.instanceMethod ({ cls := "SharedLog$Work", name := "copy", desc := "()LSharedLog$Work;" } : Jvm.MethodName)) ∈ WALL := List.mem_filter.mpr ⟨List.mem_append_right _ (List.mem_of_getElem? (i := 553) (by decide +kernel)), by decide +kernel⟩
theorem t_554 : (Jvm.Cond.selects "SharedLog$Work" ({ cls := "SharedLog$Work", name := "copy", desc := "()LSharedLog$Work;" } : Jvm.MethodName) ({ cls := "SharedLog$Work", name := "copy", desc := "()LSharedLog$Work;" } : Jvm.MethodName)) ∈ WALL := List.mem_filter.mpr ⟨List.mem_append_right _ (List.mem_of_getElem? (i := 554) (by decide +kernel)), by decide +kernel⟩
theorem t_555 : (Jvm.Cond.code ({ cls := "SharedLog$Work", name := "copy", desc := "()LSharedLog$Work;" } : Jvm.MethodName) prog_7_method_6_code (3 : Nat) (Option.some (Jvm.ClassFile.FieldType.object "SharedLog$Work"))) ∈ WALL := List.mem_filter.mpr ⟨List.mem_append_right _ (List.mem_of_getElem? (i := 555) (by decide +kernel)), by decide +kernel⟩
theorem t_556 : (Jvm.Cond.classLink "SharedLog$Work" (10 : Nat) "SharedLog$Work") ∈ WALL := List.mem_filter.mpr ⟨List.mem_append_right _ (List.mem_of_getElem? (i := 556) (by decide +kernel)), by decide +kernel⟩
theorem t_557 : (Jvm.Cond.methodLink "SharedLog$Work" (25 : Nat) ({ cls := "SharedLog$Work", name := "<init>", desc := "()V" } : Jvm.MethodName)) ∈ WALL := List.mem_filter.mpr ⟨List.mem_append_right _ (List.mem_of_getElem? (i := 557) (by decide +kernel)), by decide +kernel⟩
theorem t_558 : (Jvm.Cond.methodLink "SharedLogLaw" (134 : Nat) ({ cls := "SharedLogLaw", name := "drop", desc := "(LSharedLog;I[J)I" } : Jvm.MethodName)) ∈ WALL := List.mem_filter.mpr ⟨List.mem_append_right _ (List.mem_of_getElem? (i := 558) (by decide +kernel)), by decide +kernel⟩
theorem t_559 : (Jvm.Cond.static ({ cls := "SharedLogLaw", name := "drop", desc := "(LSharedLog;I[J)I" } : Jvm.MethodName)) ∈ WALL := List.mem_filter.mpr ⟨List.mem_append_right _ (List.mem_of_getElem? (i := 559) (by decide +kernel)), by decide +kernel⟩
theorem t_561 : (Jvm.Cond.methodLink "SharedLogLaw" (64 : Nat) ({ cls := "SharedLog", name := "drop", desc := "(I)I" } : Jvm.MethodName)) ∈ WALL := List.mem_filter.mpr ⟨List.mem_append_right _ (List.mem_of_getElem? (i := 561) (by decide +kernel)), by decide +kernel⟩
theorem t_562 : (Jvm.Cond.instanceMethod ({ cls := "SharedLog", name := "drop", desc := "(I)I" } : Jvm.MethodName)) ∈ WALL := List.mem_filter.mpr ⟨List.mem_append_right _ (List.mem_of_getElem? (i := 562) (by decide +kernel)), by decide +kernel⟩
theorem t_563 : (Jvm.Cond.selects "SharedLog" ({ cls := "SharedLog", name := "drop", desc := "(I)I" } : Jvm.MethodName) ({ cls := "SharedLog", name := "drop", desc := "(I)I" } : Jvm.MethodName)) ∈ WALL := List.mem_filter.mpr ⟨List.mem_append_right _ (List.mem_of_getElem? (i := 563) (by decide +kernel)), by decide +kernel⟩
theorem t_564 : (Jvm.Cond.code ({ cls := "SharedLog", name := "drop", desc := "(I)I" } : Jvm.MethodName) prog_1_method_16_code (3 : Nat) (Option.some Jvm.ClassFile.FieldType.int)) ∈ WALL := List.mem_filter.mpr ⟨List.mem_append_right _ (List.mem_of_getElem? (i := 564) (by decide +kernel)), by decide +kernel⟩
theorem t_565 : (Jvm.Cond.methodLink "SharedLogLaw" (137 : Nat) ({ cls := "SharedLogLaw", name := "look", desc := "(LSharedLog;II[J)I" } : Jvm.MethodName)) ∈ WALL := List.mem_filter.mpr ⟨List.mem_append_right _ (List.mem_of_getElem? (i := 565) (by decide +kernel)), by decide +kernel⟩
theorem t_566 : (Jvm.Cond.static ({ cls := "SharedLogLaw", name := "look", desc := "(LSharedLog;II[J)I" } : Jvm.MethodName)) ∈ WALL := List.mem_filter.mpr ⟨List.mem_append_right _ (List.mem_of_getElem? (i := 566) (by decide +kernel)), by decide +kernel⟩
theorem t_568 : (Jvm.Cond.methodLink "SharedLogLaw" (67 : Nat) ({ cls := "SharedLog", name := "look", desc := "(II)I" } : Jvm.MethodName)) ∈ WALL := List.mem_filter.mpr ⟨List.mem_append_right _ (List.mem_of_getElem? (i := 568) (by decide +kernel)), by decide +kernel⟩
theorem t_569 : (Jvm.Cond.instanceMethod ({ cls := "SharedLog", name := "look", desc := "(II)I" } : Jvm.MethodName)) ∈ WALL := List.mem_filter.mpr ⟨List.mem_append_right _ (List.mem_of_getElem? (i := 569) (by decide +kernel)), by decide +kernel⟩
theorem t_570 : (Jvm.Cond.selects "SharedLog" ({ cls := "SharedLog", name := "look", desc := "(II)I" } : Jvm.MethodName) ({ cls := "SharedLog", name := "look", desc := "(II)I" } : Jvm.MethodName)) ∈ WALL := List.mem_filter.mpr ⟨List.mem_append_right _ (List.mem_of_getElem? (i := 570) (by decide +kernel)), by decide +kernel⟩
theorem t_571 : (Jvm.Cond.code ({ cls := "SharedLog", name := "look", desc := "(II)I" } : Jvm.MethodName) prog_1_method_17_code (3 : Nat) (Option.some Jvm.ClassFile.FieldType.int)) ∈ WALL := List.mem_filter.mpr ⟨List.mem_append_right _ (List.mem_of_getElem? (i := 571) (by decide +kernel)), by decide +kernel⟩
theorem t_572 : (Jvm.Cond.methodLink "SharedLogLaw" (140 : Nat) ({ cls := "SharedLogLaw", name := "client", desc := "(LSharedLog;II[J)I" } : Jvm.MethodName)) ∈ WALL := List.mem_filter.mpr ⟨List.mem_append_right _ (List.mem_of_getElem? (i := 572) (by decide +kernel)), by decide +kernel⟩
theorem t_573 : (Jvm.Cond.static ({ cls := "SharedLogLaw", name := "client", desc := "(LSharedLog;II[J)I" } : Jvm.MethodName)) ∈ WALL := List.mem_filter.mpr ⟨List.mem_append_right _ (List.mem_of_getElem? (i := 573) (by decide +kernel)), by decide +kernel⟩
theorem t_575 : (Jvm.Cond.methodLink "SharedLogLaw" (70 : Nat) ({ cls := "SharedLog", name := "client", desc := "(II)I" } : Jvm.MethodName)) ∈ WALL := List.mem_filter.mpr ⟨List.mem_append_right _ (List.mem_of_getElem? (i := 575) (by decide +kernel)), by decide +kernel⟩
theorem t_576 : (Jvm.Cond.instanceMethod ({ cls := "SharedLog", name := "client", desc := "(II)I" } : Jvm.MethodName)) ∈ WALL := List.mem_filter.mpr ⟨List.mem_append_right _ (List.mem_of_getElem? (i := 576) (by decide +kernel)), by decide +kernel⟩
theorem t_577 : (Jvm.Cond.selects "SharedLog" ({ cls := "SharedLog", name := "client", desc := "(II)I" } : Jvm.MethodName) ({ cls := "SharedLog", name := "client", desc := "(II)I" } : Jvm.MethodName)) ∈ WALL := List.mem_filter.mpr ⟨List.mem_append_right _ (List.mem_of_getElem? (i := 577) (by decide +kernel)), by decide +kernel⟩
theorem t_578 : (Jvm.Cond.code ({ cls := "SharedLog", name := "client", desc := "(II)I" } : Jvm.MethodName) prog_1_method_18_code (4 : Nat) (Option.some Jvm.ClassFile.FieldType.int)) ∈ WALL := List.mem_filter.mpr ⟨List.mem_append_right _ (List.mem_of_getElem? (i := 578) (by decide +kernel)), by decide +kernel⟩
theorem t_579 : (Jvm.Cond.methodLink "SharedLog" (219 : Nat) ({ cls := "SharedLog", name := "digitsOf", desc := "([I)I" } : Jvm.MethodName)) ∈ WALL := List.mem_filter.mpr ⟨List.mem_append_right _ (List.mem_of_getElem? (i := 579) (by decide +kernel)), by decide +kernel⟩
theorem t_580 : (Jvm.Cond.static ({ cls := "SharedLog", name := "digitsOf", desc := "([I)I" } : Jvm.MethodName)) ∈ WALL := List.mem_filter.mpr ⟨List.mem_append_right _ (List.mem_of_getElem? (i := 580) (by decide +kernel)), by decide +kernel⟩
theorem t_581 : (Jvm.Cond.code ({ cls := "SharedLog", name := "digitsOf", desc := "([I)I" } : Jvm.MethodName) prog_1_method_24_code (3 : Nat) (Option.some Jvm.ClassFile.FieldType.int)) ∈ WALL := List.mem_filter.mpr ⟨List.mem_append_right _ (List.mem_of_getElem? (i := 581) (by decide +kernel)), by decide +kernel⟩
theorem t_582 : (Jvm.Cond.methodLink "SharedLogLaw" (143 : Nat) ({ cls := "SharedLogLaw", name := "count", desc := "(LSharedLog;I[J)I" } : Jvm.MethodName)) ∈ WALL := List.mem_filter.mpr ⟨List.mem_append_right _ (List.mem_of_getElem? (i := 582) (by decide +kernel)), by decide +kernel⟩
theorem t_583 : (Jvm.Cond.static ({ cls := "SharedLogLaw", name := "count", desc := "(LSharedLog;I[J)I" } : Jvm.MethodName)) ∈ WALL := List.mem_filter.mpr ⟨List.mem_append_right _ (List.mem_of_getElem? (i := 583) (by decide +kernel)), by decide +kernel⟩
theorem t_585 : (Jvm.Cond.methodLink "SharedLogLaw" (73 : Nat) ({ cls := "SharedLog", name := "count", desc := "(I)I" } : Jvm.MethodName)) ∈ WALL := List.mem_filter.mpr ⟨List.mem_append_right _ (List.mem_of_getElem? (i := 585) (by decide +kernel)), by decide +kernel⟩
theorem t_586 : (Jvm.Cond.instanceMethod ({ cls := "SharedLog", name := "count", desc := "(I)I" } : Jvm.MethodName)) ∈ WALL := List.mem_filter.mpr ⟨List.mem_append_right _ (List.mem_of_getElem? (i := 586) (by decide +kernel)), by decide +kernel⟩
theorem t_587 : (Jvm.Cond.selects "SharedLog" ({ cls := "SharedLog", name := "count", desc := "(I)I" } : Jvm.MethodName) ({ cls := "SharedLog", name := "count", desc := "(I)I" } : Jvm.MethodName)) ∈ WALL := List.mem_filter.mpr ⟨List.mem_append_right _ (List.mem_of_getElem? (i := 587) (by decide +kernel)), by decide +kernel⟩
theorem t_588 : (Jvm.Cond.code ({ cls := "SharedLog", name := "count", desc := "(I)I" } : Jvm.MethodName) prog_1_method_19_code (2 : Nat) (Option.some Jvm.ClassFile.FieldType.int)) ∈ WALL := List.mem_filter.mpr ⟨List.mem_append_right _ (List.mem_of_getElem? (i := 588) (by decide +kernel)), by decide +kernel⟩
theorem t_589 : (Jvm.Cond.classLink "SharedLogLaw" (77 : Nat) "SharedLogModel") ∈ WALL := List.mem_filter.mpr ⟨List.mem_append_right _ (List.mem_of_getElem? (i := 589) (by decide +kernel)), by decide +kernel⟩
theorem t_590 : (Jvm.Cond.instantiable "SharedLogModel" (26 : Nat)) ∈ WALL := List.mem_filter.mpr ⟨List.mem_append_right _ (List.mem_of_getElem? (i := 590) (by decide +kernel)), by decide +kernel⟩
theorem t_591 : (Jvm.Cond.methodLink "SharedLogLaw" (79 : Nat) ({ cls := "SharedLogModel", name := "<init>", desc := "()V" } : Jvm.MethodName)) ∈ WALL := List.mem_filter.mpr ⟨List.mem_append_right _ (List.mem_of_getElem? (i := 591) (by decide +kernel)), by decide +kernel⟩
theorem t_592 : (Jvm.Cond.instanceMethod ({ cls := "SharedLogModel", name := "<init>", desc := "()V" } : Jvm.MethodName)) ∈ WALL := List.mem_filter.mpr ⟨List.mem_append_right _ (List.mem_of_getElem? (i := 592) (by decide +kernel)), by decide +kernel⟩
theorem t_593 : (Jvm.Cond.code ({ cls := "SharedLogModel", name := "<init>", desc := "()V" } : Jvm.MethodName) prog_9_method_1_code (2 : Nat) (Option.none : Option Jvm.ClassFile.FieldType)) ∈ WALL := List.mem_filter.mpr ⟨List.mem_append_right _ (List.mem_of_getElem? (i := 593) (by decide +kernel)), by decide +kernel⟩
theorem t_595 : (Jvm.Cond.methodLink "SharedLogModel" (78 : Nat) ({ cls := "SharedLogModel", name := "learnNow", desc := "(I)V" } : Jvm.MethodName)) ∈ WALL := List.mem_filter.mpr ⟨List.mem_append_right _ (List.mem_of_getElem? (i := 595) (by decide +kernel)), by decide +kernel⟩
theorem t_597 : (Jvm.Cond.instanceMethod ({ cls := "SharedLogModel", name := "learnNow", desc := "(I)V" } : Jvm.MethodName)) ∈ WALL := List.mem_filter.mpr ⟨List.mem_append_right _ (List.mem_of_getElem? (i := 597) (by decide +kernel)), by decide +kernel⟩
theorem t_598 : (Jvm.Cond.code ({ cls := "SharedLogModel", name := "learnNow", desc := "(I)V" } : Jvm.MethodName) prog_9_method_5_code (2 : Nat) (Option.none : Option Jvm.ClassFile.FieldType)) ∈ WALL := List.mem_filter.mpr ⟨List.mem_append_right _ (List.mem_of_getElem? (i := 598) (by decide +kernel)), by decide +kernel⟩
theorem t_599 : (Jvm.Cond.fieldLink "SharedLogModel" (82 : Nat) "SharedLogModel" "failed" "I") ∈ WALL := List.mem_filter.mpr ⟨List.mem_append_right _ (List.mem_of_getElem? (i := 599) (by decide +kernel)), by decide +kernel⟩
theorem t_600 : (Jvm.Cond.fieldLink "SharedLogModel" (7 : Nat) "SharedLogModel" "kind" "[I") ∈ WALL := List.mem_filter.mpr ⟨List.mem_append_right _ (List.mem_of_getElem? (i := 600) (by decide +kernel)), by decide +kernel⟩
theorem t_601 : (Jvm.Cond.fieldLink "SharedLogModel" (13 : Nat) "SharedLogModel" "register" "[I") ∈ WALL := List.mem_filter.mpr ⟨List.mem_append_right _ (List.mem_of_getElem? (i := 601) (by decide +kernel)), by decide +kernel⟩
theorem t_602 : (Jvm.Cond.fieldLink "SharedLogModel" (16 : Nat) "SharedLogModel" "value" "[I") ∈ WALL := List.mem_filter.mpr ⟨List.mem_append_right _ (List.mem_of_getElem? (i := 602) (by decide +kernel)), by decide +kernel⟩
theorem t_603 : (Jvm.Cond.fieldLink "SharedLogModel" (19 : Nat) "SharedLogModel" "reads" "[I") ∈ WALL := List.mem_filter.mpr ⟨List.mem_append_right _ (List.mem_of_getElem? (i := 603) (by decide +kernel)), by decide +kernel⟩
theorem t_604 : (Jvm.Cond.fieldLink "SharedLogModel" (22 : Nat) "SharedLogModel" "puts" "[I") ∈ WALL := List.mem_filter.mpr ⟨List.mem_append_right _ (List.mem_of_getElem? (i := 604) (by decide +kernel)), by decide +kernel⟩
theorem t_605 : (Jvm.Cond.fieldLink "SharedLogModel" (25 : Nat) "SharedLogModel" "readAge" "[I") ∈ WALL := List.mem_filter.mpr ⟨List.mem_append_right _ (List.mem_of_getElem? (i := 605) (by decide +kernel)), by decide +kernel⟩
theorem t_606 : (Jvm.Cond.fieldLink "SharedLogModel" (28 : Nat) "SharedLogModel" "putValue" "[I") ∈ WALL := List.mem_filter.mpr ⟨List.mem_append_right _ (List.mem_of_getElem? (i := 606) (by decide +kernel)), by decide +kernel⟩
theorem t_607 : (Jvm.Cond.fieldLink "SharedLogModel" (31 : Nat) "SharedLogModel" "down" "[Z") ∈ WALL := List.mem_filter.mpr ⟨List.mem_append_right _ (List.mem_of_getElem? (i := 607) (by decide +kernel)), by decide +kernel⟩
theorem t_608 : (Jvm.Cond.fieldLink "SharedLogModel" (35 : Nat) "SharedLogModel" "seal" "[I") ∈ WALL := List.mem_filter.mpr ⟨List.mem_append_right _ (List.mem_of_getElem? (i := 608) (by decide +kernel)), by decide +kernel⟩
theorem t_609 : (Jvm.Cond.fieldLink "SharedLogModel" (38 : Nat) "SharedLogModel" "epoch" "I") ∈ WALL := List.mem_filter.mpr ⟨List.mem_append_right _ (List.mem_of_getElem? (i := 609) (by decide +kernel)), by decide +kernel⟩
theorem t_610 : (Jvm.Cond.fieldLink "SharedLogModel" (42 : Nat) "SharedLogModel" "row" "[I") ∈ WALL := List.mem_filter.mpr ⟨List.mem_append_right _ (List.mem_of_getElem? (i := 610) (by decide +kernel)), by decide +kernel⟩
theorem t_611 : (Jvm.Cond.fieldLink "SharedLogModel" (45 : Nat) "SharedLogModel" "sequencer" "I") ∈ WALL := List.mem_filter.mpr ⟨List.mem_append_right _ (List.mem_of_getElem? (i := 611) (by decide +kernel)), by decide +kernel⟩
theorem t_612 : (Jvm.Cond.fieldLink "SharedLogModel" (107 : Nat) "SharedLogModel" "lost" "Z") ∈ WALL := List.mem_filter.mpr ⟨List.mem_append_right _ (List.mem_of_getElem? (i := 612) (by decide +kernel)), by decide +kernel⟩
theorem t_613 : (Jvm.Cond.fieldLink "SharedLogModel" (121 : Nat) "SharedLogModel" "next" "I") ∈ WALL := List.mem_filter.mpr ⟨List.mem_append_right _ (List.mem_of_getElem? (i := 613) (by decide +kernel)), by decide +kernel⟩
theorem t_614 : (Jvm.Cond.fieldLink "SharedLogModel" (48 : Nat) "SharedLogModel" "knows" "[I") ∈ WALL := List.mem_filter.mpr ⟨List.mem_append_right _ (List.mem_of_getElem? (i := 614) (by decide +kernel)), by decide +kernel⟩
theorem t_615 : (Jvm.Cond.fieldLink "SharedLogModel" (51 : Nat) "SharedLogModel" "knownRow" "[I") ∈ WALL := List.mem_filter.mpr ⟨List.mem_append_right _ (List.mem_of_getElem? (i := 615) (by decide +kernel)), by decide +kernel⟩
theorem t_616 : (Jvm.Cond.fieldLink "SharedLogModel" (54 : Nat) "SharedLogModel" "position" "[I") ∈ WALL := List.mem_filter.mpr ⟨List.mem_append_right _ (List.mem_of_getElem? (i := 616) (by decide +kernel)), by decide +kernel⟩
theorem t_617 : (Jvm.Cond.fieldLink "SharedLogModel" (57 : Nat) "SharedLogModel" "now" "[I") ∈ WALL := List.mem_filter.mpr ⟨List.mem_append_right _ (List.mem_of_getElem? (i := 617) (by decide +kernel)), by decide +kernel⟩
theorem t_618 : (Jvm.Cond.fieldLink "SharedLogModel" (60 : Nat) "SharedLogModel" "age" "[I") ∈ WALL := List.mem_filter.mpr ⟨List.mem_append_right _ (List.mem_of_getElem? (i := 618) (by decide +kernel)), by decide +kernel⟩
theorem t_619 : (Jvm.Cond.fieldLink "SharedLogModel" (63 : Nat) "SharedLogModel" "open" "[Z") ∈ WALL := List.mem_filter.mpr ⟨List.mem_append_right _ (List.mem_of_getElem? (i := 619) (by decide +kernel)), by decide +kernel⟩
theorem t_620 : (Jvm.Cond.fieldLink "SharedLogModel" (66 : Nat) "SharedLogModel" "seen" "[I") ∈ WALL := List.mem_filter.mpr ⟨List.mem_append_right _ (List.mem_of_getElem? (i := 620) (by decide +kernel)), by decide +kernel⟩
theorem t_621 : (Jvm.Cond.fieldLink "SharedLogModel" (69 : Nat) "SharedLogModel" "seenAge" "[I") ∈ WALL := List.mem_filter.mpr ⟨List.mem_append_right _ (List.mem_of_getElem? (i := 621) (by decide +kernel)), by decide +kernel⟩
theorem t_622 : (Jvm.Cond.fieldLink "SharedLogModel" (72 : Nat) "SharedLogModel" "given" "[I") ∈ WALL := List.mem_filter.mpr ⟨List.mem_append_right _ (List.mem_of_getElem? (i := 622) (by decide +kernel)), by decide +kernel⟩
theorem t_623 : (Jvm.Cond.fieldLink "SharedLogModel" (75 : Nat) "SharedLogModel" "givenValue" "[I") ∈ WALL := List.mem_filter.mpr ⟨List.mem_append_right _ (List.mem_of_getElem? (i := 623) (by decide +kernel)), by decide +kernel⟩
theorem t_624 : (Jvm.Cond.fieldLink "SharedLogModel" (151 : Nat) "SharedLogModel" "took" "Z") ∈ WALL := List.mem_filter.mpr ⟨List.mem_append_right _ (List.mem_of_getElem? (i := 624) (by decide +kernel)), by decide +kernel⟩
theorem t_678 : (Jvm.Cond.methodLink "SharedLogLaw" (86 : Nat) ({ cls := "SharedLogModel", name := "thrown", desc := "()I" } : Jvm.MethodName)) ∈ WALL := List.mem_filter.mpr ⟨List.mem_append_right _ (List.mem_of_getElem? (i := 678) (by decide +kernel)), by decide +kernel⟩
theorem t_679 : (Jvm.Cond.instanceMethod ({ cls := "SharedLogModel", name := "thrown", desc := "()I" } : Jvm.MethodName)) ∈ WALL := List.mem_filter.mpr ⟨List.mem_append_right _ (List.mem_of_getElem? (i := 679) (by decide +kernel)), by decide +kernel⟩
theorem t_680 : (Jvm.Cond.selects "SharedLogModel" ({ cls := "SharedLogModel", name := "thrown", desc := "()I" } : Jvm.MethodName) ({ cls := "SharedLogModel", name := "thrown", desc := "()I" } : Jvm.MethodName)) ∈ WALL := List.mem_filter.mpr ⟨List.mem_append_right _ (List.mem_of_getElem? (i := 680) (by decide +kernel)), by decide +kernel⟩
theorem t_681 : (Jvm.Cond.code ({ cls := "SharedLogModel", name := "thrown", desc := "()I" } : Jvm.MethodName) prog_9_method_2_code (1 : Nat) (Option.some Jvm.ClassFile.FieldType.int)) ∈ WALL := List.mem_filter.mpr ⟨List.mem_append_right _ (List.mem_of_getElem? (i := 681) (by decide +kernel)), by decide +kernel⟩
theorem t_682 : (Jvm.Cond.methodLink "SharedLogLaw" (85 : Nat) ({ cls := "SharedLogModel", name := "append", desc := "(IIII)I" } : Jvm.MethodName)) ∈ WALL := List.mem_filter.mpr ⟨List.mem_append_right _ (List.mem_of_getElem? (i := 682) (by decide +kernel)), by decide +kernel⟩
theorem t_683 : (Jvm.Cond.instanceMethod ({ cls := "SharedLogModel", name := "append", desc := "(IIII)I" } : Jvm.MethodName)) ∈ WALL := List.mem_filter.mpr ⟨List.mem_append_right _ (List.mem_of_getElem? (i := 683) (by decide +kernel)), by decide +kernel⟩
theorem t_684 : (Jvm.Cond.selects "SharedLogModel" ({ cls := "SharedLogModel", name := "append", desc := "(IIII)I" } : Jvm.MethodName) ({ cls := "SharedLogModel", name := "append", desc := "(IIII)I" } : Jvm.MethodName)) ∈ WALL := List.mem_filter.mpr ⟨List.mem_append_right _ (List.mem_of_getElem? (i := 684) (by decide +kernel)), by decide +kernel⟩
theorem t_685 : (Jvm.Cond.code ({ cls := "SharedLogModel", name := "append", desc := "(IIII)I" } : Jvm.MethodName) prog_9_method_15_code (7 : Nat) (Option.some Jvm.ClassFile.FieldType.int)) ∈ WALL := List.mem_filter.mpr ⟨List.mem_append_right _ (List.mem_of_getElem? (i := 685) (by decide +kernel)), by decide +kernel⟩
theorem t_686 : (Jvm.Cond.methodLink "SharedLogModel" (111 : Nat) ({ cls := "SharedLogModel", name := "out", desc := "(II)Z" } : Jvm.MethodName)) ∈ WALL := List.mem_filter.mpr ⟨List.mem_append_right _ (List.mem_of_getElem? (i := 686) (by decide +kernel)), by decide +kernel⟩
theorem t_688 : (Jvm.Cond.instanceMethod ({ cls := "SharedLogModel", name := "out", desc := "(II)Z" } : Jvm.MethodName)) ∈ WALL := List.mem_filter.mpr ⟨List.mem_append_right _ (List.mem_of_getElem? (i := 688) (by decide +kernel)), by decide +kernel⟩
theorem t_689 : (Jvm.Cond.code ({ cls := "SharedLogModel", name := "out", desc := "(II)Z" } : Jvm.MethodName) prog_9_method_4_code (3 : Nat) (Option.some Jvm.ClassFile.FieldType.boolean)) ∈ WALL := List.mem_filter.mpr ⟨List.mem_append_right _ (List.mem_of_getElem? (i := 689) (by decide +kernel)), by decide +kernel⟩
theorem t_690 : (Jvm.Cond.methodLink "SharedLogModel" (114 : Nat) ({ cls := "SharedLogModel", name := "fail", desc := "(I)I" } : Jvm.MethodName)) ∈ WALL := List.mem_filter.mpr ⟨List.mem_append_right _ (List.mem_of_getElem? (i := 690) (by decide +kernel)), by decide +kernel⟩
theorem t_692 : (Jvm.Cond.instanceMethod ({ cls := "SharedLogModel", name := "fail", desc := "(I)I" } : Jvm.MethodName)) ∈ WALL := List.mem_filter.mpr ⟨List.mem_append_right _ (List.mem_of_getElem? (i := 692) (by decide +kernel)), by decide +kernel⟩
theorem t_693 : (Jvm.Cond.code ({ cls := "SharedLogModel", name := "fail", desc := "(I)I" } : Jvm.MethodName) prog_9_method_3_code (2 : Nat) (Option.some Jvm.ClassFile.FieldType.int)) ∈ WALL := List.mem_filter.mpr ⟨List.mem_append_right _ (List.mem_of_getElem? (i := 693) (by decide +kernel)), by decide +kernel⟩
theorem t_694 : (Jvm.Cond.methodLink "SharedLogModel" (117 : Nat) ({ cls := "SharedLogModel", name := "noToken", desc := "(I)Z" } : Jvm.MethodName)) ∈ WALL := List.mem_filter.mpr ⟨List.mem_append_right _ (List.mem_of_getElem? (i := 694) (by decide +kernel)), by decide +kernel⟩
theorem t_696 : (Jvm.Cond.instanceMethod ({ cls := "SharedLogModel", name := "noToken", desc := "(I)Z" } : Jvm.MethodName)) ∈ WALL := List.mem_filter.mpr ⟨List.mem_append_right _ (List.mem_of_getElem? (i := 696) (by decide +kernel)), by decide +kernel⟩
theorem t_697 : (Jvm.Cond.code ({ cls := "SharedLogModel", name := "noToken", desc := "(I)Z" } : Jvm.MethodName) prog_9_method_14_code (2 : Nat) (Option.some Jvm.ClassFile.FieldType.boolean)) ∈ WALL := List.mem_filter.mpr ⟨List.mem_append_right _ (List.mem_of_getElem? (i := 697) (by decide +kernel)), by decide +kernel⟩
theorem t_698 : (Jvm.Cond.methodLink "SharedLogModel" (124 : Nat) ({ cls := "SharedLogModel", name := "write", desc := "(III)I" } : Jvm.MethodName)) ∈ WALL := List.mem_filter.mpr ⟨List.mem_append_right _ (List.mem_of_getElem? (i := 698) (by decide +kernel)), by decide +kernel⟩
theorem t_700 : (Jvm.Cond.instanceMethod ({ cls := "SharedLogModel", name := "write", desc := "(III)I" } : Jvm.MethodName)) ∈ WALL := List.mem_filter.mpr ⟨List.mem_append_right _ (List.mem_of_getElem? (i := 700) (by decide +kernel)), by decide +kernel⟩
theorem t_701 : (Jvm.Cond.code ({ cls := "SharedLogModel", name := "write", desc := "(III)I" } : Jvm.MethodName) prog_9_method_13_code (7 : Nat) (Option.some Jvm.ClassFile.FieldType.int)) ∈ WALL := List.mem_filter.mpr ⟨List.mem_append_right _ (List.mem_of_getElem? (i := 701) (by decide +kernel)), by decide +kernel⟩
theorem t_702 : (Jvm.Cond.methodLink "SharedLogModel" (89 : Nat) ({ cls := "SharedLogModel", name := "rowFor", desc := "(II)I" } : Jvm.MethodName)) ∈ WALL := List.mem_filter.mpr ⟨List.mem_append_right _ (List.mem_of_getElem? (i := 702) (by decide +kernel)), by decide +kernel⟩
theorem t_704 : (Jvm.Cond.instanceMethod ({ cls := "SharedLogModel", name := "rowFor", desc := "(II)I" } : Jvm.MethodName)) ∈ WALL := List.mem_filter.mpr ⟨List.mem_append_right _ (List.mem_of_getElem? (i := 704) (by decide +kernel)), by decide +kernel⟩
theorem t_705 : (Jvm.Cond.code ({ cls := "SharedLogModel", name := "rowFor", desc := "(II)I" } : Jvm.MethodName) prog_9_method_8_code (3 : Nat) (Option.some Jvm.ClassFile.FieldType.int)) ∈ WALL := List.mem_filter.mpr ⟨List.mem_append_right _ (List.mem_of_getElem? (i := 705) (by decide +kernel)), by decide +kernel⟩
theorem t_706 : (Jvm.Cond.methodLink "SharedLogModel" (85 : Nat) ({ cls := "SharedLogModel", name := "length", desc := "(I)I" } : Jvm.MethodName)) ∈ WALL := List.mem_filter.mpr ⟨List.mem_append_right _ (List.mem_of_getElem? (i := 706) (by decide +kernel)), by decide +kernel⟩
theorem t_708 : (Jvm.Cond.instanceMethod ({ cls := "SharedLogModel", name := "length", desc := "(I)I" } : Jvm.MethodName)) ∈ WALL := List.mem_filter.mpr ⟨List.mem_append_right _ (List.mem_of_getElem? (i := 708) (by decide +kernel)), by decide +kernel⟩
theorem t_709 : (Jvm.Cond.code ({ cls := "SharedLogModel", name := "length", desc := "(I)I" } : Jvm.MethodName) prog_9_method_6_code (2 : Nat) (Option.some Jvm.ClassFile.FieldType.int)) ∈ WALL := List.mem_filter.mpr ⟨List.mem_append_right _ (List.mem_of_getElem? (i := 709) (by decide +kernel)), by decide +kernel⟩
theorem t_710 : (Jvm.Cond.methodLink "SharedLogModel" (93 : Nat) ({ cls := "SharedLogModel", name := "unit", desc := "(II)I" } : Jvm.MethodName)) ∈ WALL := List.mem_filter.mpr ⟨List.mem_append_right _ (List.mem_of_getElem? (i := 710) (by decide +kernel)), by decide +kernel⟩
theorem t_712 : (Jvm.Cond.instanceMethod ({ cls := "SharedLogModel", name := "unit", desc := "(II)I" } : Jvm.MethodName)) ∈ WALL := List.mem_filter.mpr ⟨List.mem_append_right _ (List.mem_of_getElem? (i := 712) (by decide +kernel)), by decide +kernel⟩
theorem t_713 : (Jvm.Cond.code ({ cls := "SharedLogModel", name := "unit", desc := "(II)I" } : Jvm.MethodName) prog_9_method_7_code (5 : Nat) (Option.some Jvm.ClassFile.FieldType.int)) ∈ WALL := List.mem_filter.mpr ⟨List.mem_append_right _ (List.mem_of_getElem? (i := 713) (by decide +kernel)), by decide +kernel⟩
theorem t_714 : (Jvm.Cond.methodLink "SharedLogModel" (96 : Nat) ({ cls := "SharedLogModel", name := "usable", desc := "(II)Z" } : Jvm.MethodName)) ∈ WALL := List.mem_filter.mpr ⟨List.mem_append_right _ (List.mem_of_getElem? (i := 714) (by decide +kernel)), by decide +kernel⟩
theorem t_716 : (Jvm.Cond.instanceMethod ({ cls := "SharedLogModel", name := "usable", desc := "(II)Z" } : Jvm.MethodName)) ∈ WALL := List.mem_filter.mpr ⟨List.mem_append_right _ (List.mem_of_getElem? (i := 716) (by decide +kernel)), by decide +kernel⟩
theorem t_717 : (Jvm.Cond.code ({ cls := "SharedLogModel", name := "usable", desc := "(II)Z" } : Jvm.MethodName) prog_9_method_9_code (3 : Nat) (Option.some Jvm.ClassFile.FieldType.boolean)) ∈ WALL := List.mem_filter.mpr ⟨List.mem_append_right _ (List.mem_of_getElem? (i := 717) (by decide +kernel)), by decide +kernel⟩
theorem t_718 : (Jvm.Cond.methodLink "SharedLogModel" (100 : Nat) ({ cls := "SharedLogModel", name := "cell", desc := "(II)I" } : Jvm.MethodName)) ∈ WALL := List.mem_filter.mpr ⟨List.mem_append_right _ (List.mem_of_getElem? (i := 718) (by decide +kernel)), by decide +kernel⟩
theorem t_720 : (Jvm.Cond.instanceMethod ({ cls := "SharedLogModel", name := "cell", desc := "(II)I" } : Jvm.MethodName)) ∈ WALL := List.mem_filter.mpr ⟨List.mem_append_right _ (List.mem_of_getElem? (i := 720) (by decide +kernel)), by decide +kernel⟩
theorem t_721 : (Jvm.Cond.code ({ cls := "SharedLogModel", name := "cell", desc := "(II)I" } : Jvm.MethodName) prog_9_method_10_code (3 : Nat) (Option.some Jvm.ClassFile.FieldType.int)) ∈ WALL := List.mem_filter.mpr ⟨List.mem_append_right _ (List.mem_of_getElem? (i := 721) (by decide +kernel)), by decide +kernel⟩
theorem t_722 : (Jvm.Cond.methodLink "SharedLogModel" (103 : Nat) ({ cls := "SharedLogModel", name := "copy", desc := "(II)V" } : Jvm.MethodName)) ∈ WALL := List.mem_filter.mpr ⟨List.mem_append_right _ (List.mem_of_getElem? (i := 722) (by decide +kernel)), by decide +kernel⟩
theorem t_724 : (Jvm.Cond.instanceMethod ({ cls := "SharedLogModel", name := "copy", desc := "(II)V" } : Jvm.MethodName)) ∈ WALL := List.mem_filter.mpr ⟨List.mem_append_right _ (List.mem_of_getElem? (i := 724) (by decide +kernel)), by decide +kernel⟩
theorem t_725 : (Jvm.Cond.code ({ cls := "SharedLogModel", name := "copy", desc := "(II)V" } : Jvm.MethodName) prog_9_method_11_code (4 : Nat) (Option.none : Option Jvm.ClassFile.FieldType)) ∈ WALL := List.mem_filter.mpr ⟨List.mem_append_right _ (List.mem_of_getElem? (i := 725) (by decide +kernel)), by decide +kernel⟩
theorem t_726 : (Jvm.Cond.methodLink "SharedLogLaw" (93 : Nat) ({ cls := "SharedLogModel", name := "read", desc := "(II)I" } : Jvm.MethodName)) ∈ WALL := List.mem_filter.mpr ⟨List.mem_append_right _ (List.mem_of_getElem? (i := 726) (by decide +kernel)), by decide +kernel⟩
theorem t_727 : (Jvm.Cond.instanceMethod ({ cls := "SharedLogModel", name := "read", desc := "(II)I" } : Jvm.MethodName)) ∈ WALL := List.mem_filter.mpr ⟨List.mem_append_right _ (List.mem_of_getElem? (i := 727) (by decide +kernel)), by decide +kernel⟩
theorem t_728 : (Jvm.Cond.selects "SharedLogModel" ({ cls := "SharedLogModel", name := "read", desc := "(II)I" } : Jvm.MethodName) ({ cls := "SharedLogModel", name := "read", desc := "(II)I" } : Jvm.MethodName)) ∈ WALL := List.mem_filter.mpr ⟨List.mem_append_right _ (List.mem_of_getElem? (i := 728) (by decide +kernel)), by decide +kernel⟩
theorem t_729 : (Jvm.Cond.code ({ cls := "SharedLogModel", name := "read", desc := "(II)I" } : Jvm.MethodName) prog_9_method_17_code (4 : Nat) (Option.some Jvm.ClassFile.FieldType.int)) ∈ WALL := List.mem_filter.mpr ⟨List.mem_append_right _ (List.mem_of_getElem? (i := 729) (by decide +kernel)), by decide +kernel⟩
theorem t_730 : (Jvm.Cond.methodLink "SharedLogModel" (128 : Nat) ({ cls := "SharedLogModel", name := "lastCell", desc := "(II)I" } : Jvm.MethodName)) ∈ WALL := List.mem_filter.mpr ⟨List.mem_append_right _ (List.mem_of_getElem? (i := 730) (by decide +kernel)), by decide +kernel⟩
theorem t_732 : (Jvm.Cond.instanceMethod ({ cls := "SharedLogModel", name := "lastCell", desc := "(II)I" } : Jvm.MethodName)) ∈ WALL := List.mem_filter.mpr ⟨List.mem_append_right _ (List.mem_of_getElem? (i := 732) (by decide +kernel)), by decide +kernel⟩
theorem t_733 : (Jvm.Cond.code ({ cls := "SharedLogModel", name := "lastCell", desc := "(II)I" } : Jvm.MethodName) prog_9_method_16_code (5 : Nat) (Option.some Jvm.ClassFile.FieldType.int)) ∈ WALL := List.mem_filter.mpr ⟨List.mem_append_right _ (List.mem_of_getElem? (i := 733) (by decide +kernel)), by decide +kernel⟩
theorem t_734 : (Jvm.Cond.methodLink "SharedLogModel" (131 : Nat) ({ cls := "SharedLogModel", name := "ones", desc := "(I)I" } : Jvm.MethodName)) ∈ WALL := List.mem_filter.mpr ⟨List.mem_append_right _ (List.mem_of_getElem? (i := 734) (by decide +kernel)), by decide +kernel⟩
theorem t_736 : (Jvm.Cond.instanceMethod ({ cls := "SharedLogModel", name := "ones", desc := "(I)I" } : Jvm.MethodName)) ∈ WALL := List.mem_filter.mpr ⟨List.mem_append_right _ (List.mem_of_getElem? (i := 736) (by decide +kernel)), by decide +kernel⟩
theorem t_737 : (Jvm.Cond.code ({ cls := "SharedLogModel", name := "ones", desc := "(I)I" } : Jvm.MethodName) prog_9_method_12_code (4 : Nat) (Option.some Jvm.ClassFile.FieldType.int)) ∈ WALL := List.mem_filter.mpr ⟨List.mem_append_right _ (List.mem_of_getElem? (i := 737) (by decide +kernel)), by decide +kernel⟩
theorem t_738 : (Jvm.Cond.methodLink "SharedLogLaw" (96 : Nat) ({ cls := "SharedLogModel", name := "fill", desc := "(II)I" } : Jvm.MethodName)) ∈ WALL := List.mem_filter.mpr ⟨List.mem_append_right _ (List.mem_of_getElem? (i := 738) (by decide +kernel)), by decide +kernel⟩
theorem t_739 : (Jvm.Cond.instanceMethod ({ cls := "SharedLogModel", name := "fill", desc := "(II)I" } : Jvm.MethodName)) ∈ WALL := List.mem_filter.mpr ⟨List.mem_append_right _ (List.mem_of_getElem? (i := 739) (by decide +kernel)), by decide +kernel⟩
theorem t_740 : (Jvm.Cond.selects "SharedLogModel" ({ cls := "SharedLogModel", name := "fill", desc := "(II)I" } : Jvm.MethodName) ({ cls := "SharedLogModel", name := "fill", desc := "(II)I" } : Jvm.MethodName)) ∈ WALL := List.mem_filter.mpr ⟨List.mem_append_right _ (List.mem_of_getElem? (i := 740) (by decide +kernel)), by decide +kernel⟩
theorem t_741 : (Jvm.Cond.code ({ cls := "SharedLogModel", name := "fill", desc := "(II)I" } : Jvm.MethodName) prog_9_method_18_code (7 : Nat) (Option.some Jvm.ClassFile.FieldType.int)) ∈ WALL := List.mem_filter.mpr ⟨List.mem_append_right _ (List.mem_of_getElem? (i := 741) (by decide +kernel)), by decide +kernel⟩
theorem t_742 : (Jvm.Cond.methodLink "SharedLogLaw" (99 : Nat) ({ cls := "SharedLogModel", name := "trim", desc := "(II)I" } : Jvm.MethodName)) ∈ WALL := List.mem_filter.mpr ⟨List.mem_append_right _ (List.mem_of_getElem? (i := 742) (by decide +kernel)), by decide +kernel⟩
theorem t_743 : (Jvm.Cond.instanceMethod ({ cls := "SharedLogModel", name := "trim", desc := "(II)I" } : Jvm.MethodName)) ∈ WALL := List.mem_filter.mpr ⟨List.mem_append_right _ (List.mem_of_getElem? (i := 743) (by decide +kernel)), by decide +kernel⟩
theorem t_744 : (Jvm.Cond.selects "SharedLogModel" ({ cls := "SharedLogModel", name := "trim", desc := "(II)I" } : Jvm.MethodName) ({ cls := "SharedLogModel", name := "trim", desc := "(II)I" } : Jvm.MethodName)) ∈ WALL := List.mem_filter.mpr ⟨List.mem_append_right _ (List.mem_of_getElem? (i := 744) (by decide +kernel)), by decide +kernel⟩
theorem t_745 : (Jvm.Cond.code ({ cls := "SharedLogModel", name := "trim", desc := "(II)I" } : Jvm.MethodName) prog_9_method_19_code (8 : Nat) (Option.some Jvm.ClassFile.FieldType.int)) ∈ WALL := List.mem_filter.mpr ⟨List.mem_append_right _ (List.mem_of_getElem? (i := 745) (by decide +kernel)), by decide +kernel⟩
theorem t_746 : (Jvm.Cond.methodLink "SharedLogLaw" (103 : Nat) ({ cls := "SharedLogModel", name := "learn", desc := "(I)I" } : Jvm.MethodName)) ∈ WALL := List.mem_filter.mpr ⟨List.mem_append_right _ (List.mem_of_getElem? (i := 746) (by decide +kernel)), by decide +kernel⟩
theorem t_747 : (Jvm.Cond.instanceMethod ({ cls := "SharedLogModel", name := "learn", desc := "(I)I" } : Jvm.MethodName)) ∈ WALL := List.mem_filter.mpr ⟨List.mem_append_right _ (List.mem_of_getElem? (i := 747) (by decide +kernel)), by decide +kernel⟩
theorem t_748 : (Jvm.Cond.selects "SharedLogModel" ({ cls := "SharedLogModel", name := "learn", desc := "(I)I" } : Jvm.MethodName) ({ cls := "SharedLogModel", name := "learn", desc := "(I)I" } : Jvm.MethodName)) ∈ WALL := List.mem_filter.mpr ⟨List.mem_append_right _ (List.mem_of_getElem? (i := 748) (by decide +kernel)), by decide +kernel⟩
theorem t_749 : (Jvm.Cond.code ({ cls := "SharedLogModel", name := "learn", desc := "(I)I" } : Jvm.MethodName) prog_9_method_20_code (2 : Nat) (Option.some Jvm.ClassFile.FieldType.int)) ∈ WALL := List.mem_filter.mpr ⟨List.mem_append_right _ (List.mem_of_getElem? (i := 749) (by decide +kernel)), by decide +kernel⟩
theorem t_750 : (Jvm.Cond.methodLink "SharedLogLaw" (107 : Nat) ({ cls := "SharedLogModel", name := "change", desc := "(III)I" } : Jvm.MethodName)) ∈ WALL := List.mem_filter.mpr ⟨List.mem_append_right _ (List.mem_of_getElem? (i := 750) (by decide +kernel)), by decide +kernel⟩
theorem t_751 : (Jvm.Cond.instanceMethod ({ cls := "SharedLogModel", name := "change", desc := "(III)I" } : Jvm.MethodName)) ∈ WALL := List.mem_filter.mpr ⟨List.mem_append_right _ (List.mem_of_getElem? (i := 751) (by decide +kernel)), by decide +kernel⟩
theorem t_752 : (Jvm.Cond.selects "SharedLogModel" ({ cls := "SharedLogModel", name := "change", desc := "(III)I" } : Jvm.MethodName) ({ cls := "SharedLogModel", name := "change", desc := "(III)I" } : Jvm.MethodName)) ∈ WALL := List.mem_filter.mpr ⟨List.mem_append_right _ (List.mem_of_getElem? (i := 752) (by decide +kernel)), by decide +kernel⟩
theorem t_753 : (Jvm.Cond.code ({ cls := "SharedLogModel", name := "change", desc := "(III)I" } : Jvm.MethodName) prog_9_method_25_code (7 : Nat) (Option.some Jvm.ClassFile.FieldType.int)) ∈ WALL := List.mem_filter.mpr ⟨List.mem_append_right _ (List.mem_of_getElem? (i := 753) (by decide +kernel)), by decide +kernel⟩
theorem t_754 : (Jvm.Cond.methodLink "SharedLogModel" (134 : Nat) ({ cls := "SharedLogModel", name := "badRow", desc := "(I)Z" } : Jvm.MethodName)) ∈ WALL := List.mem_filter.mpr ⟨List.mem_append_right _ (List.mem_of_getElem? (i := 754) (by decide +kernel)), by decide +kernel⟩
theorem t_756 : (Jvm.Cond.instanceMethod ({ cls := "SharedLogModel", name := "badRow", desc := "(I)Z" } : Jvm.MethodName)) ∈ WALL := List.mem_filter.mpr ⟨List.mem_append_right _ (List.mem_of_getElem? (i := 756) (by decide +kernel)), by decide +kernel⟩
theorem t_757 : (Jvm.Cond.code ({ cls := "SharedLogModel", name := "badRow", desc := "(I)Z" } : Jvm.MethodName) prog_9_method_21_code (5 : Nat) (Option.some Jvm.ClassFile.FieldType.boolean)) ∈ WALL := List.mem_filter.mpr ⟨List.mem_append_right _ (List.mem_of_getElem? (i := 757) (by decide +kernel)), by decide +kernel⟩
theorem t_758 : (Jvm.Cond.methodLink "SharedLogModel" (137 : Nat) ({ cls := "SharedLogModel", name := "upUnits", desc := "(I)I" } : Jvm.MethodName)) ∈ WALL := List.mem_filter.mpr ⟨List.mem_append_right _ (List.mem_of_getElem? (i := 758) (by decide +kernel)), by decide +kernel⟩
theorem t_760 : (Jvm.Cond.instanceMethod ({ cls := "SharedLogModel", name := "upUnits", desc := "(I)I" } : Jvm.MethodName)) ∈ WALL := List.mem_filter.mpr ⟨List.mem_append_right _ (List.mem_of_getElem? (i := 760) (by decide +kernel)), by decide +kernel⟩
theorem t_761 : (Jvm.Cond.code ({ cls := "SharedLogModel", name := "upUnits", desc := "(I)I" } : Jvm.MethodName) prog_9_method_22_code (4 : Nat) (Option.some Jvm.ClassFile.FieldType.int)) ∈ WALL := List.mem_filter.mpr ⟨List.mem_append_right _ (List.mem_of_getElem? (i := 761) (by decide +kernel)), by decide +kernel⟩
theorem t_762 : (Jvm.Cond.methodLink "SharedLogModel" (140 : Nat) ({ cls := "SharedLogModel", name := "sealRow", desc := "(I)V" } : Jvm.MethodName)) ∈ WALL := List.mem_filter.mpr ⟨List.mem_append_right _ (List.mem_of_getElem? (i := 762) (by decide +kernel)), by decide +kernel⟩
theorem t_764 : (Jvm.Cond.instanceMethod ({ cls := "SharedLogModel", name := "sealRow", desc := "(I)V" } : Jvm.MethodName)) ∈ WALL := List.mem_filter.mpr ⟨List.mem_append_right _ (List.mem_of_getElem? (i := 764) (by decide +kernel)), by decide +kernel⟩
theorem t_765 : (Jvm.Cond.code ({ cls := "SharedLogModel", name := "sealRow", desc := "(I)V" } : Jvm.MethodName) prog_9_method_23_code (3 : Nat) (Option.none : Option Jvm.ClassFile.FieldType)) ∈ WALL := List.mem_filter.mpr ⟨List.mem_append_right _ (List.mem_of_getElem? (i := 765) (by decide +kernel)), by decide +kernel⟩
theorem t_766 : (Jvm.Cond.methodLink "SharedLogModel" (143 : Nat) ({ cls := "SharedLogModel", name := "merge", desc := "(III)V" } : Jvm.MethodName)) ∈ WALL := List.mem_filter.mpr ⟨List.mem_append_right _ (List.mem_of_getElem? (i := 766) (by decide +kernel)), by decide +kernel⟩
theorem t_768 : (Jvm.Cond.instanceMethod ({ cls := "SharedLogModel", name := "merge", desc := "(III)V" } : Jvm.MethodName)) ∈ WALL := List.mem_filter.mpr ⟨List.mem_append_right _ (List.mem_of_getElem? (i := 768) (by decide +kernel)), by decide +kernel⟩
theorem t_769 : (Jvm.Cond.code ({ cls := "SharedLogModel", name := "merge", desc := "(III)V" } : Jvm.MethodName) prog_9_method_24_code (6 : Nat) (Option.none : Option Jvm.ClassFile.FieldType)) ∈ WALL := List.mem_filter.mpr ⟨List.mem_append_right _ (List.mem_of_getElem? (i := 769) (by decide +kernel)), by decide +kernel⟩
theorem t_770 : (Jvm.Cond.methodLink "SharedLogLaw" (111 : Nat) ({ cls := "SharedLogModel", name := "up", desc := "(IZ)I" } : Jvm.MethodName)) ∈ WALL := List.mem_filter.mpr ⟨List.mem_append_right _ (List.mem_of_getElem? (i := 770) (by decide +kernel)), by decide +kernel⟩
theorem t_771 : (Jvm.Cond.instanceMethod ({ cls := "SharedLogModel", name := "up", desc := "(IZ)I" } : Jvm.MethodName)) ∈ WALL := List.mem_filter.mpr ⟨List.mem_append_right _ (List.mem_of_getElem? (i := 771) (by decide +kernel)), by decide +kernel⟩
theorem t_772 : (Jvm.Cond.selects "SharedLogModel" ({ cls := "SharedLogModel", name := "up", desc := "(IZ)I" } : Jvm.MethodName) ({ cls := "SharedLogModel", name := "up", desc := "(IZ)I" } : Jvm.MethodName)) ∈ WALL := List.mem_filter.mpr ⟨List.mem_append_right _ (List.mem_of_getElem? (i := 772) (by decide +kernel)), by decide +kernel⟩
theorem t_773 : (Jvm.Cond.code ({ cls := "SharedLogModel", name := "up", desc := "(IZ)I" } : Jvm.MethodName) prog_9_method_26_code (3 : Nat) (Option.some Jvm.ClassFile.FieldType.int)) ∈ WALL := List.mem_filter.mpr ⟨List.mem_append_right _ (List.mem_of_getElem? (i := 773) (by decide +kernel)), by decide +kernel⟩
theorem t_774 : (Jvm.Cond.methodLink "SharedLogLaw" (115 : Nat) ({ cls := "SharedLogModel", name := "lose", desc := "()I" } : Jvm.MethodName)) ∈ WALL := List.mem_filter.mpr ⟨List.mem_append_right _ (List.mem_of_getElem? (i := 774) (by decide +kernel)), by decide +kernel⟩
theorem t_775 : (Jvm.Cond.instanceMethod ({ cls := "SharedLogModel", name := "lose", desc := "()I" } : Jvm.MethodName)) ∈ WALL := List.mem_filter.mpr ⟨List.mem_append_right _ (List.mem_of_getElem? (i := 775) (by decide +kernel)), by decide +kernel⟩
theorem t_776 : (Jvm.Cond.selects "SharedLogModel" ({ cls := "SharedLogModel", name := "lose", desc := "()I" } : Jvm.MethodName) ({ cls := "SharedLogModel", name := "lose", desc := "()I" } : Jvm.MethodName)) ∈ WALL := List.mem_filter.mpr ⟨List.mem_append_right _ (List.mem_of_getElem? (i := 776) (by decide +kernel)), by decide +kernel⟩
theorem t_777 : (Jvm.Cond.code ({ cls := "SharedLogModel", name := "lose", desc := "()I" } : Jvm.MethodName) prog_9_method_27_code (1 : Nat) (Option.some Jvm.ClassFile.FieldType.int)) ∈ WALL := List.mem_filter.mpr ⟨List.mem_append_right _ (List.mem_of_getElem? (i := 777) (by decide +kernel)), by decide +kernel⟩
theorem t_778 : (Jvm.Cond.methodLink "SharedLogLaw" (118 : Nat) ({ cls := "SharedLogModel", name := "sync", desc := "(I)I" } : Jvm.MethodName)) ∈ WALL := List.mem_filter.mpr ⟨List.mem_append_right _ (List.mem_of_getElem? (i := 778) (by decide +kernel)), by decide +kernel⟩
theorem t_779 : (Jvm.Cond.instanceMethod ({ cls := "SharedLogModel", name := "sync", desc := "(I)I" } : Jvm.MethodName)) ∈ WALL := List.mem_filter.mpr ⟨List.mem_append_right _ (List.mem_of_getElem? (i := 779) (by decide +kernel)), by decide +kernel⟩
theorem t_780 : (Jvm.Cond.selects "SharedLogModel" ({ cls := "SharedLogModel", name := "sync", desc := "(I)I" } : Jvm.MethodName) ({ cls := "SharedLogModel", name := "sync", desc := "(I)I" } : Jvm.MethodName)) ∈ WALL := List.mem_filter.mpr ⟨List.mem_append_right _ (List.mem_of_getElem? (i := 780) (by decide +kernel)), by decide +kernel⟩
theorem t_781 : (Jvm.Cond.code ({ cls := "SharedLogModel", name := "sync", desc := "(I)I" } : Jvm.MethodName) prog_9_method_31_code (3 : Nat) (Option.some Jvm.ClassFile.FieldType.int)) ∈ WALL := List.mem_filter.mpr ⟨List.mem_append_right _ (List.mem_of_getElem? (i := 781) (by decide +kernel)), by decide +kernel⟩
theorem t_782 : (Jvm.Cond.methodLink "SharedLogModel" (157 : Nat) ({ cls := "SharedLogModel", name := "play", desc := "(II)I" } : Jvm.MethodName)) ∈ WALL := List.mem_filter.mpr ⟨List.mem_append_right _ (List.mem_of_getElem? (i := 782) (by decide +kernel)), by decide +kernel⟩
theorem t_784 : (Jvm.Cond.instanceMethod ({ cls := "SharedLogModel", name := "play", desc := "(II)I" } : Jvm.MethodName)) ∈ WALL := List.mem_filter.mpr ⟨List.mem_append_right _ (List.mem_of_getElem? (i := 784) (by decide +kernel)), by decide +kernel⟩
theorem t_785 : (Jvm.Cond.code ({ cls := "SharedLogModel", name := "play", desc := "(II)I" } : Jvm.MethodName) prog_9_method_30_code (5 : Nat) (Option.some Jvm.ClassFile.FieldType.int)) ∈ WALL := List.mem_filter.mpr ⟨List.mem_append_right _ (List.mem_of_getElem? (i := 785) (by decide +kernel)), by decide +kernel⟩
theorem t_786 : (Jvm.Cond.methodLink "SharedLogModel" (147 : Nat) ({ cls := "SharedLogModel", name := "sameAges", desc := "(II[II)Z" } : Jvm.MethodName)) ∈ WALL := List.mem_filter.mpr ⟨List.mem_append_right _ (List.mem_of_getElem? (i := 786) (by decide +kernel)), by decide +kernel⟩
theorem t_788 : (Jvm.Cond.instanceMethod ({ cls := "SharedLogModel", name := "sameAges", desc := "(II[II)Z" } : Jvm.MethodName)) ∈ WALL := List.mem_filter.mpr ⟨List.mem_append_right _ (List.mem_of_getElem? (i := 788) (by decide +kernel)), by decide +kernel⟩
theorem t_789 : (Jvm.Cond.code ({ cls := "SharedLogModel", name := "sameAges", desc := "(II[II)Z" } : Jvm.MethodName) prog_9_method_28_code (7 : Nat) (Option.some Jvm.ClassFile.FieldType.boolean)) ∈ WALL := List.mem_filter.mpr ⟨List.mem_append_right _ (List.mem_of_getElem? (i := 789) (by decide +kernel)), by decide +kernel⟩
theorem t_790 : (Jvm.Cond.methodLink "SharedLogModel" (154 : Nat) ({ cls := "SharedLogModel", name := "place", desc := "(III)V" } : Jvm.MethodName)) ∈ WALL := List.mem_filter.mpr ⟨List.mem_append_right _ (List.mem_of_getElem? (i := 790) (by decide +kernel)), by decide +kernel⟩
theorem t_792 : (Jvm.Cond.instanceMethod ({ cls := "SharedLogModel", name := "place", desc := "(III)V" } : Jvm.MethodName)) ∈ WALL := List.mem_filter.mpr ⟨List.mem_append_right _ (List.mem_of_getElem? (i := 792) (by decide +kernel)), by decide +kernel⟩
theorem t_793 : (Jvm.Cond.code ({ cls := "SharedLogModel", name := "place", desc := "(III)V" } : Jvm.MethodName) prog_9_method_29_code (4 : Nat) (Option.none : Option Jvm.ClassFile.FieldType)) ∈ WALL := List.mem_filter.mpr ⟨List.mem_append_right _ (List.mem_of_getElem? (i := 793) (by decide +kernel)), by decide +kernel⟩
theorem t_794 : (Jvm.Cond.methodLink "SharedLogLaw" (121 : Nat) ({ cls := "SharedLogModel", name := "get", desc := "(II)I" } : Jvm.MethodName)) ∈ WALL := List.mem_filter.mpr ⟨List.mem_append_right _ (List.mem_of_getElem? (i := 794) (by decide +kernel)), by decide +kernel⟩
theorem t_795 : (Jvm.Cond.instanceMethod ({ cls := "SharedLogModel", name := "get", desc := "(II)I" } : Jvm.MethodName)) ∈ WALL := List.mem_filter.mpr ⟨List.mem_append_right _ (List.mem_of_getElem? (i := 795) (by decide +kernel)), by decide +kernel⟩
theorem t_796 : (Jvm.Cond.selects "SharedLogModel" ({ cls := "SharedLogModel", name := "get", desc := "(II)I" } : Jvm.MethodName) ({ cls := "SharedLogModel", name := "get", desc := "(II)I" } : Jvm.MethodName)) ∈ WALL := List.mem_filter.mpr ⟨List.mem_append_right _ (List.mem_of_getElem? (i := 796) (by decide +kernel)), by decide +kernel⟩
theorem t_797 : (Jvm.Cond.code ({ cls := "SharedLogModel", name := "get", desc := "(II)I" } : Jvm.MethodName) prog_9_method_32_code (3 : Nat) (Option.some Jvm.ClassFile.FieldType.int)) ∈ WALL := List.mem_filter.mpr ⟨List.mem_append_right _ (List.mem_of_getElem? (i := 797) (by decide +kernel)), by decide +kernel⟩
theorem t_798 : (Jvm.Cond.methodLink "SharedLogLaw" (124 : Nat) ({ cls := "SharedLogModel", name := "begin", desc := "(I)I" } : Jvm.MethodName)) ∈ WALL := List.mem_filter.mpr ⟨List.mem_append_right _ (List.mem_of_getElem? (i := 798) (by decide +kernel)), by decide +kernel⟩
theorem t_799 : (Jvm.Cond.instanceMethod ({ cls := "SharedLogModel", name := "begin", desc := "(I)I" } : Jvm.MethodName)) ∈ WALL := List.mem_filter.mpr ⟨List.mem_append_right _ (List.mem_of_getElem? (i := 799) (by decide +kernel)), by decide +kernel⟩
theorem t_800 : (Jvm.Cond.selects "SharedLogModel" ({ cls := "SharedLogModel", name := "begin", desc := "(I)I" } : Jvm.MethodName) ({ cls := "SharedLogModel", name := "begin", desc := "(I)I" } : Jvm.MethodName)) ∈ WALL := List.mem_filter.mpr ⟨List.mem_append_right _ (List.mem_of_getElem? (i := 800) (by decide +kernel)), by decide +kernel⟩
theorem t_801 : (Jvm.Cond.code ({ cls := "SharedLogModel", name := "begin", desc := "(I)I" } : Jvm.MethodName) prog_9_method_33_code (2 : Nat) (Option.some Jvm.ClassFile.FieldType.int)) ∈ WALL := List.mem_filter.mpr ⟨List.mem_append_right _ (List.mem_of_getElem? (i := 801) (by decide +kernel)), by decide +kernel⟩
theorem t_802 : (Jvm.Cond.methodLink "SharedLogLaw" (127 : Nat) ({ cls := "SharedLogModel", name := "see", desc := "(II)I" } : Jvm.MethodName)) ∈ WALL := List.mem_filter.mpr ⟨List.mem_append_right _ (List.mem_of_getElem? (i := 802) (by decide +kernel)), by decide +kernel⟩
theorem t_803 : (Jvm.Cond.instanceMethod ({ cls := "SharedLogModel", name := "see", desc := "(II)I" } : Jvm.MethodName)) ∈ WALL := List.mem_filter.mpr ⟨List.mem_append_right _ (List.mem_of_getElem? (i := 803) (by decide +kernel)), by decide +kernel⟩
theorem t_804 : (Jvm.Cond.selects "SharedLogModel" ({ cls := "SharedLogModel", name := "see", desc := "(II)I" } : Jvm.MethodName) ({ cls := "SharedLogModel", name := "see", desc := "(II)I" } : Jvm.MethodName)) ∈ WALL := List.mem_filter.mpr ⟨List.mem_append_right _ (List.mem_of_getElem? (i := 804) (by decide +kernel)), by decide +kernel⟩
theorem t_805 : (Jvm.Cond.code ({ cls := "SharedLogModel", name := "see", desc := "(II)I" } : Jvm.MethodName) prog_9_method_34_code (4 : Nat) (Option.some Jvm.ClassFile.FieldType.int)) ∈ WALL := List.mem_filter.mpr ⟨List.mem_append_right _ (List.mem_of_getElem? (i := 805) (by decide +kernel)), by decide +kernel⟩
theorem t_806 : (Jvm.Cond.methodLink "SharedLogLaw" (130 : Nat) ({ cls := "SharedLogModel", name := "put", desc := "(III)I" } : Jvm.MethodName)) ∈ WALL := List.mem_filter.mpr ⟨List.mem_append_right _ (List.mem_of_getElem? (i := 806) (by decide +kernel)), by decide +kernel⟩
theorem t_807 : (Jvm.Cond.instanceMethod ({ cls := "SharedLogModel", name := "put", desc := "(III)I" } : Jvm.MethodName)) ∈ WALL := List.mem_filter.mpr ⟨List.mem_append_right _ (List.mem_of_getElem? (i := 807) (by decide +kernel)), by decide +kernel⟩
theorem t_808 : (Jvm.Cond.selects "SharedLogModel" ({ cls := "SharedLogModel", name := "put", desc := "(III)I" } : Jvm.MethodName) ({ cls := "SharedLogModel", name := "put", desc := "(III)I" } : Jvm.MethodName)) ∈ WALL := List.mem_filter.mpr ⟨List.mem_append_right _ (List.mem_of_getElem? (i := 808) (by decide +kernel)), by decide +kernel⟩
theorem t_809 : (Jvm.Cond.code ({ cls := "SharedLogModel", name := "put", desc := "(III)I" } : Jvm.MethodName) prog_9_method_35_code (4 : Nat) (Option.some Jvm.ClassFile.FieldType.int)) ∈ WALL := List.mem_filter.mpr ⟨List.mem_append_right _ (List.mem_of_getElem? (i := 809) (by decide +kernel)), by decide +kernel⟩
theorem t_810 : (Jvm.Cond.methodLink "SharedLogLaw" (133 : Nat) ({ cls := "SharedLogModel", name := "commit", desc := "(I)Z" } : Jvm.MethodName)) ∈ WALL := List.mem_filter.mpr ⟨List.mem_append_right _ (List.mem_of_getElem? (i := 810) (by decide +kernel)), by decide +kernel⟩
theorem t_811 : (Jvm.Cond.instanceMethod ({ cls := "SharedLogModel", name := "commit", desc := "(I)Z" } : Jvm.MethodName)) ∈ WALL := List.mem_filter.mpr ⟨List.mem_append_right _ (List.mem_of_getElem? (i := 811) (by decide +kernel)), by decide +kernel⟩
theorem t_812 : (Jvm.Cond.selects "SharedLogModel" ({ cls := "SharedLogModel", name := "commit", desc := "(I)Z" } : Jvm.MethodName) ({ cls := "SharedLogModel", name := "commit", desc := "(I)Z" } : Jvm.MethodName)) ∈ WALL := List.mem_filter.mpr ⟨List.mem_append_right _ (List.mem_of_getElem? (i := 812) (by decide +kernel)), by decide +kernel⟩
theorem t_813 : (Jvm.Cond.code ({ cls := "SharedLogModel", name := "commit", desc := "(I)Z" } : Jvm.MethodName) prog_9_method_36_code (5 : Nat) (Option.some Jvm.ClassFile.FieldType.boolean)) ∈ WALL := List.mem_filter.mpr ⟨List.mem_append_right _ (List.mem_of_getElem? (i := 813) (by decide +kernel)), by decide +kernel⟩
theorem t_814 : (Jvm.Cond.methodLink "SharedLogLaw" (136 : Nat) ({ cls := "SharedLogModel", name := "drop", desc := "(I)I" } : Jvm.MethodName)) ∈ WALL := List.mem_filter.mpr ⟨List.mem_append_right _ (List.mem_of_getElem? (i := 814) (by decide +kernel)), by decide +kernel⟩
theorem t_815 : (Jvm.Cond.instanceMethod ({ cls := "SharedLogModel", name := "drop", desc := "(I)I" } : Jvm.MethodName)) ∈ WALL := List.mem_filter.mpr ⟨List.mem_append_right _ (List.mem_of_getElem? (i := 815) (by decide +kernel)), by decide +kernel⟩
theorem t_816 : (Jvm.Cond.selects "SharedLogModel" ({ cls := "SharedLogModel", name := "drop", desc := "(I)I" } : Jvm.MethodName) ({ cls := "SharedLogModel", name := "drop", desc := "(I)I" } : Jvm.MethodName)) ∈ WALL := List.mem_filter.mpr ⟨List.mem_append_right _ (List.mem_of_getElem? (i := 816) (by decide +kernel)), by decide +kernel⟩
theorem t_817 : (Jvm.Cond.code ({ cls := "SharedLogModel", name := "drop", desc := "(I)I" } : Jvm.MethodName) prog_9_method_37_code (2 : Nat) (Option.some Jvm.ClassFile.FieldType.int)) ∈ WALL := List.mem_filter.mpr ⟨List.mem_append_right _ (List.mem_of_getElem? (i := 817) (by decide +kernel)), by decide +kernel⟩
theorem t_818 : (Jvm.Cond.methodLink "SharedLogLaw" (139 : Nat) ({ cls := "SharedLogModel", name := "look", desc := "(II)I" } : Jvm.MethodName)) ∈ WALL := List.mem_filter.mpr ⟨List.mem_append_right _ (List.mem_of_getElem? (i := 818) (by decide +kernel)), by decide +kernel⟩
theorem t_819 : (Jvm.Cond.instanceMethod ({ cls := "SharedLogModel", name := "look", desc := "(II)I" } : Jvm.MethodName)) ∈ WALL := List.mem_filter.mpr ⟨List.mem_append_right _ (List.mem_of_getElem? (i := 819) (by decide +kernel)), by decide +kernel⟩
theorem t_820 : (Jvm.Cond.selects "SharedLogModel" ({ cls := "SharedLogModel", name := "look", desc := "(II)I" } : Jvm.MethodName) ({ cls := "SharedLogModel", name := "look", desc := "(II)I" } : Jvm.MethodName)) ∈ WALL := List.mem_filter.mpr ⟨List.mem_append_right _ (List.mem_of_getElem? (i := 820) (by decide +kernel)), by decide +kernel⟩
theorem t_821 : (Jvm.Cond.code ({ cls := "SharedLogModel", name := "look", desc := "(II)I" } : Jvm.MethodName) prog_9_method_38_code (3 : Nat) (Option.some Jvm.ClassFile.FieldType.int)) ∈ WALL := List.mem_filter.mpr ⟨List.mem_append_right _ (List.mem_of_getElem? (i := 821) (by decide +kernel)), by decide +kernel⟩
theorem t_822 : (Jvm.Cond.methodLink "SharedLogLaw" (142 : Nat) ({ cls := "SharedLogModel", name := "client", desc := "(II)I" } : Jvm.MethodName)) ∈ WALL := List.mem_filter.mpr ⟨List.mem_append_right _ (List.mem_of_getElem? (i := 822) (by decide +kernel)), by decide +kernel⟩
theorem t_823 : (Jvm.Cond.instanceMethod ({ cls := "SharedLogModel", name := "client", desc := "(II)I" } : Jvm.MethodName)) ∈ WALL := List.mem_filter.mpr ⟨List.mem_append_right _ (List.mem_of_getElem? (i := 823) (by decide +kernel)), by decide +kernel⟩
theorem t_824 : (Jvm.Cond.selects "SharedLogModel" ({ cls := "SharedLogModel", name := "client", desc := "(II)I" } : Jvm.MethodName) ({ cls := "SharedLogModel", name := "client", desc := "(II)I" } : Jvm.MethodName)) ∈ WALL := List.mem_filter.mpr ⟨List.mem_append_right _ (List.mem_of_getElem? (i := 824) (by decide +kernel)), by decide +kernel⟩
theorem t_825 : (Jvm.Cond.code ({ cls := "SharedLogModel", name := "client", desc := "(II)I" } : Jvm.MethodName) prog_9_method_39_code (3 : Nat) (Option.some Jvm.ClassFile.FieldType.int)) ∈ WALL := List.mem_filter.mpr ⟨List.mem_append_right _ (List.mem_of_getElem? (i := 825) (by decide +kernel)), by decide +kernel⟩
theorem t_826 : (Jvm.Cond.methodLink "SharedLogLaw" (145 : Nat) ({ cls := "SharedLogModel", name := "count", desc := "(I)I" } : Jvm.MethodName)) ∈ WALL := List.mem_filter.mpr ⟨List.mem_append_right _ (List.mem_of_getElem? (i := 826) (by decide +kernel)), by decide +kernel⟩
theorem t_827 : (Jvm.Cond.instanceMethod ({ cls := "SharedLogModel", name := "count", desc := "(I)I" } : Jvm.MethodName)) ∈ WALL := List.mem_filter.mpr ⟨List.mem_append_right _ (List.mem_of_getElem? (i := 827) (by decide +kernel)), by decide +kernel⟩
theorem t_828 : (Jvm.Cond.selects "SharedLogModel" ({ cls := "SharedLogModel", name := "count", desc := "(I)I" } : Jvm.MethodName) ({ cls := "SharedLogModel", name := "count", desc := "(I)I" } : Jvm.MethodName)) ∈ WALL := List.mem_filter.mpr ⟨List.mem_append_right _ (List.mem_of_getElem? (i := 828) (by decide +kernel)), by decide +kernel⟩
theorem t_829 : (Jvm.Cond.code ({ cls := "SharedLogModel", name := "count", desc := "(I)I" } : Jvm.MethodName) prog_9_method_40_code (2 : Nat) (Option.some Jvm.ClassFile.FieldType.int)) ∈ WALL := List.mem_filter.mpr ⟨List.mem_append_right _ (List.mem_of_getElem? (i := 829) (by decide +kernel)), by decide +kernel⟩
theorem ts_Log_takeToken : Cond.selects "SharedLog" ({ cls := "SharedLog", name := "takeToken", desc := "(LSharedLog$Client;)I" } : Jvm.MethodName) ({ cls := "SharedLog", name := "takeToken", desc := "(LSharedLog$Client;)I" } : Jvm.MethodName) ∈ WALL := List.mem_filter.mpr ⟨List.mem_append_left _ (List.mem_map.mpr ⟨(({ cls := "SharedLog", name := "takeToken", desc := "(LSharedLog$Client;)I" } : Jvm.MethodName), 7), by decide +kernel, rfl⟩), by decide +kernel⟩
theorem ts_Log_write : Cond.selects "SharedLog" ({ cls := "SharedLog", name := "write", desc := "(LSharedLog$Client;ILSharedLog$Entry;I)V" } : Jvm.MethodName) ({ cls := "SharedLog", name := "write", desc := "(LSharedLog$Client;ILSharedLog$Entry;I)V" } : Jvm.MethodName) ∈ WALL := List.mem_filter.mpr ⟨List.mem_append_left _ (List.mem_map.mpr ⟨(({ cls := "SharedLog", name := "write", desc := "(LSharedLog$Client;ILSharedLog$Entry;I)V" } : Jvm.MethodName), 7), by decide +kernel, rfl⟩), by decide +kernel⟩
theorem ts_Log_entryAtEnd : Cond.selects "SharedLog" ({ cls := "SharedLog", name := "entryAtEnd", desc := "(LSharedLog$Client;I)LSharedLog$Entry;" } : Jvm.MethodName) ({ cls := "SharedLog", name := "entryAtEnd", desc := "(LSharedLog$Client;I)LSharedLog$Entry;" } : Jvm.MethodName) ∈ WALL := List.mem_filter.mpr ⟨List.mem_append_left _ (List.mem_map.mpr ⟨(({ cls := "SharedLog", name := "entryAtEnd", desc := "(LSharedLog$Client;I)LSharedLog$Entry;" } : Jvm.MethodName), 7), by decide +kernel, rfl⟩), by decide +kernel⟩
theorem ts_Log_use : Cond.selects "SharedLog" ({ cls := "SharedLog", name := "use", desc := "(LSharedLog$Client;I)LSharedLog$Unit;" } : Jvm.MethodName) ({ cls := "SharedLog", name := "use", desc := "(LSharedLog$Client;I)LSharedLog$Unit;" } : Jvm.MethodName) ∈ WALL := List.mem_filter.mpr ⟨List.mem_append_left _ (List.mem_map.mpr ⟨(({ cls := "SharedLog", name := "use", desc := "(LSharedLog$Client;I)LSharedLog$Unit;" } : Jvm.MethodName), 7), by decide +kernel, rfl⟩), by decide +kernel⟩
theorem ts_Log_trimOne : Cond.selects "SharedLog" ({ cls := "SharedLog", name := "trimOne", desc := "(LSharedLog$Client;I)I" } : Jvm.MethodName) ({ cls := "SharedLog", name := "trimOne", desc := "(LSharedLog$Client;I)I" } : Jvm.MethodName) ∈ WALL := List.mem_filter.mpr ⟨List.mem_append_left _ (List.mem_map.mpr ⟨(({ cls := "SharedLog", name := "trimOne", desc := "(LSharedLog$Client;I)I" } : Jvm.MethodName), 7), by decide +kernel, rfl⟩), by decide +kernel⟩
theorem ts_Log_requireChangeable : Cond.selects "SharedLog" ({ cls := "SharedLog", name := "requireChangeable", desc := "(LSharedLog$Client;[I)V" } : Jvm.MethodName) ({ cls := "SharedLog", name := "requireChangeable", desc := "(LSharedLog$Client;[I)V" } : Jvm.MethodName) ∈ WALL := List.mem_filter.mpr ⟨List.mem_append_left _ (List.mem_map.mpr ⟨(({ cls := "SharedLog", name := "requireChangeable", desc := "(LSharedLog$Client;[I)V" } : Jvm.MethodName), 7), by decide +kernel, rfl⟩), by decide +kernel⟩
theorem ts_Log_sealAll : Cond.selects "SharedLog" ({ cls := "SharedLog", name := "sealAll", desc := "(LSharedLog$Layout;[II)V" } : Jvm.MethodName) ({ cls := "SharedLog", name := "sealAll", desc := "(LSharedLog$Layout;[II)V" } : Jvm.MethodName) ∈ WALL := List.mem_filter.mpr ⟨List.mem_append_left _ (List.mem_map.mpr ⟨(({ cls := "SharedLog", name := "sealAll", desc := "(LSharedLog$Layout;[II)V" } : Jvm.MethodName), 7), by decide +kernel, rfl⟩), by decide +kernel⟩
theorem ts_Log_merge : Cond.selects "SharedLog" ({ cls := "SharedLog", name := "merge", desc := "([I[II)V" } : Jvm.MethodName) ({ cls := "SharedLog", name := "merge", desc := "([I[II)V" } : Jvm.MethodName) ∈ WALL := List.mem_filter.mpr ⟨List.mem_append_left _ (List.mem_map.mpr ⟨(({ cls := "SharedLog", name := "merge", desc := "([I[II)V" } : Jvm.MethodName), 7), by decide +kernel, rfl⟩), by decide +kernel⟩
theorem ts_Log_firstFreeOffset : Cond.selects "SharedLog" ({ cls := "SharedLog", name := "firstFreeOffset", desc := "()I" } : Jvm.MethodName) ({ cls := "SharedLog", name := "firstFreeOffset", desc := "()I" } : Jvm.MethodName) ∈ WALL := List.mem_filter.mpr ⟨List.mem_append_left _ (List.mem_map.mpr ⟨(({ cls := "SharedLog", name := "firstFreeOffset", desc := "()I" } : Jvm.MethodName), 7), by decide +kernel, rfl⟩), by decide +kernel⟩
theorem ts_Log_requireSequencer : Cond.selects "SharedLog" ({ cls := "SharedLog", name := "requireSequencer", desc := "(LSharedLog$Client;)V" } : Jvm.MethodName) ({ cls := "SharedLog", name := "requireSequencer", desc := "(LSharedLog$Client;)V" } : Jvm.MethodName) ∈ WALL := List.mem_filter.mpr ⟨List.mem_append_left _ (List.mem_map.mpr ⟨(({ cls := "SharedLog", name := "requireSequencer", desc := "(LSharedLog$Client;)V" } : Jvm.MethodName), 7), by decide +kernel, rfl⟩), by decide +kernel⟩
theorem ts_Log_play : Cond.selects "SharedLog" ({ cls := "SharedLog", name := "play", desc := "(LSharedLog$Client;I)Z" } : Jvm.MethodName) ({ cls := "SharedLog", name := "play", desc := "(LSharedLog$Client;I)Z" } : Jvm.MethodName) ∈ WALL := List.mem_filter.mpr ⟨List.mem_append_left _ (List.mem_map.mpr ⟨(({ cls := "SharedLog", name := "play", desc := "(LSharedLog$Client;I)Z" } : Jvm.MethodName), 7), by decide +kernel, rfl⟩), by decide +kernel⟩
theorem ts_Log_writeAndPlayCommit : Cond.selects "SharedLog" ({ cls := "SharedLog", name := "writeAndPlayCommit", desc := "(LSharedLog$Client;)Z" } : Jvm.MethodName) ({ cls := "SharedLog", name := "writeAndPlayCommit", desc := "(LSharedLog$Client;)Z" } : Jvm.MethodName) ∈ WALL := List.mem_filter.mpr ⟨List.mem_append_left _ (List.mem_map.mpr ⟨(({ cls := "SharedLog", name := "writeAndPlayCommit", desc := "(LSharedLog$Client;)Z" } : Jvm.MethodName), 7), by decide +kernel, rfl⟩), by decide +kernel⟩
theorem ts_Log_upCount : Cond.selects "SharedLog" ({ cls := "SharedLog", name := "upCount", desc := "([I)I" } : Jvm.MethodName) ({ cls := "SharedLog", name := "upCount", desc := "([I)I" } : Jvm.MethodName) ∈ WALL := List.mem_filter.mpr ⟨List.mem_append_left _ (List.mem_map.mpr ⟨(({ cls := "SharedLog", name := "upCount", desc := "([I)I" } : Jvm.MethodName), 7), by decide +kernel, rfl⟩), by decide +kernel⟩
theorem ts_Log_sealRow : Cond.selects "SharedLog" ({ cls := "SharedLog", name := "sealRow", desc := "([II)V" } : Jvm.MethodName) ({ cls := "SharedLog", name := "sealRow", desc := "([II)V" } : Jvm.MethodName) ∈ WALL := List.mem_filter.mpr ⟨List.mem_append_left _ (List.mem_map.mpr ⟨(({ cls := "SharedLog", name := "sealRow", desc := "([II)V" } : Jvm.MethodName), 7), by decide +kernel, rfl⟩), by decide +kernel⟩
theorem ts_Log_firstHeld : Cond.selects "SharedLog" ({ cls := "SharedLog", name := "firstHeld", desc := "([II)LSharedLog$Entry;" } : Jvm.MethodName) ({ cls := "SharedLog", name := "firstHeld", desc := "([II)LSharedLog$Entry;" } : Jvm.MethodName) ∈ WALL := List.mem_filter.mpr ⟨List.mem_append_left _ (List.mem_map.mpr ⟨(({ cls := "SharedLog", name := "firstHeld", desc := "([II)LSharedLog$Entry;" } : Jvm.MethodName), 7), by decide +kernel, rfl⟩), by decide +kernel⟩
theorem ts_Model_learnNow : Cond.selects "SharedLogModel" ({ cls := "SharedLogModel", name := "learnNow", desc := "(I)V" } : Jvm.MethodName) ({ cls := "SharedLogModel", name := "learnNow", desc := "(I)V" } : Jvm.MethodName) ∈ WALL := List.mem_filter.mpr ⟨List.mem_append_left _ (List.mem_map.mpr ⟨(({ cls := "SharedLogModel", name := "learnNow", desc := "(I)V" } : Jvm.MethodName), 26), by decide +kernel, rfl⟩), by decide +kernel⟩
theorem ts_Model_length : Cond.selects "SharedLogModel" ({ cls := "SharedLogModel", name := "length", desc := "(I)I" } : Jvm.MethodName) ({ cls := "SharedLogModel", name := "length", desc := "(I)I" } : Jvm.MethodName) ∈ WALL := List.mem_filter.mpr ⟨List.mem_append_left _ (List.mem_map.mpr ⟨(({ cls := "SharedLogModel", name := "length", desc := "(I)I" } : Jvm.MethodName), 26), by decide +kernel, rfl⟩), by decide +kernel⟩
theorem ts_Model_rowFor : Cond.selects "SharedLogModel" ({ cls := "SharedLogModel", name := "rowFor", desc := "(II)I" } : Jvm.MethodName) ({ cls := "SharedLogModel", name := "rowFor", desc := "(II)I" } : Jvm.MethodName) ∈ WALL := List.mem_filter.mpr ⟨List.mem_append_left _ (List.mem_map.mpr ⟨(({ cls := "SharedLogModel", name := "rowFor", desc := "(II)I" } : Jvm.MethodName), 26), by decide +kernel, rfl⟩), by decide +kernel⟩
theorem ts_Model_unit : Cond.selects "SharedLogModel" ({ cls := "SharedLogModel", name := "unit", desc := "(II)I" } : Jvm.MethodName) ({ cls := "SharedLogModel", name := "unit", desc := "(II)I" } : Jvm.MethodName) ∈ WALL := List.mem_filter.mpr ⟨List.mem_append_left _ (List.mem_map.mpr ⟨(({ cls := "SharedLogModel", name := "unit", desc := "(II)I" } : Jvm.MethodName), 26), by decide +kernel, rfl⟩), by decide +kernel⟩
theorem ts_Model_usable : Cond.selects "SharedLogModel" ({ cls := "SharedLogModel", name := "usable", desc := "(II)Z" } : Jvm.MethodName) ({ cls := "SharedLogModel", name := "usable", desc := "(II)Z" } : Jvm.MethodName) ∈ WALL := List.mem_filter.mpr ⟨List.mem_append_left _ (List.mem_map.mpr ⟨(({ cls := "SharedLogModel", name := "usable", desc := "(II)Z" } : Jvm.MethodName), 26), by decide +kernel, rfl⟩), by decide +kernel⟩
theorem ts_Model_cell : Cond.selects "SharedLogModel" ({ cls := "SharedLogModel", name := "cell", desc := "(II)I" } : Jvm.MethodName) ({ cls := "SharedLogModel", name := "cell", desc := "(II)I" } : Jvm.MethodName) ∈ WALL := List.mem_filter.mpr ⟨List.mem_append_left _ (List.mem_map.mpr ⟨(({ cls := "SharedLogModel", name := "cell", desc := "(II)I" } : Jvm.MethodName), 26), by decide +kernel, rfl⟩), by decide +kernel⟩
theorem ts_Model_copy : Cond.selects "SharedLogModel" ({ cls := "SharedLogModel", name := "copy", desc := "(II)V" } : Jvm.MethodName) ({ cls := "SharedLogModel", name := "copy", desc := "(II)V" } : Jvm.MethodName) ∈ WALL := List.mem_filter.mpr ⟨List.mem_append_left _ (List.mem_map.mpr ⟨(({ cls := "SharedLogModel", name := "copy", desc := "(II)V" } : Jvm.MethodName), 26), by decide +kernel, rfl⟩), by decide +kernel⟩
theorem ts_Model_out : Cond.selects "SharedLogModel" ({ cls := "SharedLogModel", name := "out", desc := "(II)Z" } : Jvm.MethodName) ({ cls := "SharedLogModel", name := "out", desc := "(II)Z" } : Jvm.MethodName) ∈ WALL := List.mem_filter.mpr ⟨List.mem_append_left _ (List.mem_map.mpr ⟨(({ cls := "SharedLogModel", name := "out", desc := "(II)Z" } : Jvm.MethodName), 26), by decide +kernel, rfl⟩), by decide +kernel⟩
theorem ts_Model_fail : Cond.selects "SharedLogModel" ({ cls := "SharedLogModel", name := "fail", desc := "(I)I" } : Jvm.MethodName) ({ cls := "SharedLogModel", name := "fail", desc := "(I)I" } : Jvm.MethodName) ∈ WALL := List.mem_filter.mpr ⟨List.mem_append_left _ (List.mem_map.mpr ⟨(({ cls := "SharedLogModel", name := "fail", desc := "(I)I" } : Jvm.MethodName), 26), by decide +kernel, rfl⟩), by decide +kernel⟩
theorem ts_Model_noToken : Cond.selects "SharedLogModel" ({ cls := "SharedLogModel", name := "noToken", desc := "(I)Z" } : Jvm.MethodName) ({ cls := "SharedLogModel", name := "noToken", desc := "(I)Z" } : Jvm.MethodName) ∈ WALL := List.mem_filter.mpr ⟨List.mem_append_left _ (List.mem_map.mpr ⟨(({ cls := "SharedLogModel", name := "noToken", desc := "(I)Z" } : Jvm.MethodName), 26), by decide +kernel, rfl⟩), by decide +kernel⟩
theorem ts_Model_write : Cond.selects "SharedLogModel" ({ cls := "SharedLogModel", name := "write", desc := "(III)I" } : Jvm.MethodName) ({ cls := "SharedLogModel", name := "write", desc := "(III)I" } : Jvm.MethodName) ∈ WALL := List.mem_filter.mpr ⟨List.mem_append_left _ (List.mem_map.mpr ⟨(({ cls := "SharedLogModel", name := "write", desc := "(III)I" } : Jvm.MethodName), 26), by decide +kernel, rfl⟩), by decide +kernel⟩
theorem ts_Model_lastCell : Cond.selects "SharedLogModel" ({ cls := "SharedLogModel", name := "lastCell", desc := "(II)I" } : Jvm.MethodName) ({ cls := "SharedLogModel", name := "lastCell", desc := "(II)I" } : Jvm.MethodName) ∈ WALL := List.mem_filter.mpr ⟨List.mem_append_left _ (List.mem_map.mpr ⟨(({ cls := "SharedLogModel", name := "lastCell", desc := "(II)I" } : Jvm.MethodName), 26), by decide +kernel, rfl⟩), by decide +kernel⟩
theorem ts_Model_ones : Cond.selects "SharedLogModel" ({ cls := "SharedLogModel", name := "ones", desc := "(I)I" } : Jvm.MethodName) ({ cls := "SharedLogModel", name := "ones", desc := "(I)I" } : Jvm.MethodName) ∈ WALL := List.mem_filter.mpr ⟨List.mem_append_left _ (List.mem_map.mpr ⟨(({ cls := "SharedLogModel", name := "ones", desc := "(I)I" } : Jvm.MethodName), 26), by decide +kernel, rfl⟩), by decide +kernel⟩
theorem ts_Model_badRow : Cond.selects "SharedLogModel" ({ cls := "SharedLogModel", name := "badRow", desc := "(I)Z" } : Jvm.MethodName) ({ cls := "SharedLogModel", name := "badRow", desc := "(I)Z" } : Jvm.MethodName) ∈ WALL := List.mem_filter.mpr ⟨List.mem_append_left _ (List.mem_map.mpr ⟨(({ cls := "SharedLogModel", name := "badRow", desc := "(I)Z" } : Jvm.MethodName), 26), by decide +kernel, rfl⟩), by decide +kernel⟩
theorem ts_Model_upUnits : Cond.selects "SharedLogModel" ({ cls := "SharedLogModel", name := "upUnits", desc := "(I)I" } : Jvm.MethodName) ({ cls := "SharedLogModel", name := "upUnits", desc := "(I)I" } : Jvm.MethodName) ∈ WALL := List.mem_filter.mpr ⟨List.mem_append_left _ (List.mem_map.mpr ⟨(({ cls := "SharedLogModel", name := "upUnits", desc := "(I)I" } : Jvm.MethodName), 26), by decide +kernel, rfl⟩), by decide +kernel⟩
theorem ts_Model_sealRow : Cond.selects "SharedLogModel" ({ cls := "SharedLogModel", name := "sealRow", desc := "(I)V" } : Jvm.MethodName) ({ cls := "SharedLogModel", name := "sealRow", desc := "(I)V" } : Jvm.MethodName) ∈ WALL := List.mem_filter.mpr ⟨List.mem_append_left _ (List.mem_map.mpr ⟨(({ cls := "SharedLogModel", name := "sealRow", desc := "(I)V" } : Jvm.MethodName), 26), by decide +kernel, rfl⟩), by decide +kernel⟩
theorem ts_Model_merge : Cond.selects "SharedLogModel" ({ cls := "SharedLogModel", name := "merge", desc := "(III)V" } : Jvm.MethodName) ({ cls := "SharedLogModel", name := "merge", desc := "(III)V" } : Jvm.MethodName) ∈ WALL := List.mem_filter.mpr ⟨List.mem_append_left _ (List.mem_map.mpr ⟨(({ cls := "SharedLogModel", name := "merge", desc := "(III)V" } : Jvm.MethodName), 26), by decide +kernel, rfl⟩), by decide +kernel⟩
theorem ts_Model_sameAges : Cond.selects "SharedLogModel" ({ cls := "SharedLogModel", name := "sameAges", desc := "(II[II)Z" } : Jvm.MethodName) ({ cls := "SharedLogModel", name := "sameAges", desc := "(II[II)Z" } : Jvm.MethodName) ∈ WALL := List.mem_filter.mpr ⟨List.mem_append_left _ (List.mem_map.mpr ⟨(({ cls := "SharedLogModel", name := "sameAges", desc := "(II[II)Z" } : Jvm.MethodName), 26), by decide +kernel, rfl⟩), by decide +kernel⟩
theorem ts_Model_place : Cond.selects "SharedLogModel" ({ cls := "SharedLogModel", name := "place", desc := "(III)V" } : Jvm.MethodName) ({ cls := "SharedLogModel", name := "place", desc := "(III)V" } : Jvm.MethodName) ∈ WALL := List.mem_filter.mpr ⟨List.mem_append_left _ (List.mem_map.mpr ⟨(({ cls := "SharedLogModel", name := "place", desc := "(III)V" } : Jvm.MethodName), 26), by decide +kernel, rfl⟩), by decide +kernel⟩
theorem ts_Model_play : Cond.selects "SharedLogModel" ({ cls := "SharedLogModel", name := "play", desc := "(II)I" } : Jvm.MethodName) ({ cls := "SharedLogModel", name := "play", desc := "(II)I" } : Jvm.MethodName) ∈ WALL := List.mem_filter.mpr ⟨List.mem_append_left _ (List.mem_map.mpr ⟨(({ cls := "SharedLogModel", name := "play", desc := "(II)I" } : Jvm.MethodName), 26), by decide +kernel, rfl⟩), by decide +kernel⟩
end
section
/-! OWN CALCULUS. A world is a partial map from addresses to cells (mu_M); every contract of the class and of the reference speaks of the whole map, so no cell is cut out or joined. -/
section MU
abbrev mu_M : Type := Nat → Option va_E
def mu_V (D : va_G) (cl : List vw_C) (μ : mu_M) (H : Heap) : Prop := ∀ (a : Nat) (e : va_E), μ a = some e → va_at D cl (a, e) H
def mu_up (μ : mu_M) (a : Nat) (e : va_E) : mu_M := fun q => if q = a then some e else μ q
theorem mu_up_s (μ : mu_M) (a : Nat) (e : va_E) : mu_up μ a e a = some e := if_pos rfl
theorem mu_up_n {μ : mu_M} {a q : Nat} {e : va_E} (h : q ≠ a) : mu_up μ a e q = μ q := if_neg h
theorem mu_V.lt {D : va_G} {cl : List vw_C} {μ : mu_M} {H : Heap} (hV : mu_V D cl μ H) {a : Nat} {e : va_E} (h : μ a = some e) : a < H.size := (hV a e h).lt
theorem mu_V.fresh {D : va_G} {cl : List vw_C} {μ : mu_M} {H : Heap} (hV : mu_V D cl μ H) {q : Nat} (hq : H.size ≤ q) : μ q = none := by
  cases h : μ q with
  | none => rfl
  | some e => exact absurd (hV.lt h) (Nat.not_lt.mpr hq)
theorem mu_V.set {D : va_G} {cl : List vw_C} {μ : mu_M} {H H1 : Heap} {a : Nat} {e : va_E} (hV : mu_V D cl μ H) (he : va_at D cl (a, e) H1) (oq : ∀ q : Nat, q ≠ a → H1[q]? = H[q]?) : mu_V D cl (mu_up μ a e) H1 := by
  intro q x hx
  by_cases hq : q = a
  · subst hq
    rw [mu_up_s] at hx
    cases hx
    exact he
  · rw [mu_up_n hq] at hx
    exact (hV q x hx).kept (oq q hq)
theorem mu_V.push {D : va_G} {cl : List vw_C} {μ : mu_M} {H H1 : Heap} {e : va_E} (hV : mu_V D cl μ H) (he : va_at D cl (H.size, e) H1) (oq : ∀ q : Nat, q < H.size → H1[q]? = H[q]?) : mu_V D cl (mu_up μ H.size e) H1 := by
  intro q x hx
  by_cases hq : q = H.size
  · subst hq
    rw [mu_up_s] at hx
    cases hx
    exact he
  · rw [mu_up_n hq] at hx
    exact (hV q x hx).kept (oq q (hV.lt hx))
theorem mu_V.one {D : va_G} {cl : List vw_C} {μ : mu_M} {H : Heap} (hV : mu_V D cl μ H) {a : Nat} {e : va_E} (h : μ a = some e) : va_P D cl [(a, e)] H := by
  intro k q hk
  have hz : k < 1 := (List.getElem?_eq_some_iff.mp hk).1
  rw [show k = 0 by omega] at hk
  cases hk
  exact hV _ _ h
theorem mu_V.kept {D : va_G} {cl : List vw_C} {μ : mu_M} {H H1 : Heap} (hV : mu_V D cl μ H) (oq : ∀ q : Nat, q < H.size → H1[q]? = H[q]?) : mu_V D cl μ H1 := fun q x hx => (hV q x hx).kept (oq q (hV.lt hx))
/-- a class of the worlds, with all that the tables know of it -/
def mk_C (Ts : List Cond) (cl : List vw_C) (ci : Nat) (C : String) (T : u_T) (N : Nat) (ty : Nat → FieldType) : Prop :=
  cl[ci]? = some (C, T, N) ∧ (∀ w ∈ u_ws C T N, w ∈ Ts) ∧ (∀ k, k < N → parseFieldDescriptor (T k).2.2.1 = some (ty k)) ∧ ∀ a, a < N → ∀ b, b < N → a ≠ b → (T a).2.1 ≠ (T b).2.1
end MU
section MV
variable {p : Program} {l : Launch} {e : Env} {R : Room} {s : State} {m : MethodId} {args : Array Value} {below : List Frame} {meth : Method} {c : Code} {H : Heap} {locs : List Loc} {cells slots : Nat} {Q : State → Prop}
variable {cc : ByteArray} {pc : Nat} {ls : Array Slot} {rest : List Value} {D : va_G} {cl : List vw_C} {A : Nat → Prop} {a : Nat} {tys : List (ClassId × FieldType)} {H0 : Heap} {μ : mu_M} {Ts : List Cond}
theorem mv_get (hexec : p.tables.exec = Jvm.exec) (hb : c.code = cc) {own C : String} {T : u_T} {N ci index : Nat} {ty : Nat → FieldType} (hts : ∀ w ∈ Ts, w.before args s = true) (hC : mk_C Ts cl ci C T N ty) (hown : s.vm.findClass own = some m.cls) (hK : va_K D cl tys s) (hV : mu_V D cl μ H) {fs : List Value} (he : μ a = some (.inr (ci, fs))) (k : Nat) (hk : k < N) (hlink : Cond.fieldLink own index (T k).1 (T k).2.1 (T k).2.2.1 ∈ Ts) {v : Value} (hv : fs[k]? = some v) (hdg : decode cc pc = .ok (.getfield index, 3))
    (kk : W p l e R s m args below meth c H locs cells slots Q (F0 m (pc + 3) ls (v :: rest))) : W p l e R s m args below meth c H locs cells slots Q (F0 m pc ls (.ref a :: rest)) :=
  va_get hexec hb hts hC.2.1 hown hK (hV.one he) 0 rfl hC.1 k hk (hts _ hlink) (fun _ h => h) hv hdg kk
theorem mv_put (hexec : p.tables.exec = Jvm.exec) (hb : c.code = cc) {own C : String} {T : u_T} {N ci index : Nat} {ty0 : Nat → FieldType} (hts : ∀ w ∈ Ts, w.before args s = true) (hC : mk_C Ts cl ci C T N ty0) (hown : s.vm.findClass own = some m.cls) (hK : va_K D cl tys s) (hV : mu_V D cl μ H) (hS0 : va_S A H0 H locs) {fs : List Value} (he : μ a = some (.inr (ci, fs))) (hAa : A a) (k : Nat) (hk : k < N) (hlink : Cond.fieldLink own index (T k).1 (T k).2.1 (T k).2.2.1 ∈ Ts) (hfin : (T k).2.2.2 = false) {v : Value} (hn : narrow (ty0 k) v = v) (hfit : fits (ty0 k) v = true) (hl : k < fs.length)
    (hdg : decode cc pc = .ok (.putfield index, 3)) (kk : ∀ (H1 : Heap) (locs1 : List Loc), mu_V D cl (mu_up μ a (.inr (ci, fs.set k v))) H1 → va_S A H0 H1 locs1 → W p l e R s m args below meth c H1 locs1 cells slots Q (F0 m (pc + 3) ls rest)) : W p l e R s m args below meth c H locs cells slots Q (F0 m pc ls (v :: .ref a :: rest)) := by
  obtain ⟨hc, hin, hty, hnm⟩ := hC
  have hap := va_apart (own := own) hts hin ty0 hty hnm hK hc
  obtain ⟨r, h1, cell, q1, q2, q3, q4⟩ := hV a _ he
  have hr : r = (C, T, N) := Option.some.inj (h1.symm.trans hc)
  subst hr
  obtain ⟨hS, hfc, kC, hkC, hkind⟩ := hK.1 ci _ hc
  obtain ⟨cf, kf, fi, f, hi, hsl⟩ := hS k hk
  have hlay := hts _ (hin _ (u_in_lay hk))
  unfold u_lay at hlay
  rw [if_neg (by rw [hfin]; decide)] at hlay
  have hst := (u_facts hfc hkC (u_lays hts hin hk) hi).1
  have h6 := u_store hfc hkC hkind hlay hi (hty k hk) hn hfit
  refine W.putK hexec hb (f := f) ⟨hown, hts _ hlink, ⟨_, _, _, hi⟩, hst⟩ (by rw [q2]; exact h6) q1 q3 (by rw [hsl]; exact k2_hasslot (q4 k hk)) rfl rfl hdg fun H' e1 e2 e3 => ?_
  rw [hsl] at e1 ⊢
  exact kk H' _ (hV.set ⟨_, hc, t_OB.to (V := updV (vp_V fs) k v) ⟨_, e1, q2, q3, t_set q4 hap hk v⟩ (fun j _ => vp_updV_set hl v j)⟩ e3) (hS0.put e2 e3 hAa)
theorem mv_putF (hexec : p.tables.exec = Jvm.exec) (hb : c.code = cc) {own C : String} {T : u_T} {N ci index : Nat} {ty0 : Nat → FieldType} (hts : ∀ w ∈ Ts, w.before args s = true) (hC : mk_C Ts cl ci C T N ty0) (hown : s.vm.findClass own = some m.cls) (hK : va_K D cl tys s) (hV : mu_V D cl μ H) (hS0 : va_S A H0 H locs) {fs : List Value} (he : μ a = some (.inr (ci, fs))) (hAa : A a) (k : Nat) (hk : k < N) (hlink : Cond.fieldLink own index (T k).1 (T k).2.1 (T k).2.2.1 ∈ Ts) (hfin : (T k).2.2.2 = true) (hin2 : meth.name = "<init>") (hdecl : (T k).1 = own) {v : Value} (hn : narrow (ty0 k) v = v) (hfit : fits (ty0 k) v = true) (hl : k < fs.length)
    (hdg : decode cc pc = .ok (.putfield index, 3)) (kk : ∀ (H1 : Heap) (locs1 : List Loc), mu_V D cl (mu_up μ a (.inr (ci, fs.set k v))) H1 → va_S A H0 H1 locs1 → W p l e R s m args below meth c H1 locs1 cells slots Q (F0 m (pc + 3) ls rest)) : W p l e R s m args below meth c H locs cells slots Q (F0 m pc ls (v :: .ref a :: rest)) := by
  obtain ⟨hc, hin, hty, hnm⟩ := hC
  have hap := va_apart (own := own) hts hin ty0 hty hnm hK hc
  obtain ⟨r, h1, cell, q1, q2, q3, q4⟩ := hV a _ he
  have hr : r = (C, T, N) := Option.some.inj (h1.symm.trans hc)
  subst hr
  obtain ⟨hS, hfc, kC, hkC, hkind⟩ := hK.1 ci _ hc
  obtain ⟨cf, kf, fi, f, hi, hsl⟩ := hS k hk
  have hlay := hts _ (hin _ (u_in_lay hk))
  unfold u_lay at hlay
  rw [if_pos hfin] at hlay
  have hst := (u_facts hfc hkC (u_lays hts hin hk) hi).1
  have hcf : m.cls = cf := by
    obtain ⟨_, _, c', _, _, _, -, -, hf', -, -, -, hown2, -⟩ := Cond.laysFinal_spec hlay
    have e1 : c' = cf := by have := hi.symm.trans hf'; simp at this; exact this.1.symm
    rw [hdecl] at hown2
    rw [← e1]; exact Option.some.inj (hown.symm.trans hown2)
  have h6 := u_fits hfc hkC hkind (Or.inr hlay) hi (hty k hk) hn hfit
  refine W.putFinK hexec hb hown (hts _ hlink) hi hst hcf hin2 (by rw [q2]; exact h6) q1 q3 (by rw [hsl]; exact k2_hasslot (q4 k hk)) rfl rfl hdg fun H' e1 e2 e3 => ?_
  rw [hsl] at e1 ⊢
  exact kk H' _ (hV.set ⟨_, hc, t_OB.to (V := updV (vp_V fs) k v) ⟨_, e1, q2, q3, t_set q4 hap hk v⟩ (fun j _ => vp_updV_set hl v j)⟩ e3) (hS0.put e2 e3 hAa)
theorem mv_iald (hexec : p.tables.exec = Jvm.exec) (hb : c.code = cc) (hK : va_K D cl tys s) (hV : mu_V D cl μ H) (t0 : Nat) {cA : ClassId} {n : Nat} {f : Nat → Int32} (he : μ a = some (.inl (cA, n, .inl f))) (ht : tys[t0]? = some (cA, .int)) {i : Int32} (hin : vp_in i n) (hdg : decode cc pc = .ok (.iaload, 1))
    (kk : W p l e R s m args below meth c H locs cells slots Q (F0 m (pc + 1) ls (.int (f i.toNatClampNeg) :: rest))) : W p l e R s m args below meth c H locs cells slots Q (F0 m pc ls (.int i :: .ref a :: rest)) :=
  va_iald hexec hb hK (hV.one he) 0 t0 rfl ht hin hdg kk
theorem mv_zald (hexec : p.tables.exec = Jvm.exec) (hb : c.code = cc) (hK : va_K D cl tys s) (hV : mu_V D cl μ H) (t0 : Nat) {cA : ClassId} {n : Nat} {f : Nat → Int32} (he : μ a = some (.inl (cA, n, .inl f))) (ht : tys[t0]? = some (cA, .boolean)) {i : Int32} (hin : vp_in i n) (hdg : decode cc pc = .ok (.baload, 1))
    (kk : W p l e R s m args below meth c H locs cells slots Q (F0 m (pc + 1) ls (.int (f i.toNatClampNeg) :: rest))) : W p l e R s m args below meth c H locs cells slots Q (F0 m pc ls (.int i :: .ref a :: rest)) :=
  va_zald hexec hb hK (hV.one he) 0 t0 rfl ht hin hdg kk
theorem mv_aald (hexec : p.tables.exec = Jvm.exec) (hb : c.code = cc) (hK : va_K D cl tys s) (hV : mu_V D cl μ H) (t0 : Nat) {cA : ClassId} {C : String} {n : Nat} {f : Nat → Option Nat} (he : μ a = some (.inl (cA, n, .inr (.inr (.inr (.inr f)))))) (ht : tys[t0]? = some (cA, .object C)) {i : Int32} (hin : vp_in i n) {x : Nat} (hx : f i.toNatClampNeg = some x) (hdg : decode cc pc = .ok (.aaload, 1))
    (kk : W p l e R s m args below meth c H locs cells slots Q (F0 m (pc + 1) ls (.ref x :: rest))) : W p l e R s m args below meth c H locs cells slots Q (F0 m pc ls (.int i :: .ref a :: rest)) :=
  va_aldq hexec hb hK (hV.one he) 0 t0 rfl ht hin hdg (by rw [hx]; exact kk)
theorem mv_alen (hexec : p.tables.exec = Jvm.exec) (hb : c.code = cc) (hK : va_K D cl tys s) (hV : mu_V D cl μ H) (t0 : Nat) {cA : ClassId} {x : vp_A} (he : μ a = some (.inl (cA, x))) {ty : FieldType} (ht : tys[t0]? = some (cA, ty)) {v : Int32} (hv : Int32.ofNat x.1 = v) (hdg : decode cc pc = .ok (.arraylength, 1))
    (kk : W p l e R s m args below meth c H locs cells slots Q (F0 m (pc + 1) ls (.int v :: rest))) : W p l e R s m args below meth c H locs cells slots Q (F0 m pc ls (.ref a :: rest)) :=
  va_alen hexec hb hK (hV.one he) 0 t0 rfl ht hv hdg kk
theorem mv_iast (hexec : p.tables.exec = Jvm.exec) (hb : c.code = cc) (hK : va_K D cl tys s) (hV : mu_V D cl μ H) (hS : va_S A H0 H locs) (t0 : Nat) {cA : ClassId} {n : Nat} {f : Nat → Int32} (he : μ a = some (.inl (cA, n, .inl f))) (hAa : A a) (ht : tys[t0]? = some (cA, .int)) {i x : Int32} (hin : vp_in i n) (hdg : decode cc pc = .ok (.iastore, 1))
    (kk : ∀ (H1 : Heap) (locs1 : List Loc), mu_V D cl (mu_up μ a (.inl (cA, n, .inl (upd f i.toNatClampNeg x)))) H1 → va_S A H0 H1 locs1 → W p l e R s m args below meth c H1 locs1 cells slots Q (F0 m (pc + 1) ls rest)) : W p l e R s m args below meth c H locs cells slots Q (F0 m pc ls (.int x :: .int i :: .ref a :: rest)) := by
  refine W.iast hexec hb (hV a _ he) ((hK.2 t0 _ ht).1 n (fun j => .int (f j))) (fun q => by cases q) (by show ¬ (i < 0 ∨ (arrV _ _ _).slots.size ≤ _); rw [arrV_size]; exact hin) rfl rfl hdg fun H1 e z oq => ?_
  refine kk H1 _ (hV.set ?_ oq) (hS.put z oq hAa)
  show H1[a]? = some (vp_cell _ _)
  rw [e]
  rw [vp_cell_i, vp_cell_i, arrV_store]
  congr 2
  funext q
  by_cases hq : q = i.toNatClampNeg
  · subst hq
    simp [updV, upd]
  · simp [updV, upd, hq]
theorem mv_zast (hexec : p.tables.exec = Jvm.exec) (hb : c.code = cc) (hK : va_K D cl tys s) (hV : mu_V D cl μ H) (hS : va_S A H0 H locs) (t0 : Nat) {cA : ClassId} {n : Nat} {f : Nat → Int32} (he : μ a = some (.inl (cA, n, .inl f))) (hAa : A a) (ht : tys[t0]? = some (cA, .boolean)) {i x : Int32} (hin : vp_in i n) (hnx : vp_nar .boolean x = x) (hdg : decode cc pc = .ok (.bastore, 1))
    (kk : ∀ (H1 : Heap) (locs1 : List Loc), mu_V D cl (mu_up μ a (.inl (cA, n, .inl (upd f i.toNatClampNeg x)))) H1 → va_S A H0 H1 locs1 → W p l e R s m args below meth c H1 locs1 cells slots Q (F0 m (pc + 1) ls rest)) : W p l e R s m args below meth c H locs cells slots Q (F0 m pc ls (.int x :: .int i :: .ref a :: rest)) := by
  refine W.zast hexec hb (hV a _ he) ((hK.2 t0 _ ht).1 n (fun j => .int (f j))) (fun q => by cases q) (by show ¬ (i < 0 ∨ (arrV _ _ _).slots.size ≤ _); rw [arrV_size]; exact hin) rfl rfl hdg fun H1 e z oq => ?_
  refine kk H1 _ (hV.set ?_ oq) (hS.put z oq hAa)
  rw [show upd f i.toNatClampNeg x = upd f i.toNatClampNeg (vp_nar .boolean x) by rw [hnx]]
  show H1[a]? = some (vp_cell _ _)
  rw [e]
  rw [vp_cell_i, vp_cell_i, arrV_store]
  congr 2
  funext q
  by_cases hq : q = i.toNatClampNeg
  · subst hq
    simp [updV, upd, vp_nar]
    try rfl
  · simp [updV, upd, hq]
theorem mv_aast (hexec : p.tables.exec = Jvm.exec) (hb : c.code = cc) (hK : va_K D cl tys s) (hV : mu_V D cl μ H) (hS : va_S A H0 H locs) (t0 ci : Nat) {cA : ClassId} {r : vw_C} {n v : Nat} {vs : List Value} {f : Nat → Option Nat} (he : μ a = some (.inl (cA, n, .inr (.inr (.inr (.inr f)))))) (hAa : A a) (ht : tys[t0]? = some (cA, .object r.1)) (hv : μ v = some (.inr (ci, vs))) (hc : cl[ci]? = some r) {i : Int32} (hin : vp_in i n) (hdg : decode cc pc = .ok (.aastore, 1))
    (kk : ∀ (H1 : Heap) (locs1 : List Loc), mu_V D cl (mu_up μ a (.inl (cA, n, .inr (.inr (.inr (.inr (va_up f i.toNatClampNeg (some v)))))))) H1 → va_S A H0 H1 locs1 → W p l e R s m args below meth c H1 locs1 cells slots Q (F0 m (pc + 1) ls rest)) : W p l e R s m args below meth c H locs cells slots Q (F0 m pc ls (.ref v :: .int i :: .ref a :: rest)) := by
  have hlt : i.toNatClampNeg < n := Nat.not_le.mp fun q => hin (Or.inr q)
  have h0 : ¬ i < 0 := fun q => hin (Or.inl q)
  obtain ⟨r', hr', cellV, g1, g2, g3, -⟩ := hV v _ hv
  have hcls := (hK.1 ci r hc).2
  obtain ⟨kA, comp, k1, k2, k3, -⟩ := (hK.2 t0 _ ht).2
  have hcomp : comp = D.1 ci := Option.some.inj (k3.symm.trans hcls.1)
  subst hcomp
  obtain ⟨kC, hkC, -⟩ := hcls.2
  refine W.aast hexec hb (hV a _ he) (fun q h => by cases h) (fun h => by cases h) k1 k2 rfl hkC ⟨h0, by show _ < (arrV _ _ _).slots.size; rw [arrV_size]; exact hlt⟩ g1 (fun q h => by rw [g3] at h; cases h) (by rw [g2]; exact hkC) (by rw [g2]; exact va_assign hcls) rfl rfl hdg fun H1 e z oq => ?_
  refine kk H1 _ (hV.set ?_ oq) (hS.put z oq hAa)
  show H1[a]? = some (vp_cell _ _)
  rw [e]
  rw [vp_cell_q, vp_cell_q, arrV_store]
  congr 2
  funext q
  by_cases hq : q = i.toNatClampNeg
  · subst hq
    simp [updV, va_up, va_rf]
  · simp [updV, va_up, hq]
theorem mv_newa (hexec : p.tables.exec = Jvm.exec) (hb : c.code = cc) {atype : ArrayType} (harr : Cond.arrayClass (newarray.typeOf atype) ∈ Ts) (hts : ∀ w ∈ Ts, w.before args s = true) {ty : FieldType} (hty : newarray.typeOf atype = ty) (hK : va_K D cl tys s) (hV : mu_V D cl μ H) (hS : va_S A H0 H locs) (t0 : Nat) {cA : ClassId} (ht : tys[t0]? = some (cA, ty)) (hnm : ∀ c9 : ClassId, va_RA s c9 ty → s.vm.findClass ("[" ++ ty.toString) = some c9)
    {n : Int32} {N' : Nat} {a0 : vp_A} (ha : ∀ cA : ClassId, vp_cell cA a0 = arrV cA N' (fun _ => defaultValue ty)) (hn : ¬ n < 0) (hN : n.toNatClampNeg = N') (hbytes : N' * componentBytes ty ≤ 536870912) (hcells : cells + 1 ≤ R.cells) (hslots : slots + N' ≤ R.slots) (hdg : decode cc pc = .ok (.newarray atype, 2))
    (kk : ∀ (q : Nat) (H1 : Heap), H0.size ≤ q → μ q = none → mu_V D cl (mu_up μ q (.inl (cA, a0))) H1 → va_S A H0 H1 locs →
      W p l e R s m args below meth c H1 locs (cells + 1) (slots + N') Q (F0 m (pc + 2) ls (.ref q :: rest))) : W p l e R s m args below meth c H locs cells slots Q (F0 m pc ls (.int n :: rest)) := by
  subst hty
  refine va_newaK hexec hb (hts _ harr) rfl hdg rfl hn hN hbytes hcells hslots rfl fun H1 cB e1 z1 o1 hAr hNm => ?_
  have hcc : cB = cA := Option.some.inj (hNm.symm.trans (hnm _ (hK.2 t0 _ ht).2))
  subst hcc
  refine kk H.size H1 hS.1 (hV.fresh (Nat.le_refl _)) (hV.push ?_ o1) ⟨Nat.le_trans hS.1 (by omega), fun x h1 h2 => (o1 x (Nat.lt_of_lt_of_le h1 hS.1)).trans (hS.2.1 x h1 h2), hS.2.2⟩
  show H1[H.size]? = some (vp_cell _ _)
  rw [ha]
  exact e1
theorem mv_newq (hexec : p.tables.exec = Jvm.exec) (hb : c.code = cc) {own C : String} {index : Nat} (hts : ∀ w ∈ Ts, w.before args s = true) (hown : s.vm.findClass own = some m.cls) (hclink : Cond.classLink own index C ∈ Ts) (hover : va_AO C s) (hK : va_K D cl tys s) (hV : mu_V D cl μ H) (hS : va_S A H0 H locs) (t0 : Nat) {cA : ClassId} (ht : tys[t0]? = some (cA, .object C))
    {n : Int32} {N' : Nat} (hn : ¬ n < 0) (hN : n.toNatClampNeg = N') (hbytes : N' * 4 ≤ 536870912) (hcells : cells + 1 ≤ R.cells) (hslots : slots + N' ≤ R.slots) (hdg : decode cc pc = .ok (.anewarray index, 3))
    (kk : ∀ (q : Nat) (H1 : Heap), H0.size ≤ q → μ q = none → mu_V D cl (mu_up μ q (.inl (cA, N', .inr (.inr (.inr (.inr (fun _ => none))))))) H1 → va_S A H0 H1 locs →
      W p l e R s m args below meth c H1 locs (cells + 1) (slots + N') Q (F0 m (pc + 3) ls (.ref q :: rest))) : W p l e R s m args below meth c H locs cells slots Q (F0 m pc ls (.int n :: rest)) := by
  subst hN
  refine W.anew hexec hb hown (hts _ hclink) (va_AO.use hover) rfl hdg rfl hn hbytes hcells hslots fun cB kA comp f1 f2 f3 f4 => ?_
  generalize hH1 : H.push ({ cls := cB, slots := Array.replicate n.toNatClampNeg .null, vm := .none } : Cell) = H1
  have z1 : H1.size = H.size + 1 := by rw [← hH1, Array.size_push]
  have e1 : H1[H.size]? = some (arrV cB n.toNatClampNeg (fun _ => .null)) := by rw [← hH1, Array.getElem?_push_size, ← arrV_new]
  have o1 : ∀ q : Nat, q < H.size → H1[q]? = H[q]? := fun q hq => by rw [← hH1, Array.getElem?_push, if_neg (Nat.ne_of_lt hq)]
  obtain ⟨kA9, comp9, g1, g2, g3, g4⟩ := (hK.2 t0 _ ht).2
  have hcc : cB = cA := Option.some.inj (f1.symm.trans g4)
  subst hcc
  refine kk H.size H1 hS.1 (hV.fresh (Nat.le_refl _)) (hV.push ?_ o1) ⟨Nat.le_trans hS.1 (by omega), fun x h1 h2 => (o1 x (Nat.lt_of_lt_of_le h1 hS.1)).trans (hS.2.1 x h1 h2), hS.2.2⟩
  show H1[H.size]? = some (vp_cell _ _)
  rw [vp_cell_q]
  exact e1
theorem mv_new {c0 : Code} (hexec : p.tables.exec = Jvm.exec) (hb : c0.code = cc) {own C : String} {T : u_T} {N ci index : Nat} {ty : Nat → FieldType} (hts : ∀ w ∈ Ts, w.before args s = true) (hC : mk_C Ts cl ci C T N ty) (hown : s.vm.findClass own = some m.cls) (hcl : Cond.classLink own index C ∈ Ts) (hinst : Cond.instantiable C N ∈ Ts) (hini : Cond.initialized C ∈ Ts)
    (hK : va_K D cl tys s) (hV : mu_V D cl μ H) (hS : va_S A H0 H locs) {fs : List Value} (hfs : ∀ j, j < N → defaultValue (ty j) = vp_V fs j) (hcells : cells + 1 ≤ R.cells) (hslots : slots + N ≤ R.slots) (hdg : decode cc pc = .ok (.new index, 3))
    (kk : ∀ (q : Nat) (H1 : Heap), H0.size ≤ q → μ q = none → mu_V D cl (mu_up μ q (.inr (ci, fs))) H1 → va_S A H0 H1 locs →
      W p l e R s m args below meth c0 H1 locs (cells + 1) (slots + N) Q (F0 m (pc + 3) ls (.ref q :: rest))) : W p l e R s m args below meth c0 H locs cells slots Q (F0 m pc ls rest) := by
  obtain ⟨hc, hin, hty, hnm⟩ := hC
  have hKn := hK.1 ci _ hc
  refine W.newcK hexec hb hown (hts _ hcl) (hts _ hinst) (hts _ hini) rfl hdg hcells hslots hKn.2.1 rfl fun H1 kC hkC e1 z1 o1 => ?_
  exact kk H.size H1 hS.1 (hV.fresh (Nat.le_refl _)) (hV.push ⟨_, hc, (u_born ty hts hin hKn hkC e1 hty).to hfs⟩ o1) ⟨Nat.le_trans hS.1 (by omega), fun x h1 h2 => (o1 x (Nat.lt_of_lt_of_le h1 hS.1)).trans (hS.2.1 x h1 h2), hS.2.2⟩
end MV
end
section
/-! CONTRACTS AND WALKS over whole maps. WALL (good words), classes, TYS, STRS, NSTS, AOS are named ahead. -/
def AA (B0 : Nat) : Nat → Prop := fun q => B0 ≤ q
def mc_Q (D : va_G) (cl : List vw_C) (A : Nat → Prop) (post : Option Value → mu_M → Prop) : Array Value → State → Outcome → State → Prop := fun _ st oc t => (∃ (v : Option Value) (μ : mu_M), oc = .returned v ∧ post v μ ∧ mu_V D cl μ t.heap) ∧ va_F A st t
def mc_X (D : va_G) (cl : List vw_C) (A : Nat → Prop) (px : String → mu_M → Prop) : String → State → State → Prop := fun E st t => ∃ μ : mu_M, px E μ ∧ mu_V D cl μ t.heap ∧ va_F A st t
theorem bad_warm {s U : State} (hW : s.WarmedH U.vm) {w : Cond} (hb : isBad w = true) (h : va_Nw w s) : va_Nw w U := by
  cases w <;> first | exact va_Nw.warmC hW h | exact va_Nw.warmD hW h | (simp [isBad] at hb; done)
theorem bad_use {A : Array Value} {U : State} {w : Cond} (hb : isBad w = true) (h : va_Nw w U) : w.before A U = true := by
  cases w <;> first | exact va_Nw.use rfl h | (simp [isBad] at hb; done)
/-- what holds all through the run: tables' words, classes, the throwables' statics, string constants -/
def Amb (D : va_G) (cT : Nat → ClassId) (B0 : Nat) (U : State) : Prop :=
  va_K D classes (TYS cT) U ∧ (∀ w ∈ WALL, w.before #[] U = true) ∧ vx_Zq Bundle.tN "UNASSIGNED_STACK" Bundle.steD (AA B0) U U.heap ∧ vx_Zq Bundle.tN "SUPPRESSED_SENTINEL" Bundle.listD (AA B0) U U.heap ∧
  (∀ q ∈ STRS, ∃ sa : Nat, vk_R q.1 q.2.1 q.2.2 sa U) ∧ (∀ q ∈ NSTS, va_Nw (.methodLinkNest q.1 q.2.1 q.2.2.1 q.2.2.2) U) ∧ (∀ C ∈ AOS, va_AO C U) ∧ (∀ w ∈ WBAD, va_Nw w U) ∧ (∀ q ∈ NCS, va_Nc q.1 q.2 U) ∧ B0 ≤ U.heap.size
theorem Amb.warm {D : va_G} {cT : Nat → ClassId} {B0 : Nat} {s U : State} (hW : s.WarmedH U.vm) (hz : s.heap.size ≤ U.heap.size) (hh : ∀ q : Nat, q < s.heap.size → ¬ AA B0 q → U.heap[q]? = s.heap[q]?) (h : Amb D cT B0 s) : Amb D cT B0 U := by
  obtain ⟨h1, h2, h3, h4, h5, h6, h7, h9, h10, h8⟩ := h
  refine ⟨va_K.moved hW.alike h1, fun w hw => word_at hW (good_of_word (List.all_eq_true.mp WALL_good w hw)) (h2 w hw), (vx_Zq.moved hW.alike h3).kept hh, (vx_Zq.moved hW.alike h4).kept hh, fun q hq => ?_, fun q hq => va_Nw.warmM hW (h6 q hq), fun C hC => va_AO.moved hW.alike (h7 C hC), fun w hw => bad_warm hW (List.mem_filter.mp hw).2 (h9 w hw), fun q hq => va_Nc.moved hW.alike (h10 q hq), Nat.le_trans h8 hz⟩
  obtain ⟨sa, hsa⟩ := h5 q hq
  exact ⟨sa, vk_R.warm hW hsa⟩
theorem Amb.ts {D : va_G} {cT : Nat → ClassId} {B0 : Nat} {s : State} (h : Amb D cT B0 s) (args : Array Value) : ∀ w ∈ WALL, w.before args s = true := fun w hw => word_at (State.WarmedH.refl s) (good_of_word (List.all_eq_true.mp WALL_good w hw)) (h.2.1 w hw)
theorem Amb.at {D : va_G} {cT : Nat → ClassId} {B0 : Nat} {s U : State} {H : Heap} {locs : List Loc} (h : Amb D cT B0 s) (hS : va_S (AA B0) s.heap H locs) (hU : U.heap = H) (hW : s.WarmedH U.vm) : Amb D cT B0 U :=
  h.warm hW (by rw [hU]; exact hS.1) (fun q h1 h2 => by rw [hU]; exact hS.2.1 q h1 h2)
def mc_P (D : va_G) (cT : Nat → ClassId) (B0 : Nat) (av : List Value) (μ : mu_M) : Array Value → State → Prop := va_Pc av (fun U => Amb D cT B0 U ∧ mu_V D classes μ U.heap)
theorem mc_blind (D : va_G) (cT : Nat → ClassId) (B0 : Nat) (av : List Value) (μ : mu_M) : FrameBlind (mc_P D cT B0 av μ) := by
  intro a U g mk h
  obtain ⟨h1, h2, h3⟩ := h
  exact ⟨h1, Amb.warm (s := U) (U := U.calling g mk a) (State.WarmedH.refl U) (Nat.le_refl _) (fun _ _ _ => rfl) h2, h3⟩
/-- a method: its name, code, locals, result, handlers (none: not asked), room -/
abbrev mt_M : Type := MethodName × ByteArray × Nat × Option FieldType × Option (List (Nat × Nat × Nat × Nat)) × Room
abbrev mt_y (M : mt_M) : MethodName := M.1
abbrev mt_c (M : mt_M) : ByteArray := M.2.1
abbrev mt_l (M : mt_M) : Nat := M.2.2.1
abbrev mt_r (M : mt_M) : Option FieldType := M.2.2.2.1
abbrev mt_h (M : mt_M) : Option (List (Nat × Nat × Nat × Nat)) := M.2.2.2.2.1
abbrev mt_R (M : mt_M) : Room := M.2.2.2.2.2
/-- the run: launch, classes' numbers and slots, array classes, the heap's size at its start -/
abbrev mt_G : Type := Launch × va_G × (Nat → ClassId) × Nat
abbrev mt_Q : Type := List Frame → Array Value → State → State → Prop
def mt_S (G : mt_G) (M : mt_M) (p : Program) (s : State) (m : MethodId) (args : Array Value) (meth : Method) (c : Code) : Prop :=
  p.tables.exec = Jvm.exec ∧ c.code = mt_c M ∧ meth.sig.returnType = mt_r M ∧ c.maxLocals = mt_l M ∧ s.vm.findClass (mt_y M).cls = some m.cls ∧ meth.locks = false ∧ (∀ h, mt_h M = some h → c.exceptionTable.toList = tableOf h) ∧ ((mt_y M).name = "<init>" → meth.name = "<init>") ∧ Amb G.2.1 G.2.2.1 G.2.2.2 s
/-- the machine, in a frame of M at pc with locals lo and stack st, over the map μ, comes to an end with QE -/
def WP (G : mt_G) (M : mt_M) (QE : mt_Q) (lo : List (Nat × Value)) (pc : Nat) (st : List Value) (μ : mu_M) (cn sn : Nat) : Prop :=
  G.1.stackTraces = false → ∀ (p : Program) (e : Env) (s : State) (m : MethodId) (args : Array Value) (below : List Frame) (meth : Method) (c : Code) (H : Heap) (locs : List Loc) (ls : Array Slot), mt_S G M p s m args meth c → mu_V G.2.1 classes μ H → va_S (AA G.2.2.2) s.heap H locs → lv_has ls (mt_l M) lo →
    W p G.1 e (mt_R M) s m args below meth c H locs cn sn (QE below args s) (F0 m pc ls st)
/-- a contract: M called with av over μ returns v with post v μ', or throws E with px E μ' -/
def CT (G : mt_G) (M : mt_M) (av : List Value) (μ : mu_M) (post : Option Value → mu_M → Prop) (px : String → mu_M → Prop) : Prop :=
  G.1.stackTraces = false → vx_Met G.1 (mt_y M) [.code (mt_y M) (mt_c M) (mt_l M) (mt_r M)] (mt_R M) (mc_P G.2.1 G.2.2.1 G.2.2.2 av μ) (mc_Q G.2.1 classes (AA G.2.2.2) post) (mc_X G.2.1 classes (AA G.2.2.2) px) (mt_R M).cells (mt_R M).slots (AA G.2.2.2)
def CTH (G : mt_G) (M : mt_M) (hh : List (Nat × Nat × Nat × Nat)) (av : List Value) (μ : mu_M) (post : Option Value → mu_M → Prop) (px : String → mu_M → Prop) : Prop :=
  G.1.stackTraces = false → vx_Met G.1 (mt_y M) [.codeWith (mt_y M) (mt_c M) (mt_l M) (mt_r M) hh] (mt_R M) (mc_P G.2.1 G.2.2.1 G.2.2.2 av μ) (mc_Q G.2.1 classes (AA G.2.2.2) post) (mc_X G.2.1 classes (AA G.2.2.2) px) (mt_R M).cells (mt_R M).slots (AA G.2.2.2)
def EC (G : mt_G) (M : mt_M) (post : Option Value → mu_M → Prop) (px : String → mu_M → Prop) : mt_Q := fun below args s =>
  vx_MQ below (mc_Q G.2.1 classes (AA G.2.2.2) post) (mc_X G.2.1 classes (AA G.2.2.2) px) args s (mt_R M).cells (mt_R M).slots (AA G.2.2.2)
theorem CT.of {G : mt_G} {M : mt_M} {av : List Value} {μ : mu_M} {post : Option Value → mu_M → Prop} {px : String → mu_M → Prop} (hy : plainName (mt_y M).cls = true) (hh : mt_h M = some []) (hlen : (lg_sl av).length ≤ mt_l M)
    (body : WP G M (EC G M post px) (lv_args 0 av) 0 [] μ 0 0) : CT G M av μ post px := by
  intro hg
  refine vx_ofW (cc := mt_c M) (maxL := mt_l M) (ret := mt_r M) hy rfl ?_
  intro p e s m args below meth c s₁ B hml hno hv
  obtain ⟨rfl, hAm, hV⟩ := hv
  rw [lg_entry_eq]
  refine body hg p e s m av.toArray below meth c s.heap [] _ ⟨B.exec, B.bytes, B.returns, hml, findClass_of_methodNamed B.named, B.notSynchronized, fun h h9 => ?_, fun h => (name_of_methodNamed B.named B.method).1.trans h, hAm⟩ hV va_S.rf (lv_entry av hlen)
  rw [hh] at h9
  cases h9
  exact List.eq_nil_iff_forall_not_mem.mpr hno
theorem CTH.of {G : mt_G} {M : mt_M} {hh : List (Nat × Nat × Nat × Nat)} {av : List Value} {μ : mu_M} {post : Option Value → mu_M → Prop} {px : String → mu_M → Prop} (hy : plainName (mt_y M).cls = true) (hhm : mt_h M = some hh) (hlen : (lg_sl av).length ≤ mt_l M)
    (body : WP G M (EC G M post px) (lv_args 0 av) 0 [] μ 0 0) : CTH G M hh av μ post px := by
  intro hg
  refine vx_ofWH (cc := mt_c M) (maxL := mt_l M) (ret := mt_r M) (hh := hh) hy rfl ?_
  intro p e s m args below meth c s₁ B hml hv
  obtain ⟨rfl, hAm, hV⟩ := hv
  rw [lg_entry_eq]
  refine body hg p e s m av.toArray below meth c s.heap [] _ ⟨B.exec, B.bytes, B.returns, hml, findClass_of_methodNamed B.named, B.notSynchronized, fun h h9 => ?_, fun h => (name_of_methodNamed B.named B.method).1.trans h, hAm⟩ hV va_S.rf (lv_entry av hlen)
  rw [hhm] at h9
  cases h9
  exact vx_table (x := mt_y M) B (atoms_spec (ws := [Cond.codeWith (mt_y M) (mt_c M) (mt_l M) (mt_r M) hh]) B.pre _ List.mem_cons_self)
/-- a constructor's contract: it returns -/
def CTI (G : mt_G) (M : mt_M) (av : List Value) (μ : mu_M) (post : Option Value → mu_M → Prop) : Prop :=
  G.1.stackTraces = false → Met G.1 (mt_y M) [.code (mt_y M) (mt_c M) (mt_l M) (mt_r M)] (mt_R M) (mc_P G.2.1 G.2.2.1 G.2.2.2 av μ) (mc_Q G.2.1 classes (AA G.2.2.2) post) (mt_R M).cells (mt_R M).slots (AA G.2.2.2)
def ECI (G : mt_G) (M : mt_M) (post : Option Value → mu_M → Prop) : mt_Q := fun below args s =>
  MQ below (mc_Q G.2.1 classes (AA G.2.2.2) post) args s (mt_R M).cells (mt_R M).slots (AA G.2.2.2)
theorem CTI.of {G : mt_G} {M : mt_M} {av : List Value} {μ : mu_M} {post : Option Value → mu_M → Prop} (hy : plainName (mt_y M).cls = true) (hh : mt_h M = some []) (hlen : (lg_sl av).length ≤ mt_l M)
    (body : WP G M (ECI G M post) (lv_args 0 av) 0 [] μ 0 0) : CTI G M av μ post := by
  intro hg
  refine Met.ofW (cc := mt_c M) (maxL := mt_l M) (ret := mt_r M) hy rfl ?_
  intro p e s m args below meth c s₁ B hml hv
  obtain ⟨rfl, hAm, hV⟩ := hv
  rw [lg_entry_eq]
  refine body hg p e s m av.toArray below meth c s.heap [] _ ⟨B.exec, B.bytes, B.returns, hml, findClass_of_methodNamed B.named, B.notSynchronized, fun h h9 => ?_, fun h => (name_of_methodNamed B.named B.method).1.trans h, hAm⟩ hV va_S.rf (lv_entry av hlen)
  rw [hh] at h9
  cases h9
  obtain ⟨meth9, c9, h1, h2, -, -, -, -, h7, -⟩ := Cond.code_spec B.named (atoms_spec (ws := [Cond.code (mt_y M) (mt_c M) (mt_l M) (mt_r M)]) B.pre _ List.mem_cons_self)
  cases Option.some.inj (h1.symm.trans B.method)
  cases Option.some.inj (h2.symm.trans (Stand.of_body B).code)
  rw [Array.isEmpty_iff.mp h7]
  rfl
/-- locals by their number -/
def lkp : List (Nat × Value) → Nat → Option Value
  | [], _ => none
  | q :: t, i => cond (Nat.beq q.1 i) (some q.2) (lkp t i)
theorem lkp_mem : ∀ {lo : List (Nat × Value)} {i : Nat} {v : Value}, lkp lo i = some v → (i, v) ∈ lo
  | [], _, _, h => by cases h
  | q :: t, i, v, h => by
    unfold lkp at h
    cases hb : Nat.beq q.1 i with
    | true =>
      rw [hb] at h
      have e1 : q.1 = i := Nat.eq_of_beq_eq_true hb
      have e2 : q.2 = v := Option.some.inj h
      rw [← e1, ← e2]
      exact List.mem_cons_self
    | false =>
      rw [hb] at h
      exact List.mem_cons_of_mem _ (lkp_mem h)
theorem lkp_at {ls : Array Slot} {nL : Nat} {lo : List (Nat × Value)} (h : lv_has ls nL lo) {i : Nat} {v : Value} (hk : lkp lo i = some v) : ls[i]? = some (.val v) := h.2.2 (i, v) (lkp_mem hk)
def lst (lo : List (Nat × Value)) (i : Nat) (v : Value) : List (Nat × Value) := (i, v) :: lo.filter (fun q => !(q.1 == i) && !(q.1 + 1 == i && q.2.category == 2))
def lstL (lo : List (Nat × Value)) (i : Nat) (v : Value) : List (Nat × Value) := (i, v) :: lo.filter (fun q => !(q.1 == i) && (!(q.1 == i + 1) && !(q.1 + 1 == i && q.2.category == 2)))
/-- a field's place: the pool's number idx of class own names field k of class ci -/
def fl_P (own : String) (idx ci k : Nat) : Prop := ∃ (C : String) (T : u_T) (N : Nat) (ty : Nat → FieldType), mk_C WALL classes ci C T N ty ∧ k < N ∧ Cond.fieldLink own idx (T k).1 (T k).2.1 (T k).2.2.1 ∈ WALL
def fp_P (own : String) (idx ci k : Nat) (t : FieldType) : Prop := ∃ (C : String) (T : u_T) (N : Nat) (ty : Nat → FieldType), mk_C WALL classes ci C T N ty ∧ k < N ∧ Cond.fieldLink own idx (T k).1 (T k).2.1 (T k).2.2.1 ∈ WALL ∧ (T k).2.2.2 = false ∧ ty k = t
def ff_P (own : String) (idx ci k : Nat) (t : FieldType) : Prop := ∃ (C : String) (T : u_T) (N : Nat) (ty : Nat → FieldType), mk_C WALL classes ci C T N ty ∧ k < N ∧ Cond.fieldLink own idx (T k).1 (T k).2.1 (T k).2.2.1 ∈ WALL ∧ (T k).2.2.2 = true ∧ (T k).1 = own ∧ ty k = t
def nw_P (own : String) (idx ci N : Nat) (fs : List Value) : Prop := ∃ (C : String) (T : u_T) (ty : Nat → FieldType), mk_C WALL classes ci C T N ty ∧ Cond.classLink own idx C ∈ WALL ∧ Cond.instantiable C N ∈ WALL ∧ Cond.initialized C ∈ WALL ∧ ∀ j, j < N → defaultValue (ty j) = vp_V fs j
def cb_P (own : String) (idx : Nat) (M : mt_M) (n : Nat) : Prop := Cond.methodLink own idx (mt_y M) ∈ WALL ∧ Cond.initialized (mt_y M).cls ∈ WALL ∧ ((mt_y M).cls ≠ "java/lang/invoke/MethodHandle" ∧ (mt_y M).cls ≠ "java/lang/invoke/VarHandle") ∧ (parseMethodDescriptor (mt_y M).desc).map (fun d => d.parameters.length) = some n
def cd_P (M : mt_M) : Prop := Cond.code (mt_y M) (mt_c M) (mt_l M) (mt_r M) ∈ WALL
def cv_P (own : String) (idx ci : Nat) (M : mt_M) (n : Nat) : Prop := cb_P own idx M n ∧ Cond.instanceMethod (mt_y M) ∈ WALL ∧ ∃ (C : String) (T : u_T) (N : Nat), classes[ci]? = some (C, T, N) ∧ Cond.selects C (mt_y M) (mt_y M) ∈ WALL
def cs_P (own : String) (idx : Nat) (M : mt_M) (n : Nat) : Prop := cb_P own idx M n ∧ Cond.static (mt_y M) ∈ WALL
def ci_P (own : String) (idx : Nat) (M : mt_M) (n : Nat) : Prop := cb_P own idx M n ∧ Cond.instanceMethod (mt_y M) ∈ WALL ∧ (mt_y M).name = "<init>" ∧ mt_r M = none
def cn_P (own : String) (idx : Nat) (M : mt_M) (host : String) (n : Nat) : Prop := (own, idx, mt_y M, host) ∈ NSTS ∧ Cond.initialized (mt_y M).cls ∈ WALL ∧ ((mt_y M).cls ≠ "java/lang/invoke/MethodHandle" ∧ (mt_y M).cls ≠ "java/lang/invoke/VarHandle") ∧ (parseMethodDescriptor (mt_y M).desc).map (fun d => d.parameters.length) = some n ∧ Cond.instanceMethod (mt_y M) ∈ WALL ∧ (mt_y M).name = "<init>" ∧ mt_r M = none
/-- the callee's frames and locals Bundle.fit -/
def rf_P (M' M : mt_M) : Prop := (mt_R M').frames + 1 ≤ (mt_R M).frames ∧ 8 + (mt_l M' + 11) + (mt_R M').locals ≤ (mt_R M).locals
def th_P (own cls text : String) (ik is ic : Nat) (names : List String) : Prop := Bundle.fit cls = true ∧ (∀ n ∈ names, Bundle.fit n = true) ∧ Cond.classLink own ik cls ∈ WALL ∧ Cond.initialized cls ∈ WALL ∧ (own, is, text) ∈ STRS ∧ (∀ w ∈ vx_atS own ic cls names, w ∈ WALL ∨ w ∈ WBAD) ∧ ∀ w ∈ Cond.classLink own ik cls :: Cond.initialized cls :: vx_atS own ic cls names, vx_ot w = true
section WPR
variable {G : mt_G} {M : mt_M} {QE : mt_Q} {lo : List (Nat × Value)} {pc : Nat} {rest : List Value} {μ : mu_M} {cn sn : Nat}
theorem WP.loc {st : List Value} (lo' : List (Nat × Value)) (h : lo'.map (fun q => lkp lo q.1) = lo'.map (fun q => some q.2)) (k : WP G M QE lo' pc st μ cn sn) : WP G M QE lo pc st μ cn sn :=
  fun hg p e s m args below meth c H locs ls hM hV hS hL => k hg p e s m args below meth c H locs ls hM hV hS ⟨hL.1, hL.2.1, fun q hq => lkp_at hL (List.map_inj_left.mp h q hq)⟩
theorem WP.widen {st : List Value} {k n : Nat} (h1 : cn ≤ k) (h2 : sn ≤ n) (kk : WP G M QE lo pc st μ k n) : WP G M QE lo pc st μ cn sn :=
  fun hg p e s m args below meth c H locs ls hM hV hS hL => W.widen h1 h2 (kk hg p e s m args below meth c H locs ls hM hV hS hL)
theorem WP.at {st st' : List Value} {pc' : Nat} (h1 : pc = pc') (h2 : st = st') (kk : WP G M QE lo pc' st' μ cn sn) : WP G M QE lo pc st μ cn sn := by
  rw [h1, h2]; exact kk
theorem wp_iload_n {k : Fin 4} {i : Nat} {x : Int32} (hdg : decode (mt_c M) pc = .ok (.iload_n k, 1)) (hi : (k : Nat) = i) (h : lkp lo i = some (.int x)) (kk : WP G M QE lo (pc + 1) (.int x :: rest) μ cn sn) : WP G M QE lo pc rest μ cn sn :=
  fun hg p e s m args below meth c H locs ls hM hV hS hL => lv_iload_n hM.1 hM.2.1 hdg hi (lkp_at hL h) (kk hg p e s m args below meth c H locs ls hM hV hS hL)
theorem wp_iload {i : Nat} {x : Int32} (hdg : decode (mt_c M) pc = .ok (.iload i, 2)) (h : lkp lo i = some (.int x)) (kk : WP G M QE lo (pc + 2) (.int x :: rest) μ cn sn) : WP G M QE lo pc rest μ cn sn :=
  fun hg p e s m args below meth c H locs ls hM hV hS hL => lv_iload hM.1 hM.2.1 hdg (lkp_at hL h) (kk hg p e s m args below meth c H locs ls hM hV hS hL)
theorem wp_lload_n {k : Fin 4} {i : Nat} {x : Int64} (hdg : decode (mt_c M) pc = .ok (.lload_n k, 1)) (hi : (k : Nat) = i) (h : lkp lo i = some (.long x)) (kk : WP G M QE lo (pc + 1) (.long x :: rest) μ cn sn) : WP G M QE lo pc rest μ cn sn :=
  fun hg p e s m args below meth c H locs ls hM hV hS hL => lv_lload_n hM.1 hM.2.1 hdg hi (lkp_at hL h) (kk hg p e s m args below meth c H locs ls hM hV hS hL)
theorem wp_lload {i : Nat} {x : Int64} (hdg : decode (mt_c M) pc = .ok (.lload i, 2)) (h : lkp lo i = some (.long x)) (kk : WP G M QE lo (pc + 2) (.long x :: rest) μ cn sn) : WP G M QE lo pc rest μ cn sn :=
  fun hg p e s m args below meth c H locs ls hM hV hS hL => lv_lload hM.1 hM.2.1 hdg (lkp_at hL h) (kk hg p e s m args below meth c H locs ls hM hV hS hL)
theorem wp_aload_n {k : Fin 4} {i : Nat} {x : Nat} (hdg : decode (mt_c M) pc = .ok (.aload_n k, 1)) (hi : (k : Nat) = i) (h : lkp lo i = some (.ref x)) (kk : WP G M QE lo (pc + 1) (.ref x :: rest) μ cn sn) : WP G M QE lo pc rest μ cn sn :=
  fun hg p e s m args below meth c H locs ls hM hV hS hL => lv_aload_n hM.1 hM.2.1 hdg hi (lkp_at hL h) (kk hg p e s m args below meth c H locs ls hM hV hS hL)
theorem wp_aload {i : Nat} {x : Nat} (hdg : decode (mt_c M) pc = .ok (.aload i, 2)) (h : lkp lo i = some (.ref x)) (kk : WP G M QE lo (pc + 2) (.ref x :: rest) μ cn sn) : WP G M QE lo pc rest μ cn sn :=
  fun hg p e s m args below meth c H locs ls hM hV hS hL => lv_aload hM.1 hM.2.1 hdg (lkp_at hL h) (kk hg p e s m args below meth c H locs ls hM hV hS hL)
theorem wp_istore_n {k : Fin 4} {i : Nat} {x : Int32} (hdg : decode (mt_c M) pc = .ok (.istore_n k, 1)) (hi : (k : Nat) = i) (hn : i < mt_l M) (kk : WP G M QE (lst lo i (.int x)) (pc + 1) rest μ cn sn) : WP G M QE lo pc (.int x :: rest) μ cn sn :=
  fun hg p e s m args below meth c H locs ls hM hV hS hL => lv_istore_n hM.1 hM.2.1 hdg hi hL hn rfl (fun ls hL => kk hg p e s m args below meth c H locs ls hM hV hS hL)
theorem wp_istore {i : Nat} {x : Int32} (hdg : decode (mt_c M) pc = .ok (.istore i, 2)) (hn : i < mt_l M) (kk : WP G M QE (lst lo i (.int x)) (pc + 2) rest μ cn sn) : WP G M QE lo pc (.int x :: rest) μ cn sn :=
  fun hg p e s m args below meth c H locs ls hM hV hS hL => lv_istore hM.1 hM.2.1 hdg hL hn rfl (fun ls hL => kk hg p e s m args below meth c H locs ls hM hV hS hL)
theorem wp_lstore_n {k : Fin 4} {i : Nat} {x : Int64} (hdg : decode (mt_c M) pc = .ok (.lstore_n k, 1)) (hi : (k : Nat) = i) (hn : i + 1 < mt_l M) (kk : WP G M QE (lstL lo i (.long x)) (pc + 1) rest μ cn sn) : WP G M QE lo pc (.long x :: rest) μ cn sn :=
  fun hg p e s m args below meth c H locs ls hM hV hS hL => lv_lstore_n hM.1 hM.2.1 hdg hi hL hn rfl (fun ls hL => kk hg p e s m args below meth c H locs ls hM hV hS hL)
theorem wp_lstore {i : Nat} {x : Int64} (hdg : decode (mt_c M) pc = .ok (.lstore i, 2)) (hn : i + 1 < mt_l M) (kk : WP G M QE (lstL lo i (.long x)) (pc + 2) rest μ cn sn) : WP G M QE lo pc (.long x :: rest) μ cn sn :=
  fun hg p e s m args below meth c H locs ls hM hV hS hL => lv_lstore hM.1 hM.2.1 hdg hL hn rfl (fun ls hL => kk hg p e s m args below meth c H locs ls hM hV hS hL)
theorem wp_astore_n {k : Fin 4} {i : Nat} {x : Nat} (hdg : decode (mt_c M) pc = .ok (.astore_n k, 1)) (hi : (k : Nat) = i) (hn : i < mt_l M) (kk : WP G M QE (lst lo i (.ref x)) (pc + 1) rest μ cn sn) : WP G M QE lo pc (.ref x :: rest) μ cn sn :=
  fun hg p e s m args below meth c H locs ls hM hV hS hL => lv_astore_n hM.1 hM.2.1 hdg hi hL hn rfl (fun ls hL => kk hg p e s m args below meth c H locs ls hM hV hS hL)
theorem wp_astore {i : Nat} {x : Nat} (hdg : decode (mt_c M) pc = .ok (.astore i, 2)) (hn : i < mt_l M) (kk : WP G M QE (lst lo i (.ref x)) (pc + 2) rest μ cn sn) : WP G M QE lo pc (.ref x :: rest) μ cn sn :=
  fun hg p e s m args below meth c H locs ls hM hV hS hL => lv_astore hM.1 hM.2.1 hdg hL hn rfl (fun ls hL => kk hg p e s m args below meth c H locs ls hM hV hS hL)
theorem wp_iinc {i : Nat} {d : Int} {x v : Int32} (hdg : decode (mt_c M) pc = .ok (.iinc i d, 3)) (h : lkp lo i = some (.int x)) (hv : x + Int32.ofInt d = v) (hn : i < mt_l M) (kk : WP G M QE (lst lo i (.int v)) (pc + 3) rest μ cn sn) : WP G M QE lo pc rest μ cn sn := by
  intro hg p e s m args below meth c H locs ls hM hV hS hL
  obtain ⟨k, hk⟩ := List.getElem?_of_mem (lkp_mem h)
  exact lv_iinc hM.1 hM.2.1 hdg hL hk hv hn rfl (fun ls hL => kk hg p e s m args below meth c H locs ls hM hV hS hL)
theorem wp_ishl {x y : Int32} (hdg : decode (mt_c M) pc = .ok (.ishl, 1)) (k : WP G M QE lo (pc + 1) (.int (x <<< (y &&& 31)) :: rest) μ cn sn) : WP G M QE lo pc (.int y :: .int x :: rest) μ cn sn :=
  fun hg p e s m args below meth c H locs ls hM hV hS hL => lv_ishl hM.1 hM.2.1 hdg (k hg p e s m args below meth c H locs ls hM hV hS hL)
theorem wp_ishr {x y : Int32} (hdg : decode (mt_c M) pc = .ok (.ishr, 1)) (k : WP G M QE lo (pc + 1) (.int (x >>> (y &&& 31)) :: rest) μ cn sn) : WP G M QE lo pc (.int y :: .int x :: rest) μ cn sn :=
  fun hg p e s m args below meth c H locs ls hM hV hS hL => lv_ishr hM.1 hM.2.1 hdg (k hg p e s m args below meth c H locs ls hM hV hS hL)
theorem wp_tableIn {dflt lo9 hi9 : Int} {offs : Array Int} {len : Nat} {x : Int32} {off : Int} {tgt : Nat} (hdg : decode (mt_c M) pc = .ok (.tableswitch dflt lo9 hi9 offs, len)) (h1 : ¬ x.toInt < lo9) (h2 : ¬ hi9 < x.toInt) (ho : offs[(x.toInt - lo9).toNat]? = some off) (ht : (pc : Int) + off = (tgt : Int)) (k : WP G M QE lo tgt rest μ cn sn) : WP G M QE lo pc (.int x :: rest) μ cn sn :=
  fun hg p e s m args below meth c H locs ls hM hV hS hL => lv_tableIn hM.1 hM.2.1 hdg h1 h2 ho ht (k hg p e s m args below meth c H locs ls hM hV hS hL)
theorem wp_tableOut {dflt lo9 hi9 : Int} {offs : Array Int} {len : Nat} {x : Int32} {tgt : Nat} (hdg : decode (mt_c M) pc = .ok (.tableswitch dflt lo9 hi9 offs, len)) (h : x.toInt < lo9 ∨ hi9 < x.toInt) (ht : (pc : Int) + dflt = (tgt : Int)) (k : WP G M QE lo tgt rest μ cn sn) : WP G M QE lo pc (.int x :: rest) μ cn sn :=
  fun hg p e s m args below meth c H locs ls hM hV hS hL => lv_tableOut hM.1 hM.2.1 hdg h ht (k hg p e s m args below meth c H locs ls hM hV hS hL)
theorem wp_lookup {dflt : Int} {ps : Array (Int × Int)} {len : Nat} {x : Int32} {off : Int} {tgt : Nat} (hdg : decode (mt_c M) pc = .ok (.lookupswitch dflt ps, len)) (hp : (ps.toList.zip (ps.toList.drop 1)).all (fun (a, next) => a.1 < next.1) = true) (ho : Op.lookupswitch.offset ps.toList dflt x.toInt = off) (ht : (pc : Int) + off = (tgt : Int)) (k : WP G M QE lo tgt rest μ cn sn) : WP G M QE lo pc (.int x :: rest) μ cn sn :=
  fun hg p e s m args below meth c H locs ls hM hV hS hL => lv_lookup hM.1 hM.2.1 hdg hp ho ht (k hg p e s m args below meth c H locs ls hM hV hS hL)
theorem wp_iconst {n : Int} {v : Int32} (hdg : decode (mt_c M) pc = .ok (.iconst n, 1)) (hv : Int32.ofInt n = v) (k : WP G M QE lo (pc + 1) (.int v :: rest) μ cn sn) : WP G M QE lo pc (rest) μ cn sn :=
  fun hg p e s m args below meth c H locs ls hM hV hS hL => lv_iconst hM.1 hM.2.1 hdg hv (k hg p e s m args below meth c H locs ls hM hV hS hL)
theorem wp_bipush {n : Int} {v : Int32} (hdg : decode (mt_c M) pc = .ok (.bipush n, 2)) (hv : (Int8.ofInt n).toInt32 = v) (k : WP G M QE lo (pc + 2) (.int v :: rest) μ cn sn) : WP G M QE lo pc (rest) μ cn sn :=
  fun hg p e s m args below meth c H locs ls hM hV hS hL => lv_bipush hM.1 hM.2.1 hdg hv (k hg p e s m args below meth c H locs ls hM hV hS hL)
theorem wp_sipush {n : Int} {v : Int32} (hdg : decode (mt_c M) pc = .ok (.sipush n, 3)) (hv : (Int16.ofInt n).toInt32 = v) (k : WP G M QE lo (pc + 3) (.int v :: rest) μ cn sn) : WP G M QE lo pc (rest) μ cn sn :=
  fun hg p e s m args below meth c H locs ls hM hV hS hL => lv_sipush hM.1 hM.2.1 hdg hv (k hg p e s m args below meth c H locs ls hM hV hS hL)
theorem wp_lconst {n : Fin 2} {v : Int64} (hdg : decode (mt_c M) pc = .ok (.lconst n, 1)) (hv : Int64.ofNat (n : Nat) = v) (k : WP G M QE lo (pc + 1) (.long v :: rest) μ cn sn) : WP G M QE lo pc (rest) μ cn sn :=
  fun hg p e s m args below meth c H locs ls hM hV hS hL => lv_lconst hM.1 hM.2.1 hdg hv (k hg p e s m args below meth c H locs ls hM hV hS hL)
theorem wp_iadd {x y : Int32} (hdg : decode (mt_c M) pc = .ok (.iadd, 1)) (k : WP G M QE lo (pc + 1) (.int (x + y) :: rest) μ cn sn) : WP G M QE lo pc (.int y :: .int x :: rest) μ cn sn :=
  fun hg p e s m args below meth c H locs ls hM hV hS hL => lv_iadd hM.1 hM.2.1 hdg (k hg p e s m args below meth c H locs ls hM hV hS hL)
theorem wp_isub {x y : Int32} (hdg : decode (mt_c M) pc = .ok (.isub, 1)) (k : WP G M QE lo (pc + 1) (.int (x - y) :: rest) μ cn sn) : WP G M QE lo pc (.int y :: .int x :: rest) μ cn sn :=
  fun hg p e s m args below meth c H locs ls hM hV hS hL => lv_isub hM.1 hM.2.1 hdg (k hg p e s m args below meth c H locs ls hM hV hS hL)
theorem wp_imul {x y : Int32} (hdg : decode (mt_c M) pc = .ok (.imul, 1)) (k : WP G M QE lo (pc + 1) (.int (x * y) :: rest) μ cn sn) : WP G M QE lo pc (.int y :: .int x :: rest) μ cn sn :=
  fun hg p e s m args below meth c H locs ls hM hV hS hL => lv_imul hM.1 hM.2.1 hdg (k hg p e s m args below meth c H locs ls hM hV hS hL)
theorem wp_iand {x y : Int32} (hdg : decode (mt_c M) pc = .ok (.iand, 1)) (k : WP G M QE lo (pc + 1) (.int (x &&& y) :: rest) μ cn sn) : WP G M QE lo pc (.int y :: .int x :: rest) μ cn sn :=
  fun hg p e s m args below meth c H locs ls hM hV hS hL => lv_iand hM.1 hM.2.1 hdg (k hg p e s m args below meth c H locs ls hM hV hS hL)
theorem wp_ior {x y : Int32} (hdg : decode (mt_c M) pc = .ok (.ior, 1)) (k : WP G M QE lo (pc + 1) (.int (x ||| y) :: rest) μ cn sn) : WP G M QE lo pc (.int y :: .int x :: rest) μ cn sn :=
  fun hg p e s m args below meth c H locs ls hM hV hS hL => lv_ior hM.1 hM.2.1 hdg (k hg p e s m args below meth c H locs ls hM hV hS hL)
theorem wp_ixor {x y : Int32} (hdg : decode (mt_c M) pc = .ok (.ixor, 1)) (k : WP G M QE lo (pc + 1) (.int (x ^^^ y) :: rest) μ cn sn) : WP G M QE lo pc (.int y :: .int x :: rest) μ cn sn :=
  fun hg p e s m args below meth c H locs ls hM hV hS hL => lv_ixor hM.1 hM.2.1 hdg (k hg p e s m args below meth c H locs ls hM hV hS hL)
theorem wp_idiv {x y : Int32} (hdg : decode (mt_c M) pc = .ok (.idiv, 1)) (hne : ¬ y = 0) (k : WP G M QE lo (pc + 1) (.int (x / y) :: rest) μ cn sn) : WP G M QE lo pc (.int y :: .int x :: rest) μ cn sn :=
  fun hg p e s m args below meth c H locs ls hM hV hS hL => lv_idiv hM.1 hM.2.1 hdg hne (k hg p e s m args below meth c H locs ls hM hV hS hL)
theorem wp_irem {x y : Int32} (hdg : decode (mt_c M) pc = .ok (.irem, 1)) (hne : ¬ y = 0) (k : WP G M QE lo (pc + 1) (.int (x - x / y * y) :: rest) μ cn sn) : WP G M QE lo pc (.int y :: .int x :: rest) μ cn sn :=
  fun hg p e s m args below meth c H locs ls hM hV hS hL => lv_irem hM.1 hM.2.1 hdg hne (k hg p e s m args below meth c H locs ls hM hV hS hL)
theorem wp_ineg {x : Int32} (hdg : decode (mt_c M) pc = .ok (.ineg, 1)) (k : WP G M QE lo (pc + 1) (.int (-x) :: rest) μ cn sn) : WP G M QE lo pc (.int x :: rest) μ cn sn :=
  fun hg p e s m args below meth c H locs ls hM hV hS hL => lv_ineg hM.1 hM.2.1 hdg (k hg p e s m args below meth c H locs ls hM hV hS hL)
theorem wp_ladd {x y : Int64} (hdg : decode (mt_c M) pc = .ok (.ladd, 1)) (k : WP G M QE lo (pc + 1) (.long (x + y) :: rest) μ cn sn) : WP G M QE lo pc (.long y :: .long x :: rest) μ cn sn :=
  fun hg p e s m args below meth c H locs ls hM hV hS hL => lv_ladd hM.1 hM.2.1 hdg (k hg p e s m args below meth c H locs ls hM hV hS hL)
theorem wp_lsub {x y : Int64} (hdg : decode (mt_c M) pc = .ok (.lsub, 1)) (k : WP G M QE lo (pc + 1) (.long (x - y) :: rest) μ cn sn) : WP G M QE lo pc (.long y :: .long x :: rest) μ cn sn :=
  fun hg p e s m args below meth c H locs ls hM hV hS hL => lv_lsub hM.1 hM.2.1 hdg (k hg p e s m args below meth c H locs ls hM hV hS hL)
theorem wp_iushr {x y v : Int32} (hdg : decode (mt_c M) pc = .ok (.iushr, 1)) (hv : (x.toUInt32 >>> (y.toUInt32 &&& Int32.toUInt32 31)).toInt32 = v) (k : WP G M QE lo (pc + 1) (.int v :: rest) μ cn sn) : WP G M QE lo pc (.int y :: .int x :: rest) μ cn sn :=
  fun hg p e s m args below meth c H locs ls hM hV hS hL => lv_iushr hM.1 hM.2.1 hdg hv (k hg p e s m args below meth c H locs ls hM hV hS hL)
theorem wp_i2l {x : Int32} {v : Int64} (hdg : decode (mt_c M) pc = .ok (.i2l, 1)) (hv : x.toInt64 = v) (k : WP G M QE lo (pc + 1) (.long v :: rest) μ cn sn) : WP G M QE lo pc (.int x :: rest) μ cn sn :=
  fun hg p e s m args below meth c H locs ls hM hV hS hL => lv_i2l hM.1 hM.2.1 hdg hv (k hg p e s m args below meth c H locs ls hM hV hS hL)
theorem wp_l2i {x : Int64} {v : Int32} (hdg : decode (mt_c M) pc = .ok (.l2i, 1)) (hv : x.toInt32 = v) (k : WP G M QE lo (pc + 1) (.int v :: rest) μ cn sn) : WP G M QE lo pc (.long x :: rest) μ cn sn :=
  fun hg p e s m args below meth c H locs ls hM hV hS hL => lv_l2i hM.1 hM.2.1 hdg hv (k hg p e s m args below meth c H locs ls hM hV hS hL)
theorem wp_dup {va : Value} (hdg : decode (mt_c M) pc = .ok (.dup, 1)) (hva : va.category = 1) (k : WP G M QE lo (pc + 1) (va :: va :: rest) μ cn sn) : WP G M QE lo pc (va :: rest) μ cn sn :=
  fun hg p e s m args below meth c H locs ls hM hV hS hL => lv_dup hM.1 hM.2.1 hdg hva (k hg p e s m args below meth c H locs ls hM hV hS hL)
theorem wp_pop {va : Value} (hdg : decode (mt_c M) pc = .ok (.pop, 1)) (hva : va.category = 1) (k : WP G M QE lo (pc + 1) (rest) μ cn sn) : WP G M QE lo pc (va :: rest) μ cn sn :=
  fun hg p e s m args below meth c H locs ls hM hV hS hL => lv_pop hM.1 hM.2.1 hdg hva (k hg p e s m args below meth c H locs ls hM hV hS hL)
theorem wp_dup_x1 {va vb : Value} (hdg : decode (mt_c M) pc = .ok (.dup_x1, 1)) (hva : va.category = 1) (hvb : vb.category = 1) (k : WP G M QE lo (pc + 1) (va :: vb :: va :: rest) μ cn sn) : WP G M QE lo pc (va :: vb :: rest) μ cn sn :=
  fun hg p e s m args below meth c H locs ls hM hV hS hL => lv_dup_x1 hM.1 hM.2.1 hdg hva hvb (k hg p e s m args below meth c H locs ls hM hV hS hL)
theorem wp_dup_x2 {va vb vd : Value} (hdg : decode (mt_c M) pc = .ok (.dup_x2, 1)) (hva : va.category = 1) (hvb : vb.category = 1) (hvd : vd.category = 1) (k : WP G M QE lo (pc + 1) (va :: vb :: vd :: va :: rest) μ cn sn) : WP G M QE lo pc (va :: vb :: vd :: rest) μ cn sn :=
  fun hg p e s m args below meth c H locs ls hM hV hS hL => lv_dup_x2 hM.1 hM.2.1 hdg hva hvb hvd (k hg p e s m args below meth c H locs ls hM hV hS hL)
theorem wp_dup2_11 {va vb : Value} (hdg : decode (mt_c M) pc = .ok (.dup2, 1)) (hva : va.category = 1) (hvb : vb.category = 1) (k : WP G M QE lo (pc + 1) (va :: vb :: va :: vb :: rest) μ cn sn) : WP G M QE lo pc (va :: vb :: rest) μ cn sn :=
  fun hg p e s m args below meth c H locs ls hM hV hS hL => lv_dup2_11 hM.1 hM.2.1 hdg hva hvb (k hg p e s m args below meth c H locs ls hM hV hS hL)
theorem wp_pop2_2 {va : Value} (hdg : decode (mt_c M) pc = .ok (.pop2, 1)) (hva : va.category = 2) (k : WP G M QE lo (pc + 1) (rest) μ cn sn) : WP G M QE lo pc (va :: rest) μ cn sn :=
  fun hg p e s m args below meth c H locs ls hM hV hS hL => lv_pop2_2 hM.1 hM.2.1 hdg hva (k hg p e s m args below meth c H locs ls hM hV hS hL)
theorem wp_pop2_11 {va vb : Value} (hdg : decode (mt_c M) pc = .ok (.pop2, 1)) (hva : va.category = 1) (hvb : vb.category = 1) (k : WP G M QE lo (pc + 1) (rest) μ cn sn) : WP G M QE lo pc (va :: vb :: rest) μ cn sn :=
  fun hg p e s m args below meth c H locs ls hM hV hS hL => lv_pop2_11 hM.1 hM.2.1 hdg hva hvb (k hg p e s m args below meth c H locs ls hM hV hS hL)
theorem wp_goto {off : Int} {tgt : Nat} (hdg : decode (mt_c M) pc = .ok (.goto off, 3)) (ht : (pc : Int) + off = (tgt : Int)) (k : WP G M QE lo tgt rest μ cn sn) : WP G M QE lo pc rest μ cn sn :=
  fun hg p e s m args below meth c H locs ls hM hV hS hL => lv_goto hM.1 hM.2.1 hdg ht (k hg p e s m args below meth c H locs ls hM hV hS hL)
theorem wp_null (hdg : decode (mt_c M) pc = .ok (.aconst_null, 1)) (k : WP G M QE lo (pc + 1) (.null :: rest) μ cn sn) : WP G M QE lo pc rest μ cn sn :=
  fun hg p e s m args below meth c H locs ls hM hV hS hL => lv_null hM.1 hM.2.1 hdg (k hg p e s m args below meth c H locs ls hM hV hS hL)
theorem wp_if_eq {x : Int32} {off : Int} {tgt : Nat} (hdg : decode (mt_c M) pc = .ok (.ifCond .eq off, 3)) (ht : (pc : Int) + off = (tgt : Int)) (kt : x = 0 → WP G M QE lo tgt rest μ cn sn) (kf : ¬ x = 0 → WP G M QE lo (pc + 3) rest μ cn sn) : WP G M QE lo pc (.int x :: rest) μ cn sn :=
  fun hg p e s m args below meth c H locs ls hM hV hS hL => lv_if_eq hM.1 hM.2.1 hdg ht (fun h9 => kt h9 hg p e s m args below meth c H locs ls hM hV hS hL) (fun h9 => kf h9 hg p e s m args below meth c H locs ls hM hV hS hL)
theorem wp_if_ne {x : Int32} {off : Int} {tgt : Nat} (hdg : decode (mt_c M) pc = .ok (.ifCond .ne off, 3)) (ht : (pc : Int) + off = (tgt : Int)) (kt : ¬ x = 0 → WP G M QE lo tgt rest μ cn sn) (kf : x = 0 → WP G M QE lo (pc + 3) rest μ cn sn) : WP G M QE lo pc (.int x :: rest) μ cn sn :=
  fun hg p e s m args below meth c H locs ls hM hV hS hL => lv_if_ne hM.1 hM.2.1 hdg ht (fun h9 => kt h9 hg p e s m args below meth c H locs ls hM hV hS hL) (fun h9 => kf h9 hg p e s m args below meth c H locs ls hM hV hS hL)
theorem wp_if_lt {x : Int32} {off : Int} {tgt : Nat} (hdg : decode (mt_c M) pc = .ok (.ifCond .lt off, 3)) (ht : (pc : Int) + off = (tgt : Int)) (kt : x < 0 → WP G M QE lo tgt rest μ cn sn) (kf : ¬ x < 0 → WP G M QE lo (pc + 3) rest μ cn sn) : WP G M QE lo pc (.int x :: rest) μ cn sn :=
  fun hg p e s m args below meth c H locs ls hM hV hS hL => lv_if_lt hM.1 hM.2.1 hdg ht (fun h9 => kt h9 hg p e s m args below meth c H locs ls hM hV hS hL) (fun h9 => kf h9 hg p e s m args below meth c H locs ls hM hV hS hL)
theorem wp_if_ge {x : Int32} {off : Int} {tgt : Nat} (hdg : decode (mt_c M) pc = .ok (.ifCond .ge off, 3)) (ht : (pc : Int) + off = (tgt : Int)) (kt : 0 ≤ x → WP G M QE lo tgt rest μ cn sn) (kf : ¬ 0 ≤ x → WP G M QE lo (pc + 3) rest μ cn sn) : WP G M QE lo pc (.int x :: rest) μ cn sn :=
  fun hg p e s m args below meth c H locs ls hM hV hS hL => lv_if_ge hM.1 hM.2.1 hdg ht (fun h9 => kt h9 hg p e s m args below meth c H locs ls hM hV hS hL) (fun h9 => kf h9 hg p e s m args below meth c H locs ls hM hV hS hL)
theorem wp_if_gt {x : Int32} {off : Int} {tgt : Nat} (hdg : decode (mt_c M) pc = .ok (.ifCond .gt off, 3)) (ht : (pc : Int) + off = (tgt : Int)) (kt : 0 < x → WP G M QE lo tgt rest μ cn sn) (kf : ¬ 0 < x → WP G M QE lo (pc + 3) rest μ cn sn) : WP G M QE lo pc (.int x :: rest) μ cn sn :=
  fun hg p e s m args below meth c H locs ls hM hV hS hL => lv_if_gt hM.1 hM.2.1 hdg ht (fun h9 => kt h9 hg p e s m args below meth c H locs ls hM hV hS hL) (fun h9 => kf h9 hg p e s m args below meth c H locs ls hM hV hS hL)
theorem wp_if_le {x : Int32} {off : Int} {tgt : Nat} (hdg : decode (mt_c M) pc = .ok (.ifCond .le off, 3)) (ht : (pc : Int) + off = (tgt : Int)) (kt : x ≤ 0 → WP G M QE lo tgt rest μ cn sn) (kf : ¬ x ≤ 0 → WP G M QE lo (pc + 3) rest μ cn sn) : WP G M QE lo pc (.int x :: rest) μ cn sn :=
  fun hg p e s m args below meth c H locs ls hM hV hS hL => lv_if_le hM.1 hM.2.1 hdg ht (fun h9 => kt h9 hg p e s m args below meth c H locs ls hM hV hS hL) (fun h9 => kf h9 hg p e s m args below meth c H locs ls hM hV hS hL)
theorem wp_icmp_eq {x y : Int32} {off : Int} {tgt : Nat} (hdg : decode (mt_c M) pc = .ok (.if_icmp .eq off, 3)) (ht : (pc : Int) + off = (tgt : Int)) (kt : x = y → WP G M QE lo tgt rest μ cn sn) (kf : ¬ x = y → WP G M QE lo (pc + 3) rest μ cn sn) : WP G M QE lo pc (.int y :: .int x :: rest) μ cn sn :=
  fun hg p e s m args below meth c H locs ls hM hV hS hL => lv_icmp_eq hM.1 hM.2.1 hdg ht (fun h9 => kt h9 hg p e s m args below meth c H locs ls hM hV hS hL) (fun h9 => kf h9 hg p e s m args below meth c H locs ls hM hV hS hL)
theorem wp_icmp_ne {x y : Int32} {off : Int} {tgt : Nat} (hdg : decode (mt_c M) pc = .ok (.if_icmp .ne off, 3)) (ht : (pc : Int) + off = (tgt : Int)) (kt : ¬ x = y → WP G M QE lo tgt rest μ cn sn) (kf : x = y → WP G M QE lo (pc + 3) rest μ cn sn) : WP G M QE lo pc (.int y :: .int x :: rest) μ cn sn :=
  fun hg p e s m args below meth c H locs ls hM hV hS hL => lv_icmp_ne hM.1 hM.2.1 hdg ht (fun h9 => kt h9 hg p e s m args below meth c H locs ls hM hV hS hL) (fun h9 => kf h9 hg p e s m args below meth c H locs ls hM hV hS hL)
theorem wp_icmp_lt {x y : Int32} {off : Int} {tgt : Nat} (hdg : decode (mt_c M) pc = .ok (.if_icmp .lt off, 3)) (ht : (pc : Int) + off = (tgt : Int)) (kt : x < y → WP G M QE lo tgt rest μ cn sn) (kf : ¬ x < y → WP G M QE lo (pc + 3) rest μ cn sn) : WP G M QE lo pc (.int y :: .int x :: rest) μ cn sn :=
  fun hg p e s m args below meth c H locs ls hM hV hS hL => lv_icmp_lt hM.1 hM.2.1 hdg ht (fun h9 => kt h9 hg p e s m args below meth c H locs ls hM hV hS hL) (fun h9 => kf h9 hg p e s m args below meth c H locs ls hM hV hS hL)
theorem wp_icmp_ge {x y : Int32} {off : Int} {tgt : Nat} (hdg : decode (mt_c M) pc = .ok (.if_icmp .ge off, 3)) (ht : (pc : Int) + off = (tgt : Int)) (kt : y ≤ x → WP G M QE lo tgt rest μ cn sn) (kf : ¬ y ≤ x → WP G M QE lo (pc + 3) rest μ cn sn) : WP G M QE lo pc (.int y :: .int x :: rest) μ cn sn :=
  fun hg p e s m args below meth c H locs ls hM hV hS hL => lv_icmp_ge hM.1 hM.2.1 hdg ht (fun h9 => kt h9 hg p e s m args below meth c H locs ls hM hV hS hL) (fun h9 => kf h9 hg p e s m args below meth c H locs ls hM hV hS hL)
theorem wp_icmp_gt {x y : Int32} {off : Int} {tgt : Nat} (hdg : decode (mt_c M) pc = .ok (.if_icmp .gt off, 3)) (ht : (pc : Int) + off = (tgt : Int)) (kt : y < x → WP G M QE lo tgt rest μ cn sn) (kf : ¬ y < x → WP G M QE lo (pc + 3) rest μ cn sn) : WP G M QE lo pc (.int y :: .int x :: rest) μ cn sn :=
  fun hg p e s m args below meth c H locs ls hM hV hS hL => lv_icmp_gt hM.1 hM.2.1 hdg ht (fun h9 => kt h9 hg p e s m args below meth c H locs ls hM hV hS hL) (fun h9 => kf h9 hg p e s m args below meth c H locs ls hM hV hS hL)
theorem wp_icmp_le {x y : Int32} {off : Int} {tgt : Nat} (hdg : decode (mt_c M) pc = .ok (.if_icmp .le off, 3)) (ht : (pc : Int) + off = (tgt : Int)) (kt : x ≤ y → WP G M QE lo tgt rest μ cn sn) (kf : ¬ x ≤ y → WP G M QE lo (pc + 3) rest μ cn sn) : WP G M QE lo pc (.int y :: .int x :: rest) μ cn sn :=
  fun hg p e s m args below meth c H locs ls hM hV hS hL => lv_icmp_le hM.1 hM.2.1 hdg ht (fun h9 => kt h9 hg p e s m args below meth c H locs ls hM hV hS hL) (fun h9 => kf h9 hg p e s m args below meth c H locs ls hM hV hS hL)
theorem wp_get {idx ci k a : Nat} {fs : List Value} {v : Value} (hdg : decode (mt_c M) pc = .ok (.getfield idx, 3)) (hf : fl_P (mt_y M).cls idx ci k) (he : μ a = some (.inr (ci, fs))) (hv : fs[k]? = some v) (kk : WP G M QE lo (pc + 3) (v :: rest) μ cn sn) : WP G M QE lo pc (.ref a :: rest) μ cn sn := by
  obtain ⟨C, T, N, ty, h1, h2, h3⟩ := hf
  intro hg p e s m args below meth c H locs ls hM hV hS hL
  exact mv_get hM.1 hM.2.1 (hM.2.2.2.2.2.2.2.2.ts args) h1 hM.2.2.2.2.1 hM.2.2.2.2.2.2.2.2.1 hV he k h2 h3 hv hdg (kk hg p e s m args below meth c H locs ls hM hV hS hL)
theorem wp_put {idx ci k a : Nat} {t : FieldType} {fs : List Value} {v : Value} (hdg : decode (mt_c M) pc = .ok (.putfield idx, 3)) (hf : fp_P (mt_y M).cls idx ci k t) (he : μ a = some (.inr (ci, fs))) (hB : G.2.2.2 ≤ a) (hn : narrow t v = v) (hfit : fits t v = true) (hl : k < fs.length) (kk : WP G M QE lo (pc + 3) rest (mu_up μ a (.inr (ci, fs.set k v))) cn sn) : WP G M QE lo pc (v :: .ref a :: rest) μ cn sn := by
  obtain ⟨C, T, N, ty, h1, h2, h3, h4, h5⟩ := hf
  subst h5
  intro hg p e s m args below meth c H locs ls hM hV hS hL
  exact mv_put hM.1 hM.2.1 (hM.2.2.2.2.2.2.2.2.ts args) h1 hM.2.2.2.2.1 hM.2.2.2.2.2.2.2.2.1 hV hS he hB k h2 h3 h4 hn hfit hl hdg (fun H locs hV hS => kk hg p e s m args below meth c H locs ls hM hV hS hL)
theorem wp_putF {idx ci k a : Nat} {t : FieldType} {fs : List Value} {v : Value} (hdg : decode (mt_c M) pc = .ok (.putfield idx, 3)) (hf : ff_P (mt_y M).cls idx ci k t) (hin : (mt_y M).name = "<init>") (he : μ a = some (.inr (ci, fs))) (hB : G.2.2.2 ≤ a) (hn : narrow t v = v) (hfit : fits t v = true) (hl : k < fs.length) (kk : WP G M QE lo (pc + 3) rest (mu_up μ a (.inr (ci, fs.set k v))) cn sn) : WP G M QE lo pc (v :: .ref a :: rest) μ cn sn := by
  obtain ⟨C, T, N, ty, h1, h2, h3, h4, h6, h5⟩ := hf
  subst h5
  intro hg p e s m args below meth c H locs ls hM hV hS hL
  exact mv_putF hM.1 hM.2.1 (hM.2.2.2.2.2.2.2.2.ts args) h1 hM.2.2.2.2.1 hM.2.2.2.2.2.2.2.2.1 hV hS he hB k h2 h3 h4 (hM.2.2.2.2.2.2.2.1 hin) h6 hn hfit hl hdg (fun H locs hV hS => kk hg p e s m args below meth c H locs ls hM hV hS hL)
theorem wp_iald {a n j : Nat} {f : Nat → Int32} {i : Int32} (hdg : decode (mt_c M) pc = .ok (.iaload, 1)) (he : μ a = some (.inl (G.2.2.1 0, n, .inl f))) (hi : i = nI j) (hj : j < n) (hn : n < 2 ^ 31) (kk : WP G M QE lo (pc + 1) (.int (f j) :: rest) μ cn sn) : WP G M QE lo pc (.int i :: .ref a :: rest) μ cn sn := by
  subst hi
  intro hg p e s m args below meth c H locs ls hM hV hS hL
  refine mv_iald hM.1 hM.2.1 hM.2.2.2.2.2.2.2.2.1 hV 0 he rfl (vp_in_nI hj hn) hdg ?_
  rw [nI_clamp (Nat.lt_trans hj hn)]
  exact kk hg p e s m args below meth c H locs ls hM hV hS hL
theorem wp_zald {a n j : Nat} {f : Nat → Int32} {i : Int32} (hdg : decode (mt_c M) pc = .ok (.baload, 1)) (he : μ a = some (.inl (G.2.2.1 1, n, .inl f))) (hi : i = nI j) (hj : j < n) (hn : n < 2 ^ 31) (kk : WP G M QE lo (pc + 1) (.int (f j) :: rest) μ cn sn) : WP G M QE lo pc (.int i :: .ref a :: rest) μ cn sn := by
  subst hi
  intro hg p e s m args below meth c H locs ls hM hV hS hL
  refine mv_zald hM.1 hM.2.1 hM.2.2.2.2.2.2.2.2.1 hV 1 he rfl (vp_in_nI hj hn) hdg ?_
  rw [nI_clamp (Nat.lt_trans hj hn)]
  exact kk hg p e s m args below meth c H locs ls hM hV hS hL
theorem wp_lald {a n j : Nat} {f : Nat → Int64} {i : Int32} (hdg : decode (mt_c M) pc = .ok (.laload, 1)) (he : μ a = some (.inl (G.2.2.1 2, n, .inr (.inl f)))) (hi : i = nI j) (hj : j < n) (hn : n < 2 ^ 31) (kk : WP G M QE lo (pc + 1) (.long (f j) :: rest) μ cn sn) : WP G M QE lo pc (.int i :: .ref a :: rest) μ cn sn := by
  subst hi
  intro hg p e s m args below meth c H locs ls hM hV hS hL
  refine va_lald hM.1 hM.2.1 hM.2.2.2.2.2.2.2.2.1 (hV.one he) 0 2 rfl rfl (vp_in_nI hj hn) hdg ?_
  rw [nI_clamp (Nat.lt_trans hj hn)]
  exact kk hg p e s m args below meth c H locs ls hM hV hS hL
theorem wp_aald {a n j t x : Nat} {C : String} {f : Nat → Option Nat} {i : Int32} (hdg : decode (mt_c M) pc = .ok (.aaload, 1)) (ht : (TYS G.2.2.1)[t]? = some (G.2.2.1 t, .object C)) (he : μ a = some (.inl (G.2.2.1 t, n, .inr (.inr (.inr (.inr f)))))) (hi : i = nI j) (hj : j < n) (hn : n < 2 ^ 31) (hx : f j = some x) (kk : WP G M QE lo (pc + 1) (.ref x :: rest) μ cn sn) : WP G M QE lo pc (.int i :: .ref a :: rest) μ cn sn := by
  subst hi
  intro hg p e s m args below meth c H locs ls hM hV hS hL
  exact mv_aald hM.1 hM.2.1 hM.2.2.2.2.2.2.2.2.1 hV t he ht (vp_in_nI hj hn) (by rw [nI_clamp (Nat.lt_trans hj hn)]; exact hx) hdg (kk hg p e s m args below meth c H locs ls hM hV hS hL)
theorem wp_alen {a n t : Nat} {ty : FieldType} {x : (Nat → Int32) ⊕ (Nat → Int64) ⊕ (Nat → UInt32) ⊕ (Nat → UInt64) ⊕ (Nat → Option Nat)} (hdg : decode (mt_c M) pc = .ok (.arraylength, 1)) (ht : (TYS G.2.2.1)[t]? = some (G.2.2.1 t, ty)) (he : μ a = some (.inl (G.2.2.1 t, n, x))) (kk : WP G M QE lo (pc + 1) (.int (nI n) :: rest) μ cn sn) : WP G M QE lo pc (.ref a :: rest) μ cn sn := by
  intro hg p e s m args below meth c H locs ls hM hV hS hL
  exact mv_alen hM.1 hM.2.1 hM.2.2.2.2.2.2.2.2.1 hV t he ht rfl hdg (kk hg p e s m args below meth c H locs ls hM hV hS hL)
theorem wp_iast {a n j : Nat} {f : Nat → Int32} {i x : Int32} (hdg : decode (mt_c M) pc = .ok (.iastore, 1)) (he : μ a = some (.inl (G.2.2.1 0, n, .inl f))) (hB : G.2.2.2 ≤ a) (hi : i = nI j) (hj : j < n) (hn : n < 2 ^ 31) (kk : WP G M QE lo (pc + 1) rest (mu_up μ a (.inl (G.2.2.1 0, n, .inl (upd f j x)))) cn sn) : WP G M QE lo pc (.int x :: .int i :: .ref a :: rest) μ cn sn := by
  subst hi
  intro hg p e s m args below meth c H locs ls hM hV hS hL
  refine mv_iast hM.1 hM.2.1 hM.2.2.2.2.2.2.2.2.1 hV hS 0 he hB rfl (vp_in_nI hj hn) hdg (fun H locs hV hS => ?_)
  rw [nI_clamp (Nat.lt_trans hj hn)] at hV
  exact kk hg p e s m args below meth c H locs ls hM hV hS hL
theorem wp_zast {a n j : Nat} {f : Nat → Int32} {i x : Int32} (hdg : decode (mt_c M) pc = .ok (.bastore, 1)) (he : μ a = some (.inl (G.2.2.1 1, n, .inl f))) (hB : G.2.2.2 ≤ a) (hi : i = nI j) (hj : j < n) (hn : n < 2 ^ 31) (hx : vp_nar .boolean x = x) (kk : WP G M QE lo (pc + 1) rest (mu_up μ a (.inl (G.2.2.1 1, n, .inl (upd f j x)))) cn sn) : WP G M QE lo pc (.int x :: .int i :: .ref a :: rest) μ cn sn := by
  subst hi
  intro hg p e s m args below meth c H locs ls hM hV hS hL
  refine mv_zast hM.1 hM.2.1 hM.2.2.2.2.2.2.2.2.1 hV hS 1 he hB rfl (vp_in_nI hj hn) hx hdg (fun H locs hV hS => ?_)
  rw [nI_clamp (Nat.lt_trans hj hn)] at hV
  exact kk hg p e s m args below meth c H locs ls hM hV hS hL
theorem wp_aast {a n j t v ci : Nat} {r : vw_C} {f : Nat → Option Nat} {vs : List Value} {i : Int32} (hdg : decode (mt_c M) pc = .ok (.aastore, 1)) (ht : (TYS G.2.2.1)[t]? = some (G.2.2.1 t, .object r.1)) (hc : classes[ci]? = some r) (he : μ a = some (.inl (G.2.2.1 t, n, .inr (.inr (.inr (.inr f)))))) (hB : G.2.2.2 ≤ a) (hv : μ v = some (.inr (ci, vs))) (hi : i = nI j) (hj : j < n) (hn : n < 2 ^ 31) (kk : WP G M QE lo (pc + 1) rest (mu_up μ a (.inl (G.2.2.1 t, n, .inr (.inr (.inr (.inr (va_up f j (some v)))))))) cn sn) : WP G M QE lo pc (.ref v :: .int i :: .ref a :: rest) μ cn sn := by
  subst hi
  intro hg p e s m args below meth c H locs ls hM hV hS hL
  refine mv_aast hM.1 hM.2.1 hM.2.2.2.2.2.2.2.2.1 hV hS t ci he hB ht hv hc (vp_in_nI hj hn) hdg (fun H locs hV hS => ?_)
  rw [nI_clamp (Nat.lt_trans hj hn)] at hV
  exact kk hg p e s m args below meth c H locs ls hM hV hS hL
theorem wp_newI {N : Nat} (hdg : decode (mt_c M) pc = .ok (.newarray .int, 2)) (hw : Cond.arrayClass .int ∈ WALL) (hN : N < 10000) (hc : cn + 1 ≤ (mt_R M).cells) (hs : sn + N ≤ (mt_R M).slots) (kk : ∀ q : Nat, G.2.2.2 ≤ q → μ q = none → WP G M QE lo (pc + 2) (.ref q :: rest) (mu_up μ q (.inl (G.2.2.1 0, N, .inl (fun _ => 0)))) (cn + 1) (sn + N)) : WP G M QE lo pc (.int (nI N) :: rest) μ cn sn := by
  intro hg p e s m args below meth c H locs ls hM hV hS hL
  have hAm := hM.2.2.2.2.2.2.2.2
  exact mv_newa (atype := .int) (ty := .int) (a0 := (N, .inl (fun _ => 0))) hM.1 hM.2.1 hw (hAm.ts args) rfl hAm.1 hV hS 0 rfl (fun _ h => h) (fun _ => rfl) (nI_pos (by omega)) (nI_clamp (by omega)) (by show N * 4 ≤ _; omega) hc hs hdg (fun q H h1 h2 hV hS => kk q (Nat.le_trans hAm.2.2.2.2.2.2.2.2.2 h1) h2 hg p e s m args below meth c H locs ls hM hV hS hL)
theorem wp_newZ {N : Nat} (hdg : decode (mt_c M) pc = .ok (.newarray .boolean, 2)) (hw : Cond.arrayClass .boolean ∈ WALL) (hN : N < 10000) (hc : cn + 1 ≤ (mt_R M).cells) (hs : sn + N ≤ (mt_R M).slots) (kk : ∀ q : Nat, G.2.2.2 ≤ q → μ q = none → WP G M QE lo (pc + 2) (.ref q :: rest) (mu_up μ q (.inl (G.2.2.1 1, N, .inl (fun _ => 0)))) (cn + 1) (sn + N)) : WP G M QE lo pc (.int (nI N) :: rest) μ cn sn := by
  intro hg p e s m args below meth c H locs ls hM hV hS hL
  have hAm := hM.2.2.2.2.2.2.2.2
  exact mv_newa (atype := .boolean) (ty := .boolean) (a0 := (N, .inl (fun _ => 0))) hM.1 hM.2.1 hw (hAm.ts args) rfl hAm.1 hV hS 1 rfl (fun _ h => h) (fun _ => rfl) (nI_pos (by omega)) (nI_clamp (by omega)) (by show N * 1 ≤ _; omega) hc hs hdg (fun q H h1 h2 hV hS => kk q (Nat.le_trans hAm.2.2.2.2.2.2.2.2.2 h1) h2 hg p e s m args below meth c H locs ls hM hV hS hL)
theorem wp_newq {N t idx : Nat} {C : String} (hdg : decode (mt_c M) pc = .ok (.anewarray idx, 3)) (hw : Cond.classLink (mt_y M).cls idx C ∈ WALL) (ho : C ∈ AOS) (ht : (TYS G.2.2.1)[t]? = some (G.2.2.1 t, .object C)) (hN : N < 10000) (hc : cn + 1 ≤ (mt_R M).cells) (hs : sn + N ≤ (mt_R M).slots) (kk : ∀ q : Nat, G.2.2.2 ≤ q → μ q = none → WP G M QE lo (pc + 3) (.ref q :: rest) (mu_up μ q (.inl (G.2.2.1 t, N, .inr (.inr (.inr (.inr (fun _ => none))))))) (cn + 1) (sn + N)) : WP G M QE lo pc (.int (nI N) :: rest) μ cn sn := by
  intro hg p e s m args below meth c H locs ls hM hV hS hL
  have hAm := hM.2.2.2.2.2.2.2.2
  exact mv_newq hM.1 hM.2.1 (hAm.ts args) hM.2.2.2.2.1 hw (hAm.2.2.2.2.2.2.1 C ho) hAm.1 hV hS t ht (nI_pos (by omega)) (nI_clamp (by omega)) (by omega) hc hs hdg (fun q H h1 h2 hV hS => kk q (Nat.le_trans hAm.2.2.2.2.2.2.2.2.2 h1) h2 hg p e s m args below meth c H locs ls hM hV hS hL)
theorem wp_new {idx ci N : Nat} {fs : List Value} (hdg : decode (mt_c M) pc = .ok (.new idx, 3)) (hw : nw_P (mt_y M).cls idx ci N fs) (hc : cn + 1 ≤ (mt_R M).cells) (hs : sn + N ≤ (mt_R M).slots) (kk : ∀ q : Nat, G.2.2.2 ≤ q → μ q = none → WP G M QE lo (pc + 3) (.ref q :: rest) (mu_up μ q (.inr (ci, fs))) (cn + 1) (sn + N)) : WP G M QE lo pc rest μ cn sn := by
  obtain ⟨C, T, ty, h1, h2, h3, h4, h5⟩ := hw
  intro hg p e s m args below meth c H locs ls hM hV hS hL
  have hAm := hM.2.2.2.2.2.2.2.2
  exact mv_new hM.1 hM.2.1 (hAm.ts args) h1 hM.2.2.2.2.1 h2 h3 h4 hAm.1 hV hS h5 hc hs hdg (fun q H h1 h2 hV hS => kk q (Nat.le_trans hAm.2.2.2.2.2.2.2.2.2 h1) h2 hg p e s m args below meth c H locs ls hM hV hS hL)
theorem wp_objInit {idx a : Nat} (hdg : decode (mt_c M) pc = .ok (.invokespecial idx, 3)) (h1 : Cond.methodLink (mt_y M).cls idx objectInit ∈ WALL) (h2 : Cond.instanceMethod objectInit ∈ WALL) (h3 : Cond.code objectInit ⟨#[0xb1]⟩ 1 none ∈ WALL) (hf : 1 ≤ (mt_R M).frames) (hl : (rest.map fun v => v.category).sum + 12 ≤ (mt_R M).locals) (kk : WP G M QE lo (pc + 3) rest μ cn sn) : WP G M QE lo pc (.ref a :: rest) μ cn sn := by
  intro hg p e s m args below meth c H locs ls hM hV hS hL
  have hts := hM.2.2.2.2.2.2.2.2.ts args
  exact W.objInit hM.1 hM.2.1 hM.2.2.2.2.1 (hts _ h1) (hts _ h2) (hts _ h3) rfl (hL.1.trans hM.2.2.2.1.symm) rfl hdg hf (by show 2 * 0 + _ + 12 ≤ _; omega) (kk hg p e s m args below meth c H locs ls hM hV hS hL)
theorem mc_call {p : Program} {l : Launch} {e : Env} {R : Room} {s : State} {m : MethodId} {args : Array Value} {below : List Frame} {meth : Method} {c : Code} {H : Heap} {locs : List Loc} {cells slots : Nat} {Q : State → Prop} {D : va_G} {cl : List vw_C} {A : Nat → Prop} {ls : Array Slot} {st0 : List Value} {post : Option Value → mu_M → Prop} {px : String → mu_M → Prop} {mc ms : Nat} {a : Array Value}
    (hr : vx_Run p l e R s m args below meth c H locs cells slots mc ms (F0 m pc ls st0) rest (mc_Q D cl A post a) (mc_X D cl A px) A) (hS : va_S A s.heap H locs)
    (kx : ∀ (E : String) (ce : Cell) (q9 : Addr) (μ' : mu_M) (H1 : Heap) (locs1 : List Loc), px E μ' → mu_V D cl μ' H1 → va_S A s.heap H1 locs1 → H1[q9]? = some ce → ce.vm = .none → s.vm.findClass E = some ce.cls → vx_W p l e R s m args below meth c H1 locs1 (cells + mc) (slots + ms) Q (F0 m pc ls rest) q9)
    (kk : ∀ (v : Option Value) (μ' : mu_M) (H1 : Heap) (locs1 : List Loc), post v μ' → mu_V D cl μ' H1 → va_S A s.heap H1 locs1 → W p l e R s m args below meth c H1 locs1 (cells + mc) (slots + ms) Q (F0 m (pc + 3) ls (v.toList ++ rest))) :
    W p l e R s m args below meth c H locs cells slots Q (F0 m pc ls st0) := by
  intro T hT X
  rcases hr T hT X with ⟨v, st₀, t, T', L, h0, X', hL, e1, e2, ⟨⟨v', μ', hv, hp, hb⟩, hF⟩, st⟩ | ⟨q, st₀, t, T', L, E, ce, h0, X', hL, e1, e2, ⟨μ', hp, hb, hF⟩, hce, hcv, hcl, st⟩
  · cases hv
    obtain ⟨k1, k2, k3⟩ := vx_keep h0 e1 hS (fun _ _ h => h) (fun _ h => h) hL hF
    obtain ⟨t2, a1, b1⟩ := kk v μ' T'.heap (locs ++ L) hp (by rw [e1]; exact hb) k3 T' rfl X'
    exact ⟨t2, st t2 a1, b1⟩
  · obtain ⟨k1, k2, k3⟩ := vx_keep h0 e1 hS (fun _ _ h => h) (fun _ h => h) hL hF
    obtain ⟨t2, a1, b1⟩ := kx E ce q μ' T'.heap (locs ++ L) hp (by rw [e1]; exact hb) k3 (by rw [e1]; exact hce) hcv hcl T' rfl X'
    exact ⟨t2, st.trans a1, b1⟩
/-- a call, before its throw is looked at: what goes on behind it, and what a throw comes to (vx_W) -/
def WX (G : mt_G) (M : mt_M) (QE : mt_Q) (lo : List (Nat × Value)) (pc : Nat) (st : List Value) (E : String) (μ : mu_M) (cn sn : Nat) : Prop :=
  G.1.stackTraces = false → ∀ (p : Program) (e : Env) (s : State) (m : MethodId) (args : Array Value) (below : List Frame) (meth : Method) (c : Code) (H : Heap) (locs : List Loc) (ls : Array Slot) (ce : Cell) (q9 : Addr), mt_S G M p s m args meth c → mu_V G.2.1 classes μ H → va_S (AA G.2.2.2) s.heap H locs → lv_has ls (mt_l M) lo → H[q9]? = some ce → ce.vm = .none → s.vm.findClass E = some ce.cls →
    vx_W p G.1 e (mt_R M) s m args below meth c H locs cn sn (QE below args s) (F0 m pc ls st) q9
theorem WX.out {st : List Value} {E : String} {post : Option Value → mu_M → Prop} {px : String → mu_M → Prop} {hh : List (Nat × Nat × Nat × Nat)} (hh0 : mt_h M = some hh) (hcov : ∀ x ∈ tableOf hh, covers x pc = false) (hc : cn ≤ (mt_R M).cells) (hs : sn ≤ (mt_R M).slots) (hpx : px E μ) : WX G M (EC G M post px) lo pc st E μ cn sn := by
  intro hg p e s m args below meth c H locs ls ce q9 hM hV hS hL h1 h2 h3
  exact vx_out (E := E) (fun x hx => hcov x (by rw [← hM.2.2.2.2.2.2.1 hh hh0]; exact hx)) hM.2.2.2.2.2.1 h1 h2 h3 (fun t ht _ => ⟨μ, hpx, by rw [ht]; exact hV, hS.F ht⟩) hS.2.2 hc hs
theorem mc_cb {D : va_G} {cT : Nat → ClassId} {B0 : Nat} {R : Room} {s : State} {args : Array Value} {own : String} {index n : Nat} {M' : mt_M} (hAm : Amb D cT B0 s) (hw : cb_P own index M' n) (hc : cd_P M') (hR : (mt_R M').frames + 1 ≤ R.frames ∧ 8 + (mt_l M' + 11) + (mt_R M').locals ≤ R.locals) :
    CallB R s args own index (mt_y M') (mt_c M') (mt_l M') (mt_r M') [Cond.code (mt_y M') (mt_c M') (mt_l M') (mt_r M')] (mt_R M') (mt_R M').cells (mt_R M').slots n := by
  obtain ⟨hl, hi, hy, hd⟩ := hw
  refine ⟨rfl, rfl, hR.1, hR.2, fun w hw a' U hW => ?_, List.mem_cons_self, hAm.ts _ _ hc, hAm.ts _ _ hi, hy, fun sig h => ?_, hAm.ts _ _ hl⟩
  · rw [List.mem_singleton.mp hw]
    exact word_at hW (good_of_word (List.all_eq_true.mp WALL_good _ hc)) (hAm.2.1 _ hc)
  · rw [h] at hd
    exact (Option.some.inj hd).symm
theorem mc_pre {D : va_G} {cT : Nat → ClassId} {B0 : Nat} {s : State} {H : Heap} {locs : List Loc} {av : List Value} (hAm : Amb D cT B0 s) (hV : mu_V D classes μ H) (hS : va_S (AA B0) s.heap H locs) : ∀ U : State, U.heap = H → s.WarmedH U.vm → mc_P D cT B0 av μ av.toArray U :=
  fun U hU hW => ⟨rfl, hAm.at hS hU hW, by rw [hU]; exact hV⟩
section CallRows
variable {M' : mt_M} {st As : List Value} {b ci n idx : Nat} {fs : List Value} {post : Option Value → mu_M → Prop} {px : String → mu_M → Prop}
theorem wx_callV (hdg : decode (mt_c M) pc = .ok (.invokevirtual idx, 3)) (hw : cv_P (mt_y M).cls idx ci M' n) (hcd : cd_P M') (hR : rf_P M' M) (hM' : CT G M' (.ref b :: As) μ post px) (hb : μ b = some (.inr (ci, fs))) (hn : As.length = n) (hst : st = As.reverse ++ .ref b :: rest) (hroom : (rest.map fun v => v.category).sum ≤ 8) (hc : cn + (mt_R M').cells ≤ (mt_R M).cells) (hs : sn + (mt_R M').slots ≤ (mt_R M).slots)
    (kx : ∀ (E : String) (μ' : mu_M), px E μ' → WX G M QE lo pc rest E μ' (cn + (mt_R M').cells) (sn + (mt_R M').slots))
    (kk : ∀ (v : Option Value) (μ' : mu_M), post v μ' → WP G M QE lo (pc + 3) (v.toList ++ rest) μ' (cn + (mt_R M').cells) (sn + (mt_R M').slots)) : WP G M QE lo pc st μ cn sn := by
  obtain ⟨w1, w2, C, T, N, w3, w4⟩ := hw
  intro hg p e s m args below meth c H locs ls hM hV hS hL
  have hAm := hM.2.2.2.2.2.2.2.2
  exact mc_call (vx_runV (As := As) (b := b) (rest := rest) ⟨hM.1, hM.2.1, hM.2.2.2.1, hM.2.2.2.2.1, hAm.ts args⟩ (hM' hg) ⟨mc_cb hAm w1 hcd hR, hAm.ts _ _ w2, hAm.ts _ _ w4⟩ ⟨mc_blind _ _ _ _ μ, va_recv hAm.1 (hV.one hb) w3 (q0 := 0) rfl, mc_pre hAm hV hS⟩ rfl hn hL.1 hst (lv_room hroom) hdg ⟨hc, hs⟩) hS (fun E ce q9 μ' H1 locs1 h1 h2 h3 h4 h5 h6 => kx E μ' h1 hg p e s m args below meth c H1 locs1 ls ce q9 hM h2 h3 hL h4 h5 h6) (fun v μ' H locs h1 hV hS => kk v μ' h1 hg p e s m args below meth c H locs ls hM hV hS hL)
theorem wx_callS (hdg : decode (mt_c M) pc = .ok (.invokestatic idx, 3)) (hw : cs_P (mt_y M).cls idx M' n) (hcd : cd_P M') (hR : rf_P M' M) (hM' : CT G M' As μ post px) (hn : As.length = n) (hst : st = As.reverse ++ rest) (hroom : (rest.map fun v => v.category).sum ≤ 8) (hc : cn + (mt_R M').cells ≤ (mt_R M).cells) (hs : sn + (mt_R M').slots ≤ (mt_R M).slots)
    (kx : ∀ (E : String) (μ' : mu_M), px E μ' → WX G M QE lo pc rest E μ' (cn + (mt_R M').cells) (sn + (mt_R M').slots))
    (kk : ∀ (v : Option Value) (μ' : mu_M), post v μ' → WP G M QE lo (pc + 3) (v.toList ++ rest) μ' (cn + (mt_R M').cells) (sn + (mt_R M').slots)) : WP G M QE lo pc st μ cn sn := by
  obtain ⟨w1, w2⟩ := hw
  intro hg p e s m args below meth c H locs ls hM hV hS hL
  have hAm := hM.2.2.2.2.2.2.2.2
  exact mc_call (vx_runS (As := As) (rest := rest) ⟨hM.1, hM.2.1, hM.2.2.2.1, hM.2.2.2.2.1, hAm.ts args⟩ (hM' hg) ⟨mc_cb hAm w1 hcd hR, hAm.ts _ _ w2⟩ ⟨mc_blind _ _ _ _ μ, mc_pre hAm hV hS⟩ rfl hn hL.1 hst (lv_room hroom) hdg ⟨hc, hs⟩) hS (fun E ce q9 μ' H1 locs1 h1 h2 h3 h4 h5 h6 => kx E μ' h1 hg p e s m args below meth c H1 locs1 ls ce q9 hM h2 h3 hL h4 h5 h6) (fun v μ' H locs h1 hV hS => kk v μ' h1 hg p e s m args below meth c H locs ls hM hV hS hL)
theorem mc_callM {p : Program} {l : Launch} {e : Env} {R : Room} {s : State} {m : MethodId} {args : Array Value} {below : List Frame} {meth : Method} {c : Code} {H : Heap} {locs : List Loc} {cells slots : Nat} {Q : State → Prop} {D : va_G} {cl : List vw_C} {A : Nat → Prop} {ls : Array Slot} {st0 : List Value} {mc ms : Nat} {a : Array Value}
    (hr : va_Run p l e R s m args below meth c H locs cells slots mc ms (F0 m pc ls st0) rest (mc_Q D cl A post a) A) (hS : va_S A s.heap H locs)
    (kk : ∀ (v : Option Value) (μ' : mu_M) (H1 : Heap) (locs1 : List Loc), post v μ' → mu_V D cl μ' H1 → va_S A s.heap H1 locs1 → W p l e R s m args below meth c H1 locs1 (cells + mc) (slots + ms) Q (F0 m (pc + 3) ls (v.toList ++ rest))) :
    W p l e R s m args below meth c H locs cells slots Q (F0 m pc ls st0) := by
  intro T hT X
  obtain ⟨v, st₀, t, T', L, h0, X', hL, e1, e2, ⟨⟨v', μ', hv, hp, hb⟩, hF⟩, st⟩ := hr T hT X
  cases hv
  obtain ⟨k1, k2, k3⟩ := vx_keep h0 e1 hS (fun _ _ h => h) (fun _ h => h) hL hF
  obtain ⟨t2, a1, b1⟩ := kk v μ' T'.heap (locs ++ L) hp (by rw [e1]; exact hb) k3 T' rfl X'
  exact ⟨t2, st t2 a1, b1⟩
theorem wi_call (hdg : decode (mt_c M) pc = .ok (.invokespecial idx, 3)) (hw : ci_P (mt_y M).cls idx M' n) (hcd : cd_P M') (hR : rf_P M' M) (hM' : CTI G M' (.ref b :: As) μ post) (hn : As.length = n) (hst : st = As.reverse ++ .ref b :: rest) (hroom : (rest.map fun v => v.category).sum ≤ 8) (hc : cn + (mt_R M').cells ≤ (mt_R M).cells) (hs : sn + (mt_R M').slots ≤ (mt_R M).slots)
    (kk : ∀ (v : Option Value) (μ' : mu_M), post v μ' → WP G M QE lo (pc + 3) (v.toList ++ rest) μ' (cn + (mt_R M').cells) (sn + (mt_R M').slots)) : WP G M QE lo pc st μ cn sn := by
  obtain ⟨w1, w2, w3, w4⟩ := hw
  intro hg p e s m args below meth c H locs ls hM hV hS hL
  have hAm := hM.2.2.2.2.2.2.2.2
  have h9 := hM' hg
  have hcb := mc_cb (R := mt_R M) (args := args) hAm w1 hcd hR
  rw [w4] at h9 hcb
  exact mc_callM (va_runI (As := As) (b := b) (rest := rest) ⟨hM.1, hM.2.1, hM.2.2.2.1, hM.2.2.2.2.1, hAm.ts args⟩ h9 ⟨hcb, w3, hAm.ts _ _ w2⟩ ⟨mc_blind _ _ _ _ μ, mc_pre hAm hV hS⟩ rfl hn hL.1 hst (lv_room hroom) hdg ⟨hc, hs⟩) hS (fun v μ' H locs h1 hV hS => kk v μ' h1 hg p e s m args below meth c H locs ls hM hV hS hL)
theorem wi_callN {host : String} (hdg : decode (mt_c M) pc = .ok (.invokespecial idx, 3)) (hw : cn_P (mt_y M).cls idx M' host n) (hcd : cd_P M') (hR : rf_P M' M) (hM' : CTI G M' (.ref b :: As) μ post) (hn : As.length = n) (hst : st = As.reverse ++ .ref b :: rest) (hroom : (rest.map fun v => v.category).sum ≤ 8) (hc : cn + (mt_R M').cells ≤ (mt_R M).cells) (hs : sn + (mt_R M').slots ≤ (mt_R M).slots)
    (kk : ∀ (v : Option Value) (μ' : mu_M), post v μ' → WP G M QE lo (pc + 3) (v.toList ++ rest) μ' (cn + (mt_R M').cells) (sn + (mt_R M').slots)) : WP G M QE lo pc st μ cn sn := by
  obtain ⟨w1, w2, w3, w4, w5, w6, w7⟩ := hw
  intro hg p e s m args below meth c H locs ls hM hV hS hL
  have hAm := hM.2.2.2.2.2.2.2.2
  have h9 := hM' hg
  have hcd9 : Cond.code (mt_y M') (mt_c M') (mt_l M') none ∈ WALL := by have h8 := hcd; unfold cd_P at h8; rw [w7] at h8; exact h8
  rw [w7] at h9
  refine mc_callM (va_runIN (host := host) (As := As) (b := b) (rest := rest) ⟨hM.1, hM.2.1, hM.2.2.2.1, hM.2.2.2.2.1, hAm.ts args⟩ h9 ⟨⟨⟨rfl, rfl, hR.1, hR.2, fun w hw a' U hW => ?_, List.mem_cons_self⟩, hAm.ts _ _ hcd9, hAm.ts _ _ w2, w3, fun sig h => ?_, va_Nw.use rfl (hAm.2.2.2.2.2.1 _ w1)⟩, w6, hAm.ts _ _ w5⟩ ⟨mc_blind _ _ _ _ μ, mc_pre hAm hV hS⟩ rfl hn hL.1 hst (lv_room hroom) hdg ⟨hc, hs⟩) hS (fun v μ' H locs h1 hV hS => kk v μ' h1 hg p e s m args below meth c H locs ls hM hV hS hL)
  · rw [List.mem_singleton.mp hw]
    exact word_at hW (good_of_word (List.all_eq_true.mp WALL_good _ hcd9)) (hAm.2.1 _ hcd9)
  · rw [h] at w4
    exact (Option.some.inj w4).symm
end CallRows
section Ends
variable {post : Option Value → mu_M → Prop} {px : String → mu_M → Prop}
theorem wp_iret {v : Int32} (hdg : decode (mt_c M) pc = .ok (.ireturn, 1)) (hr : mt_r M = some .int) (hc : cn ≤ (mt_R M).cells) (hs : sn ≤ (mt_R M).slots) (hp : post (some (.int v)) μ) : WP G M (EC G M post px) lo pc [.int v] μ cn sn :=
  fun hg p e s m args below meth c H locs ls hM hV hS hL => W.widen hc hs (vx_ret (W.iret hM.1 hM.2.1 (hM.2.2.1.trans hr) (fun t ht _ => ⟨⟨_, μ, rfl, hp, by rw [ht]; exact hV⟩, hS.F ht⟩) hS.2.2 hdg hM.2.2.2.2.2.1))
theorem wp_zret {v : Int32} (hdg : decode (mt_c M) pc = .ok (.ireturn, 1)) (hr : mt_r M = some .boolean) (hn : narrow .boolean (.int v) = .int v) (hc : cn ≤ (mt_R M).cells) (hs : sn ≤ (mt_R M).slots) (hp : post (some (.int v)) μ) : WP G M (EC G M post px) lo pc [.int v] μ cn sn :=
  fun hg p e s m args below meth c H locs ls hM hV hS hL => W.widen hc hs (vx_ret (W.zret hM.1 hM.2.1 (hM.2.2.1.trans hr) hn (fun t ht _ => ⟨⟨_, μ, rfl, hp, by rw [ht]; exact hV⟩, hS.F ht⟩) hS.2.2 hdg hM.2.2.2.2.2.1))
theorem wp_vret (hdg : decode (mt_c M) pc = .ok (.return_, 1)) (hr : mt_r M = none) (hc : cn ≤ (mt_R M).cells) (hs : sn ≤ (mt_R M).slots) (hp : post none μ) : WP G M (EC G M post px) lo pc [] μ cn sn :=
  fun hg p e s m args below meth c H locs ls hM hV hS hL => W.widen hc hs (vx_ret (W.vret hM.1 hM.2.1 (hM.2.2.1.trans hr) (fun t ht _ => ⟨⟨_, μ, rfl, hp, by rw [ht]; exact hV⟩, hS.F ht⟩) hS.2.2 hdg hM.2.2.2.2.2.1))
theorem wp_vretI (hdg : decode (mt_c M) pc = .ok (.return_, 1)) (hr : mt_r M = none) (hc : cn ≤ (mt_R M).cells) (hs : sn ≤ (mt_R M).slots) (hp : post none μ) : WP G M (ECI G M post) lo pc [] μ cn sn :=
  fun hg p e s m args below meth c H locs ls hM hV hS hL => W.widen hc hs (W.vret hM.1 hM.2.1 (hM.2.2.1.trans hr) (fun t ht _ => ⟨⟨_, μ, rfl, hp, by rw [ht]; exact hV⟩, hS.F ht⟩) hS.2.2 hdg hM.2.2.2.2.2.1)
theorem wp_aret {q : Nat} {rt : FieldType} (hdg : decode (mt_c M) pc = .ok (.areturn, 1)) (hr : mt_r M = some rt) (hrt : (∃ n, rt = .object n) ∨ ∃ t, rt = .array t) (hc : cn ≤ (mt_R M).cells) (hs : sn ≤ (mt_R M).slots) (hp : post (some (.ref q)) μ) : WP G M (EC G M post px) lo pc [.ref q] μ cn sn :=
  fun hg p e s m args below meth c H locs ls hM hV hS hL => W.widen hc hs (vx_ret (W.aret hM.1 hM.2.1 (hM.2.2.1.trans hr) hrt (Or.inr ⟨q, rfl⟩) (fun t ht _ => ⟨⟨_, μ, rfl, hp, by rw [ht]; exact hV⟩, hS.F ht⟩) hS.2.2 hdg hM.2.2.2.2.2.1))
theorem wp_throw {cls text : String} {names : List String} {ik is ic : Nat} {hh : List (Nat × Nat × Nat × Nat)} (hw : th_P (mt_y M).cls cls text ik is ic names) (hh0 : mt_h M = some hh) (hcov : ∀ x ∈ tableOf hh, covers x (pc + 9) = false)
    (d0 : decode (mt_c M) pc = .ok (.new ik, 3)) (d3 : decode (mt_c M) (pc + 3) = .ok (.dup, 1)) (d4 : decode (mt_c M) (pc + 4) = .ok (.ldc is, 2)) (d6 : decode (mt_c M) (pc + 6) = .ok (.invokespecial ic, 3)) (d9 : decode (mt_c M) (pc + 9) = .ok (.athrow, 1))
    (hRf : names.length + 3 < (mt_R M).frames) (hRl : (rest.map fun v => v.category).sum + (13 * (names.length + 1) + 43) ≤ (mt_R M).locals) (hc : cn + 1 ≤ (mt_R M).cells) (hs : sn + 6 ≤ (mt_R M).slots) (hp : px cls μ) : WP G M (EC G M post px) lo pc rest μ cn sn := by
  obtain ⟨w1, w2, w3, w4, w5, w6, w7⟩ := hw
  intro hg p e s m args below meth c H locs ls hM hV hS hL
  have hAm := hM.2.2.2.2.2.2.2.2
  obtain ⟨sa, hsa⟩ := hAm.2.2.2.2.1 _ w5
  exact vx_throwS (A := AA G.2.2.2) (names := names) hM.1 hM.2.1 hg hM.2.2.2.2.1 w1 w2 (hAm.ts _ _ w3) (hAm.ts _ _ w4) hsa (fun w hw => (w6 w hw).elim (hAm.ts _ _) (fun z => bad_use (List.mem_filter.mp z).2 (hAm.2.2.2.2.2.2.2.1 _ z))) w7 hAm.2.2.1 hAm.2.2.2.1 hS (hL.1.trans hM.2.2.2.1.symm) d0 d3 d4 d6 d9 (fun x hx => hcov x (by rw [← hM.2.2.2.2.2.2.1 hh hh0]; exact hx)) hRf hRl hc hs hM.2.2.2.2.2.1
    (fun t _ hz ho => ⟨μ, hp, hV.kept ho, Nat.le_trans hS.1 hz, fun q h1 h2 => (ho q (Nat.lt_of_lt_of_le h1 hS.1)).trans (hS.2.1 q h1 h2)⟩) hS.2.2 hc hs
theorem wp_throwW {cls text : String} {names : List String} {ik is ic : Nat} {hh : List (Nat × Nat × Nat × Nat)} (hw : th_P (mt_y M).cls cls text ik is ic names) (hh0 : mt_h M = some hh) (hcov : ∀ x ∈ tableOf hh, covers x (pc + 10) = false)
    (d0 : decode (mt_c M) pc = .ok (.new ik, 3)) (d3 : decode (mt_c M) (pc + 3) = .ok (.dup, 1)) (d4 : decode (mt_c M) (pc + 4) = .ok (.ldc_w is, 3)) (d7 : decode (mt_c M) (pc + 7) = .ok (.invokespecial ic, 3)) (d10 : decode (mt_c M) (pc + 10) = .ok (.athrow, 1))
    (hRf : names.length + 3 < (mt_R M).frames) (hRl : (rest.map fun v => v.category).sum + (13 * (names.length + 1) + 43) ≤ (mt_R M).locals) (hc : cn + 1 ≤ (mt_R M).cells) (hs : sn + 6 ≤ (mt_R M).slots) (hp : px cls μ) : WP G M (EC G M post px) lo pc rest μ cn sn := by
  obtain ⟨w1, w2, w3, w4, w5, w6, w7⟩ := hw
  intro hg p e s m args below meth c H locs ls hM hV hS hL
  have hAm := hM.2.2.2.2.2.2.2.2
  obtain ⟨sa, hsa⟩ := hAm.2.2.2.2.1 _ w5
  exact vx_throwSW (A := AA G.2.2.2) (names := names) hM.1 hM.2.1 hg hM.2.2.2.2.1 w1 w2 (hAm.ts _ _ w3) (hAm.ts _ _ w4) hsa (fun w hw => (w6 w hw).elim (hAm.ts _ _) (fun z => bad_use (List.mem_filter.mp z).2 (hAm.2.2.2.2.2.2.2.1 _ z))) w7 hAm.2.2.1 hAm.2.2.2.1 hS (hL.1.trans hM.2.2.2.1.symm) d0 d3 d4 d7 d10 (fun x hx => hcov x (by rw [← hM.2.2.2.2.2.2.1 hh hh0]; exact hx)) hRf hRl hc hs hM.2.2.2.2.2.1
    (fun t _ hz ho => ⟨μ, hp, hV.kept ho, Nat.le_trans hS.1 hz, fun q h1 h2 => (ho q (Nat.lt_of_lt_of_le h1 hS.1)).trans (hS.2.1 q h1 h2)⟩) hS.2.2 hc hs
end Ends
end WPR
end
section
/-! 'throw new NoSuchElementException("trimmed")': its constructor calls by another place of its pool (13) than the other throwables' (7): the chain of constructors with a first link of its own. The proof of ns_ctorThrow goes as the library's own for one chain (Stand.ctorThrowS), with the first link apart. -/
def nsAtoms (own : String) (ic : Nat) (X Y : String) (ix : Nat) (b9 : ByteArray) (names : List String) : List Cond :=
  Bundle.throwableAtoms ++ Bundle.throwableSAtoms ++ Bundle.passSAtoms X Y ix b9 ++ Bundle.chainSAtoms Y names ++
  [.methodLink own ic (Bundle.initS X), .instantiable X 6, .castable X X, .selects X Bundle.tFill0 Bundle.tFill0, .selects X Bundle.tFill Bundle.tFill,
   .lays X Bundle.tN "cause" "Ljava/lang/Throwable;", .lays X Bundle.tN "stackTrace" Bundle.steD, .lays X Bundle.tN "suppressedExceptions" Bundle.listD, .lays X Bundle.tN "detailMessage" "Ljava/lang/String;",
   .isRef (.static Bundle.tN "UNASSIGNED_STACK" Bundle.steD), .isRef (.static Bundle.tN "SUPPRESSED_SENTINEL" Bundle.listD),
   .fieldLink Bundle.tN 198 Bundle.tN "backtrace" "Ljava/lang/Object;", .lays Bundle.tN Bundle.tN "backtrace" "Ljava/lang/Object;", .lays X Bundle.tN "backtrace" "Ljava/lang/Object;"]
section NSX
variable {p : Program} {l : Launch} {e : Env} {R : Room} {s : State} {m₀ : MethodId} {args : Array Value} {below : List Frame} {meth : Method} {c : Code} {W : State} {locs : List Loc} {cells slots : Nat}
set_option maxHeartbeats 2000000 in
theorem ns_ctorThrow (X : Stand p l e R s m₀ args below meth c W locs cells slots) (hexec : p.tables.exec = Jvm.exec) (htr : e.platform.stackTraces = false) {own cls Y9 : String} {names : List String} {ic ix : Nat} {b9 : ByteArray} (b0 : decode b9 0 = .ok (.aload_n 0, 1)) (b1 : decode b9 1 = .ok (.aload_n 1, 1)) (b2 : decode b9 2 = .ok (.invokespecial ix, 3)) (b5 : decode b9 5 = .ok (.return_, 1)) (hY9 : Bundle.fit Y9 = true)
    (hown : s.vm.findClass own = some m₀.cls) (hcls : Bundle.fit cls = true) (hnames : ∀ n ∈ names, Bundle.fit n = true)
    (h : ∀ a ∈ nsAtoms own ic cls Y9 ix b9 names, a.before args s = true)
    (hlocs : ∀ x ∈ locs, ∀ cell, s.heap[x.base]? = some cell → cell.vm.isStatics = false)
    {a : Addr} {cX : ClassId} {kX : Class} (hfoundX : s.vm.findClass cls = some cX) (hkX : s.vm.classes[cX]? = some kX) (hcell : W.heap[a]? = some (freshCell cX kX)) (hnew : s.heap.size ≤ a)
    {msg : Value} (hmsg : msg.isRef = true)
    {g : JFrame} (hg : g.method = m₀) (hsize : g.locals.size = c.maxLocals) (hlocked : g.locked = none) (hentered : g.entered = []) {rest : List Value} (hstack : g.stack = msg :: .ref a :: .ref a :: rest)
    (hd6 : decode c.code g.pc = .ok (.invokespecial ic, 3)) (hd9 : decode c.code (g.pc + 3) = .ok (.athrow, 1)) (hout : ∀ x ∈ c.exceptionTable.toList, covers x (g.pc + 3) = false)
    (hRframes : names.length + 4 < R.frames) (hRlocals : 2 * g.monitorRoom + ((Value.ref a :: rest).map fun v => v.category).sum + (13 * (names.length + 2) + 42) ≤ R.locals) (hlocks : meth.locks = false := by first | assumption | exact BodyLoose.notSynchronized (by assumption) | exact Body.notSynchronized (by assumption)) :
    ∃ U : State, Steps p.tables e below (W.setTop g) U ∧ U.status = .running ∧ Ended U below (.threw a) ∧ s.WarmedH U.vm ∧ s.sameButNew ({ U with vm := s.vm } : State) locs cells slots ∧
      ∃ ce, U.heap[a]? = some ce ∧ s.vm.findClass cls = some ce.cls ∧ ce.vm = .none := by
  have howns : e.platform.frameOwnsMonitors = true := by rw [X.admits.platform]
  have hfin : e.platform.finalization = false := by rw [X.admits.platform]
  have hpl : e.platform.magicAccessors = ({} : Platform).magicAccessors := by rw [X.admits.platform]
  have a' : ∀ x, x ∈ nsAtoms own ic cls Y9 ix b9 names → x.holds args s none s [] = true := fun x hx => h x hx
  obtain ⟨T, Z0, L, -, Y⟩ := ThrowableC.of_atoms (args := args) howns hfin hpl (fun x hx => h x (by simp [nsAtoms, hx]))
  obtain ⟨Z, M, LZ, LM, hnZ⟩ := Init0T.ofS_atoms (args := args) hpl L Y (fun x hx => h x (by simp [nsAtoms, hx]))
  obtain ⟨P1, L1, hP1m, hs9⟩ := PassC.ofS_atoms (args := args) (s := s) hpl (X := cls) (Y := Y9) (Bundle.fit_spec hcls).1 (Bundle.fit_spec hY9).2 b0 b1 b2 b5 (fun x hx => h x (by simp [nsAtoms, hx]))
  obtain ⟨P', Ps', hlen', L', hL', hm', hsup', hpass'⟩ := Bundle.chainS (args := args) hpl hnZ names Y9 hY9 hnames (fun x hx => h x (by simp [nsAtoms, hx]))
  obtain ⟨Ps, hPs⟩ : ∃ z, z = P' :: Ps' := ⟨_, rfl⟩
  have hlen : Ps.length = names.length + 1 := by rw [hPs]; simp [hlen']
  have hL : ∀ P, P ∈ Ps → P.LinksS e.platform s := by
    rw [hPs]
    intro Q hQ
    rcases List.mem_cons.mp hQ with rfl | hQ
    · exact L'
    · exact hL' Q hQ
  have hlink1 : P1.sup = firstOf (Z.m T.toThrowableT) (Ps.map (·.toPassT)) := by rw [hPs]; exact Option.some.inj (hs9.symm.trans hm')
  have hlink : PassesOn (Z.m T.toThrowableT) (Ps.map (·.toPassT)) := by rw [hPs]; exact ⟨hsup', hpass'⟩
  have hfound : s.vm.findClass cls = some P1.m.cls := findClass_of_methodNamed hP1m
  cases Option.some.inj (hfoundX.symm.trans hfound)
  obtain ⟨c1, kX', hc1, hk, hord, -, -, hn6⟩ := Cond.instantiable_spec (a' (.instantiable cls 6) (by simp [nsAtoms]))
  cases Option.some.inj (hc1.symm.trans hfound)
  cases Option.some.inj (hkX.symm.trans hk)
  have hsel0 : selectMethod e.platform s.vm P1.m.cls T.fill0 = .method T.fill0 := by
    obtain ⟨c2, r2, m2, q1, q2, q3, q4, -⟩ := Cond.selects_spec (a' (.selects cls Bundle.tFill0 Bundle.tFill0) (by simp [nsAtoms]))
    cases Option.some.inj (q1.symm.trans hfound)
    cases Option.some.inj (q2.symm.trans (State.methodFound?_of_named Y.fill0 (by decide)))
    cases Option.some.inj (q3.symm.trans Y.fill0)
    rw [Launch.admits_selectMethod X.admits]; exact q4
  have hselF : selectMethod e.platform s.vm P1.m.cls T.fill = .method T.fill := by
    obtain ⟨c2, r2, m2, q1, q2, q3, q4, -⟩ := Cond.selects_spec (a' (.selects cls Bundle.tFill Bundle.tFill) (by simp [nsAtoms]))
    cases Option.some.inj (q1.symm.trans hfound)
    cases Option.some.inj (q2.symm.trans (State.methodFound?_of_named Y.fill (by decide)))
    cases Option.some.inj (q3.symm.trans Y.fill)
    rw [Launch.admits_selectMethod X.admits]; exact q4
  obtain ⟨cellS0, hcS0, hiss⟩ := Y.statics
  obtain ⟨u0, hu0⟩ := Cond.staticRefV Y.unassigned L.unassignedStatic L.statics hcS0 hiss (a' (.isRef (.static Bundle.tN "UNASSIGNED_STACK" Bundle.steD)) (by simp [nsAtoms]))
  obtain ⟨sen, hsen⟩ := Cond.staticRefV Y.sentinel L.sentinelStatic L.statics hcS0 hiss (a' (.isRef (.static Bundle.tN "SUPPRESSED_SENTINEL" Bundle.listD)) (by simp [nsAtoms]))
  obtain ⟨ci198, i198, fB, hk198, hg198, ha198, hsB, -, hnB, htB, hffB⟩ := Cond.ownField (t := .object "java/lang/Object") Y.found L.cls (by decide +kernel) (a' (.fieldLink Bundle.tN 198 Bundle.tN "backtrace" "Ljava/lang/Object;") (by simp [nsAtoms])) (a' (.lays Bundle.tN Bundle.tN "backtrace" "Ljava/lang/Object;") (by simp [nsAtoms])) e.platform hpl
  obtain ⟨cellS, hcS', heS, -, hkeep⟩ := X.same.2.2.2.2.2 T.aS cellS0 hcS0
  have hcellS : W.heap[T.aS]? = some cellS := hcS'
  have hout' : ∀ i, (⟨T.aS, i⟩ : Loc) ∉ locs := fun i hmem => by
    have := hlocs _ hmem cellS0 hcS0
    rw [hiss] at this; cases this
  have hknownS : cellS.vm ≠ .unknown := by
    rw [heS]; intro hu
    rw [show cellS0.vm = .unknown from hu] at hiss
    cases hiss
  have hneS : T.aS ≠ a := Nat.ne_of_lt (Nat.lt_of_lt_of_le (Array.getElem?_eq_some_iff.mp hcS0).1 hnew)
  obtain ⟨iM, hffM⟩ := Y.msg
  obtain ⟨tyC, dC, hdC, hdnC⟩ := Cond.laysAt hfound hk Y.cause (a' (.lays cls Bundle.tN "cause" "Ljava/lang/Throwable;") (by simp [nsAtoms]))
  obtain ⟨tyS, dS, hdS, hdnS⟩ := Cond.laysAt hfound hk Y.stack (a' (.lays cls Bundle.tN "stackTrace" Bundle.steD) (by simp [nsAtoms]))
  obtain ⟨tyP, dP, hdP, hdnP⟩ := Cond.laysAt hfound hk Y.supp (a' (.lays cls Bundle.tN "suppressedExceptions" Bundle.listD) (by simp [nsAtoms]))
  obtain ⟨tyM, dM, hdM, hdnM⟩ := Cond.laysAt hfound hk hffM (a' (.lays cls Bundle.tN "detailMessage" "Ljava/lang/String;") (by simp [nsAtoms]))
  obtain ⟨tyB, dB, hdB, hdnB⟩ := Cond.laysAt hfound hk hffB (a' (.lays cls Bundle.tN "backtrace" "Ljava/lang/Object;") (by simp [nsAtoms]))
  have bC := Cond.laysApart hdB hdC hdnB hdnC (by rw [hnB, Y.causeName]; decide)
  have bS := Cond.laysApart hdB hdS hdnB hdnS (by rw [hnB, Y.stackName]; decide)
  have bP := Cond.laysApart hdB hdP hdnB hdnP (by rw [hnB, Y.suppName]; decide)
  have hskip : SkipFacts T e.platform s (fun u => u) u0 ((preparedCellV T.toThrowableT (freshCell P1.m.cls kX) a u0 sen).withEntry W.cur) :=
    ⟨{ ci198 := ci198, i198 := i198, fBack := fB }, ⟨hk198, hg198, ha198, hsB⟩, by
      have := fresh_default (c := P1.m.cls) tyB
      rw [htB] at this
      simpa [preparedCellV, Cell.setSlot, Cell.withEntry, Array.getElem?_setIfInBounds, bC, bS, bP, bC.symm, bS.symm, bP.symm, defaultValue] using this, fun _ _ => rfl⟩
  obtain ⟨tm, methC, cdC, kC, vm₁, hnC, -, -, -, -, -, -, -, hW₁, st1⟩ := Steps.initColdS (tb := p.tables) (e := e) (below := below) (s := s) (U := W) X.here hexec X.warmed hpl hown (t := Bundle.initS cls) rfl rfl (Bundle.fit_spec hcls).2
    (a' (.methodLink own ic (Bundle.initS cls)) (by simp [nsAtoms])) (h (.instanceMethod (Bundle.initS cls)) (by simp [nsAtoms, Bundle.passSAtoms])) (bytes := b9) (maxL := 2) (h (.code (Bundle.initS cls) b9 2 none) (by simp [nsAtoms, Bundle.passSAtoms]))
    (f := g) hg (a := a) (msg := msg) (rest := .ref a :: rest) hstack hd6
  cases Option.some.inj (hnC.symm.trans hP1m)
  have X₁ := X.noted hW₁
  obtain ⟨vm₂, X₂, st2⟩ := X₁.ctorMessageOffV hexec (g := { g with stack := .ref a :: rest }) hg hsize T L Z LZ M LM (P1 :: Ps)
    (fun P hP => by rcases List.mem_cons.mp hP with rfl | hP; exact L1; exact hL P hP) ⟨hlink1, hlink⟩ (u0 := u0) (sen := sen) (self := a) hmsg (cell := freshCell P1.m.cls kX) (cellS := cellS)
    hcell (fun _ => by simp) (by simp) rfl rfl hsel0 hselF hcellS hneS hknownS (by rw [hkeep _ (hout' _)]; exact hu0) (by rw [hkeep _ (hout' _)]; exact hsen)
    (Takes.of_laid hk hord tyC (by rw [Y.causeType]; rfl)) (Takes.of_laid hk hord tyS (by rw [Y.stackType]; exact fits_refV_array _ u0)) (Takes.of_laid hk hord tyP (by rw [Y.suppType]; exact fits_refV_object _ sen))
    (Takes.of_laid hk hord tyM (by rw [Y.msgType]; exact fits_refV_object _ ⟨msg, hmsg⟩)) Y.objLocals hskip htr [] hd6
    (by simp only [List.length_cons, hlen]; omega) (by simp only [List.length_cons, hlen]; exact hRlocals)
  obtain ⟨hwalk, hrun, hended, hWU, hsame⟩ := X₂.athrowLeaves hexec (g := { g with stack := .ref a :: rest, pc := g.pc + 3 }) hg hlocked hentered hout (a := a) (rest := rest) rfl hd9
  obtain ⟨c3, c4, hc3, hc4, hasg⟩ := Cond.castable_spec (a' (.castable cls cls) (by simp [nsAtoms]))
  cases Option.some.inj (hc3.symm.trans hfound)
  cases Option.some.inj (hc4.symm.trans hfound)
  have hlt : a < ((W.setVm vm₁).setVm vm₂).heap.size := (Array.getElem?_eq_some_iff.mp hcell).1
  have hU := heapAt_setCell_self (s := (W.setVm vm₁).setVm vm₂) (plainBareV T.toThrowableT (freshCell P1.m.cls kX) a u0 sen msg) hlt
  refine ⟨_, st1 _ (fun acts => ?_), hrun, hended, hWU, hsame.weaken (fun y hy hlt' => ?_) (Nat.le_refl _) (Nat.le_refl _), _, hU, ?_⟩
  · rw [doInvoke_state]
    exact st2 _ hwalk
  · rcases List.mem_append.mp hy with h1 | h1
    · exact h1
    · exfalso
      have hb : y.base = a := by
        simp only [List.mem_cons, List.not_mem_nil, or_false] at h1
        rcases h1 with rfl | rfl | rfl | rfl | rfl <;> rfl
      rw [hb] at hlt'
      exact Nat.not_lt.mpr hnew hlt'
  · exact ⟨hfound, rfl⟩
end NSX
abbrev nsA : List Cond := (nsAtoms "SharedLog" 252 "java/util/NoSuchElementException" "java/lang/RuntimeException" 13 prog_18_method_4_code ["java/lang/Exception"]).filter vx_no
set_option maxRecDepth 20000 in
theorem nsA_in : ∀ w ∈ nsA, w ∈ WALL ∨ w ∈ WBAD := by decide +kernel
set_option maxRecDepth 20000 in
theorem nsA_ot : ∀ w ∈ Cond.classLink "SharedLog" 249 "java/util/NoSuchElementException" :: Cond.initialized "java/util/NoSuchElementException" :: nsA, vx_ot w = true := by decide +kernel
set_option maxRecDepth 20000 in
theorem ns_k : Cond.classLink "SharedLog" 249 "java/util/NoSuchElementException" ∈ WALL := by decide +kernel
set_option maxRecDepth 20000 in
theorem ns_i : Cond.initialized "java/util/NoSuchElementException" ∈ WALL := by decide +kernel
set_option maxHeartbeats 2000000 in
theorem wp_nse {G : mt_G} {M : mt_M} {lo : List (Nat × Value)} {pc : Nat} {rest : List Value} {μ : mu_M} {cn sn : Nat} {post : Option Value → mu_M → Prop} {px : String → mu_M → Prop} {hh : List (Nat × Nat × Nat × Nat)} (hcl : (mt_y M).cls = "SharedLog") (hh0 : mt_h M = some hh) (hcov : ∀ x ∈ tableOf hh, covers x (pc + 9) = false)
    (d0 : decode (mt_c M) pc = .ok (.new 249, 3)) (d3 : decode (mt_c M) (pc + 3) = .ok (.dup, 1)) (d4 : decode (mt_c M) (pc + 4) = .ok (.ldc 251, 2)) (d6 : decode (mt_c M) (pc + 6) = .ok (.invokespecial 252, 3)) (d9 : decode (mt_c M) (pc + 9) = .ok (.athrow, 1))
    (hRf : 5 < (mt_R M).frames) (hRl : (rest.map fun v => v.category).sum + 82 ≤ (mt_R M).locals) (hc : cn + 1 ≤ (mt_R M).cells) (hs : sn + 6 ≤ (mt_R M).slots) (hp : px "java/util/NoSuchElementException" μ) : WP G M (EC G M post px) lo pc rest μ cn sn := by
  intro hg p e s m args below meth c H locs ls hM hV hS hL T hT X
  have hAm := hM.2.2.2.2.2.2.2.2
  have hown : s.vm.findClass "SharedLog" = some m.cls := by rw [← hcl]; exact hM.2.2.2.2.1
  have hexec := hM.1
  have hb := hM.2.1
  obtain ⟨sa, hstr⟩ := hAm.2.2.2.2.1 ("SharedLog", 251, "trimmed") (by decide +kernel)
  have htr : e.platform.stackTraces = false := (show e.platform.stackTraces = G.1.stackTraces by rw [X.admits.platform]).trans hg
  have Y := vx_rebase X (R' := { frames := (mt_R M).frames, locals := (mt_R M).locals, cells := 1, slots := 6 }) (Nat.le_refl _) (Nat.le_refl _) hc hs
  obtain ⟨s', hA⟩ : ∃ z, z = (T.setVm s.vm).setFrames (.invoking m args :: below) := ⟨_, rfl⟩
  rw [← hA] at Y
  have hvm : s'.vm = s.vm := by rw [hA]; rfl
  have hhp : s'.heap = H := by rw [hA]; exact hT
  have hW0 : s.WarmedH s'.vm := by rw [hvm]; exact State.WarmedH.refl s
  have hat : ∀ w ∈ nsA, w.before args s = true := fun w hw => (nsA_in w hw).elim (hAm.ts _ _) (fun z => bad_use (List.mem_filter.mp z).2 (hAm.2.2.2.2.2.2.2.1 _ z))
  have hat' : ∀ w ∈ nsA, w.before args s' = true := fun w hw => vx_ot_at hW0 hvm.symm (nsA_ot w (List.mem_cons_of_mem _ (List.mem_cons_of_mem _ hw))) (hat w hw)
  have hk' : (Cond.classLink "SharedLog" 249 "java/util/NoSuchElementException").before args s' = true := vx_ot_at hW0 hvm.symm (nsA_ot _ List.mem_cons_self) (hAm.ts args _ ns_k)
  have hini' : (Cond.initialized "java/util/NoSuchElementException").before args s' = true := vx_ot_at hW0 hvm.symm (nsA_ot _ (List.mem_cons_of_mem _ List.mem_cons_self)) (hAm.ts args _ ns_i)
  have hU' : vx_Zq Bundle.tN "UNASSIGNED_STACK" Bundle.steD (AA G.2.2.2) s' s'.heap := by rw [hhp]; exact vx_Zq.moved hW0.alike (hAm.2.2.1.kept hS.2.1)
  have hN' : vx_Zq Bundle.tN "SUPPRESSED_SENTINEL" Bundle.listD (AA G.2.2.2) s' s'.heap := by rw [hhp]; exact vx_Zq.moved hW0.alike (hAm.2.2.2.1.kept hS.2.1)
  have h : ∀ w ∈ nsAtoms "SharedLog" 252 "java/util/NoSuchElementException" "java/lang/RuntimeException" 13 prog_18_method_4_code ["java/lang/Exception"], w.before args s' = true := vx_own hat' (vx_isRefq hU'.1) (vx_isRefq hN'.1) hU'.2.word hN'.2.word
  have hown' : s'.vm.findClass "SharedLog" = some m.cls := by rw [hvm]; exact hown
  have hins : (Cond.instantiable "java/util/NoSuchElementException" 6).before args s' = true := h _ (by simp [nsAtoms])
  obtain ⟨vm₁, cX, kX, hfX, hkX, -, -, X₁, st1⟩ := Y.newCold hexec (own := "SharedLog") (C := "java/util/NoSuchElementException") (index := 249) (n := 6) hown' hk' hins hini'
    (g := F0 m pc ls rest) rfl (by rw [hb]; exact d0) (Nat.le_refl _) (Nat.le_refl _)
  generalize hT1 : (T.setVm vm₁).pushCell { cls := cX, slots := kX.instanceTypes.map defaultValue, vm := .none } = T1 at X₁ st1
  have hcat : (Value.ref T.heap.size).category = 1 := rfl
  have hcellA : T1.heap[T.heap.size]? = some (freshCell cX kX) := by rw [← hT1]; exact State.heap_pushCell_size _ _
  have d3' : decode c.code (pc + 3) = .ok (.dup, 1) := by rw [hb]; exact d3
  have d4' : decode c.code (pc + 4) = .ok (.ldc 251, 2) := by rw [hb]; exact d4
  have hstr' : vk_R "SharedLog" 251 "trimmed" sa s' := vk_R.warm hW0 hstr
  have hsize : ls.size = c.maxLocals := hL.1.trans hM.2.2.2.1.symm
  have hout : ∀ x ∈ c.exceptionTable.toList, covers x (pc + 9) = false := fun x hx => hcov x (by rw [← hM.2.2.2.2.2.2.1 hh hh0]; exact hx)
  obtain ⟨U, hsteps, hrun, hend, hW, hsame, ce, hce, hO1, hO2⟩ := ns_ctorThrow X₁ hexec htr (own := "SharedLog") (cls := "java/util/NoSuchElementException") (Y9 := "java/lang/RuntimeException") (names := ["java/lang/Exception"]) (ic := 252) (ix := 13) (b9 := prog_18_method_4_code) (by decide +kernel) (by decide +kernel) (by decide +kernel) (by decide +kernel) (by decide +kernel) hown' (by decide +kernel) (by decide +kernel) h (fun x hx => nomatch hx) hfX hkX hcellA (by rw [hhp, hT]; exact Nat.le_refl _) (msg := .ref sa) rfl
    (g := { method := m, pc := pc + 6, locals := ls, stack := .ref sa :: .ref T.heap.size :: .ref T.heap.size :: rest, locked := none }) rfl hsize rfl rfl (rest := rest) rfl
    (by rw [hb]; exact d6) (by rw [hb]; exact d9) hout (by show 1 + 4 < (mt_R M).frames; omega) (by simp only [List.map_cons, List.sum_cons, hcat]; show 2 * 0 + (1 + _) + (13 * (1 + 2) + 42) ≤ (mt_R M).locals; omega) hM.2.2.2.2.2.1
  obtain ⟨f1, f2⟩ := vx_frame hsame
  rw [hhp] at f1 f2
  have hWs : s.WarmedH U.vm := State.WarmedH.trans hW0 hW
  have hcl9 : s.vm.findClass "java/util/NoSuchElementException" = some ce.cls := by
    have h9 := hO1
    rw [hvm] at h9
    exact h9
  have hall : s.sameButNew ({ U with vm := s.vm } : State) locs (mt_R M).cells (mt_R M).slots := by
    subst hA
    obtain ⟨e1, e2⟩ := hsame
    rw [State.setFrames_setFrames] at e1
    have h2 : (T.setVm s.vm).sameButNew ({ U with vm := s.vm } : State) [] (0 + 1) (0 + 6) := ⟨e1, e2⟩
    have h3 := X.same.trans h2
    rw [List.append_nil] at h3
    exact h3.mono hc hs
  have ho : ∀ q : Nat, q < H.size → U.heap[q]? = H[q]? := fun q hq => f2 q hq (fun z hz => nomatch hz)
  refine ⟨U, ?_, .threw T.heap.size, hrun, hend, Or.inr ⟨T.heap.size, rfl, "java/util/NoSuchElementException", ce, locs, ⟨μ, hp, hV.kept ho, Nat.le_trans hS.1 f1, fun q h1 h2 => (ho q (Nat.lt_of_lt_of_le h1 hS.1)).trans (hS.2.1 q h1 h2)⟩, hce, hO2, hcl9, hWs, hall, hS.2.2⟩⟩
  refine st1 _ ?_
  show Steps p.tables e below (T1.setTop { method := m, pc := pc + 3, locals := ls, stack := .ref T.heap.size :: rest, locked := none }) _
  jvm_step X₁.here [X₁.here.top, hexec, d3', Value.category]
  exact X₁.ldcString hexec (own := "SharedLog") (text := "trimmed") (index := 251) (a := sa) hown' hstr'.1 hstr'.2
    (g := { method := m, pc := pc + 4, locals := ls, stack := .ref T.heap.size :: .ref T.heap.size :: rest, locked := none }) rfl d4' _ hsteps
end
section
def M_Log_init : mt_M := (({ cls := "SharedLog", name := "<init>", desc := "()V" } : Jvm.MethodName), prog_1_method_1_code, 3, (Option.none : Option Jvm.ClassFile.FieldType), some [], { frames := 3, cells := 71, slots := 800, locals := 61 })
def M_Log_append : mt_M := (({ cls := "SharedLog", name := "append", desc := "(IIII)I" } : Jvm.MethodName), prog_1_method_2_code, 9, (Option.some Jvm.ClassFile.FieldType.int), some [], { frames := 8, cells := 15, slots := 77, locals := 140 })
def M_Log_read : mt_M := (({ cls := "SharedLog", name := "read", desc := "(II)I" } : Jvm.MethodName), prog_1_method_3_code, 4, (Option.some Jvm.ClassFile.FieldType.int), some [], { frames := 8, cells := 5, slots := 30, locals := 137 })
def M_Log_fill : mt_M := (({ cls := "SharedLog", name := "fill", desc := "(II)I" } : Jvm.MethodName), prog_1_method_4_code, 9, (Option.some Jvm.ClassFile.FieldType.int), some [], { frames := 7, cells := 5, slots := 30, locals := 113 })
def M_Log_trim : mt_M := (({ cls := "SharedLog", name := "trim", desc := "(II)I" } : Jvm.MethodName), prog_1_method_5_code, 5, (Option.some Jvm.ClassFile.FieldType.int), some [], { frames := 8, cells := 182, slots := 1092, locals := 139 })
def M_Log_learn : mt_M := (({ cls := "SharedLog", name := "learn", desc := "(I)I" } : Jvm.MethodName), prog_1_method_6_code, 2, (Option.some Jvm.ClassFile.FieldType.int), some [], { frames := 7, cells := 1, slots := 6, locals := 111 })
def M_Log_change : mt_M := (({ cls := "SharedLog", name := "change", desc := "(III)I" } : Jvm.MethodName), prog_1_method_7_code, 8, (Option.some Jvm.ClassFile.FieldType.int), some [], { frames := 7, cells := 7, slots := 36, locals := 113 })
def M_Log_up : mt_M := (({ cls := "SharedLog", name := "up", desc := "(IZ)I" } : Jvm.MethodName), prog_1_method_8_code, 3, (Option.some Jvm.ClassFile.FieldType.int), some [], { frames := 7, cells := 1, slots := 6, locals := 111 })
def M_Log_lose : mt_M := (({ cls := "SharedLog", name := "lose", desc := "()I" } : Jvm.MethodName), prog_1_method_9_code, 1, (Option.some Jvm.ClassFile.FieldType.int), some [], { frames := 0, cells := 0, slots := 0, locals := 0 })
def M_Log_sync : mt_M := (({ cls := "SharedLog", name := "sync", desc := "(I)I" } : Jvm.MethodName), prog_1_method_10_code, 3, (Option.some Jvm.ClassFile.FieldType.int), some [], { frames := 9, cells := 122, slots := 732, locals := 161 })
def M_Log_get : mt_M := (({ cls := "SharedLog", name := "get", desc := "(II)I" } : Jvm.MethodName), prog_1_method_11_code, 3, (Option.some Jvm.ClassFile.FieldType.int), some [], { frames := 7, cells := 2, slots := 12, locals := 111 })
def M_Log_begin : mt_M := (({ cls := "SharedLog", name := "begin", desc := "(I)I" } : Jvm.MethodName), prog_1_method_12_code, 3, (Option.some Jvm.ClassFile.FieldType.int), some [], { frames := 7, cells := 2, slots := 12, locals := 111 })
def M_Log_see : mt_M := (({ cls := "SharedLog", name := "see", desc := "(II)I" } : Jvm.MethodName), prog_1_method_13_code, 5, (Option.some Jvm.ClassFile.FieldType.int), some [], { frames := 7, cells := 3, slots := 18, locals := 111 })
def M_Log_put : mt_M := (({ cls := "SharedLog", name := "put", desc := "(III)I" } : Jvm.MethodName), prog_1_method_14_code, 5, (Option.some Jvm.ClassFile.FieldType.int), some [], { frames := 7, cells := 3, slots := 18, locals := 111 })
def M_Log_commit : mt_M := (({ cls := "SharedLog", name := "commit", desc := "(I)Z" } : Jvm.MethodName), prog_1_method_15_code, 4, (Option.some Jvm.ClassFile.FieldType.boolean), some [], { frames := 10, cells := 134, slots := 791, locals := 184 })
def M_Log_drop : mt_M := (({ cls := "SharedLog", name := "drop", desc := "(I)I" } : Jvm.MethodName), prog_1_method_16_code, 3, (Option.some Jvm.ClassFile.FieldType.int), some [], { frames := 7, cells := 1, slots := 6, locals := 111 })
def M_Log_look : mt_M := (({ cls := "SharedLog", name := "look", desc := "(II)I" } : Jvm.MethodName), prog_1_method_17_code, 3, (Option.some Jvm.ClassFile.FieldType.int), some [], { frames := 7, cells := 2, slots := 12, locals := 111 })
def M_Log_client : mt_M := (({ cls := "SharedLog", name := "client", desc := "(II)I" } : Jvm.MethodName), prog_1_method_18_code, 4, (Option.some Jvm.ClassFile.FieldType.int), some [], { frames := 7, cells := 2, slots := 12, locals := 111 })
def M_Log_count : mt_M := (({ cls := "SharedLog", name := "count", desc := "(I)I" } : Jvm.MethodName), prog_1_method_19_code, 2, (Option.some Jvm.ClassFile.FieldType.int), some [], { frames := 7, cells := 1, slots := 6, locals := 111 })
def M_Log_requireWithin : mt_M := (({ cls := "SharedLog", name := "requireWithin", desc := "(II)V" } : Jvm.MethodName), prog_1_method_20_code, 2, (Option.none : Option Jvm.ClassFile.FieldType), some [], { frames := 6, cells := 1, slots := 6, locals := 90 })
def M_Log_requireRow : mt_M := (({ cls := "SharedLog", name := "requireRow", desc := "(I)V" } : Jvm.MethodName), prog_1_method_21_code, 1, (Option.none : Option Jvm.ClassFile.FieldType), some [], { frames := 6, cells := 2, slots := 12, locals := 90 })
def M_Log_isRow : mt_M := (({ cls := "SharedLog", name := "isRow", desc := "(I)Z" } : Jvm.MethodName), prog_1_method_22_code, 4, (Option.some Jvm.ClassFile.FieldType.boolean), some [], { frames := 0, cells := 1, slots := 6, locals := 0 })
def M_Log_rowOf : mt_M := (({ cls := "SharedLog", name := "rowOf", desc := "(I)[I" } : Jvm.MethodName), prog_1_method_23_code, 5, (Option.some (Jvm.ClassFile.FieldType.array Jvm.ClassFile.FieldType.int)), some [], { frames := 0, cells := 1, slots := 3, locals := 0 })
def M_Log_digitsOf : mt_M := (({ cls := "SharedLog", name := "digitsOf", desc := "([I)I" } : Jvm.MethodName), prog_1_method_24_code, 3, (Option.some Jvm.ClassFile.FieldType.int), some [], { frames := 0, cells := 0, slots := 0, locals := 0 })
def M_Log_requireTransaction : mt_M := (({ cls := "SharedLog", name := "requireTransaction", desc := "(LSharedLog$Client;)V" } : Jvm.MethodName), prog_1_method_25_code, 1, (Option.none : Option Jvm.ClassFile.FieldType), some [], { frames := 6, cells := 1, slots := 6, locals := 90 })
def M_Log_requireSequencer : mt_M := (({ cls := "SharedLog", name := "requireSequencer", desc := "(LSharedLog$Client;)V" } : Jvm.MethodName), prog_1_method_26_code, 2, (Option.none : Option Jvm.ClassFile.FieldType), some [], { frames := 6, cells := 1, slots := 6, locals := 90 })
def M_Log_takeToken : mt_M := (({ cls := "SharedLog", name := "takeToken", desc := "(LSharedLog$Client;)I" } : Jvm.MethodName), prog_1_method_27_code, 3, (Option.some Jvm.ClassFile.FieldType.int), some [], { frames := 7, cells := 2, slots := 12, locals := 111 })
def M_Log_use : mt_M := (({ cls := "SharedLog", name := "use", desc := "(LSharedLog$Client;I)LSharedLog$Unit;" } : Jvm.MethodName), prog_1_method_28_code, 4, (Option.some (Jvm.ClassFile.FieldType.object "SharedLog$Unit")), some [], { frames := 6, cells := 1, slots := 6, locals := 90 })
def M_Log_write : mt_M := (({ cls := "SharedLog", name := "write", desc := "(LSharedLog$Client;ILSharedLog$Entry;I)V" } : Jvm.MethodName), prog_1_method_29_code, 8, (Option.none : Option Jvm.ClassFile.FieldType), some [], { frames := 7, cells := 4, slots := 24, locals := 113 })
def M_Log_entryAtEnd : mt_M := (({ cls := "SharedLog", name := "entryAtEnd", desc := "(LSharedLog$Client;I)LSharedLog$Entry;" } : Jvm.MethodName), prog_1_method_30_code, 5, (Option.some (Jvm.ClassFile.FieldType.object "SharedLog$Entry")), some [], { frames := 7, cells := 2, slots := 12, locals := 113 })
def M_Log_trimOne : mt_M := (({ cls := "SharedLog", name := "trimOne", desc := "(LSharedLog$Client;I)I" } : Jvm.MethodName), prog_1_method_31_code, 7, (Option.some Jvm.ClassFile.FieldType.int), some [], { frames := 7, cells := 3, slots := 18, locals := 113 })
def M_Log_play : mt_M := (({ cls := "SharedLog", name := "play", desc := "(LSharedLog$Client;I)Z" } : Jvm.MethodName), prog_1_method_32_code, 5, (Option.some Jvm.ClassFile.FieldType.boolean), some [], { frames := 8, cells := 120, slots := 720, locals := 137 })
def M_Log_writeAndPlayCommit : mt_M := (({ cls := "SharedLog", name := "writeAndPlayCommit", desc := "(LSharedLog$Client;)Z" } : Jvm.MethodName), prog_1_method_33_code, 4, (Option.some Jvm.ClassFile.FieldType.boolean), some [], { frames := 9, cells := 132, slots := 779, locals := 161 })
def M_Log_requireChangeable : mt_M := (({ cls := "SharedLog", name := "requireChangeable", desc := "(LSharedLog$Client;[I)V" } : Jvm.MethodName), prog_1_method_34_code, 4, (Option.none : Option Jvm.ClassFile.FieldType), some [], { frames := 6, cells := 1, slots := 6, locals := 90 })
def M_Log_upCount : mt_M := (({ cls := "SharedLog", name := "upCount", desc := "([I)I" } : Jvm.MethodName), prog_1_method_35_code, 4, (Option.some Jvm.ClassFile.FieldType.int), some [], { frames := 0, cells := 0, slots := 0, locals := 0 })
def M_Log_sealAll : mt_M := (({ cls := "SharedLog", name := "sealAll", desc := "(LSharedLog$Layout;[II)V" } : Jvm.MethodName), prog_1_method_36_code, 5, (Option.none : Option Jvm.ClassFile.FieldType), some [], { frames := 1, cells := 0, slots := 0, locals := 24 })
def M_Log_sealRow : mt_M := (({ cls := "SharedLog", name := "sealRow", desc := "([II)V" } : Jvm.MethodName), prog_1_method_37_code, 5, (Option.none : Option Jvm.ClassFile.FieldType), some [], { frames := 0, cells := 0, slots := 0, locals := 0 })
def M_Log_merge : mt_M := (({ cls := "SharedLog", name := "merge", desc := "([I[II)V" } : Jvm.MethodName), prog_1_method_38_code, 7, (Option.none : Option Jvm.ClassFile.FieldType), some [], { frames := 2, cells := 0, slots := 0, locals := 45 })
def M_Log_firstHeld : mt_M := (({ cls := "SharedLog", name := "firstHeld", desc := "([II)LSharedLog$Entry;" } : Jvm.MethodName), prog_1_method_39_code, 5, (Option.some (Jvm.ClassFile.FieldType.object "SharedLog$Entry")), some [], { frames := 1, cells := 0, slots := 0, locals := 21 })
def M_Log_firstFreeOffset : mt_M := (({ cls := "SharedLog", name := "firstFreeOffset", desc := "()I" } : Jvm.MethodName), prog_1_method_40_code, 2, (Option.some Jvm.ClassFile.FieldType.int), some [], { frames := 2, cells := 0, slots := 0, locals := 45 })
def M_Model_init : mt_M := (({ cls := "SharedLogModel", name := "<init>", desc := "()V" } : Jvm.MethodName), prog_9_method_1_code, 2, (Option.none : Option Jvm.ClassFile.FieldType), some [], { frames := 1, cells := 20, slots := 5200, locals := 21 })
def M_Model_thrown : mt_M := (({ cls := "SharedLogModel", name := "thrown", desc := "()I" } : Jvm.MethodName), prog_9_method_2_code, 1, (Option.some Jvm.ClassFile.FieldType.int), some [], { frames := 0, cells := 0, slots := 0, locals := 0 })
def M_Model_fail : mt_M := (({ cls := "SharedLogModel", name := "fail", desc := "(I)I" } : Jvm.MethodName), prog_9_method_3_code, 2, (Option.some Jvm.ClassFile.FieldType.int), some [], { frames := 0, cells := 0, slots := 0, locals := 0 })
def M_Model_out : mt_M := (({ cls := "SharedLogModel", name := "out", desc := "(II)Z" } : Jvm.MethodName), prog_9_method_4_code, 3, (Option.some Jvm.ClassFile.FieldType.boolean), some [], { frames := 0, cells := 0, slots := 0, locals := 0 })
def M_Model_learnNow : mt_M := (({ cls := "SharedLogModel", name := "learnNow", desc := "(I)V" } : Jvm.MethodName), prog_9_method_5_code, 2, (Option.none : Option Jvm.ClassFile.FieldType), some [], { frames := 0, cells := 0, slots := 0, locals := 0 })
def M_Model_length : mt_M := (({ cls := "SharedLogModel", name := "length", desc := "(I)I" } : Jvm.MethodName), prog_9_method_6_code, 2, (Option.some Jvm.ClassFile.FieldType.int), some [], { frames := 0, cells := 0, slots := 0, locals := 0 })
def M_Model_unit : mt_M := (({ cls := "SharedLogModel", name := "unit", desc := "(II)I" } : Jvm.MethodName), prog_9_method_7_code, 5, (Option.some Jvm.ClassFile.FieldType.int), some [], { frames := 1, cells := 0, slots := 0, locals := 21 })
def M_Model_rowFor : mt_M := (({ cls := "SharedLogModel", name := "rowFor", desc := "(II)I" } : Jvm.MethodName), prog_9_method_8_code, 3, (Option.some Jvm.ClassFile.FieldType.int), some [], { frames := 0, cells := 0, slots := 0, locals := 0 })
def M_Model_usable : mt_M := (({ cls := "SharedLogModel", name := "usable", desc := "(II)Z" } : Jvm.MethodName), prog_9_method_9_code, 3, (Option.some Jvm.ClassFile.FieldType.boolean), some [], { frames := 0, cells := 0, slots := 0, locals := 0 })
def M_Model_cell : mt_M := (({ cls := "SharedLogModel", name := "cell", desc := "(II)I" } : Jvm.MethodName), prog_9_method_10_code, 3, (Option.some Jvm.ClassFile.FieldType.int), some [], { frames := 0, cells := 0, slots := 0, locals := 0 })
def M_Model_copy : mt_M := (({ cls := "SharedLogModel", name := "copy", desc := "(II)V" } : Jvm.MethodName), prog_9_method_11_code, 4, (Option.none : Option Jvm.ClassFile.FieldType), some [], { frames := 0, cells := 0, slots := 0, locals := 0 })
def M_Model_ones : mt_M := (({ cls := "SharedLogModel", name := "ones", desc := "(I)I" } : Jvm.MethodName), prog_9_method_12_code, 4, (Option.some Jvm.ClassFile.FieldType.int), some [], { frames := 0, cells := 0, slots := 0, locals := 0 })
def M_Model_write : mt_M := (({ cls := "SharedLogModel", name := "write", desc := "(III)I" } : Jvm.MethodName), prog_9_method_13_code, 7, (Option.some Jvm.ClassFile.FieldType.int), some [], { frames := 2, cells := 0, slots := 0, locals := 45 })
def M_Model_noToken : mt_M := (({ cls := "SharedLogModel", name := "noToken", desc := "(I)Z" } : Jvm.MethodName), prog_9_method_14_code, 2, (Option.some Jvm.ClassFile.FieldType.boolean), some [], { frames := 0, cells := 0, slots := 0, locals := 0 })
def M_Model_append : mt_M := (({ cls := "SharedLogModel", name := "append", desc := "(IIII)I" } : Jvm.MethodName), prog_9_method_15_code, 7, (Option.some Jvm.ClassFile.FieldType.int), some [], { frames := 3, cells := 0, slots := 0, locals := 71 })
def M_Model_lastCell : mt_M := (({ cls := "SharedLogModel", name := "lastCell", desc := "(II)I" } : Jvm.MethodName), prog_9_method_16_code, 5, (Option.some Jvm.ClassFile.FieldType.int), some [], { frames := 2, cells := 0, slots := 0, locals := 45 })
def M_Model_read : mt_M := (({ cls := "SharedLogModel", name := "read", desc := "(II)I" } : Jvm.MethodName), prog_9_method_17_code, 4, (Option.some Jvm.ClassFile.FieldType.int), some [], { frames := 3, cells := 0, slots := 0, locals := 69 })
def M_Model_fill : mt_M := (({ cls := "SharedLogModel", name := "fill", desc := "(II)I" } : Jvm.MethodName), prog_9_method_18_code, 7, (Option.some Jvm.ClassFile.FieldType.int), some [], { frames := 2, cells := 0, slots := 0, locals := 45 })
def M_Model_trim : mt_M := (({ cls := "SharedLogModel", name := "trim", desc := "(II)I" } : Jvm.MethodName), prog_9_method_19_code, 8, (Option.some Jvm.ClassFile.FieldType.int), some [], { frames := 2, cells := 0, slots := 0, locals := 45 })
def M_Model_learn : mt_M := (({ cls := "SharedLogModel", name := "learn", desc := "(I)I" } : Jvm.MethodName), prog_9_method_20_code, 2, (Option.some Jvm.ClassFile.FieldType.int), some [], { frames := 1, cells := 0, slots := 0, locals := 22 })
def M_Model_badRow : mt_M := (({ cls := "SharedLogModel", name := "badRow", desc := "(I)Z" } : Jvm.MethodName), prog_9_method_21_code, 5, (Option.some Jvm.ClassFile.FieldType.boolean), some [], { frames := 2, cells := 0, slots := 0, locals := 45 })
def M_Model_upUnits : mt_M := (({ cls := "SharedLogModel", name := "upUnits", desc := "(I)I" } : Jvm.MethodName), prog_9_method_22_code, 4, (Option.some Jvm.ClassFile.FieldType.int), some [], { frames := 2, cells := 0, slots := 0, locals := 45 })
def M_Model_sealRow : mt_M := (({ cls := "SharedLogModel", name := "sealRow", desc := "(I)V" } : Jvm.MethodName), prog_9_method_23_code, 3, (Option.none : Option Jvm.ClassFile.FieldType), some [], { frames := 2, cells := 0, slots := 0, locals := 45 })
def M_Model_merge : mt_M := (({ cls := "SharedLogModel", name := "merge", desc := "(III)V" } : Jvm.MethodName), prog_9_method_24_code, 6, (Option.none : Option Jvm.ClassFile.FieldType), some [], { frames := 2, cells := 0, slots := 0, locals := 45 })
def M_Model_change : mt_M := (({ cls := "SharedLogModel", name := "change", desc := "(III)I" } : Jvm.MethodName), prog_9_method_25_code, 7, (Option.some Jvm.ClassFile.FieldType.int), some [], { frames := 3, cells := 0, slots := 0, locals := 70 })
def M_Model_up : mt_M := (({ cls := "SharedLogModel", name := "up", desc := "(IZ)I" } : Jvm.MethodName), prog_9_method_26_code, 3, (Option.some Jvm.ClassFile.FieldType.int), some [], { frames := 1, cells := 0, slots := 0, locals := 22 })
def M_Model_lose : mt_M := (({ cls := "SharedLogModel", name := "lose", desc := "()I" } : Jvm.MethodName), prog_9_method_27_code, 1, (Option.some Jvm.ClassFile.FieldType.int), some [], { frames := 0, cells := 0, slots := 0, locals := 0 })
def M_Model_sameAges : mt_M := (({ cls := "SharedLogModel", name := "sameAges", desc := "(II[II)Z" } : Jvm.MethodName), prog_9_method_28_code, 7, (Option.some Jvm.ClassFile.FieldType.boolean), some [], { frames := 0, cells := 0, slots := 0, locals := 0 })
def M_Model_place : mt_M := (({ cls := "SharedLogModel", name := "place", desc := "(III)V" } : Jvm.MethodName), prog_9_method_29_code, 4, (Option.none : Option Jvm.ClassFile.FieldType), some [], { frames := 0, cells := 0, slots := 0, locals := 0 })
def M_Model_play : mt_M := (({ cls := "SharedLogModel", name := "play", desc := "(II)I" } : Jvm.MethodName), prog_9_method_30_code, 5, (Option.some Jvm.ClassFile.FieldType.int), some [], { frames := 3, cells := 0, slots := 0, locals := 69 })
def M_Model_sync : mt_M := (({ cls := "SharedLogModel", name := "sync", desc := "(I)I" } : Jvm.MethodName), prog_9_method_31_code, 3, (Option.some Jvm.ClassFile.FieldType.int), some [], { frames := 4, cells := 0, slots := 0, locals := 93 })
def M_Model_get : mt_M := (({ cls := "SharedLogModel", name := "get", desc := "(II)I" } : Jvm.MethodName), prog_9_method_32_code, 3, (Option.some Jvm.ClassFile.FieldType.int), some [], { frames := 1, cells := 0, slots := 0, locals := 22 })
def M_Model_begin : mt_M := (({ cls := "SharedLogModel", name := "begin", desc := "(I)I" } : Jvm.MethodName), prog_9_method_33_code, 2, (Option.some Jvm.ClassFile.FieldType.int), some [], { frames := 1, cells := 0, slots := 0, locals := 22 })
def M_Model_see : mt_M := (({ cls := "SharedLogModel", name := "see", desc := "(II)I" } : Jvm.MethodName), prog_9_method_34_code, 4, (Option.some Jvm.ClassFile.FieldType.int), some [], { frames := 1, cells := 0, slots := 0, locals := 22 })
def M_Model_put : mt_M := (({ cls := "SharedLogModel", name := "put", desc := "(III)I" } : Jvm.MethodName), prog_9_method_35_code, 4, (Option.some Jvm.ClassFile.FieldType.int), some [], { frames := 1, cells := 0, slots := 0, locals := 23 })
def M_Model_commit : mt_M := (({ cls := "SharedLogModel", name := "commit", desc := "(I)Z" } : Jvm.MethodName), prog_9_method_36_code, 5, (Option.some Jvm.ClassFile.FieldType.boolean), some [], { frames := 4, cells := 0, slots := 0, locals := 93 })
def M_Model_drop : mt_M := (({ cls := "SharedLogModel", name := "drop", desc := "(I)I" } : Jvm.MethodName), prog_9_method_37_code, 2, (Option.some Jvm.ClassFile.FieldType.int), some [], { frames := 1, cells := 0, slots := 0, locals := 23 })
def M_Model_look : mt_M := (({ cls := "SharedLogModel", name := "look", desc := "(II)I" } : Jvm.MethodName), prog_9_method_38_code, 3, (Option.some Jvm.ClassFile.FieldType.int), some [], { frames := 1, cells := 0, slots := 0, locals := 22 })
def M_Model_client : mt_M := (({ cls := "SharedLogModel", name := "client", desc := "(II)I" } : Jvm.MethodName), prog_9_method_39_code, 3, (Option.some Jvm.ClassFile.FieldType.int), some [], { frames := 1, cells := 0, slots := 0, locals := 22 })
def M_Model_count : mt_M := (({ cls := "SharedLogModel", name := "count", desc := "(I)I" } : Jvm.MethodName), prog_9_method_40_code, 2, (Option.some Jvm.ClassFile.FieldType.int), some [], { frames := 1, cells := 0, slots := 0, locals := 22 })
def M_Client_init : mt_M := (({ cls := "SharedLog$Client", name := "<init>", desc := "(LSharedLog$Layout;)V" } : Jvm.MethodName), prog_2_method_1_code, 2, (Option.none : Option Jvm.ClassFile.FieldType), some [], { frames := 2, cells := 7, slots := 28, locals := 40 })
def M_Client_agesMatch : mt_M := (({ cls := "SharedLog$Client", name := "agesMatch", desc := "(LSharedLog$Work;)Z" } : Jvm.MethodName), prog_2_method_2_code, 3, (Option.some Jvm.ClassFile.FieldType.boolean), some [], { frames := 0, cells := 0, slots := 0, locals := 0 })
def M_Client_apply : mt_M := (({ cls := "SharedLog$Client", name := "apply", desc := "(LSharedLog$Work;I)Z" } : Jvm.MethodName), prog_2_method_3_code, 4, (Option.some Jvm.ClassFile.FieldType.boolean), some [], { frames := 1, cells := 0, slots := 0, locals := 22 })
def M_Entry_init : mt_M := (({ cls := "SharedLog$Entry", name := "<init>", desc := "(IILSharedLog$Work;)V" } : Jvm.MethodName), prog_3_method_1_code, 4, (Option.none : Option Jvm.ClassFile.FieldType), some [], { frames := 1, cells := 0, slots := 0, locals := 20 })
def M_Layout_init : mt_M := (({ cls := "SharedLog$Layout", name := "<init>", desc := "(I[I[I)V" } : Jvm.MethodName), prog_4_method_1_code, 4, (Option.none : Option Jvm.ClassFile.FieldType), some [], { frames := 1, cells := 0, slots := 0, locals := 20 })
def M_Layout_chain : mt_M := (({ cls := "SharedLog$Layout", name := "chain", desc := "(I)[I" } : Jvm.MethodName), prog_4_method_2_code, 2, (Option.some (Jvm.ClassFile.FieldType.array Jvm.ClassFile.FieldType.int)), some [], { frames := 0, cells := 0, slots := 0, locals := 0 })
def M_Layout_chainOf : mt_M := (({ cls := "SharedLog$Layout", name := "chainOf", desc := "(I)[I" } : Jvm.MethodName), prog_4_method_3_code, 2, (Option.some (Jvm.ClassFile.FieldType.array Jvm.ClassFile.FieldType.int)), some [], { frames := 1, cells := 0, slots := 0, locals := 21 })
def M_Layout_next : mt_M := (({ cls := "SharedLog$Layout", name := "next", desc := "(I[I)LSharedLog$Layout;" } : Jvm.MethodName), prog_4_method_4_code, 3, (Option.some (Jvm.ClassFile.FieldType.object "SharedLog$Layout")), some [], { frames := 2, cells := 1, slots := 3, locals := 43 })
def M_Seq_init : mt_M := (({ cls := "SharedLog$Sequencer", name := "<init>", desc := "()V" } : Jvm.MethodName), prog_5_method_1_code, 1, (Option.none : Option Jvm.ClassFile.FieldType), some [], { frames := 1, cells := 0, slots := 0, locals := 20 })
def M_Seq_restart : mt_M := (({ cls := "SharedLog$Sequencer", name := "restart", desc := "(II)V" } : Jvm.MethodName), prog_5_method_2_code, 3, (Option.none : Option Jvm.ClassFile.FieldType), some [], { frames := 0, cells := 0, slots := 0, locals := 0 })
def M_Unit_init : mt_M := (({ cls := "SharedLog$Unit", name := "<init>", desc := "(LSharedLog$Entry;)V" } : Jvm.MethodName), prog_6_method_1_code, 3, (Option.none : Option Jvm.ClassFile.FieldType), some [], { frames := 1, cells := 1, slots := 60, locals := 20 })
def M_Unit_holds : mt_M := (({ cls := "SharedLog$Unit", name := "holds", desc := "(I)Z" } : Jvm.MethodName), prog_6_method_2_code, 2, (Option.some Jvm.ClassFile.FieldType.boolean), some [], { frames := 0, cells := 0, slots := 0, locals := 0 })
def M_Work_init : mt_M := (({ cls := "SharedLog$Work", name := "<init>", desc := "()V" } : Jvm.MethodName), prog_7_method_1_code, 1, (Option.none : Option Jvm.ClassFile.FieldType), some [], { frames := 1, cells := 4, slots := 16, locals := 20 })
def M_Work_clear : mt_M := (({ cls := "SharedLog$Work", name := "clear", desc := "()V" } : Jvm.MethodName), prog_7_method_2_code, 2, (Option.none : Option Jvm.ClassFile.FieldType), some [], { frames := 0, cells := 0, slots := 0, locals := 0 })
def M_Work_noteRead : mt_M := (({ cls := "SharedLog$Work", name := "noteRead", desc := "(II)V" } : Jvm.MethodName), prog_7_method_3_code, 3, (Option.none : Option Jvm.ClassFile.FieldType), some [], { frames := 0, cells := 0, slots := 0, locals := 0 })
def M_Work_setPut : mt_M := (({ cls := "SharedLog$Work", name := "setPut", desc := "(II)V" } : Jvm.MethodName), prog_7_method_4_code, 3, (Option.none : Option Jvm.ClassFile.FieldType), some [], { frames := 0, cells := 0, slots := 0, locals := 0 })
def M_Work_putCount : mt_M := (({ cls := "SharedLog$Work", name := "putCount", desc := "()I" } : Jvm.MethodName), prog_7_method_5_code, 3, (Option.some Jvm.ClassFile.FieldType.int), some [], { frames := 0, cells := 0, slots := 0, locals := 0 })
def M_Work_copy : mt_M := (({ cls := "SharedLog$Work", name := "copy", desc := "()LSharedLog$Work;" } : Jvm.MethodName), prog_7_method_6_code, 3, (Option.some (Jvm.ClassFile.FieldType.object "SharedLog$Work")), some [], { frames := 2, cells := 5, slots := 20, locals := 40 })
def hh_Law_append : List (Nat × Nat × Nat × Nat) := [((0 : Nat), (14 : Nat), (17 : Nat), (13 : Nat)), ((0 : Nat), (14 : Nat), (21 : Nat), (15 : Nat)), ((0 : Nat), (14 : Nat), (25 : Nat), (17 : Nat)), ((0 : Nat), (14 : Nat), (29 : Nat), (19 : Nat))]
def M_Law_append : mt_M := (({ cls := "SharedLogLaw", name := "append", desc := "(LSharedLog;IIII[J)I" } : Jvm.MethodName), method_3_code, 7, (Option.some Jvm.ClassFile.FieldType.int), some hh_Law_append, { frames := 9, cells := 15, slots := 77, locals := 168 })
def hh_Law_read : List (Nat × Nat × Nat × Nat) := [((0 : Nat), (10 : Nat), (13 : Nat), (13 : Nat)), ((0 : Nat), (10 : Nat), (17 : Nat), (15 : Nat)), ((0 : Nat), (10 : Nat), (21 : Nat), (25 : Nat)), ((0 : Nat), (10 : Nat), (25 : Nat), (17 : Nat)), ((0 : Nat), (10 : Nat), (29 : Nat), (19 : Nat))]
def M_Law_read : mt_M := (({ cls := "SharedLogLaw", name := "read", desc := "(LSharedLog;II[J)I" } : Jvm.MethodName), method_4_code, 5, (Option.some Jvm.ClassFile.FieldType.int), some hh_Law_read, { frames := 9, cells := 5, slots := 30, locals := 160 })
def hh_Law_fill : List (Nat × Nat × Nat × Nat) := [((0 : Nat), (10 : Nat), (13 : Nat), (13 : Nat)), ((0 : Nat), (10 : Nat), (17 : Nat), (15 : Nat))]
def M_Law_fill : mt_M := (({ cls := "SharedLogLaw", name := "fill", desc := "(LSharedLog;II[J)I" } : Jvm.MethodName), method_5_code, 5, (Option.some Jvm.ClassFile.FieldType.int), some hh_Law_fill, { frames := 8, cells := 5, slots := 30, locals := 141 })
def hh_Law_trim : List (Nat × Nat × Nat × Nat) := [((0 : Nat), (10 : Nat), (13 : Nat), (13 : Nat)), ((0 : Nat), (10 : Nat), (17 : Nat), (15 : Nat))]
def M_Law_trim : mt_M := (({ cls := "SharedLogLaw", name := "trim", desc := "(LSharedLog;II[J)I" } : Jvm.MethodName), method_6_code, 5, (Option.some Jvm.ClassFile.FieldType.int), some hh_Law_trim, { frames := 9, cells := 182, slots := 1092, locals := 163 })
def hh_Law_learn : List (Nat × Nat × Nat × Nat) := [((0 : Nat), (9 : Nat), (12 : Nat), (13 : Nat))]
def M_Law_learn : mt_M := (({ cls := "SharedLogLaw", name := "learn", desc := "(LSharedLog;I[J)I" } : Jvm.MethodName), method_7_code, 4, (Option.some Jvm.ClassFile.FieldType.int), some hh_Law_learn, { frames := 8, cells := 1, slots := 6, locals := 132 })
def hh_Law_change : List (Nat × Nat × Nat × Nat) := [((0 : Nat), (12 : Nat), (15 : Nat), (13 : Nat)), ((0 : Nat), (12 : Nat), (19 : Nat), (15 : Nat))]
def M_Law_change : mt_M := (({ cls := "SharedLogLaw", name := "change", desc := "(LSharedLog;III[J)I" } : Jvm.MethodName), method_8_code, 6, (Option.some Jvm.ClassFile.FieldType.int), some hh_Law_change, { frames := 8, cells := 7, slots := 36, locals := 140 })
def hh_Law_up : List (Nat × Nat × Nat × Nat) := [((0 : Nat), (10 : Nat), (13 : Nat), (13 : Nat))]
def M_Law_up : mt_M := (({ cls := "SharedLogLaw", name := "up", desc := "(LSharedLog;IZ[J)I" } : Jvm.MethodName), method_9_code, 5, (Option.some Jvm.ClassFile.FieldType.int), some hh_Law_up, { frames := 8, cells := 1, slots := 6, locals := 133 })
def hh_Law_sync : List (Nat × Nat × Nat × Nat) := [((0 : Nat), (9 : Nat), (12 : Nat), (13 : Nat)), ((0 : Nat), (9 : Nat), (15 : Nat), (15 : Nat)), ((0 : Nat), (9 : Nat), (18 : Nat), (25 : Nat)), ((0 : Nat), (9 : Nat), (21 : Nat), (19 : Nat))]
def M_Law_sync : mt_M := (({ cls := "SharedLogLaw", name := "sync", desc := "(LSharedLog;I[J)I" } : Jvm.MethodName), method_10_code, 4, (Option.some Jvm.ClassFile.FieldType.int), some hh_Law_sync, { frames := 10, cells := 122, slots := 732, locals := 183 })
def hh_Law_get : List (Nat × Nat × Nat × Nat) := [((0 : Nat), (10 : Nat), (13 : Nat), (13 : Nat))]
def M_Law_get : mt_M := (({ cls := "SharedLogLaw", name := "get", desc := "(LSharedLog;II[J)I" } : Jvm.MethodName), method_11_code, 5, (Option.some Jvm.ClassFile.FieldType.int), some hh_Law_get, { frames := 8, cells := 2, slots := 12, locals := 133 })
def hh_Law_begin : List (Nat × Nat × Nat × Nat) := [((0 : Nat), (9 : Nat), (12 : Nat), (13 : Nat)), ((0 : Nat), (9 : Nat), (15 : Nat), (15 : Nat))]
def M_Law_begin : mt_M := (({ cls := "SharedLogLaw", name := "begin", desc := "(LSharedLog;I[J)I" } : Jvm.MethodName), method_12_code, 4, (Option.some Jvm.ClassFile.FieldType.int), some hh_Law_begin, { frames := 8, cells := 2, slots := 12, locals := 133 })
def hh_Law_see : List (Nat × Nat × Nat × Nat) := [((0 : Nat), (10 : Nat), (13 : Nat), (13 : Nat)), ((0 : Nat), (10 : Nat), (17 : Nat), (15 : Nat))]
def M_Law_see : mt_M := (({ cls := "SharedLogLaw", name := "see", desc := "(LSharedLog;II[J)I" } : Jvm.MethodName), method_13_code, 5, (Option.some Jvm.ClassFile.FieldType.int), some hh_Law_see, { frames := 8, cells := 3, slots := 18, locals := 135 })
def hh_Law_put : List (Nat × Nat × Nat × Nat) := [((0 : Nat), (12 : Nat), (15 : Nat), (13 : Nat)), ((0 : Nat), (12 : Nat), (19 : Nat), (15 : Nat))]
def M_Law_put : mt_M := (({ cls := "SharedLogLaw", name := "put", desc := "(LSharedLog;III[J)I" } : Jvm.MethodName), method_14_code, 6, (Option.some Jvm.ClassFile.FieldType.int), some hh_Law_put, { frames := 8, cells := 3, slots := 18, locals := 135 })
def hh_Law_commit : List (Nat × Nat × Nat × Nat) := [((0 : Nat), (16 : Nat), (19 : Nat), (13 : Nat)), ((0 : Nat), (16 : Nat), (22 : Nat), (15 : Nat)), ((0 : Nat), (16 : Nat), (25 : Nat), (25 : Nat)), ((0 : Nat), (16 : Nat), (28 : Nat), (17 : Nat)), ((0 : Nat), (16 : Nat), (31 : Nat), (19 : Nat))]
def M_Law_commit : mt_M := (({ cls := "SharedLogLaw", name := "commit", desc := "(LSharedLog;I[J)I" } : Jvm.MethodName), method_15_code, 4, (Option.some Jvm.ClassFile.FieldType.int), some hh_Law_commit, { frames := 11, cells := 134, slots := 791, locals := 207 })
def hh_Law_drop : List (Nat × Nat × Nat × Nat) := [((0 : Nat), (9 : Nat), (12 : Nat), (13 : Nat))]
def M_Law_drop : mt_M := (({ cls := "SharedLogLaw", name := "drop", desc := "(LSharedLog;I[J)I" } : Jvm.MethodName), method_16_code, 4, (Option.some Jvm.ClassFile.FieldType.int), some hh_Law_drop, { frames := 8, cells := 1, slots := 6, locals := 133 })
def hh_Law_look : List (Nat × Nat × Nat × Nat) := [((0 : Nat), (10 : Nat), (13 : Nat), (13 : Nat))]
def M_Law_look : mt_M := (({ cls := "SharedLogLaw", name := "look", desc := "(LSharedLog;II[J)I" } : Jvm.MethodName), method_17_code, 5, (Option.some Jvm.ClassFile.FieldType.int), some hh_Law_look, { frames := 8, cells := 2, slots := 12, locals := 133 })
def hh_Law_client : List (Nat × Nat × Nat × Nat) := [((0 : Nat), (10 : Nat), (13 : Nat), (13 : Nat))]
def M_Law_client : mt_M := (({ cls := "SharedLogLaw", name := "client", desc := "(LSharedLog;II[J)I" } : Jvm.MethodName), method_18_code, 5, (Option.some Jvm.ClassFile.FieldType.int), some hh_Law_client, { frames := 8, cells := 2, slots := 12, locals := 134 })
def hh_Law_count : List (Nat × Nat × Nat × Nat) := [((0 : Nat), (9 : Nat), (12 : Nat), (13 : Nat))]
def M_Law_count : mt_M := (({ cls := "SharedLogLaw", name := "count", desc := "(LSharedLog;I[J)I" } : Jvm.MethodName), method_19_code, 4, (Option.some Jvm.ClassFile.FieldType.int), some hh_Law_count, { frames := 8, cells := 1, slots := 6, locals := 132 })
theorem cu_Log : ∀ w ∈ u_ws "SharedLog" F_Log 7, w ∈ WALL := by decide +kernel
theorem ck_Log : mk_C WALL classes 0 "SharedLog" F_Log 7 ty_Log := ⟨rfl, cu_Log, by decide +kernel, by decide +kernel⟩
theorem cu_Unit : ∀ w ∈ u_ws "SharedLog$Unit" F_Unit 3, w ∈ WALL := by decide +kernel
theorem ck_Unit : mk_C WALL classes 1 "SharedLog$Unit" F_Unit 3 ty_Unit := ⟨rfl, cu_Unit, by decide +kernel, by decide +kernel⟩
theorem cu_Entry : ∀ w ∈ u_ws "SharedLog$Entry" F_Entry 3, w ∈ WALL := by decide +kernel
theorem ck_Entry : mk_C WALL classes 2 "SharedLog$Entry" F_Entry 3 ty_Entry := ⟨rfl, cu_Entry, by decide +kernel, by decide +kernel⟩
theorem cu_Layout : ∀ w ∈ u_ws "SharedLog$Layout" F_Layout 3, w ∈ WALL := by decide +kernel
theorem ck_Layout : mk_C WALL classes 3 "SharedLog$Layout" F_Layout 3 ty_Layout := ⟨rfl, cu_Layout, by decide +kernel, by decide +kernel⟩
theorem cu_Seq : ∀ w ∈ u_ws "SharedLog$Sequencer" F_Seq 3, w ∈ WALL := by decide +kernel
theorem ck_Seq : mk_C WALL classes 4 "SharedLog$Sequencer" F_Seq 3 ty_Seq := ⟨rfl, cu_Seq, by decide +kernel, by decide +kernel⟩
theorem cu_Work : ∀ w ∈ u_ws "SharedLog$Work" F_Work 4, w ∈ WALL := by decide +kernel
theorem ck_Work : mk_C WALL classes 5 "SharedLog$Work" F_Work 4 ty_Work := ⟨rfl, cu_Work, by decide +kernel, by decide +kernel⟩
theorem cu_Client : ∀ w ∈ u_ws "SharedLog$Client" F_Client 6, w ∈ WALL := by decide +kernel
theorem ck_Client : mk_C WALL classes 6 "SharedLog$Client" F_Client 6 ty_Client := ⟨rfl, cu_Client, by decide +kernel, by decide +kernel⟩
theorem cu_Model : ∀ w ∈ u_ws "SharedLogModel" F_Model 26, w ∈ WALL := by decide +kernel
theorem ck_Model : mk_C WALL classes 7 "SharedLogModel" F_Model 26 ty_Model := ⟨rfl, cu_Model, by decide +kernel, by decide +kernel⟩
theorem cd_Log_init : cd_P M_Log_init := t_21
theorem cd_Log_append : cd_P M_Log_append := t_203
theorem cd_Log_read : cd_P M_Log_read := t_365
theorem cd_Log_fill : cd_P M_Log_fill := t_394
theorem cd_Log_trim : cd_P M_Log_trim := t_401
theorem cd_Log_learn : cd_P M_Log_learn := t_412
theorem cd_Log_change : cd_P M_Log_change := t_419
theorem cd_Log_up : cd_P M_Log_up := t_475
theorem cd_Log_lose : cd_P M_Log_lose := t_192
theorem cd_Log_sync : cd_P M_Log_sync := t_482
theorem cd_Log_get : cd_P M_Log_get := t_501
theorem cd_Log_begin : cd_P M_Log_begin := t_508
theorem cd_Log_see : cd_P M_Log_see := t_520
theorem cd_Log_put : cd_P M_Log_put := t_535
theorem cd_Log_commit : cd_P M_Log_commit := t_546
theorem cd_Log_drop : cd_P M_Log_drop := t_564
theorem cd_Log_look : cd_P M_Log_look := t_571
theorem cd_Log_client : cd_P M_Log_client := t_578
theorem cd_Log_count : cd_P M_Log_count := t_588
theorem cd_Log_requireWithin : cd_P M_Log_requireWithin := t_206
theorem cd_Log_requireRow : cd_P M_Log_requireRow := t_422
theorem cd_Log_isRow : cd_P M_Log_isRow := t_425
theorem cd_Log_rowOf : cd_P M_Log_rowOf := t_99
theorem cd_Log_digitsOf : cd_P M_Log_digitsOf := t_581
theorem cd_Log_requireTransaction : cd_P M_Log_requireTransaction := t_523
theorem cd_Log_requireSequencer : cd_P M_Log_requireSequencer := t_284
theorem cd_Log_takeToken : cd_P M_Log_takeToken := t_280
theorem cd_Log_use : cd_P M_Log_use := t_336
theorem cd_Log_write : cd_P M_Log_write := t_324
theorem cd_Log_entryAtEnd : cd_P M_Log_entryAtEnd := t_369
theorem cd_Log_trimOne : cd_P M_Log_trimOne := t_405
theorem cd_Log_play : cd_P M_Log_play := t_486
theorem cd_Log_writeAndPlayCommit : cd_P M_Log_writeAndPlayCommit := t_551
theorem cd_Log_requireChangeable : cd_P M_Log_requireChangeable := t_430
theorem cd_Log_upCount : cd_P M_Log_upCount := t_435
theorem cd_Log_sealAll : cd_P M_Log_sealAll := t_448
theorem cd_Log_sealRow : cd_P M_Log_sealRow := t_452
theorem cd_Log_merge : cd_P M_Log_merge := t_456
theorem cd_Log_firstHeld : cd_P M_Log_firstHeld := t_460
theorem cd_Log_firstFreeOffset : cd_P M_Log_firstFreeOffset := t_464
theorem cd_Model_init : cd_P M_Model_init := t_593
theorem cd_Model_thrown : cd_P M_Model_thrown := t_681
theorem cd_Model_fail : cd_P M_Model_fail := t_693
theorem cd_Model_out : cd_P M_Model_out := t_689
theorem cd_Model_learnNow : cd_P M_Model_learnNow := t_598
theorem cd_Model_length : cd_P M_Model_length := t_709
theorem cd_Model_unit : cd_P M_Model_unit := t_713
theorem cd_Model_rowFor : cd_P M_Model_rowFor := t_705
theorem cd_Model_usable : cd_P M_Model_usable := t_717
theorem cd_Model_cell : cd_P M_Model_cell := t_721
theorem cd_Model_copy : cd_P M_Model_copy := t_725
theorem cd_Model_ones : cd_P M_Model_ones := t_737
theorem cd_Model_write : cd_P M_Model_write := t_701
theorem cd_Model_noToken : cd_P M_Model_noToken := t_697
theorem cd_Model_append : cd_P M_Model_append := t_685
theorem cd_Model_lastCell : cd_P M_Model_lastCell := t_733
theorem cd_Model_read : cd_P M_Model_read := t_729
theorem cd_Model_fill : cd_P M_Model_fill := t_741
theorem cd_Model_trim : cd_P M_Model_trim := t_745
theorem cd_Model_learn : cd_P M_Model_learn := t_749
theorem cd_Model_badRow : cd_P M_Model_badRow := t_757
theorem cd_Model_upUnits : cd_P M_Model_upUnits := t_761
theorem cd_Model_sealRow : cd_P M_Model_sealRow := t_765
theorem cd_Model_merge : cd_P M_Model_merge := t_769
theorem cd_Model_change : cd_P M_Model_change := t_753
theorem cd_Model_up : cd_P M_Model_up := t_773
theorem cd_Model_lose : cd_P M_Model_lose := t_777
theorem cd_Model_sameAges : cd_P M_Model_sameAges := t_789
theorem cd_Model_place : cd_P M_Model_place := t_793
theorem cd_Model_play : cd_P M_Model_play := t_785
theorem cd_Model_sync : cd_P M_Model_sync := t_781
theorem cd_Model_get : cd_P M_Model_get := t_797
theorem cd_Model_begin : cd_P M_Model_begin := t_801
theorem cd_Model_see : cd_P M_Model_see := t_805
theorem cd_Model_put : cd_P M_Model_put := t_809
theorem cd_Model_commit : cd_P M_Model_commit := t_813
theorem cd_Model_drop : cd_P M_Model_drop := t_817
theorem cd_Model_look : cd_P M_Model_look := t_821
theorem cd_Model_client : cd_P M_Model_client := t_825
theorem cd_Model_count : cd_P M_Model_count := t_829
theorem cd_Client_init : cd_P M_Client_init := t_138
theorem cd_Client_agesMatch : cd_P M_Client_agesMatch := t_494
theorem cd_Client_apply : cd_P M_Client_apply := t_490
theorem cd_Entry_init : cd_P M_Entry_init := t_79
theorem cd_Layout_init : cd_P M_Layout_init := t_102
theorem cd_Layout_chain : cd_P M_Layout_chain := t_332
theorem cd_Layout_chainOf : cd_P M_Layout_chainOf := t_328
theorem cd_Layout_next : cd_P M_Layout_next := t_442
theorem cd_Seq_init : cd_P M_Seq_init := t_33
theorem cd_Seq_restart : cd_P M_Seq_restart := t_468
theorem cd_Unit_init : cd_P M_Unit_init := t_118
theorem cd_Unit_holds : cd_P M_Unit_holds := t_341
theorem cd_Work_init : cd_P M_Work_init := t_52
theorem cd_Work_clear : cd_P M_Work_clear := t_513
theorem cd_Work_noteRead : cd_P M_Work_noteRead := t_528
theorem cd_Work_setPut : cd_P M_Work_setPut := t_320
theorem cd_Work_putCount : cd_P M_Work_putCount := t_539
theorem cd_Work_copy : cd_P M_Work_copy := t_555
theorem al_Log_9 : Cond.classLink "SharedLog" 9 "SharedLog$Unit" ∈ WALL := t_25
theorem fl_Log_11 : fl_P "SharedLog" 11 0 0 := ⟨_, _, _, _, ck_Log, by decide, t_167⟩
theorem ff_Log_11 : ff_P "SharedLog" 11 0 0 (.array (.object "SharedLog$Unit")) := ⟨_, _, _, _, ck_Log, by decide, t_167, rfl, rfl, rfl⟩
theorem al_Log_15 : Cond.classLink "SharedLog" 15 "SharedLog$Client" ∈ WALL := t_27
theorem fl_Log_17 : fl_P "SharedLog" 17 0 1 := ⟨_, _, _, _, ck_Log, by decide, t_168⟩
theorem ff_Log_17 : ff_P "SharedLog" 17 0 1 (.array (.object "SharedLog$Client")) := ⟨_, _, _, _, ck_Log, by decide, t_168, rfl, rfl, rfl⟩
theorem nw_Log_21 : nw_P "SharedLog" 21 4 3 [.int 0, .int 0, .int 0] := ⟨_, _, _, ck_Seq, t_29, t_30, t_2, fun j hj => by rcases (show j = 0 ∨ j = 1 ∨ j = 2 by omega) with rfl | rfl | rfl <;> rfl⟩
theorem cn_Log_23 : cn_P "SharedLog" 23 M_Seq_init "SharedLog" 0 := ⟨by decide +kernel, t_2, ⟨by decide +kernel, by decide +kernel⟩, by decide +kernel, t_32, rfl, rfl⟩
theorem fl_Log_24 : fl_P "SharedLog" 24 0 2 := ⟨_, _, _, _, ck_Log, by decide, t_169⟩
theorem ff_Log_24 : ff_P "SharedLog" 24 0 2 (.object "SharedLog$Sequencer") := ⟨_, _, _, _, ck_Log, by decide, t_169, rfl, rfl, rfl⟩
theorem nw_Log_28 : nw_P "SharedLog" 28 5 4 [.null, .null, .null, .null] := ⟨_, _, _, ck_Work, t_48, t_49, t_3, fun j hj => by rcases (show j = 0 ∨ j = 1 ∨ j = 2 ∨ j = 3 by omega) with rfl | rfl | rfl | rfl <;> rfl⟩
theorem cn_Log_30 : cn_P "SharedLog" 30 M_Work_init "SharedLog" 0 := ⟨by decide +kernel, t_3, ⟨by decide +kernel, by decide +kernel⟩, by decide +kernel, t_51, rfl, rfl⟩
theorem nw_Log_31 : nw_P "SharedLog" 31 2 3 [.int 0, .int 0, .null] := ⟨_, _, _, ck_Entry, t_75, t_76, t_4, fun j hj => by rcases (show j = 0 ∨ j = 1 ∨ j = 2 by omega) with rfl | rfl | rfl <;> rfl⟩
theorem ci_Log_33 : ci_P "SharedLog" 33 M_Entry_init 3 := ⟨⟨t_77, t_4, ⟨by decide +kernel, by decide +kernel⟩, by decide +kernel⟩, t_78, rfl, rfl⟩
theorem fl_Log_36 : fl_P "SharedLog" 36 0 3 := ⟨_, _, _, _, ck_Log, by decide, t_170⟩
theorem ff_Log_36 : ff_P "SharedLog" 36 0 3 (.object "SharedLog$Entry") := ⟨_, _, _, _, ck_Log, by decide, t_170, rfl, rfl, rfl⟩
theorem fl_Log_40 : fl_P "SharedLog" 40 0 4 := ⟨_, _, _, _, ck_Log, by decide, t_171⟩
theorem ff_Log_40 : ff_P "SharedLog" 40 0 4 (.object "SharedLog$Entry") := ⟨_, _, _, _, ck_Log, by decide, t_171, rfl, rfl, rfl⟩
theorem fl_Log_43 : fl_P "SharedLog" 43 0 5 := ⟨_, _, _, _, ck_Log, by decide, t_172⟩
theorem ff_Log_43 : ff_P "SharedLog" 43 0 5 (.object "SharedLog$Entry") := ⟨_, _, _, _, ck_Log, by decide, t_172, rfl, rfl, rfl⟩
theorem nw_Log_46 : nw_P "SharedLog" 46 3 3 [.int 0, .null, .null] := ⟨_, _, _, ck_Layout, t_95, t_96, t_5, fun j hj => by rcases (show j = 0 ∨ j = 1 ∨ j = 2 by omega) with rfl | rfl | rfl <;> rfl⟩
theorem cs_Log_48 : cs_P "SharedLog" 48 M_Log_rowOf 1 := ⟨⟨t_97, t_1, ⟨by decide +kernel, by decide +kernel⟩, by decide +kernel⟩, t_98⟩
theorem ci_Log_52 : ci_P "SharedLog" 52 M_Layout_init 3 := ⟨⟨t_100, t_5, ⟨by decide +kernel, by decide +kernel⟩, by decide +kernel⟩, t_101, rfl, rfl⟩
theorem fl_Log_55 : fl_P "SharedLog" 55 0 6 := ⟨_, _, _, _, ck_Log, by decide, t_173⟩
theorem fp_Log_55 : fp_P "SharedLog" 55 0 6 (.object "SharedLog$Layout") := ⟨_, _, _, _, ck_Log, by decide, t_173, rfl, rfl⟩
theorem nw_Log_9 : nw_P "SharedLog" 9 1 3 [.null, .int 0, .int 0] := ⟨_, _, _, ck_Unit, t_25, t_115, t_6, fun j hj => by rcases (show j = 0 ∨ j = 1 ∨ j = 2 by omega) with rfl | rfl | rfl <;> rfl⟩
theorem ci_Log_59 : ci_P "SharedLog" 59 M_Unit_init 1 := ⟨⟨t_116, t_6, ⟨by decide +kernel, by decide +kernel⟩, by decide +kernel⟩, t_117, rfl, rfl⟩
theorem nw_Log_15 : nw_P "SharedLog" 15 6 6 [.null, .null, .null, .int 0, .int 0, .null] := ⟨_, _, _, ck_Client, t_27, t_135, t_7, fun j hj => by rcases (show j = 0 ∨ j = 1 ∨ j = 2 ∨ j = 3 ∨ j = 4 ∨ j = 5 by omega) with rfl | rfl | rfl | rfl | rfl | rfl <;> rfl⟩
theorem ci_Log_62 : ci_P "SharedLog" 62 M_Client_init 1 := ⟨⟨t_136, t_7, ⟨by decide +kernel, by decide +kernel⟩, by decide +kernel⟩, t_137, rfl, rfl⟩
theorem cs_Log_65 : cs_P "SharedLog" 65 M_Log_requireWithin 2 := ⟨⟨t_204, t_1, ⟨by decide +kernel, by decide +kernel⟩, by decide +kernel⟩, t_205⟩
theorem cv_Log_69 : cv_P "SharedLog" 69 0 M_Log_takeToken 1 := ⟨⟨t_277, t_1, ⟨by decide +kernel, by decide +kernel⟩, by decide +kernel⟩, t_279, _, _, _, rfl, ts_Log_takeToken⟩
theorem cv_Log_73 : cv_P "SharedLog" 73 5 M_Work_setPut 2 := ⟨⟨t_317, t_3, ⟨by decide +kernel, by decide +kernel⟩, by decide +kernel⟩, t_318, _, _, _, rfl, t_319⟩
theorem cv_Log_76 : cv_P "SharedLog" 76 0 M_Log_write 4 := ⟨⟨t_321, t_1, ⟨by decide +kernel, by decide +kernel⟩, by decide +kernel⟩, t_323, _, _, _, rfl, ts_Log_write⟩
theorem fl_Log_80 : fl_P "SharedLog" 80 6 5 := ⟨_, _, _, _, ck_Client, by decide, t_153⟩
theorem cv_Log_83 : cv_P "SharedLog" 83 3 M_Layout_chainOf 1 := ⟨⟨t_325, t_5, ⟨by decide +kernel, by decide +kernel⟩, by decide +kernel⟩, t_326, _, _, _, rfl, t_327⟩
theorem cv_Log_86 : cv_P "SharedLog" 86 0 M_Log_entryAtEnd 2 := ⟨⟨t_366, t_1, ⟨by decide +kernel, by decide +kernel⟩, by decide +kernel⟩, t_368, _, _, _, rfl, ts_Log_entryAtEnd⟩
theorem fl_Log_90 : fl_P "SharedLog" 90 2 0 := ⟨_, _, _, _, ck_Entry, by decide, t_83⟩
theorem th_Log_94_96 : th_P "SharedLog" "java/lang/UnsupportedOperationException" "junk" 94 96 97 ["java/lang/RuntimeException", "java/lang/Exception"] := ⟨by decide +kernel, by decide +kernel, t_342, t_15, by decide +kernel, by decide +kernel, by decide +kernel⟩
theorem fl_Log_100 : fl_P "SharedLog" 100 2 1 := ⟨_, _, _, _, ck_Entry, by decide, t_85⟩
theorem cv_Log_103 : cv_P "SharedLog" 103 0 M_Log_use 2 := ⟨⟨t_333, t_1, ⟨by decide +kernel, by decide +kernel⟩, by decide +kernel⟩, t_335, _, _, _, rfl, ts_Log_use⟩
theorem cv_Log_107 : cv_P "SharedLog" 107 1 M_Unit_holds 1 := ⟨⟨t_338, t_6, ⟨by decide +kernel, by decide +kernel⟩, by decide +kernel⟩, t_339, _, _, _, rfl, t_340⟩
theorem fl_Log_111 : fl_P "SharedLog" 111 1 0 := ⟨_, _, _, _, ck_Unit, by decide, t_123⟩
theorem cv_Log_115 : cv_P "SharedLog" 115 0 M_Log_trimOne 2 := ⟨⟨t_402, t_1, ⟨by decide +kernel, by decide +kernel⟩, by decide +kernel⟩, t_404, _, _, _, rfl, ts_Log_trimOne⟩
theorem fp_Log_80 : fp_P "SharedLog" 80 6 5 (.object "SharedLog$Layout") := ⟨_, _, _, _, ck_Client, by decide, t_153, rfl, rfl⟩
theorem fl_Log_119 : fl_P "SharedLog" 119 3 0 := ⟨_, _, _, _, ck_Layout, by decide, t_105⟩
theorem cs_Log_122 : cs_P "SharedLog" 122 M_Log_requireRow 1 := ⟨⟨t_420, t_1, ⟨by decide +kernel, by decide +kernel⟩, by decide +kernel⟩, t_421⟩
theorem cv_Log_126 : cv_P "SharedLog" 126 0 M_Log_requireChangeable 2 := ⟨⟨t_427, t_1, ⟨by decide +kernel, by decide +kernel⟩, by decide +kernel⟩, t_429, _, _, _, rfl, ts_Log_requireChangeable⟩
theorem cv_Log_130 : cv_P "SharedLog" 130 3 M_Layout_next 2 := ⟨⟨t_439, t_5, ⟨by decide +kernel, by decide +kernel⟩, by decide +kernel⟩, t_440, _, _, _, rfl, t_441⟩
theorem cv_Log_134 : cv_P "SharedLog" 134 0 M_Log_sealAll 3 := ⟨⟨t_445, t_1, ⟨by decide +kernel, by decide +kernel⟩, by decide +kernel⟩, t_447, _, _, _, rfl, ts_Log_sealAll⟩
theorem cv_Log_138 : cv_P "SharedLog" 138 3 M_Layout_chain 1 := ⟨⟨t_437, t_5, ⟨by decide +kernel, by decide +kernel⟩, by decide +kernel⟩, t_330, _, _, _, rfl, t_331⟩
theorem cv_Log_141 : cv_P "SharedLog" 141 0 M_Log_merge 3 := ⟨⟨t_453, t_1, ⟨by decide +kernel, by decide +kernel⟩, by decide +kernel⟩, t_455, _, _, _, rfl, ts_Log_merge⟩
theorem cv_Log_145 : cv_P "SharedLog" 145 0 M_Log_firstFreeOffset 0 := ⟨⟨t_461, t_1, ⟨by decide +kernel, by decide +kernel⟩, by decide +kernel⟩, t_463, _, _, _, rfl, ts_Log_firstFreeOffset⟩
theorem cv_Log_149 : cv_P "SharedLog" 149 4 M_Seq_restart 2 := ⟨⟨t_465, t_2, ⟨by decide +kernel, by decide +kernel⟩, by decide +kernel⟩, t_466, _, _, _, rfl, t_467⟩
theorem fl_Log_152 : fl_P "SharedLog" 152 4 2 := ⟨_, _, _, _, ck_Seq, by decide, t_40⟩
theorem fl_Log_154 : fl_P "SharedLog" 154 1 1 := ⟨_, _, _, _, ck_Unit, by decide, t_125⟩
theorem fp_Log_154 : fp_P "SharedLog" 154 1 1 .boolean := ⟨_, _, _, _, ck_Unit, by decide, t_125, rfl, rfl⟩
theorem fl_Log_158 : fl_P "SharedLog" 158 1 2 := ⟨_, _, _, _, ck_Unit, by decide, t_127⟩
theorem fl_Log_161 : fl_P "SharedLog" 161 4 0 := ⟨_, _, _, _, ck_Seq, by decide, t_36⟩
theorem fp_Log_161 : fp_P "SharedLog" 161 4 0 .boolean := ⟨_, _, _, _, ck_Seq, by decide, t_36, rfl, rfl⟩
theorem cv_Log_164 : cv_P "SharedLog" 164 0 M_Log_requireSequencer 1 := ⟨⟨t_281, t_1, ⟨by decide +kernel, by decide +kernel⟩, by decide +kernel⟩, t_283, _, _, _, rfl, ts_Log_requireSequencer⟩
theorem cv_Log_168 : cv_P "SharedLog" 168 0 M_Log_play 2 := ⟨⟨t_483, t_1, ⟨by decide +kernel, by decide +kernel⟩, by decide +kernel⟩, t_485, _, _, _, rfl, ts_Log_play⟩
theorem fl_Log_172 : fl_P "SharedLog" 172 6 4 := ⟨_, _, _, _, ck_Client, by decide, t_151⟩
theorem fl_Log_175 : fl_P "SharedLog" 175 6 0 := ⟨_, _, _, _, ck_Client, by decide, t_143⟩
theorem fl_Log_179 : fl_P "SharedLog" 179 6 3 := ⟨_, _, _, _, ck_Client, by decide, t_149⟩
theorem th_Log_182_184 : th_P "SharedLog" "java/lang/IllegalStateException" "a transaction already" 182 184 186 ["java/lang/RuntimeException", "java/lang/Exception"] := ⟨by decide +kernel, by decide +kernel, t_285, t_13, by decide +kernel, by decide +kernel, by decide +kernel⟩
theorem fp_Log_179 : fp_P "SharedLog" 179 6 3 .boolean := ⟨_, _, _, _, ck_Client, by decide, t_149, rfl, rfl⟩
theorem fl_Log_187 : fl_P "SharedLog" 187 6 2 := ⟨_, _, _, _, ck_Client, by decide, t_147⟩
theorem cv_Log_191 : cv_P "SharedLog" 191 5 M_Work_clear 0 := ⟨⟨t_510, t_3, ⟨by decide +kernel, by decide +kernel⟩, by decide +kernel⟩, t_511, _, _, _, rfl, t_512⟩
theorem cs_Log_194 : cs_P "SharedLog" 194 M_Log_requireTransaction 1 := ⟨⟨t_521, t_1, ⟨by decide +kernel, by decide +kernel⟩, by decide +kernel⟩, t_522⟩
theorem fl_Log_197 : fl_P "SharedLog" 197 5 2 := ⟨_, _, _, _, ck_Work, by decide, t_60⟩
theorem fl_Log_201 : fl_P "SharedLog" 201 5 3 := ⟨_, _, _, _, ck_Work, by decide, t_63⟩
theorem fl_Log_202 : fl_P "SharedLog" 202 6 1 := ⟨_, _, _, _, ck_Client, by decide, t_145⟩
theorem cv_Log_205 : cv_P "SharedLog" 205 5 M_Work_noteRead 2 := ⟨⟨t_525, t_3, ⟨by decide +kernel, by decide +kernel⟩, by decide +kernel⟩, t_526, _, _, _, rfl, t_527⟩
theorem cv_Log_208 : cv_P "SharedLog" 208 5 M_Work_putCount 0 := ⟨⟨t_536, t_3, ⟨by decide +kernel, by decide +kernel⟩, by decide +kernel⟩, t_537, _, _, _, rfl, t_538⟩
theorem cv_Log_211 : cv_P "SharedLog" 211 6 M_Client_agesMatch 1 := ⟨⟨t_547, t_7, ⟨by decide +kernel, by decide +kernel⟩, by decide +kernel⟩, t_492, _, _, _, rfl, t_493⟩
theorem cv_Log_215 : cv_P "SharedLog" 215 0 M_Log_writeAndPlayCommit 1 := ⟨⟨t_548, t_1, ⟨by decide +kernel, by decide +kernel⟩, by decide +kernel⟩, t_550, _, _, _, rfl, ts_Log_writeAndPlayCommit⟩
theorem cs_Log_219 : cs_P "SharedLog" 219 M_Log_digitsOf 1 := ⟨⟨t_579, t_1, ⟨by decide +kernel, by decide +kernel⟩, by decide +kernel⟩, t_580⟩
theorem fl_Log_223 : fl_P "SharedLog" 223 4 1 := ⟨_, _, _, _, ck_Seq, by decide, t_38⟩
theorem th_Log_224_226 : th_P "SharedLog" "java/lang/IllegalArgumentException" "a number out of range" 224 226 228 ["java/lang/RuntimeException", "java/lang/Exception"] := ⟨by decide +kernel, by decide +kernel, t_207, t_12, by decide +kernel, by decide +kernel, by decide +kernel⟩
theorem cs_Log_229 : cs_P "SharedLog" 229 M_Log_isRow 1 := ⟨⟨t_423, t_1, ⟨by decide +kernel, by decide +kernel⟩, by decide +kernel⟩, t_424⟩
theorem th_Log_224_232 : th_P "SharedLog" "java/lang/IllegalArgumentException" "no row of units" 224 232 228 ["java/lang/RuntimeException", "java/lang/Exception"] := ⟨by decide +kernel, by decide +kernel, t_207, t_12, by decide +kernel, by decide +kernel, by decide +kernel⟩
theorem th_Log_182_234 : th_P "SharedLog" "java/lang/IllegalStateException" "no transaction" 182 234 186 ["java/lang/RuntimeException", "java/lang/Exception"] := ⟨by decide +kernel, by decide +kernel, t_285, t_13, by decide +kernel, by decide +kernel, by decide +kernel⟩
theorem th_Log_182_236 : th_P "SharedLog" "java/lang/IllegalStateException" "no sequencer of this epoch" 182 236 186 ["java/lang/RuntimeException", "java/lang/Exception"] := ⟨by decide +kernel, by decide +kernel, t_285, t_13, by decide +kernel, by decide +kernel, by decide +kernel⟩
theorem th_Log_238_240 : th_P "SharedLog" "java/lang/IndexOutOfBoundsException" "the log is full" 238 240 242 ["java/lang/RuntimeException", "java/lang/Exception"] := ⟨by decide +kernel, by decide +kernel, t_301, t_14, by decide +kernel, by decide +kernel, by decide +kernel⟩
theorem fp_Log_152 : fp_P "SharedLog" 152 4 2 .int := ⟨_, _, _, _, ck_Seq, by decide, t_40, rfl, rfl⟩
theorem th_Log_182_243 : th_P "SharedLog" "java/lang/IllegalStateException" "a unit that is not up, or sealed" 182 243 186 ["java/lang/RuntimeException", "java/lang/Exception"] := ⟨by decide +kernel, by decide +kernel, t_285, t_13, by decide +kernel, by decide +kernel, by decide +kernel⟩
theorem th_Log_94_245 : th_P "SharedLog" "java/lang/UnsupportedOperationException" "written or trimmed already" 94 245 97 ["java/lang/RuntimeException", "java/lang/Exception"] := ⟨by decide +kernel, by decide +kernel, t_342, t_15, by decide +kernel, by decide +kernel, by decide +kernel⟩
theorem th_Log_238_247 : th_P "SharedLog" "java/lang/IndexOutOfBoundsException" "nothing there" 238 247 242 ["java/lang/RuntimeException", "java/lang/Exception"] := ⟨by decide +kernel, by decide +kernel, t_301, t_14, by decide +kernel, by decide +kernel, by decide +kernel⟩
theorem fl_Log_253 : fl_P "SharedLog" 253 2 2 := ⟨_, _, _, _, ck_Entry, by decide, t_87⟩
theorem cv_Log_256 : cv_P "SharedLog" 256 6 M_Client_apply 2 := ⟨⟨t_487, t_7, ⟨by decide +kernel, by decide +kernel⟩, by decide +kernel⟩, t_488, _, _, _, rfl, t_489⟩
theorem fp_Log_172 : fp_P "SharedLog" 172 6 4 .int := ⟨_, _, _, _, ck_Client, by decide, t_151, rfl, rfl⟩
theorem cv_Log_260 : cv_P "SharedLog" 260 5 M_Work_copy 0 := ⟨⟨t_552, t_3, ⟨by decide +kernel, by decide +kernel⟩, by decide +kernel⟩, t_553, _, _, _, rfl, t_554⟩
theorem th_Log_182_264 : th_P "SharedLog" "java/lang/IllegalStateException" "an old layout" 182 264 186 ["java/lang/RuntimeException", "java/lang/Exception"] := ⟨by decide +kernel, by decide +kernel, t_285, t_13, by decide +kernel, by decide +kernel, by decide +kernel⟩
theorem cv_Log_266 : cv_P "SharedLog" 266 0 M_Log_upCount 1 := ⟨⟨t_432, t_1, ⟨by decide +kernel, by decide +kernel⟩, by decide +kernel⟩, t_434, _, _, _, rfl, ts_Log_upCount⟩
theorem th_Log_182_269 : th_P "SharedLog" "java/lang/IllegalStateException" "a unit of the row is not up" 182 269 186 ["java/lang/RuntimeException", "java/lang/Exception"] := ⟨by decide +kernel, by decide +kernel, t_285, t_13, by decide +kernel, by decide +kernel, by decide +kernel⟩
theorem th_Log_182_271 : th_P "SharedLog" "java/lang/IllegalStateException" "no unit of a chain is up" 182 271 186 ["java/lang/RuntimeException", "java/lang/Exception"] := ⟨by decide +kernel, by decide +kernel, t_285, t_13, by decide +kernel, by decide +kernel, by decide +kernel⟩
theorem cv_Log_273 : cv_P "SharedLog" 273 0 M_Log_sealRow 2 := ⟨⟨t_449, t_1, ⟨by decide +kernel, by decide +kernel⟩, by decide +kernel⟩, t_451, _, _, _, rfl, ts_Log_sealRow⟩
theorem fp_Log_158 : fp_P "SharedLog" 158 1 2 .int := ⟨_, _, _, _, ck_Unit, by decide, t_127, rfl, rfl⟩
theorem cv_Log_277 : cv_P "SharedLog" 277 0 M_Log_firstHeld 2 := ⟨⟨t_457, t_1, ⟨by decide +kernel, by decide +kernel⟩, by decide +kernel⟩, t_459, _, _, _, rfl, ts_Log_firstHeld⟩
theorem fl_Model_7 : fl_P "SharedLogModel" 7 7 1 := ⟨_, _, _, _, ck_Model, by decide, t_600⟩
theorem ff_Model_7 : ff_P "SharedLogModel" 7 7 1 (.array .int) := ⟨_, _, _, _, ck_Model, by decide, t_600, rfl, rfl, rfl⟩
theorem fl_Model_13 : fl_P "SharedLogModel" 13 7 2 := ⟨_, _, _, _, ck_Model, by decide, t_601⟩
theorem ff_Model_13 : ff_P "SharedLogModel" 13 7 2 (.array .int) := ⟨_, _, _, _, ck_Model, by decide, t_601, rfl, rfl, rfl⟩
theorem fl_Model_16 : fl_P "SharedLogModel" 16 7 3 := ⟨_, _, _, _, ck_Model, by decide, t_602⟩
theorem ff_Model_16 : ff_P "SharedLogModel" 16 7 3 (.array .int) := ⟨_, _, _, _, ck_Model, by decide, t_602, rfl, rfl, rfl⟩
theorem fl_Model_19 : fl_P "SharedLogModel" 19 7 4 := ⟨_, _, _, _, ck_Model, by decide, t_603⟩
theorem ff_Model_19 : ff_P "SharedLogModel" 19 7 4 (.array .int) := ⟨_, _, _, _, ck_Model, by decide, t_603, rfl, rfl, rfl⟩
theorem fl_Model_22 : fl_P "SharedLogModel" 22 7 5 := ⟨_, _, _, _, ck_Model, by decide, t_604⟩
theorem ff_Model_22 : ff_P "SharedLogModel" 22 7 5 (.array .int) := ⟨_, _, _, _, ck_Model, by decide, t_604, rfl, rfl, rfl⟩
theorem fl_Model_25 : fl_P "SharedLogModel" 25 7 6 := ⟨_, _, _, _, ck_Model, by decide, t_605⟩
theorem ff_Model_25 : ff_P "SharedLogModel" 25 7 6 (.array .int) := ⟨_, _, _, _, ck_Model, by decide, t_605, rfl, rfl, rfl⟩
theorem fl_Model_28 : fl_P "SharedLogModel" 28 7 7 := ⟨_, _, _, _, ck_Model, by decide, t_606⟩
theorem ff_Model_28 : ff_P "SharedLogModel" 28 7 7 (.array .int) := ⟨_, _, _, _, ck_Model, by decide, t_606, rfl, rfl, rfl⟩
theorem fl_Model_31 : fl_P "SharedLogModel" 31 7 8 := ⟨_, _, _, _, ck_Model, by decide, t_607⟩
theorem ff_Model_31 : ff_P "SharedLogModel" 31 7 8 (.array .boolean) := ⟨_, _, _, _, ck_Model, by decide, t_607, rfl, rfl, rfl⟩
theorem fl_Model_35 : fl_P "SharedLogModel" 35 7 9 := ⟨_, _, _, _, ck_Model, by decide, t_608⟩
theorem ff_Model_35 : ff_P "SharedLogModel" 35 7 9 (.array .int) := ⟨_, _, _, _, ck_Model, by decide, t_608, rfl, rfl, rfl⟩
theorem fl_Model_38 : fl_P "SharedLogModel" 38 7 10 := ⟨_, _, _, _, ck_Model, by decide, t_609⟩
theorem fp_Model_38 : fp_P "SharedLogModel" 38 7 10 .int := ⟨_, _, _, _, ck_Model, by decide, t_609, rfl, rfl⟩
theorem fl_Model_42 : fl_P "SharedLogModel" 42 7 11 := ⟨_, _, _, _, ck_Model, by decide, t_610⟩
theorem ff_Model_42 : ff_P "SharedLogModel" 42 7 11 (.array .int) := ⟨_, _, _, _, ck_Model, by decide, t_610, rfl, rfl, rfl⟩
theorem fl_Model_45 : fl_P "SharedLogModel" 45 7 12 := ⟨_, _, _, _, ck_Model, by decide, t_611⟩
theorem fp_Model_45 : fp_P "SharedLogModel" 45 7 12 .int := ⟨_, _, _, _, ck_Model, by decide, t_611, rfl, rfl⟩
theorem fl_Model_48 : fl_P "SharedLogModel" 48 7 15 := ⟨_, _, _, _, ck_Model, by decide, t_614⟩
theorem ff_Model_48 : ff_P "SharedLogModel" 48 7 15 (.array .int) := ⟨_, _, _, _, ck_Model, by decide, t_614, rfl, rfl, rfl⟩
theorem fl_Model_51 : fl_P "SharedLogModel" 51 7 16 := ⟨_, _, _, _, ck_Model, by decide, t_615⟩
theorem ff_Model_51 : ff_P "SharedLogModel" 51 7 16 (.array .int) := ⟨_, _, _, _, ck_Model, by decide, t_615, rfl, rfl, rfl⟩
theorem fl_Model_54 : fl_P "SharedLogModel" 54 7 17 := ⟨_, _, _, _, ck_Model, by decide, t_616⟩
theorem ff_Model_54 : ff_P "SharedLogModel" 54 7 17 (.array .int) := ⟨_, _, _, _, ck_Model, by decide, t_616, rfl, rfl, rfl⟩
theorem fl_Model_57 : fl_P "SharedLogModel" 57 7 18 := ⟨_, _, _, _, ck_Model, by decide, t_617⟩
theorem ff_Model_57 : ff_P "SharedLogModel" 57 7 18 (.array .int) := ⟨_, _, _, _, ck_Model, by decide, t_617, rfl, rfl, rfl⟩
theorem fl_Model_60 : fl_P "SharedLogModel" 60 7 19 := ⟨_, _, _, _, ck_Model, by decide, t_618⟩
theorem ff_Model_60 : ff_P "SharedLogModel" 60 7 19 (.array .int) := ⟨_, _, _, _, ck_Model, by decide, t_618, rfl, rfl, rfl⟩
theorem fl_Model_63 : fl_P "SharedLogModel" 63 7 20 := ⟨_, _, _, _, ck_Model, by decide, t_619⟩
theorem ff_Model_63 : ff_P "SharedLogModel" 63 7 20 (.array .boolean) := ⟨_, _, _, _, ck_Model, by decide, t_619, rfl, rfl, rfl⟩
theorem fl_Model_66 : fl_P "SharedLogModel" 66 7 21 := ⟨_, _, _, _, ck_Model, by decide, t_620⟩
theorem ff_Model_66 : ff_P "SharedLogModel" 66 7 21 (.array .int) := ⟨_, _, _, _, ck_Model, by decide, t_620, rfl, rfl, rfl⟩
theorem fl_Model_69 : fl_P "SharedLogModel" 69 7 22 := ⟨_, _, _, _, ck_Model, by decide, t_621⟩
theorem ff_Model_69 : ff_P "SharedLogModel" 69 7 22 (.array .int) := ⟨_, _, _, _, ck_Model, by decide, t_621, rfl, rfl, rfl⟩
theorem fl_Model_72 : fl_P "SharedLogModel" 72 7 23 := ⟨_, _, _, _, ck_Model, by decide, t_622⟩
theorem ff_Model_72 : ff_P "SharedLogModel" 72 7 23 (.array .int) := ⟨_, _, _, _, ck_Model, by decide, t_622, rfl, rfl, rfl⟩
theorem fl_Model_75 : fl_P "SharedLogModel" 75 7 24 := ⟨_, _, _, _, ck_Model, by decide, t_623⟩
theorem ff_Model_75 : ff_P "SharedLogModel" 75 7 24 (.array .int) := ⟨_, _, _, _, ck_Model, by decide, t_623, rfl, rfl, rfl⟩
theorem cv_Model_78 : cv_P "SharedLogModel" 78 7 M_Model_learnNow 1 := ⟨⟨t_595, t_8, ⟨by decide +kernel, by decide +kernel⟩, by decide +kernel⟩, t_597, _, _, _, rfl, ts_Model_learnNow⟩
theorem fl_Model_82 : fl_P "SharedLogModel" 82 7 0 := ⟨_, _, _, _, ck_Model, by decide, t_599⟩
theorem fp_Model_82 : fp_P "SharedLogModel" 82 7 0 .int := ⟨_, _, _, _, ck_Model, by decide, t_599, rfl, rfl⟩
theorem cv_Model_85 : cv_P "SharedLogModel" 85 7 M_Model_length 1 := ⟨⟨t_706, t_8, ⟨by decide +kernel, by decide +kernel⟩, by decide +kernel⟩, t_708, _, _, _, rfl, ts_Model_length⟩
theorem cv_Model_89 : cv_P "SharedLogModel" 89 7 M_Model_rowFor 2 := ⟨⟨t_702, t_8, ⟨by decide +kernel, by decide +kernel⟩, by decide +kernel⟩, t_704, _, _, _, rfl, ts_Model_rowFor⟩
theorem cv_Model_93 : cv_P "SharedLogModel" 93 7 M_Model_unit 2 := ⟨⟨t_710, t_8, ⟨by decide +kernel, by decide +kernel⟩, by decide +kernel⟩, t_712, _, _, _, rfl, ts_Model_unit⟩
theorem cv_Model_96 : cv_P "SharedLogModel" 96 7 M_Model_usable 2 := ⟨⟨t_714, t_8, ⟨by decide +kernel, by decide +kernel⟩, by decide +kernel⟩, t_716, _, _, _, rfl, ts_Model_usable⟩
theorem cv_Model_100 : cv_P "SharedLogModel" 100 7 M_Model_cell 2 := ⟨⟨t_718, t_8, ⟨by decide +kernel, by decide +kernel⟩, by decide +kernel⟩, t_720, _, _, _, rfl, ts_Model_cell⟩
theorem cv_Model_103 : cv_P "SharedLogModel" 103 7 M_Model_copy 2 := ⟨⟨t_722, t_8, ⟨by decide +kernel, by decide +kernel⟩, by decide +kernel⟩, t_724, _, _, _, rfl, ts_Model_copy⟩
theorem fl_Model_107 : fl_P "SharedLogModel" 107 7 13 := ⟨_, _, _, _, ck_Model, by decide, t_612⟩
theorem cv_Model_111 : cv_P "SharedLogModel" 111 7 M_Model_out 2 := ⟨⟨t_686, t_8, ⟨by decide +kernel, by decide +kernel⟩, by decide +kernel⟩, t_688, _, _, _, rfl, ts_Model_out⟩
theorem cv_Model_114 : cv_P "SharedLogModel" 114 7 M_Model_fail 1 := ⟨⟨t_690, t_8, ⟨by decide +kernel, by decide +kernel⟩, by decide +kernel⟩, t_692, _, _, _, rfl, ts_Model_fail⟩
theorem cv_Model_117 : cv_P "SharedLogModel" 117 7 M_Model_noToken 1 := ⟨⟨t_694, t_8, ⟨by decide +kernel, by decide +kernel⟩, by decide +kernel⟩, t_696, _, _, _, rfl, ts_Model_noToken⟩
theorem fl_Model_121 : fl_P "SharedLogModel" 121 7 14 := ⟨_, _, _, _, ck_Model, by decide, t_613⟩
theorem fp_Model_121 : fp_P "SharedLogModel" 121 7 14 .int := ⟨_, _, _, _, ck_Model, by decide, t_613, rfl, rfl⟩
theorem cv_Model_124 : cv_P "SharedLogModel" 124 7 M_Model_write 3 := ⟨⟨t_698, t_8, ⟨by decide +kernel, by decide +kernel⟩, by decide +kernel⟩, t_700, _, _, _, rfl, ts_Model_write⟩
theorem cv_Model_128 : cv_P "SharedLogModel" 128 7 M_Model_lastCell 2 := ⟨⟨t_730, t_8, ⟨by decide +kernel, by decide +kernel⟩, by decide +kernel⟩, t_732, _, _, _, rfl, ts_Model_lastCell⟩
theorem cv_Model_131 : cv_P "SharedLogModel" 131 7 M_Model_ones 1 := ⟨⟨t_734, t_8, ⟨by decide +kernel, by decide +kernel⟩, by decide +kernel⟩, t_736, _, _, _, rfl, ts_Model_ones⟩
theorem cv_Model_134 : cv_P "SharedLogModel" 134 7 M_Model_badRow 1 := ⟨⟨t_754, t_8, ⟨by decide +kernel, by decide +kernel⟩, by decide +kernel⟩, t_756, _, _, _, rfl, ts_Model_badRow⟩
theorem cv_Model_137 : cv_P "SharedLogModel" 137 7 M_Model_upUnits 1 := ⟨⟨t_758, t_8, ⟨by decide +kernel, by decide +kernel⟩, by decide +kernel⟩, t_760, _, _, _, rfl, ts_Model_upUnits⟩
theorem cv_Model_140 : cv_P "SharedLogModel" 140 7 M_Model_sealRow 1 := ⟨⟨t_762, t_8, ⟨by decide +kernel, by decide +kernel⟩, by decide +kernel⟩, t_764, _, _, _, rfl, ts_Model_sealRow⟩
theorem cv_Model_143 : cv_P "SharedLogModel" 143 7 M_Model_merge 3 := ⟨⟨t_766, t_8, ⟨by decide +kernel, by decide +kernel⟩, by decide +kernel⟩, t_768, _, _, _, rfl, ts_Model_merge⟩
theorem fp_Model_107 : fp_P "SharedLogModel" 107 7 13 .boolean := ⟨_, _, _, _, ck_Model, by decide, t_612, rfl, rfl⟩
theorem cv_Model_147 : cv_P "SharedLogModel" 147 7 M_Model_sameAges 4 := ⟨⟨t_786, t_8, ⟨by decide +kernel, by decide +kernel⟩, by decide +kernel⟩, t_788, _, _, _, rfl, ts_Model_sameAges⟩
theorem fl_Model_151 : fl_P "SharedLogModel" 151 7 25 := ⟨_, _, _, _, ck_Model, by decide, t_624⟩
theorem fp_Model_151 : fp_P "SharedLogModel" 151 7 25 .boolean := ⟨_, _, _, _, ck_Model, by decide, t_624, rfl, rfl⟩
theorem cv_Model_154 : cv_P "SharedLogModel" 154 7 M_Model_place 3 := ⟨⟨t_790, t_8, ⟨by decide +kernel, by decide +kernel⟩, by decide +kernel⟩, t_792, _, _, _, rfl, ts_Model_place⟩
theorem cv_Model_157 : cv_P "SharedLogModel" 157 7 M_Model_play 2 := ⟨⟨t_782, t_8, ⟨by decide +kernel, by decide +kernel⟩, by decide +kernel⟩, t_784, _, _, _, rfl, ts_Model_play⟩
theorem fl_Client_9 : fl_P "SharedLog$Client" 9 6 0 := ⟨_, _, _, _, ck_Client, by decide, t_142⟩
theorem ff_Client_9 : ff_P "SharedLog$Client" 9 6 0 (.array .int) := ⟨_, _, _, _, ck_Client, by decide, t_142, rfl, rfl, rfl⟩
theorem fl_Client_15 : fl_P "SharedLog$Client" 15 6 1 := ⟨_, _, _, _, ck_Client, by decide, t_144⟩
theorem ff_Client_15 : ff_P "SharedLog$Client" 15 6 1 (.array .int) := ⟨_, _, _, _, ck_Client, by decide, t_144, rfl, rfl, rfl⟩
theorem nw_Client_18 : nw_P "SharedLog$Client" 18 5 4 [.null, .null, .null, .null] := ⟨_, _, _, ck_Work, t_140, t_49, t_3, fun j hj => by rcases (show j = 0 ∨ j = 1 ∨ j = 2 ∨ j = 3 by omega) with rfl | rfl | rfl | rfl <;> rfl⟩
theorem cn_Client_20 : cn_P "SharedLog$Client" 20 M_Work_init "SharedLog" 0 := ⟨by decide +kernel, t_3, ⟨by decide +kernel, by decide +kernel⟩, by decide +kernel, t_51, rfl, rfl⟩
theorem fl_Client_21 : fl_P "SharedLog$Client" 21 6 2 := ⟨_, _, _, _, ck_Client, by decide, t_146⟩
theorem ff_Client_21 : ff_P "SharedLog$Client" 21 6 2 (.object "SharedLog$Work") := ⟨_, _, _, _, ck_Client, by decide, t_146, rfl, rfl, rfl⟩
theorem fl_Client_25 : fl_P "SharedLog$Client" 25 6 3 := ⟨_, _, _, _, ck_Client, by decide, t_148⟩
theorem fp_Client_25 : fp_P "SharedLog$Client" 25 6 3 .boolean := ⟨_, _, _, _, ck_Client, by decide, t_148, rfl, rfl⟩
theorem fl_Client_29 : fl_P "SharedLog$Client" 29 6 4 := ⟨_, _, _, _, ck_Client, by decide, t_150⟩
theorem fp_Client_29 : fp_P "SharedLog$Client" 29 6 4 .int := ⟨_, _, _, _, ck_Client, by decide, t_150, rfl, rfl⟩
theorem fl_Client_33 : fl_P "SharedLog$Client" 33 6 5 := ⟨_, _, _, _, ck_Client, by decide, t_152⟩
theorem fp_Client_33 : fp_P "SharedLog$Client" 33 6 5 (.object "SharedLog$Layout") := ⟨_, _, _, _, ck_Client, by decide, t_152, rfl, rfl⟩
theorem fl_Client_37 : fl_P "SharedLog$Client" 37 5 0 := ⟨_, _, _, _, ck_Work, by decide, t_55⟩
theorem fl_Client_41 : fl_P "SharedLog$Client" 41 5 1 := ⟨_, _, _, _, ck_Work, by decide, t_57⟩
theorem cv_Client_44 : cv_P "SharedLog$Client" 44 6 M_Client_agesMatch 1 := ⟨⟨t_491, t_7, ⟨by decide +kernel, by decide +kernel⟩, by decide +kernel⟩, t_492, _, _, _, rfl, t_493⟩
theorem fl_Client_48 : fl_P "SharedLog$Client" 48 5 2 := ⟨_, _, _, _, ck_Work, by decide, t_59⟩
theorem fl_Client_51 : fl_P "SharedLog$Client" 51 5 3 := ⟨_, _, _, _, ck_Work, by decide, t_62⟩
theorem fl_Entry_7 : fl_P "SharedLog$Entry" 7 2 0 := ⟨_, _, _, _, ck_Entry, by decide, t_81⟩
theorem ff_Entry_7 : ff_P "SharedLog$Entry" 7 2 0 .int := ⟨_, _, _, _, ck_Entry, by decide, t_81, rfl, rfl, rfl⟩
theorem fl_Entry_13 : fl_P "SharedLog$Entry" 13 2 1 := ⟨_, _, _, _, ck_Entry, by decide, t_84⟩
theorem ff_Entry_13 : ff_P "SharedLog$Entry" 13 2 1 .int := ⟨_, _, _, _, ck_Entry, by decide, t_84, rfl, rfl, rfl⟩
theorem fl_Entry_16 : fl_P "SharedLog$Entry" 16 2 2 := ⟨_, _, _, _, ck_Entry, by decide, t_86⟩
theorem ff_Entry_16 : ff_P "SharedLog$Entry" 16 2 2 (.object "SharedLog$Work") := ⟨_, _, _, _, ck_Entry, by decide, t_86, rfl, rfl, rfl⟩
theorem fl_Layout_9 : fl_P "SharedLog$Layout" 9 3 0 := ⟨_, _, _, _, ck_Layout, by decide, t_104⟩
theorem ff_Layout_9 : ff_P "SharedLog$Layout" 9 3 0 .int := ⟨_, _, _, _, ck_Layout, by decide, t_104, rfl, rfl, rfl⟩
theorem fl_Layout_15 : fl_P "SharedLog$Layout" 15 3 1 := ⟨_, _, _, _, ck_Layout, by decide, t_106⟩
theorem ff_Layout_15 : ff_P "SharedLog$Layout" 15 3 1 (.array .int) := ⟨_, _, _, _, ck_Layout, by decide, t_106, rfl, rfl, rfl⟩
theorem fl_Layout_19 : fl_P "SharedLog$Layout" 19 3 2 := ⟨_, _, _, _, ck_Layout, by decide, t_107⟩
theorem ff_Layout_19 : ff_P "SharedLog$Layout" 19 3 2 (.array .int) := ⟨_, _, _, _, ck_Layout, by decide, t_107, rfl, rfl, rfl⟩
theorem cv_Layout_22 : cv_P "SharedLog$Layout" 22 3 M_Layout_chain 1 := ⟨⟨t_329, t_5, ⟨by decide +kernel, by decide +kernel⟩, by decide +kernel⟩, t_330, _, _, _, rfl, t_331⟩
theorem nw_Layout_10 : nw_P "SharedLog$Layout" 10 3 3 [.int 0, .null, .null] := ⟨_, _, _, ck_Layout, t_443, t_96, t_5, fun j hj => by rcases (show j = 0 ∨ j = 1 ∨ j = 2 by omega) with rfl | rfl | rfl <;> rfl⟩
theorem ci_Layout_26 : ci_P "SharedLog$Layout" 26 M_Layout_init 3 := ⟨⟨t_444, t_5, ⟨by decide +kernel, by decide +kernel⟩, by decide +kernel⟩, t_101, rfl, rfl⟩
theorem fl_Seq_9 : fl_P "SharedLog$Sequencer" 9 4 0 := ⟨_, _, _, _, ck_Seq, by decide, t_35⟩
theorem fp_Seq_9 : fp_P "SharedLog$Sequencer" 9 4 0 .boolean := ⟨_, _, _, _, ck_Seq, by decide, t_35, rfl, rfl⟩
theorem fl_Seq_15 : fl_P "SharedLog$Sequencer" 15 4 1 := ⟨_, _, _, _, ck_Seq, by decide, t_37⟩
theorem fp_Seq_15 : fp_P "SharedLog$Sequencer" 15 4 1 .int := ⟨_, _, _, _, ck_Seq, by decide, t_37, rfl, rfl⟩
theorem fl_Seq_19 : fl_P "SharedLog$Sequencer" 19 4 2 := ⟨_, _, _, _, ck_Seq, by decide, t_39⟩
theorem fp_Seq_19 : fp_P "SharedLog$Sequencer" 19 4 2 .int := ⟨_, _, _, _, ck_Seq, by decide, t_39, rfl, rfl⟩
theorem al_Unit_9 : Cond.classLink "SharedLog$Unit" 9 "SharedLog$Entry" ∈ WALL := t_120
theorem fl_Unit_11 : fl_P "SharedLog$Unit" 11 1 0 := ⟨_, _, _, _, ck_Unit, by decide, t_122⟩
theorem ff_Unit_11 : ff_P "SharedLog$Unit" 11 1 0 (.array (.object "SharedLog$Entry")) := ⟨_, _, _, _, ck_Unit, by decide, t_122, rfl, rfl, rfl⟩
theorem fl_Unit_17 : fl_P "SharedLog$Unit" 17 1 1 := ⟨_, _, _, _, ck_Unit, by decide, t_124⟩
theorem fp_Unit_17 : fp_P "SharedLog$Unit" 17 1 1 .boolean := ⟨_, _, _, _, ck_Unit, by decide, t_124, rfl, rfl⟩
theorem fl_Unit_21 : fl_P "SharedLog$Unit" 21 1 2 := ⟨_, _, _, _, ck_Unit, by decide, t_126⟩
theorem fp_Unit_21 : fp_P "SharedLog$Unit" 21 1 2 .int := ⟨_, _, _, _, ck_Unit, by decide, t_126, rfl, rfl⟩
theorem fl_Unit_25 : fl_P "SharedLog$Unit" 25 2 0 := ⟨_, _, _, _, ck_Entry, by decide, t_82⟩
theorem fl_Work_9 : fl_P "SharedLog$Work" 9 5 0 := ⟨_, _, _, _, ck_Work, by decide, t_54⟩
theorem ff_Work_9 : ff_P "SharedLog$Work" 9 5 0 (.array .boolean) := ⟨_, _, _, _, ck_Work, by decide, t_54, rfl, rfl, rfl⟩
theorem fl_Work_15 : fl_P "SharedLog$Work" 15 5 1 := ⟨_, _, _, _, ck_Work, by decide, t_56⟩
theorem ff_Work_15 : ff_P "SharedLog$Work" 15 5 1 (.array .int) := ⟨_, _, _, _, ck_Work, by decide, t_56, rfl, rfl, rfl⟩
theorem fl_Work_19 : fl_P "SharedLog$Work" 19 5 2 := ⟨_, _, _, _, ck_Work, by decide, t_58⟩
theorem ff_Work_19 : ff_P "SharedLog$Work" 19 5 2 (.array .boolean) := ⟨_, _, _, _, ck_Work, by decide, t_58, rfl, rfl, rfl⟩
theorem fl_Work_22 : fl_P "SharedLog$Work" 22 5 3 := ⟨_, _, _, _, ck_Work, by decide, t_61⟩
theorem ff_Work_22 : ff_P "SharedLog$Work" 22 5 3 (.array .int) := ⟨_, _, _, _, ck_Work, by decide, t_61, rfl, rfl, rfl⟩
theorem nw_Work_10 : nw_P "SharedLog$Work" 10 5 4 [.null, .null, .null, .null] := ⟨_, _, _, ck_Work, t_556, t_49, t_3, fun j hj => by rcases (show j = 0 ∨ j = 1 ∨ j = 2 ∨ j = 3 by omega) with rfl | rfl | rfl | rfl <;> rfl⟩
theorem ci_Work_25 : ci_P "SharedLog$Work" 25 M_Work_init 0 := ⟨⟨t_557, t_3, ⟨by decide +kernel, by decide +kernel⟩, by decide +kernel⟩, t_51, rfl, rfl⟩
theorem cv_Law_7 : cv_P "SharedLogLaw" 7 0 M_Log_append 4 := ⟨⟨t_200, t_1, ⟨by decide +kernel, by decide +kernel⟩, by decide +kernel⟩, t_201, _, _, _, rfl, t_202⟩
theorem cv_Law_21 : cv_P "SharedLogLaw" 21 0 M_Log_read 2 := ⟨⟨t_362, t_1, ⟨by decide +kernel, by decide +kernel⟩, by decide +kernel⟩, t_363, _, _, _, rfl, t_364⟩
theorem cv_Law_27 : cv_P "SharedLogLaw" 27 0 M_Log_fill 2 := ⟨⟨t_391, t_1, ⟨by decide +kernel, by decide +kernel⟩, by decide +kernel⟩, t_392, _, _, _, rfl, t_393⟩
theorem cv_Law_30 : cv_P "SharedLogLaw" 30 0 M_Log_trim 2 := ⟨⟨t_398, t_1, ⟨by decide +kernel, by decide +kernel⟩, by decide +kernel⟩, t_399, _, _, _, rfl, t_400⟩
theorem cv_Law_33 : cv_P "SharedLogLaw" 33 0 M_Log_learn 1 := ⟨⟨t_409, t_1, ⟨by decide +kernel, by decide +kernel⟩, by decide +kernel⟩, t_410, _, _, _, rfl, t_411⟩
theorem cv_Law_37 : cv_P "SharedLogLaw" 37 0 M_Log_change 3 := ⟨⟨t_416, t_1, ⟨by decide +kernel, by decide +kernel⟩, by decide +kernel⟩, t_417, _, _, _, rfl, t_418⟩
theorem cv_Law_41 : cv_P "SharedLogLaw" 41 0 M_Log_up 2 := ⟨⟨t_472, t_1, ⟨by decide +kernel, by decide +kernel⟩, by decide +kernel⟩, t_473, _, _, _, rfl, t_474⟩
theorem cv_Law_45 : cv_P "SharedLogLaw" 45 0 M_Log_sync 1 := ⟨⟨t_479, t_1, ⟨by decide +kernel, by decide +kernel⟩, by decide +kernel⟩, t_480, _, _, _, rfl, t_481⟩
theorem cv_Law_48 : cv_P "SharedLogLaw" 48 0 M_Log_get 2 := ⟨⟨t_498, t_1, ⟨by decide +kernel, by decide +kernel⟩, by decide +kernel⟩, t_499, _, _, _, rfl, t_500⟩
theorem cv_Law_51 : cv_P "SharedLogLaw" 51 0 M_Log_begin 1 := ⟨⟨t_505, t_1, ⟨by decide +kernel, by decide +kernel⟩, by decide +kernel⟩, t_506, _, _, _, rfl, t_507⟩
theorem cv_Law_54 : cv_P "SharedLogLaw" 54 0 M_Log_see 2 := ⟨⟨t_517, t_1, ⟨by decide +kernel, by decide +kernel⟩, by decide +kernel⟩, t_518, _, _, _, rfl, t_519⟩
theorem cv_Law_57 : cv_P "SharedLogLaw" 57 0 M_Log_put 3 := ⟨⟨t_532, t_1, ⟨by decide +kernel, by decide +kernel⟩, by decide +kernel⟩, t_533, _, _, _, rfl, t_534⟩
theorem cv_Law_60 : cv_P "SharedLogLaw" 60 0 M_Log_commit 1 := ⟨⟨t_543, t_1, ⟨by decide +kernel, by decide +kernel⟩, by decide +kernel⟩, t_544, _, _, _, rfl, t_545⟩
theorem cv_Law_64 : cv_P "SharedLogLaw" 64 0 M_Log_drop 1 := ⟨⟨t_561, t_1, ⟨by decide +kernel, by decide +kernel⟩, by decide +kernel⟩, t_562, _, _, _, rfl, t_563⟩
theorem cv_Law_67 : cv_P "SharedLogLaw" 67 0 M_Log_look 2 := ⟨⟨t_568, t_1, ⟨by decide +kernel, by decide +kernel⟩, by decide +kernel⟩, t_569, _, _, _, rfl, t_570⟩
theorem cv_Law_70 : cv_P "SharedLogLaw" 70 0 M_Log_client 2 := ⟨⟨t_575, t_1, ⟨by decide +kernel, by decide +kernel⟩, by decide +kernel⟩, t_576, _, _, _, rfl, t_577⟩
theorem cv_Law_73 : cv_P "SharedLogLaw" 73 0 M_Log_count 1 := ⟨⟨t_585, t_1, ⟨by decide +kernel, by decide +kernel⟩, by decide +kernel⟩, t_586, _, _, _, rfl, t_587⟩
theorem nw_Law_8 : nw_P "SharedLogLaw" 8 0 7 [.null, .null, .null, .null, .null, .null, .null] := ⟨_, _, _, ck_Log, t_17, t_18, t_1, fun j hj => by rcases (show j = 0 ∨ j = 1 ∨ j = 2 ∨ j = 3 ∨ j = 4 ∨ j = 5 ∨ j = 6 by omega) with rfl | rfl | rfl | rfl | rfl | rfl | rfl <;> rfl⟩
theorem ci_Law_76 : ci_P "SharedLogLaw" 76 M_Log_init 0 := ⟨⟨t_19, t_1, ⟨by decide +kernel, by decide +kernel⟩, by decide +kernel⟩, t_20, rfl, rfl⟩
theorem nw_Law_77 : nw_P "SharedLogLaw" 77 7 26 [.int 0, .null, .null, .null, .null, .null, .null, .null, .null, .null, .int 0, .null, .int 0, .int 0, .int 0, .null, .null, .null, .null, .null, .null, .null, .null, .null, .null, .int 0] := ⟨_, _, _, ck_Model, t_589, t_590, t_8, fun j hj => by rcases (show j = 0 ∨ j = 1 ∨ j = 2 ∨ j = 3 ∨ j = 4 ∨ j = 5 ∨ j = 6 ∨ j = 7 ∨ j = 8 ∨ j = 9 ∨ j = 10 ∨ j = 11 ∨ j = 12 ∨ j = 13 ∨ j = 14 ∨ j = 15 ∨ j = 16 ∨ j = 17 ∨ j = 18 ∨ j = 19 ∨ j = 20 ∨ j = 21 ∨ j = 22 ∨ j = 23 ∨ j = 24 ∨ j = 25 by omega) with rfl | rfl | rfl | rfl | rfl | rfl | rfl | rfl | rfl | rfl | rfl | rfl | rfl | rfl | rfl | rfl | rfl | rfl | rfl | rfl | rfl | rfl | rfl | rfl | rfl | rfl <;> rfl⟩
theorem ci_Law_79 : ci_P "SharedLogLaw" 79 M_Model_init 0 := ⟨⟨t_591, t_8, ⟨by decide +kernel, by decide +kernel⟩, by decide +kernel⟩, t_592, rfl, rfl⟩
theorem cs_Law_80 : cs_P "SharedLogLaw" 80 M_Law_append 6 := ⟨⟨t_193, t_0, ⟨by decide +kernel, by decide +kernel⟩, by decide +kernel⟩, t_194⟩
theorem cv_Law_85 : cv_P "SharedLogLaw" 85 7 M_Model_append 4 := ⟨⟨t_682, t_8, ⟨by decide +kernel, by decide +kernel⟩, by decide +kernel⟩, t_683, _, _, _, rfl, t_684⟩
theorem cv_Law_86 : cv_P "SharedLogLaw" 86 7 M_Model_thrown 0 := ⟨⟨t_678, t_8, ⟨by decide +kernel, by decide +kernel⟩, by decide +kernel⟩, t_679, _, _, _, rfl, t_680⟩
theorem cs_Law_90 : cs_P "SharedLogLaw" 90 M_Law_read 4 := ⟨⟨t_358, t_0, ⟨by decide +kernel, by decide +kernel⟩, by decide +kernel⟩, t_359⟩
theorem cv_Law_93 : cv_P "SharedLogLaw" 93 7 M_Model_read 2 := ⟨⟨t_726, t_8, ⟨by decide +kernel, by decide +kernel⟩, by decide +kernel⟩, t_727, _, _, _, rfl, t_728⟩
theorem cs_Law_94 : cs_P "SharedLogLaw" 94 M_Law_fill 4 := ⟨⟨t_388, t_0, ⟨by decide +kernel, by decide +kernel⟩, by decide +kernel⟩, t_389⟩
theorem cv_Law_96 : cv_P "SharedLogLaw" 96 7 M_Model_fill 2 := ⟨⟨t_738, t_8, ⟨by decide +kernel, by decide +kernel⟩, by decide +kernel⟩, t_739, _, _, _, rfl, t_740⟩
theorem cs_Law_97 : cs_P "SharedLogLaw" 97 M_Law_trim 4 := ⟨⟨t_395, t_0, ⟨by decide +kernel, by decide +kernel⟩, by decide +kernel⟩, t_396⟩
theorem cv_Law_99 : cv_P "SharedLogLaw" 99 7 M_Model_trim 2 := ⟨⟨t_742, t_8, ⟨by decide +kernel, by decide +kernel⟩, by decide +kernel⟩, t_743, _, _, _, rfl, t_744⟩
theorem cs_Law_100 : cs_P "SharedLogLaw" 100 M_Law_learn 3 := ⟨⟨t_406, t_0, ⟨by decide +kernel, by decide +kernel⟩, by decide +kernel⟩, t_407⟩
theorem cv_Law_103 : cv_P "SharedLogLaw" 103 7 M_Model_learn 1 := ⟨⟨t_746, t_8, ⟨by decide +kernel, by decide +kernel⟩, by decide +kernel⟩, t_747, _, _, _, rfl, t_748⟩
theorem cs_Law_104 : cs_P "SharedLogLaw" 104 M_Law_change 5 := ⟨⟨t_413, t_0, ⟨by decide +kernel, by decide +kernel⟩, by decide +kernel⟩, t_414⟩
theorem cv_Law_107 : cv_P "SharedLogLaw" 107 7 M_Model_change 3 := ⟨⟨t_750, t_8, ⟨by decide +kernel, by decide +kernel⟩, by decide +kernel⟩, t_751, _, _, _, rfl, t_752⟩
theorem cs_Law_108 : cs_P "SharedLogLaw" 108 M_Law_up 4 := ⟨⟨t_469, t_0, ⟨by decide +kernel, by decide +kernel⟩, by decide +kernel⟩, t_470⟩
theorem cv_Law_111 : cv_P "SharedLogLaw" 111 7 M_Model_up 2 := ⟨⟨t_770, t_8, ⟨by decide +kernel, by decide +kernel⟩, by decide +kernel⟩, t_771, _, _, _, rfl, t_772⟩
theorem cv_Law_112 : cv_P "SharedLogLaw" 112 0 M_Log_lose 0 := ⟨⟨t_189, t_1, ⟨by decide +kernel, by decide +kernel⟩, by decide +kernel⟩, t_190, _, _, _, rfl, t_191⟩
theorem cv_Law_115 : cv_P "SharedLogLaw" 115 7 M_Model_lose 0 := ⟨⟨t_774, t_8, ⟨by decide +kernel, by decide +kernel⟩, by decide +kernel⟩, t_775, _, _, _, rfl, t_776⟩
theorem cs_Law_116 : cs_P "SharedLogLaw" 116 M_Law_sync 3 := ⟨⟨t_476, t_0, ⟨by decide +kernel, by decide +kernel⟩, by decide +kernel⟩, t_477⟩
theorem cv_Law_118 : cv_P "SharedLogLaw" 118 7 M_Model_sync 1 := ⟨⟨t_778, t_8, ⟨by decide +kernel, by decide +kernel⟩, by decide +kernel⟩, t_779, _, _, _, rfl, t_780⟩
theorem cs_Law_119 : cs_P "SharedLogLaw" 119 M_Law_get 4 := ⟨⟨t_495, t_0, ⟨by decide +kernel, by decide +kernel⟩, by decide +kernel⟩, t_496⟩
theorem cv_Law_121 : cv_P "SharedLogLaw" 121 7 M_Model_get 2 := ⟨⟨t_794, t_8, ⟨by decide +kernel, by decide +kernel⟩, by decide +kernel⟩, t_795, _, _, _, rfl, t_796⟩
theorem cs_Law_122 : cs_P "SharedLogLaw" 122 M_Law_begin 3 := ⟨⟨t_502, t_0, ⟨by decide +kernel, by decide +kernel⟩, by decide +kernel⟩, t_503⟩
theorem cv_Law_124 : cv_P "SharedLogLaw" 124 7 M_Model_begin 1 := ⟨⟨t_798, t_8, ⟨by decide +kernel, by decide +kernel⟩, by decide +kernel⟩, t_799, _, _, _, rfl, t_800⟩
theorem cs_Law_125 : cs_P "SharedLogLaw" 125 M_Law_see 4 := ⟨⟨t_514, t_0, ⟨by decide +kernel, by decide +kernel⟩, by decide +kernel⟩, t_515⟩
theorem cv_Law_127 : cv_P "SharedLogLaw" 127 7 M_Model_see 2 := ⟨⟨t_802, t_8, ⟨by decide +kernel, by decide +kernel⟩, by decide +kernel⟩, t_803, _, _, _, rfl, t_804⟩
theorem cs_Law_128 : cs_P "SharedLogLaw" 128 M_Law_put 5 := ⟨⟨t_529, t_0, ⟨by decide +kernel, by decide +kernel⟩, by decide +kernel⟩, t_530⟩
theorem cv_Law_130 : cv_P "SharedLogLaw" 130 7 M_Model_put 3 := ⟨⟨t_806, t_8, ⟨by decide +kernel, by decide +kernel⟩, by decide +kernel⟩, t_807, _, _, _, rfl, t_808⟩
theorem cs_Law_131 : cs_P "SharedLogLaw" 131 M_Law_commit 3 := ⟨⟨t_540, t_0, ⟨by decide +kernel, by decide +kernel⟩, by decide +kernel⟩, t_541⟩
theorem cv_Law_133 : cv_P "SharedLogLaw" 133 7 M_Model_commit 1 := ⟨⟨t_810, t_8, ⟨by decide +kernel, by decide +kernel⟩, by decide +kernel⟩, t_811, _, _, _, rfl, t_812⟩
theorem cs_Law_134 : cs_P "SharedLogLaw" 134 M_Law_drop 3 := ⟨⟨t_558, t_0, ⟨by decide +kernel, by decide +kernel⟩, by decide +kernel⟩, t_559⟩
theorem cv_Law_136 : cv_P "SharedLogLaw" 136 7 M_Model_drop 1 := ⟨⟨t_814, t_8, ⟨by decide +kernel, by decide +kernel⟩, by decide +kernel⟩, t_815, _, _, _, rfl, t_816⟩
theorem cs_Law_137 : cs_P "SharedLogLaw" 137 M_Law_look 4 := ⟨⟨t_565, t_0, ⟨by decide +kernel, by decide +kernel⟩, by decide +kernel⟩, t_566⟩
theorem cv_Law_139 : cv_P "SharedLogLaw" 139 7 M_Model_look 2 := ⟨⟨t_818, t_8, ⟨by decide +kernel, by decide +kernel⟩, by decide +kernel⟩, t_819, _, _, _, rfl, t_820⟩
theorem cs_Law_140 : cs_P "SharedLogLaw" 140 M_Law_client 4 := ⟨⟨t_572, t_0, ⟨by decide +kernel, by decide +kernel⟩, by decide +kernel⟩, t_573⟩
theorem cv_Law_142 : cv_P "SharedLogLaw" 142 7 M_Model_client 2 := ⟨⟨t_822, t_8, ⟨by decide +kernel, by decide +kernel⟩, by decide +kernel⟩, t_823, _, _, _, rfl, t_824⟩
theorem cs_Law_143 : cs_P "SharedLogLaw" 143 M_Law_count 3 := ⟨⟨t_582, t_0, ⟨by decide +kernel, by decide +kernel⟩, by decide +kernel⟩, t_583⟩
theorem cv_Law_145 : cv_P "SharedLogLaw" 145 7 M_Model_count 1 := ⟨⟨t_826, t_8, ⟨by decide +kernel, by decide +kernel⟩, by decide +kernel⟩, t_827, _, _, _, rfl, t_828⟩
end
section
/-! THE CLASS'S STATE: 48 cells that are changed (roles), at addresses ad i; all else that it makes (entries, their work, layouts) is never changed once it is made. r i k: the number in field or place k of role i; g i k: the address there. -/
def up2 {α : Type} (r : Nat → Nat → α) (i k : Nat) (v : α) : Nat → Nat → α := fun j => if j = i then va_up (r i) k v else r j
theorem up2_s {α : Type} (r : Nat → Nat → α) (i k : Nat) (v : α) : up2 r i k v i = va_up (r i) k v := if_pos rfl
theorem up2_n {α : Type} {r : Nat → Nat → α} {i j k : Nat} {v : α} (h : j ≠ i) : up2 r i k v j = r j := if_neg h
theorem upd_va (f : Nat → Int32) (k : Nat) (x : Int32) : upd f k x = va_up f k x := rfl
theorem va_up_some (f : Nat → Nat) (k x : Nat) : va_up (fun o => some (f o)) k (some x) = fun o => some (va_up f k x o) := by
  funext o
  by_cases h : o = k
  · subst h; rw [va_up_self, va_up_self]
  · rw [va_up_ne _ _ h, va_up_ne _ _ h]
def sh (G : mt_G) (ad : Nat → Nat) (r : Nat → Nat → Int32) (g : Nat → Nat → Nat) (i : Nat) : va_E :=
  if i < 1 then .inr (0, [.ref (ad 1), .ref (ad 2), .ref (ad 3), .ref (g i 3), .ref (g i 4), .ref (g i 5), .ref (g i 6)])
  else if i < 2 then .inl (G.2.2.1 3, 6, .inr (.inr (.inr (.inr (fun u => some (ad (4 + u)))))))
  else if i < 3 then .inl (G.2.2.1 4, 4, .inr (.inr (.inr (.inr (fun c => some (ad (16 + c)))))))
  else if i < 4 then .inr (4, [.int (r i 0), .int (r i 1), .int (r i 2)])
  else if i < 10 then .inr (1, [.ref (ad (i + 6)), .int (r i 1), .int (r i 2)])
  else if i < 16 then .inl (G.2.2.1 5, 60, .inr (.inr (.inr (.inr (fun o => some (g i o))))))
  else if i < 20 then .inr (6, [.ref (ad (i + 4)), .ref (ad (i + 8)), .ref (ad (i + 12)), .int (r i 3), .int (r i 4), .ref (g i 5)])
  else if i < 24 then .inl (G.2.2.1 0, 4, .inl (r i))
  else if i < 28 then .inl (G.2.2.1 0, 4, .inl (r i))
  else if i < 32 then .inr (5, [.ref (ad (i + 4)), .ref (ad (i + 8)), .ref (ad (i + 12)), .ref (ad (i + 16))])
  else if i < 36 then .inl (G.2.2.1 1, 4, .inl (r i))
  else if i < 40 then .inl (G.2.2.1 0, 4, .inl (r i))
  else if i < 44 then .inl (G.2.2.1 1, 4, .inl (r i))
  else .inl (G.2.2.1 0, 4, .inl (r i))
theorem sh_log {G : mt_G} {ad : Nat → Nat} {r : Nat → Nat → Int32} {g : Nat → Nat → Nat} {i : Nat} (h1 : 0 ≤ i) (h2 : i < 1) : sh G ad r g i = .inr (0, [.ref (ad 1), .ref (ad 2), .ref (ad 3), .ref (g i 3), .ref (g i 4), .ref (g i 5), .ref (g i 6)]) := by
  rw [sh, if_pos (by omega)]
theorem sh_uar {G : mt_G} {ad : Nat → Nat} {r : Nat → Nat → Int32} {g : Nat → Nat → Nat} {i : Nat} (h1 : 1 ≤ i) (h2 : i < 2) : sh G ad r g i = .inl (G.2.2.1 3, 6, .inr (.inr (.inr (.inr (fun u => some (ad (4 + u))))))) := by
  rw [sh, if_neg (by omega), if_pos (by omega)]
theorem sh_car {G : mt_G} {ad : Nat → Nat} {r : Nat → Nat → Int32} {g : Nat → Nat → Nat} {i : Nat} (h1 : 2 ≤ i) (h2 : i < 3) : sh G ad r g i = .inl (G.2.2.1 4, 4, .inr (.inr (.inr (.inr (fun c => some (ad (16 + c))))))) := by
  rw [sh, if_neg (by omega), if_neg (by omega), if_pos (by omega)]
theorem sh_seq {G : mt_G} {ad : Nat → Nat} {r : Nat → Nat → Int32} {g : Nat → Nat → Nat} {i : Nat} (h1 : 3 ≤ i) (h2 : i < 4) : sh G ad r g i = .inr (4, [.int (r i 0), .int (r i 1), .int (r i 2)]) := by
  rw [sh, if_neg (by omega), if_neg (by omega), if_neg (by omega), if_pos (by omega)]
theorem sh_unit {G : mt_G} {ad : Nat → Nat} {r : Nat → Nat → Int32} {g : Nat → Nat → Nat} {i : Nat} (h1 : 4 ≤ i) (h2 : i < 10) : sh G ad r g i = .inr (1, [.ref (ad (i + 6)), .int (r i 1), .int (r i 2)]) := by
  rw [sh, if_neg (by omega), if_neg (by omega), if_neg (by omega), if_neg (by omega), if_pos (by omega)]
theorem sh_cells {G : mt_G} {ad : Nat → Nat} {r : Nat → Nat → Int32} {g : Nat → Nat → Nat} {i : Nat} (h1 : 10 ≤ i) (h2 : i < 16) : sh G ad r g i = .inl (G.2.2.1 5, 60, .inr (.inr (.inr (.inr (fun o => some (g i o)))))) := by
  rw [sh, if_neg (by omega), if_neg (by omega), if_neg (by omega), if_neg (by omega), if_neg (by omega), if_pos (by omega)]
theorem sh_cli {G : mt_G} {ad : Nat → Nat} {r : Nat → Nat → Int32} {g : Nat → Nat → Nat} {i : Nat} (h1 : 16 ≤ i) (h2 : i < 20) : sh G ad r g i = .inr (6, [.ref (ad (i + 4)), .ref (ad (i + 8)), .ref (ad (i + 12)), .int (r i 3), .int (r i 4), .ref (g i 5)]) := by
  rw [sh, if_neg (by omega), if_neg (by omega), if_neg (by omega), if_neg (by omega), if_neg (by omega), if_neg (by omega), if_pos (by omega)]
theorem sh_val {G : mt_G} {ad : Nat → Nat} {r : Nat → Nat → Int32} {g : Nat → Nat → Nat} {i : Nat} (h1 : 20 ≤ i) (h2 : i < 24) : sh G ad r g i = .inl (G.2.2.1 0, 4, .inl (r i)) := by
  rw [sh, if_neg (by omega), if_neg (by omega), if_neg (by omega), if_neg (by omega), if_neg (by omega), if_neg (by omega), if_neg (by omega), if_pos (by omega)]
theorem sh_age {G : mt_G} {ad : Nat → Nat} {r : Nat → Nat → Int32} {g : Nat → Nat → Nat} {i : Nat} (h1 : 24 ≤ i) (h2 : i < 28) : sh G ad r g i = .inl (G.2.2.1 0, 4, .inl (r i)) := by
  rw [sh, if_neg (by omega), if_neg (by omega), if_neg (by omega), if_neg (by omega), if_neg (by omega), if_neg (by omega), if_neg (by omega), if_neg (by omega), if_pos (by omega)]
theorem sh_tx {G : mt_G} {ad : Nat → Nat} {r : Nat → Nat → Int32} {g : Nat → Nat → Nat} {i : Nat} (h1 : 28 ≤ i) (h2 : i < 32) : sh G ad r g i = .inr (5, [.ref (ad (i + 4)), .ref (ad (i + 8)), .ref (ad (i + 12)), .ref (ad (i + 16))]) := by
  rw [sh, if_neg (by omega), if_neg (by omega), if_neg (by omega), if_neg (by omega), if_neg (by omega), if_neg (by omega), if_neg (by omega), if_neg (by omega), if_neg (by omega), if_pos (by omega)]
theorem sh_tr {G : mt_G} {ad : Nat → Nat} {r : Nat → Nat → Int32} {g : Nat → Nat → Nat} {i : Nat} (h1 : 32 ≤ i) (h2 : i < 36) : sh G ad r g i = .inl (G.2.2.1 1, 4, .inl (r i)) := by
  rw [sh, if_neg (by omega), if_neg (by omega), if_neg (by omega), if_neg (by omega), if_neg (by omega), if_neg (by omega), if_neg (by omega), if_neg (by omega), if_neg (by omega), if_neg (by omega), if_pos (by omega)]
theorem sh_ta {G : mt_G} {ad : Nat → Nat} {r : Nat → Nat → Int32} {g : Nat → Nat → Nat} {i : Nat} (h1 : 36 ≤ i) (h2 : i < 40) : sh G ad r g i = .inl (G.2.2.1 0, 4, .inl (r i)) := by
  rw [sh, if_neg (by omega), if_neg (by omega), if_neg (by omega), if_neg (by omega), if_neg (by omega), if_neg (by omega), if_neg (by omega), if_neg (by omega), if_neg (by omega), if_neg (by omega), if_neg (by omega), if_pos (by omega)]
theorem sh_tp {G : mt_G} {ad : Nat → Nat} {r : Nat → Nat → Int32} {g : Nat → Nat → Nat} {i : Nat} (h1 : 40 ≤ i) (h2 : i < 44) : sh G ad r g i = .inl (G.2.2.1 1, 4, .inl (r i)) := by
  rw [sh, if_neg (by omega), if_neg (by omega), if_neg (by omega), if_neg (by omega), if_neg (by omega), if_neg (by omega), if_neg (by omega), if_neg (by omega), if_neg (by omega), if_neg (by omega), if_neg (by omega), if_neg (by omega), if_pos (by omega)]
theorem sh_tv {G : mt_G} {ad : Nat → Nat} {r : Nat → Nat → Int32} {g : Nat → Nat → Nat} {i : Nat} (h1 : 44 ≤ i) (h2 : i < 48) : sh G ad r g i = .inl (G.2.2.1 0, 4, .inl (r i)) := by
  rw [sh, if_neg (by omega), if_neg (by omega), if_neg (by omega), if_neg (by omega), if_neg (by omega), if_neg (by omega), if_neg (by omega), if_neg (by omega), if_neg (by omega), if_neg (by omega), if_neg (by omega), if_neg (by omega), if_neg (by omega)]
def Rp (G : mt_G) (μ : mu_M) (ad : Nat → Nat) (r : Nat → Nat → Int32) (g : Nat → Nat → Nat) : Prop :=
  (∀ i, i < 48 → μ (ad i) = some (sh G ad r g i)) ∧ (∀ i j, i < 48 → j < 48 → ad i = ad j → i = j) ∧ ∀ i, i < 48 → G.2.2.2 ≤ ad i
theorem sh_congr {G : mt_G} {ad : Nat → Nat} {r r' : Nat → Nat → Int32} {g g' : Nat → Nat → Nat} {i : Nat} (h1 : r' i = r i) (h2 : g' i = g i) : sh G ad r g i = sh G ad r' g' i := by
  unfold sh
  rw [h1, h2]
theorem Rp.set {G : mt_G} {μ : mu_M} {ad : Nat → Nat} {r r' : Nat → Nat → Int32} {g g' : Nat → Nat → Nat} (h : Rp G μ ad r g) {i : Nat} {e : va_E} (hi : i < 48) (he : e = sh G ad r' g' i) (hr : ∀ j, j ≠ i → r' j = r j) (hg : ∀ j, j ≠ i → g' j = g j) : Rp G (mu_up μ (ad i) e) ad r' g' := by
  refine ⟨fun j hj => ?_, h.2.1, h.2.2⟩
  by_cases hji : j = i
  · subst hji
    rw [mu_up_s, he]
  · rw [mu_up_n (fun q => hji (h.2.1 j i hj hi q)), h.1 j hj, sh_congr (hr j hji) (hg j hji)]
theorem Rp.new {G : mt_G} {μ : mu_M} {ad : Nat → Nat} {r : Nat → Nat → Int32} {g : Nat → Nat → Nat} (h : Rp G μ ad r g) {q : Nat} {e : va_E} (hq : μ q = none) : Rp G (mu_up μ q e) ad r g := by
  refine ⟨fun j hj => ?_, h.2.1, h.2.2⟩
  rw [mu_up_n (fun z => by have := h.1 j hj; rw [z, hq] at this; cases this)]
  exact h.1 j hj
section RpGet
variable {G : mt_G} {μ : mu_M} {ad : Nat → Nat} {r : Nat → Nat → Int32} {g : Nat → Nat → Nat}
theorem Rp.log (h : Rp G μ ad r g) : μ (ad 0) = some (.inr (0, [.ref (ad 1), .ref (ad 2), .ref (ad 3), .ref (g 0 3), .ref (g 0 4), .ref (g 0 5), .ref (g 0 6)])) := (h.1 0 (by decide)).trans (congrArg some (sh_log (by decide) (by decide)))
theorem Rp.uar (h : Rp G μ ad r g) : μ (ad 1) = some (.inl (G.2.2.1 3, 6, .inr (.inr (.inr (.inr (fun u => some (ad (4 + u)))))))) := (h.1 1 (by decide)).trans (congrArg some (sh_uar (by decide) (by decide)))
theorem Rp.car (h : Rp G μ ad r g) : μ (ad 2) = some (.inl (G.2.2.1 4, 4, .inr (.inr (.inr (.inr (fun c => some (ad (16 + c)))))))) := (h.1 2 (by decide)).trans (congrArg some (sh_car (by decide) (by decide)))
theorem Rp.seq (h : Rp G μ ad r g) : μ (ad 3) = some (.inr (4, [.int (r 3 0), .int (r 3 1), .int (r 3 2)])) := (h.1 3 (by decide)).trans (congrArg some (sh_seq (by decide) (by decide)))
theorem Rp.unit (h : Rp G μ ad r g) {u : Nat} (hv : u < 6) : μ (ad (4 + u)) = some (.inr (1, [.ref (ad (10 + u)), .int (r (4 + u) 1), .int (r (4 + u) 2)])) := by
  rw [h.1 (4 + u) (by omega), sh_unit (by omega) (by omega), show 4 + u + 6 = 10 + u by omega]
theorem Rp.cells (h : Rp G μ ad r g) {u : Nat} (hv : u < 6) : μ (ad (10 + u)) = some (.inl (G.2.2.1 5, 60, .inr (.inr (.inr (.inr (fun o => some (g (10 + u) o))))))) := by
  rw [h.1 (10 + u) (by omega), sh_cells (by omega) (by omega)]
theorem Rp.cli (h : Rp G μ ad r g) {c : Nat} (hv : c < 4) : μ (ad (16 + c)) = some (.inr (6, [.ref (ad (20 + c)), .ref (ad (24 + c)), .ref (ad (28 + c)), .int (r (16 + c) 3), .int (r (16 + c) 4), .ref (g (16 + c) 5)])) := by
  rw [h.1 (16 + c) (by omega), sh_cli (by omega) (by omega), show 16 + c + 4 = 20 + c by omega, show 16 + c + 8 = 24 + c by omega, show 16 + c + 12 = 28 + c by omega]
theorem Rp.val (h : Rp G μ ad r g) {c : Nat} (hv : c < 4) : μ (ad (20 + c)) = some (.inl (G.2.2.1 0, 4, .inl (r (20 + c)))) := by
  rw [h.1 (20 + c) (by omega), sh_val (by omega) (by omega)]
theorem Rp.age (h : Rp G μ ad r g) {c : Nat} (hv : c < 4) : μ (ad (24 + c)) = some (.inl (G.2.2.1 0, 4, .inl (r (24 + c)))) := by
  rw [h.1 (24 + c) (by omega), sh_age (by omega) (by omega)]
theorem Rp.tx (h : Rp G μ ad r g) {c : Nat} (hv : c < 4) : μ (ad (28 + c)) = some (.inr (5, [.ref (ad (32 + c)), .ref (ad (36 + c)), .ref (ad (40 + c)), .ref (ad (44 + c))])) := by
  rw [h.1 (28 + c) (by omega), sh_tx (by omega) (by omega), show 28 + c + 4 = 32 + c by omega, show 28 + c + 8 = 36 + c by omega, show 28 + c + 12 = 40 + c by omega, show 28 + c + 16 = 44 + c by omega]
theorem Rp.tr (h : Rp G μ ad r g) {c : Nat} (hv : c < 4) : μ (ad (32 + c)) = some (.inl (G.2.2.1 1, 4, .inl (r (32 + c)))) := by
  rw [h.1 (32 + c) (by omega), sh_tr (by omega) (by omega)]
theorem Rp.ta (h : Rp G μ ad r g) {c : Nat} (hv : c < 4) : μ (ad (36 + c)) = some (.inl (G.2.2.1 0, 4, .inl (r (36 + c)))) := by
  rw [h.1 (36 + c) (by omega), sh_ta (by omega) (by omega)]
theorem Rp.tp (h : Rp G μ ad r g) {c : Nat} (hv : c < 4) : μ (ad (40 + c)) = some (.inl (G.2.2.1 1, 4, .inl (r (40 + c)))) := by
  rw [h.1 (40 + c) (by omega), sh_tp (by omega) (by omega)]
theorem Rp.tv (h : Rp G μ ad r g) {c : Nat} (hv : c < 4) : μ (ad (44 + c)) = some (.inl (G.2.2.1 0, 4, .inl (r (44 + c)))) := by
  rw [h.1 (44 + c) (by omega), sh_tv (by omega) (by omega)]
theorem Rp.pInt {i k : Nat} {x : Int32} (h : Rp G μ ad r g) (h1 : 20 ≤ i) (h2 : i < 28 ∨ (36 ≤ i ∧ i < 40) ∨ (44 ≤ i ∧ i < 48)) : Rp G (mu_up μ (ad i) (.inl (G.2.2.1 0, 4, .inl (upd (r i) k x)))) ad (up2 r i k x) g := by
  refine h.set (by omega) ?_ (fun j hj => up2_n hj) (fun _ _ => rfl)
  rcases h2 with h2 | h2 | h2
  · rcases Nat.lt_or_ge i 24 with h3 | h3
    · rw [sh_val (by omega) (by omega), up2_s, upd_va]
    · rw [sh_age (by omega) (by omega), up2_s, upd_va]
  · rw [sh_ta (by omega) (by omega), up2_s, upd_va]
  · rw [sh_tv (by omega) (by omega), up2_s, upd_va]
theorem Rp.pBool {i k : Nat} {x : Int32} (h : Rp G μ ad r g) (h2 : (32 ≤ i ∧ i < 36) ∨ (40 ≤ i ∧ i < 44)) : Rp G (mu_up μ (ad i) (.inl (G.2.2.1 1, 4, .inl (upd (r i) k x)))) ad (up2 r i k x) g := by
  refine h.set (by omega) ?_ (fun j hj => up2_n hj) (fun _ _ => rfl)
  rcases h2 with h2 | h2
  · rw [sh_tr (by omega) (by omega), up2_s, upd_va]
  · rw [sh_tp (by omega) (by omega), up2_s, upd_va]
theorem Rp.pCell {u k x : Nat} (h : Rp G μ ad r g) (hu : u < 6) : Rp G (mu_up μ (ad (10 + u)) (.inl (G.2.2.1 5, 60, .inr (.inr (.inr (.inr (va_up (fun o => some (g (10 + u) o)) k (some x)))))))) ad r (up2 g (10 + u) k x) := by
  refine h.set (by omega) ?_ (fun _ _ => rfl) (fun j hj => up2_n hj)
  rw [sh_cells (by omega) (by omega), up2_s, va_up_some]
theorem Rp.pSeq0 {x : Int32} (h : Rp G μ ad r g) : Rp G (mu_up μ (ad 3) (.inr (4, [.int x, .int (r 3 1), .int (r 3 2)]))) ad (up2 r 3 0 x) g :=
  h.set (by omega) (by rw [sh_seq (by omega) (by omega), up2_s]; rfl) (fun j hj => up2_n hj) (fun _ _ => rfl)
theorem Rp.pSeq1 {x : Int32} (h : Rp G μ ad r g) : Rp G (mu_up μ (ad 3) (.inr (4, [.int (r 3 0), .int x, .int (r 3 2)]))) ad (up2 r 3 1 x) g :=
  h.set (by omega) (by rw [sh_seq (by omega) (by omega), up2_s]; rfl) (fun j hj => up2_n hj) (fun _ _ => rfl)
theorem Rp.pSeq2 {x : Int32} (h : Rp G μ ad r g) : Rp G (mu_up μ (ad 3) (.inr (4, [.int (r 3 0), .int (r 3 1), .int x]))) ad (up2 r 3 2 x) g :=
  h.set (by omega) (by rw [sh_seq (by omega) (by omega), up2_s]; rfl) (fun j hj => up2_n hj) (fun _ _ => rfl)
theorem Rp.pUp {u : Nat} {x : Int32} (h : Rp G μ ad r g) (hu : u < 6) : Rp G (mu_up μ (ad (4 + u)) (.inr (1, [.ref (ad (10 + u)), .int x, .int (r (4 + u) 2)]))) ad (up2 r (4 + u) 1 x) g :=
  h.set (by omega) (by rw [sh_unit (by omega) (by omega), up2_s, show 4 + u + 6 = 10 + u by omega]; rfl) (fun j hj => up2_n hj) (fun _ _ => rfl)
theorem Rp.pSeal {u : Nat} {x : Int32} (h : Rp G μ ad r g) (hu : u < 6) : Rp G (mu_up μ (ad (4 + u)) (.inr (1, [.ref (ad (10 + u)), .int (r (4 + u) 1), .int x]))) ad (up2 r (4 + u) 2 x) g :=
  h.set (by omega) (by rw [sh_unit (by omega) (by omega), up2_s, show 4 + u + 6 = 10 + u by omega]; rfl) (fun j hj => up2_n hj) (fun _ _ => rfl)
theorem Rp.pTxn {c : Nat} {x : Int32} (h : Rp G μ ad r g) (hc : c < 4) : Rp G (mu_up μ (ad (16 + c)) (.inr (6, [.ref (ad (20 + c)), .ref (ad (24 + c)), .ref (ad (28 + c)), .int x, .int (r (16 + c) 4), .ref (g (16 + c) 5)]))) ad (up2 r (16 + c) 3 x) g :=
  h.set (by omega) (by rw [sh_cli (by omega) (by omega), up2_s, show 16 + c + 4 = 20 + c by omega, show 16 + c + 8 = 24 + c by omega, show 16 + c + 12 = 28 + c by omega]; rfl) (fun j hj => up2_n hj) (fun _ _ => rfl)
theorem Rp.pPos {c : Nat} {x : Int32} (h : Rp G μ ad r g) (hc : c < 4) : Rp G (mu_up μ (ad (16 + c)) (.inr (6, [.ref (ad (20 + c)), .ref (ad (24 + c)), .ref (ad (28 + c)), .int (r (16 + c) 3), .int x, .ref (g (16 + c) 5)]))) ad (up2 r (16 + c) 4 x) g :=
  h.set (by omega) (by rw [sh_cli (by omega) (by omega), up2_s, show 16 + c + 4 = 20 + c by omega, show 16 + c + 8 = 24 + c by omega, show 16 + c + 12 = 28 + c by omega]; rfl) (fun j hj => up2_n hj) (fun _ _ => rfl)
theorem Rp.pKn {c x : Nat} (h : Rp G μ ad r g) (hc : c < 4) : Rp G (mu_up μ (ad (16 + c)) (.inr (6, [.ref (ad (20 + c)), .ref (ad (24 + c)), .ref (ad (28 + c)), .int (r (16 + c) 3), .int (r (16 + c) 4), .ref x]))) ad r (up2 g (16 + c) 5 x) :=
  h.set (by omega) (by rw [sh_cli (by omega) (by omega), up2_s, show 16 + c + 4 = 20 + c by omega, show 16 + c + 8 = 24 + c by omega, show 16 + c + 12 = 28 + c by omega]; rfl) (fun _ _ => rfl) (fun j hj => up2_n hj)
theorem Rp.pIns {x : Nat} (h : Rp G μ ad r g) : Rp G (mu_up μ (ad 0) (.inr (0, [.ref (ad 1), .ref (ad 2), .ref (ad 3), .ref (g 0 3), .ref (g 0 4), .ref (g 0 5), .ref x]))) ad r (up2 g 0 6 x) :=
  h.set (by omega) (by rw [sh_log (by omega) (by omega), up2_s]; rfl) (fun _ _ => rfl) (fun j hj => up2_n hj)
end RpGet
/-! what is never changed: φ is a part of the map, off the roles -/
def Fz (μ φ : mu_M) (ad : Nat → Nat) : Prop := ∀ (a : Nat) (e : va_E), φ a = some e → μ a = some e ∧ ∀ i, i < 48 → a ≠ ad i
def sub (φ φ' : mu_M) : Prop := ∀ (a : Nat) (e : va_E), φ a = some e → φ' a = some e
theorem sub.rf (φ : mu_M) : sub φ φ := fun _ _ h => h
theorem sub.tr {φ φ1 φ2 : mu_M} (h : sub φ φ1) (h2 : sub φ1 φ2) : sub φ φ2 := fun a e q => h2 a e (h a e q)
theorem Fz.up {μ φ : mu_M} {ad : Nat → Nat} {i : Nat} {e : va_E} (h : Fz μ φ ad) (hi : i < 48) : Fz (mu_up μ (ad i) e) φ ad := fun a x hx => ⟨by rw [mu_up_n ((h a x hx).2 i hi)]; exact (h a x hx).1, (h a x hx).2⟩
theorem Fz.new {μ φ : mu_M} {ad : Nat → Nat} {q : Nat} {e : va_E} (h : Fz μ φ ad) (hq : μ q = none) : Fz (mu_up μ q e) φ ad := fun a x hx => ⟨by rw [mu_up_n (fun z => by have h9 := (h a x hx).1; rw [z, hq] at h9; cases h9)]; exact (h a x hx).1, (h a x hx).2⟩
theorem Fz.add {μ φ : mu_M} {ad : Nat → Nat} {q : Nat} {e : va_E} (h : Fz μ φ ad) (hq : μ q = some e) (ho : ∀ i, i < 48 → q ≠ ad i) : Fz μ (mu_up φ q e) ad := by
  intro a x hx
  by_cases hqa : a = q
  · subst hqa
    rw [mu_up_s] at hx
    cases hx
    exact ⟨hq, ho⟩
  · rw [mu_up_n hqa] at hx
    exact h a x hx
theorem sub.add {φ : mu_M} {q : Nat} {e : va_E} (hq : φ q = none) : sub φ (mu_up φ q e) := fun a x hx => by
  rw [mu_up_n (fun z => by rw [z, hq] at hx; cases hx)]
  exact hx
end
section
theorem d_Log_init_0 : decode prog_1_method_1_code 0 = .ok (.aload_n 0, 1) := by decide +kernel
theorem d_Log_init_1 : decode prog_1_method_1_code 1 = .ok (.invokespecial 1, 3) := by decide +kernel
theorem d_Log_init_4 : decode prog_1_method_1_code 4 = .ok (.aload_n 0, 1) := by decide +kernel
theorem d_Log_init_5 : decode prog_1_method_1_code 5 = .ok (.bipush 6, 2) := by decide +kernel
theorem d_Log_init_7 : decode prog_1_method_1_code 7 = .ok (.anewarray 9, 3) := by decide +kernel
theorem d_Log_init_10 : decode prog_1_method_1_code 10 = .ok (.putfield 11, 3) := by decide +kernel
theorem d_Log_init_13 : decode prog_1_method_1_code 13 = .ok (.aload_n 0, 1) := by decide +kernel
theorem d_Log_init_14 : decode prog_1_method_1_code 14 = .ok (.iconst 4, 1) := by decide +kernel
theorem d_Log_init_15 : decode prog_1_method_1_code 15 = .ok (.anewarray 15, 3) := by decide +kernel
theorem d_Log_init_18 : decode prog_1_method_1_code 18 = .ok (.putfield 17, 3) := by decide +kernel
theorem d_Log_init_21 : decode prog_1_method_1_code 21 = .ok (.aload_n 0, 1) := by decide +kernel
theorem d_Log_init_22 : decode prog_1_method_1_code 22 = .ok (.new 21, 3) := by decide +kernel
theorem d_Log_init_25 : decode prog_1_method_1_code 25 = .ok (.dup, 1) := by decide +kernel
theorem d_Log_init_26 : decode prog_1_method_1_code 26 = .ok (.invokespecial 23, 3) := by decide +kernel
theorem d_Log_init_29 : decode prog_1_method_1_code 29 = .ok (.putfield 24, 3) := by decide +kernel
theorem d_Log_init_32 : decode prog_1_method_1_code 32 = .ok (.new 28, 3) := by decide +kernel
theorem d_Log_init_35 : decode prog_1_method_1_code 35 = .ok (.dup, 1) := by decide +kernel
theorem d_Log_init_36 : decode prog_1_method_1_code 36 = .ok (.invokespecial 30, 3) := by decide +kernel
theorem d_Log_init_39 : decode prog_1_method_1_code 39 = .ok (.astore_n 1, 1) := by decide +kernel
theorem d_Log_init_40 : decode prog_1_method_1_code 40 = .ok (.aload_n 0, 1) := by decide +kernel
theorem d_Log_init_41 : decode prog_1_method_1_code 41 = .ok (.new 31, 3) := by decide +kernel
theorem d_Log_init_44 : decode prog_1_method_1_code 44 = .ok (.dup, 1) := by decide +kernel
theorem d_Log_init_45 : decode prog_1_method_1_code 45 = .ok (.iconst 0, 1) := by decide +kernel
theorem d_Log_init_46 : decode prog_1_method_1_code 46 = .ok (.iconst 0, 1) := by decide +kernel
theorem d_Log_init_47 : decode prog_1_method_1_code 47 = .ok (.aload_n 1, 1) := by decide +kernel
theorem d_Log_init_48 : decode prog_1_method_1_code 48 = .ok (.invokespecial 33, 3) := by decide +kernel
theorem d_Log_init_51 : decode prog_1_method_1_code 51 = .ok (.putfield 36, 3) := by decide +kernel
theorem d_Log_init_54 : decode prog_1_method_1_code 54 = .ok (.aload_n 0, 1) := by decide +kernel
theorem d_Log_init_55 : decode prog_1_method_1_code 55 = .ok (.new 31, 3) := by decide +kernel
theorem d_Log_init_58 : decode prog_1_method_1_code 58 = .ok (.dup, 1) := by decide +kernel
theorem d_Log_init_59 : decode prog_1_method_1_code 59 = .ok (.iconst 3, 1) := by decide +kernel
theorem d_Log_init_60 : decode prog_1_method_1_code 60 = .ok (.iconst 0, 1) := by decide +kernel
theorem d_Log_init_61 : decode prog_1_method_1_code 61 = .ok (.aload_n 1, 1) := by decide +kernel
theorem d_Log_init_62 : decode prog_1_method_1_code 62 = .ok (.invokespecial 33, 3) := by decide +kernel
theorem d_Log_init_65 : decode prog_1_method_1_code 65 = .ok (.putfield 40, 3) := by decide +kernel
theorem d_Log_init_68 : decode prog_1_method_1_code 68 = .ok (.aload_n 0, 1) := by decide +kernel
theorem d_Log_init_69 : decode prog_1_method_1_code 69 = .ok (.new 31, 3) := by decide +kernel
theorem d_Log_init_72 : decode prog_1_method_1_code 72 = .ok (.dup, 1) := by decide +kernel
theorem d_Log_init_73 : decode prog_1_method_1_code 73 = .ok (.iconst 4, 1) := by decide +kernel
theorem d_Log_init_74 : decode prog_1_method_1_code 74 = .ok (.iconst 0, 1) := by decide +kernel
theorem d_Log_init_75 : decode prog_1_method_1_code 75 = .ok (.aload_n 1, 1) := by decide +kernel
theorem d_Log_init_76 : decode prog_1_method_1_code 76 = .ok (.invokespecial 33, 3) := by decide +kernel
theorem d_Log_init_79 : decode prog_1_method_1_code 79 = .ok (.putfield 43, 3) := by decide +kernel
theorem d_Log_init_82 : decode prog_1_method_1_code 82 = .ok (.aload_n 0, 1) := by decide +kernel
theorem d_Log_init_83 : decode prog_1_method_1_code 83 = .ok (.new 46, 3) := by decide +kernel
theorem d_Log_init_86 : decode prog_1_method_1_code 86 = .ok (.dup, 1) := by decide +kernel
theorem d_Log_init_87 : decode prog_1_method_1_code 87 = .ok (.iconst 1, 1) := by decide +kernel
theorem d_Log_init_88 : decode prog_1_method_1_code 88 = .ok (.bipush 12, 2) := by decide +kernel
theorem d_Log_init_90 : decode prog_1_method_1_code 90 = .ok (.invokestatic 48, 3) := by decide +kernel
theorem d_Log_init_93 : decode prog_1_method_1_code 93 = .ok (.bipush 34, 2) := by decide +kernel
theorem d_Log_init_95 : decode prog_1_method_1_code 95 = .ok (.invokestatic 48, 3) := by decide +kernel
theorem d_Log_init_98 : decode prog_1_method_1_code 98 = .ok (.invokespecial 52, 3) := by decide +kernel
theorem d_Log_init_101 : decode prog_1_method_1_code 101 = .ok (.putfield 55, 3) := by decide +kernel
theorem d_Log_init_104 : decode prog_1_method_1_code 104 = .ok (.iconst 0, 1) := by decide +kernel
theorem d_Log_init_105 : decode prog_1_method_1_code 105 = .ok (.istore_n 2, 1) := by decide +kernel
theorem d_Log_init_106 : decode prog_1_method_1_code 106 = .ok (.iload_n 2, 1) := by decide +kernel
theorem d_Log_init_107 : decode prog_1_method_1_code 107 = .ok (.bipush 6, 2) := by decide +kernel
theorem d_Log_init_109 : decode prog_1_method_1_code 109 = .ok (.if_icmp .ge 26, 3) := by decide +kernel
theorem d_Log_init_112 : decode prog_1_method_1_code 112 = .ok (.aload_n 0, 1) := by decide +kernel
theorem d_Log_init_113 : decode prog_1_method_1_code 113 = .ok (.getfield 11, 3) := by decide +kernel
theorem d_Log_init_116 : decode prog_1_method_1_code 116 = .ok (.iload_n 2, 1) := by decide +kernel
theorem d_Log_init_117 : decode prog_1_method_1_code 117 = .ok (.new 9, 3) := by decide +kernel
theorem d_Log_init_120 : decode prog_1_method_1_code 120 = .ok (.dup, 1) := by decide +kernel
theorem d_Log_init_121 : decode prog_1_method_1_code 121 = .ok (.aload_n 0, 1) := by decide +kernel
theorem d_Log_init_122 : decode prog_1_method_1_code 122 = .ok (.getfield 36, 3) := by decide +kernel
theorem d_Log_init_125 : decode prog_1_method_1_code 125 = .ok (.invokespecial 59, 3) := by decide +kernel
theorem d_Log_init_128 : decode prog_1_method_1_code 128 = .ok (.aastore, 1) := by decide +kernel
theorem d_Log_init_129 : decode prog_1_method_1_code 129 = .ok (.iinc 2 1, 3) := by decide +kernel
theorem d_Log_init_132 : decode prog_1_method_1_code 132 = .ok (.goto (-26), 3) := by decide +kernel
theorem d_Log_init_135 : decode prog_1_method_1_code 135 = .ok (.iconst 0, 1) := by decide +kernel
theorem d_Log_init_136 : decode prog_1_method_1_code 136 = .ok (.istore_n 2, 1) := by decide +kernel
theorem d_Log_init_137 : decode prog_1_method_1_code 137 = .ok (.iload_n 2, 1) := by decide +kernel
theorem d_Log_init_138 : decode prog_1_method_1_code 138 = .ok (.iconst 4, 1) := by decide +kernel
theorem d_Log_init_139 : decode prog_1_method_1_code 139 = .ok (.if_icmp .ge 26, 3) := by decide +kernel
theorem d_Log_init_142 : decode prog_1_method_1_code 142 = .ok (.aload_n 0, 1) := by decide +kernel
theorem d_Log_init_143 : decode prog_1_method_1_code 143 = .ok (.getfield 17, 3) := by decide +kernel
theorem d_Log_init_146 : decode prog_1_method_1_code 146 = .ok (.iload_n 2, 1) := by decide +kernel
theorem d_Log_init_147 : decode prog_1_method_1_code 147 = .ok (.new 15, 3) := by decide +kernel
theorem d_Log_init_150 : decode prog_1_method_1_code 150 = .ok (.dup, 1) := by decide +kernel
theorem d_Log_init_151 : decode prog_1_method_1_code 151 = .ok (.aload_n 0, 1) := by decide +kernel
theorem d_Log_init_152 : decode prog_1_method_1_code 152 = .ok (.getfield 55, 3) := by decide +kernel
theorem d_Log_init_155 : decode prog_1_method_1_code 155 = .ok (.invokespecial 62, 3) := by decide +kernel
theorem d_Log_init_158 : decode prog_1_method_1_code 158 = .ok (.aastore, 1) := by decide +kernel
theorem d_Log_init_159 : decode prog_1_method_1_code 159 = .ok (.iinc 2 1, 3) := by decide +kernel
theorem d_Log_init_162 : decode prog_1_method_1_code 162 = .ok (.goto (-25), 3) := by decide +kernel
theorem d_Log_init_165 : decode prog_1_method_1_code 165 = .ok (.return_, 1) := by decide +kernel
theorem d_Log_append_0 : decode prog_1_method_2_code 0 = .ok (.iload_n 1, 1) := by decide +kernel
theorem d_Log_append_1 : decode prog_1_method_2_code 1 = .ok (.iconst 3, 1) := by decide +kernel
theorem d_Log_append_2 : decode prog_1_method_2_code 2 = .ok (.invokestatic 65, 3) := by decide +kernel
theorem d_Log_append_5 : decode prog_1_method_2_code 5 = .ok (.iload_n 2, 1) := by decide +kernel
theorem d_Log_append_6 : decode prog_1_method_2_code 6 = .ok (.iconst 3, 1) := by decide +kernel
theorem d_Log_append_7 : decode prog_1_method_2_code 7 = .ok (.invokestatic 65, 3) := by decide +kernel
theorem d_Log_append_10 : decode prog_1_method_2_code 10 = .ok (.iload 4, 2) := by decide +kernel
theorem d_Log_append_12 : decode prog_1_method_2_code 12 = .ok (.iconst 3, 1) := by decide +kernel
theorem d_Log_append_13 : decode prog_1_method_2_code 13 = .ok (.invokestatic 65, 3) := by decide +kernel
theorem d_Log_append_16 : decode prog_1_method_2_code 16 = .ok (.aload_n 0, 1) := by decide +kernel
theorem d_Log_append_17 : decode prog_1_method_2_code 17 = .ok (.getfield 17, 3) := by decide +kernel
theorem d_Log_append_20 : decode prog_1_method_2_code 20 = .ok (.iload_n 1, 1) := by decide +kernel
theorem d_Log_append_21 : decode prog_1_method_2_code 21 = .ok (.aaload, 1) := by decide +kernel
theorem d_Log_append_22 : decode prog_1_method_2_code 22 = .ok (.astore 5, 2) := by decide +kernel
theorem d_Log_append_24 : decode prog_1_method_2_code 24 = .ok (.aload_n 0, 1) := by decide +kernel
theorem d_Log_append_25 : decode prog_1_method_2_code 25 = .ok (.aload 5, 2) := by decide +kernel
theorem d_Log_append_27 : decode prog_1_method_2_code 27 = .ok (.invokevirtual 69, 3) := by decide +kernel
theorem d_Log_append_30 : decode prog_1_method_2_code 30 = .ok (.istore 6, 2) := by decide +kernel
theorem d_Log_append_32 : decode prog_1_method_2_code 32 = .ok (.new 28, 3) := by decide +kernel
theorem d_Log_append_35 : decode prog_1_method_2_code 35 = .ok (.dup, 1) := by decide +kernel
theorem d_Log_append_36 : decode prog_1_method_2_code 36 = .ok (.invokespecial 30, 3) := by decide +kernel
theorem d_Log_append_39 : decode prog_1_method_2_code 39 = .ok (.astore 7, 2) := by decide +kernel
theorem d_Log_append_41 : decode prog_1_method_2_code 41 = .ok (.aload 7, 2) := by decide +kernel
theorem d_Log_append_43 : decode prog_1_method_2_code 43 = .ok (.iload_n 2, 1) := by decide +kernel
theorem d_Log_append_44 : decode prog_1_method_2_code 44 = .ok (.iload_n 3, 1) := by decide +kernel
theorem d_Log_append_45 : decode prog_1_method_2_code 45 = .ok (.invokevirtual 73, 3) := by decide +kernel
theorem d_Log_append_48 : decode prog_1_method_2_code 48 = .ok (.aload_n 0, 1) := by decide +kernel
theorem d_Log_append_49 : decode prog_1_method_2_code 49 = .ok (.aload 5, 2) := by decide +kernel
theorem d_Log_append_51 : decode prog_1_method_2_code 51 = .ok (.iload 6, 2) := by decide +kernel
theorem d_Log_append_53 : decode prog_1_method_2_code 53 = .ok (.new 31, 3) := by decide +kernel
theorem d_Log_append_56 : decode prog_1_method_2_code 56 = .ok (.dup, 1) := by decide +kernel
theorem d_Log_append_57 : decode prog_1_method_2_code 57 = .ok (.iconst 1, 1) := by decide +kernel
theorem d_Log_append_58 : decode prog_1_method_2_code 58 = .ok (.iload_n 3, 1) := by decide +kernel
theorem d_Log_append_59 : decode prog_1_method_2_code 59 = .ok (.aload 7, 2) := by decide +kernel
theorem d_Log_append_61 : decode prog_1_method_2_code 61 = .ok (.invokespecial 33, 3) := by decide +kernel
theorem d_Log_append_64 : decode prog_1_method_2_code 64 = .ok (.iload 4, 2) := by decide +kernel
theorem d_Log_append_66 : decode prog_1_method_2_code 66 = .ok (.invokevirtual 76, 3) := by decide +kernel
theorem d_Log_append_69 : decode prog_1_method_2_code 69 = .ok (.aload 5, 2) := by decide +kernel
theorem d_Log_append_71 : decode prog_1_method_2_code 71 = .ok (.getfield 80, 3) := by decide +kernel
theorem d_Log_append_74 : decode prog_1_method_2_code 74 = .ok (.iload 6, 2) := by decide +kernel
theorem d_Log_append_76 : decode prog_1_method_2_code 76 = .ok (.invokevirtual 83, 3) := by decide +kernel
theorem d_Log_append_79 : decode prog_1_method_2_code 79 = .ok (.arraylength, 1) := by decide +kernel
theorem d_Log_append_80 : decode prog_1_method_2_code 80 = .ok (.iload 4, 2) := by decide +kernel
theorem d_Log_append_82 : decode prog_1_method_2_code 82 = .ok (.if_icmp .le 7, 3) := by decide +kernel
theorem d_Log_append_85 : decode prog_1_method_2_code 85 = .ok (.iconst 1, 1) := by decide +kernel
theorem d_Log_append_86 : decode prog_1_method_2_code 86 = .ok (.goto 4, 3) := by decide +kernel
theorem d_Log_append_89 : decode prog_1_method_2_code 89 = .ok (.iconst 0, 1) := by decide +kernel
theorem d_Log_append_90 : decode prog_1_method_2_code 90 = .ok (.istore 8, 2) := by decide +kernel
theorem d_Log_append_92 : decode prog_1_method_2_code 92 = .ok (.iload 8, 2) := by decide +kernel
theorem d_Log_append_94 : decode prog_1_method_2_code 94 = .ok (.ifCond .eq 11, 3) := by decide +kernel
theorem d_Log_append_97 : decode prog_1_method_2_code 97 = .ok (.iload 6, 2) := by decide +kernel
theorem d_Log_append_99 : decode prog_1_method_2_code 99 = .ok (.bipush 100, 2) := by decide +kernel
theorem d_Log_append_101 : decode prog_1_method_2_code 101 = .ok (.isub, 1) := by decide +kernel
theorem d_Log_append_102 : decode prog_1_method_2_code 102 = .ok (.goto 5, 3) := by decide +kernel
theorem d_Log_append_105 : decode prog_1_method_2_code 105 = .ok (.iload 6, 2) := by decide +kernel
theorem d_Log_append_107 : decode prog_1_method_2_code 107 = .ok (.ireturn, 1) := by decide +kernel
theorem d_Log_read_0 : decode prog_1_method_3_code 0 = .ok (.iload_n 1, 1) := by decide +kernel
theorem d_Log_read_1 : decode prog_1_method_3_code 1 = .ok (.iconst 3, 1) := by decide +kernel
theorem d_Log_read_2 : decode prog_1_method_3_code 2 = .ok (.invokestatic 65, 3) := by decide +kernel
theorem d_Log_read_5 : decode prog_1_method_3_code 5 = .ok (.iload_n 2, 1) := by decide +kernel
theorem d_Log_read_6 : decode prog_1_method_3_code 6 = .ok (.bipush 59, 2) := by decide +kernel
theorem d_Log_read_8 : decode prog_1_method_3_code 8 = .ok (.invokestatic 65, 3) := by decide +kernel
theorem d_Log_read_11 : decode prog_1_method_3_code 11 = .ok (.aload_n 0, 1) := by decide +kernel
theorem d_Log_read_12 : decode prog_1_method_3_code 12 = .ok (.aload_n 0, 1) := by decide +kernel
theorem d_Log_read_13 : decode prog_1_method_3_code 13 = .ok (.getfield 17, 3) := by decide +kernel
theorem d_Log_read_16 : decode prog_1_method_3_code 16 = .ok (.iload_n 1, 1) := by decide +kernel
theorem d_Log_read_17 : decode prog_1_method_3_code 17 = .ok (.aaload, 1) := by decide +kernel
theorem d_Log_read_18 : decode prog_1_method_3_code 18 = .ok (.iload_n 2, 1) := by decide +kernel
theorem d_Log_read_19 : decode prog_1_method_3_code 19 = .ok (.invokevirtual 86, 3) := by decide +kernel
theorem d_Log_read_22 : decode prog_1_method_3_code 22 = .ok (.astore_n 3, 1) := by decide +kernel
theorem d_Log_read_23 : decode prog_1_method_3_code 23 = .ok (.aload_n 3, 1) := by decide +kernel
theorem d_Log_read_24 : decode prog_1_method_3_code 24 = .ok (.getfield 90, 3) := by decide +kernel
theorem d_Log_read_27 : decode prog_1_method_3_code 27 = .ok (.iconst 3, 1) := by decide +kernel
theorem d_Log_read_28 : decode prog_1_method_3_code 28 = .ok (.if_icmp .ne 13, 3) := by decide +kernel
theorem d_Log_read_31 : decode prog_1_method_3_code 31 = .ok (.new 94, 3) := by decide +kernel
theorem d_Log_read_34 : decode prog_1_method_3_code 34 = .ok (.dup, 1) := by decide +kernel
theorem d_Log_read_35 : decode prog_1_method_3_code 35 = .ok (.ldc 96, 2) := by decide +kernel
theorem d_Log_read_37 : decode prog_1_method_3_code 37 = .ok (.invokespecial 97, 3) := by decide +kernel
theorem d_Log_read_40 : decode prog_1_method_3_code 40 = .ok (.athrow, 1) := by decide +kernel
theorem d_Log_read_41 : decode prog_1_method_3_code 41 = .ok (.aload_n 3, 1) := by decide +kernel
theorem d_Log_read_42 : decode prog_1_method_3_code 42 = .ok (.getfield 100, 3) := by decide +kernel
theorem d_Log_read_45 : decode prog_1_method_3_code 45 = .ok (.ireturn, 1) := by decide +kernel
theorem d_Log_fill_0 : decode prog_1_method_4_code 0 = .ok (.iload_n 1, 1) := by decide +kernel
theorem d_Log_fill_1 : decode prog_1_method_4_code 1 = .ok (.iconst 3, 1) := by decide +kernel
theorem d_Log_fill_2 : decode prog_1_method_4_code 2 = .ok (.invokestatic 65, 3) := by decide +kernel
theorem d_Log_fill_5 : decode prog_1_method_4_code 5 = .ok (.iload_n 2, 1) := by decide +kernel
theorem d_Log_fill_6 : decode prog_1_method_4_code 6 = .ok (.bipush 59, 2) := by decide +kernel
theorem d_Log_fill_8 : decode prog_1_method_4_code 8 = .ok (.invokestatic 65, 3) := by decide +kernel
theorem d_Log_fill_11 : decode prog_1_method_4_code 11 = .ok (.aload_n 0, 1) := by decide +kernel
theorem d_Log_fill_12 : decode prog_1_method_4_code 12 = .ok (.getfield 17, 3) := by decide +kernel
theorem d_Log_fill_15 : decode prog_1_method_4_code 15 = .ok (.iload_n 1, 1) := by decide +kernel
theorem d_Log_fill_16 : decode prog_1_method_4_code 16 = .ok (.aaload, 1) := by decide +kernel
theorem d_Log_fill_17 : decode prog_1_method_4_code 17 = .ok (.astore_n 3, 1) := by decide +kernel
theorem d_Log_fill_18 : decode prog_1_method_4_code 18 = .ok (.aload_n 3, 1) := by decide +kernel
theorem d_Log_fill_19 : decode prog_1_method_4_code 19 = .ok (.getfield 80, 3) := by decide +kernel
theorem d_Log_fill_22 : decode prog_1_method_4_code 22 = .ok (.iload_n 2, 1) := by decide +kernel
theorem d_Log_fill_23 : decode prog_1_method_4_code 23 = .ok (.invokevirtual 83, 3) := by decide +kernel
theorem d_Log_fill_26 : decode prog_1_method_4_code 26 = .ok (.astore 4, 2) := by decide +kernel
theorem d_Log_fill_28 : decode prog_1_method_4_code 28 = .ok (.aload_n 0, 1) := by decide +kernel
theorem d_Log_fill_29 : decode prog_1_method_4_code 29 = .ok (.getfield 40, 3) := by decide +kernel
theorem d_Log_fill_32 : decode prog_1_method_4_code 32 = .ok (.astore 5, 2) := by decide +kernel
theorem d_Log_fill_34 : decode prog_1_method_4_code 34 = .ok (.iconst 0, 1) := by decide +kernel
theorem d_Log_fill_35 : decode prog_1_method_4_code 35 = .ok (.istore 6, 2) := by decide +kernel
theorem d_Log_fill_37 : decode prog_1_method_4_code 37 = .ok (.iconst 0, 1) := by decide +kernel
theorem d_Log_fill_38 : decode prog_1_method_4_code 38 = .ok (.istore 7, 2) := by decide +kernel
theorem d_Log_fill_40 : decode prog_1_method_4_code 40 = .ok (.iload 7, 2) := by decide +kernel
theorem d_Log_fill_42 : decode prog_1_method_4_code 42 = .ok (.aload 4, 2) := by decide +kernel
theorem d_Log_fill_44 : decode prog_1_method_4_code 44 = .ok (.arraylength, 1) := by decide +kernel
theorem d_Log_fill_45 : decode prog_1_method_4_code 45 = .ok (.if_icmp .ge 59, 3) := by decide +kernel
theorem d_Log_fill_48 : decode prog_1_method_4_code 48 = .ok (.aload_n 0, 1) := by decide +kernel
theorem d_Log_fill_49 : decode prog_1_method_4_code 49 = .ok (.aload_n 3, 1) := by decide +kernel
theorem d_Log_fill_50 : decode prog_1_method_4_code 50 = .ok (.aload 4, 2) := by decide +kernel
theorem d_Log_fill_52 : decode prog_1_method_4_code 52 = .ok (.iload 7, 2) := by decide +kernel
theorem d_Log_fill_54 : decode prog_1_method_4_code 54 = .ok (.iaload, 1) := by decide +kernel
theorem d_Log_fill_55 : decode prog_1_method_4_code 55 = .ok (.invokevirtual 103, 3) := by decide +kernel
theorem d_Log_fill_58 : decode prog_1_method_4_code 58 = .ok (.astore 8, 2) := by decide +kernel
theorem d_Log_fill_60 : decode prog_1_method_4_code 60 = .ok (.aload 8, 2) := by decide +kernel
theorem d_Log_fill_62 : decode prog_1_method_4_code 62 = .ok (.iload_n 2, 1) := by decide +kernel
theorem d_Log_fill_63 : decode prog_1_method_4_code 63 = .ok (.invokevirtual 107, 3) := by decide +kernel
theorem d_Log_fill_66 : decode prog_1_method_4_code 66 = .ok (.ifCond .ne 18, 3) := by decide +kernel
theorem d_Log_fill_69 : decode prog_1_method_4_code 69 = .ok (.aload 8, 2) := by decide +kernel
theorem d_Log_fill_71 : decode prog_1_method_4_code 71 = .ok (.getfield 111, 3) := by decide +kernel
theorem d_Log_fill_74 : decode prog_1_method_4_code 74 = .ok (.iload_n 2, 1) := by decide +kernel
theorem d_Log_fill_75 : decode prog_1_method_4_code 75 = .ok (.aload 5, 2) := by decide +kernel
theorem d_Log_fill_77 : decode prog_1_method_4_code 77 = .ok (.aastore, 1) := by decide +kernel
theorem d_Log_fill_78 : decode prog_1_method_4_code 78 = .ok (.iinc 6 1, 3) := by decide +kernel
theorem d_Log_fill_81 : decode prog_1_method_4_code 81 = .ok (.goto 17, 3) := by decide +kernel
theorem d_Log_fill_84 : decode prog_1_method_4_code 84 = .ok (.iload 7, 2) := by decide +kernel
theorem d_Log_fill_86 : decode prog_1_method_4_code 86 = .ok (.ifCond .ne 12, 3) := by decide +kernel
theorem d_Log_fill_89 : decode prog_1_method_4_code 89 = .ok (.aload 8, 2) := by decide +kernel
theorem d_Log_fill_91 : decode prog_1_method_4_code 91 = .ok (.getfield 111, 3) := by decide +kernel
theorem d_Log_fill_94 : decode prog_1_method_4_code 94 = .ok (.iload_n 2, 1) := by decide +kernel
theorem d_Log_fill_95 : decode prog_1_method_4_code 95 = .ok (.aaload, 1) := by decide +kernel
theorem d_Log_fill_96 : decode prog_1_method_4_code 96 = .ok (.astore 5, 2) := by decide +kernel
theorem d_Log_fill_98 : decode prog_1_method_4_code 98 = .ok (.iinc 7 1, 3) := by decide +kernel
theorem d_Log_fill_101 : decode prog_1_method_4_code 101 = .ok (.goto (-61), 3) := by decide +kernel
theorem d_Log_fill_104 : decode prog_1_method_4_code 104 = .ok (.iload 6, 2) := by decide +kernel
theorem d_Log_fill_106 : decode prog_1_method_4_code 106 = .ok (.ireturn, 1) := by decide +kernel
theorem d_Log_trim_0 : decode prog_1_method_5_code 0 = .ok (.iload_n 1, 1) := by decide +kernel
theorem d_Log_trim_1 : decode prog_1_method_5_code 1 = .ok (.iconst 3, 1) := by decide +kernel
theorem d_Log_trim_2 : decode prog_1_method_5_code 2 = .ok (.invokestatic 65, 3) := by decide +kernel
theorem d_Log_trim_5 : decode prog_1_method_5_code 5 = .ok (.iload_n 2, 1) := by decide +kernel
theorem d_Log_trim_6 : decode prog_1_method_5_code 6 = .ok (.bipush 59, 2) := by decide +kernel
theorem d_Log_trim_8 : decode prog_1_method_5_code 8 = .ok (.invokestatic 65, 3) := by decide +kernel
theorem d_Log_trim_11 : decode prog_1_method_5_code 11 = .ok (.iconst 0, 1) := by decide +kernel
theorem d_Log_trim_12 : decode prog_1_method_5_code 12 = .ok (.istore_n 3, 1) := by decide +kernel
theorem d_Log_trim_13 : decode prog_1_method_5_code 13 = .ok (.iconst 0, 1) := by decide +kernel
theorem d_Log_trim_14 : decode prog_1_method_5_code 14 = .ok (.istore 4, 2) := by decide +kernel
theorem d_Log_trim_16 : decode prog_1_method_5_code 16 = .ok (.iload 4, 2) := by decide +kernel
theorem d_Log_trim_18 : decode prog_1_method_5_code 18 = .ok (.iload_n 2, 1) := by decide +kernel
theorem d_Log_trim_19 : decode prog_1_method_5_code 19 = .ok (.if_icmp .gt 24, 3) := by decide +kernel
theorem d_Log_trim_22 : decode prog_1_method_5_code 22 = .ok (.iload_n 3, 1) := by decide +kernel
theorem d_Log_trim_23 : decode prog_1_method_5_code 23 = .ok (.aload_n 0, 1) := by decide +kernel
theorem d_Log_trim_24 : decode prog_1_method_5_code 24 = .ok (.aload_n 0, 1) := by decide +kernel
theorem d_Log_trim_25 : decode prog_1_method_5_code 25 = .ok (.getfield 17, 3) := by decide +kernel
theorem d_Log_trim_28 : decode prog_1_method_5_code 28 = .ok (.iload_n 1, 1) := by decide +kernel
theorem d_Log_trim_29 : decode prog_1_method_5_code 29 = .ok (.aaload, 1) := by decide +kernel
theorem d_Log_trim_30 : decode prog_1_method_5_code 30 = .ok (.iload 4, 2) := by decide +kernel
theorem d_Log_trim_32 : decode prog_1_method_5_code 32 = .ok (.invokevirtual 115, 3) := by decide +kernel
theorem d_Log_trim_35 : decode prog_1_method_5_code 35 = .ok (.iadd, 1) := by decide +kernel
theorem d_Log_trim_36 : decode prog_1_method_5_code 36 = .ok (.istore_n 3, 1) := by decide +kernel
theorem d_Log_trim_37 : decode prog_1_method_5_code 37 = .ok (.iinc 4 1, 3) := by decide +kernel
theorem d_Log_trim_40 : decode prog_1_method_5_code 40 = .ok (.goto (-24), 3) := by decide +kernel
theorem d_Log_trim_43 : decode prog_1_method_5_code 43 = .ok (.iload_n 3, 1) := by decide +kernel
theorem d_Log_trim_44 : decode prog_1_method_5_code 44 = .ok (.ireturn, 1) := by decide +kernel
theorem d_Log_learn_0 : decode prog_1_method_6_code 0 = .ok (.iload_n 1, 1) := by decide +kernel
theorem d_Log_learn_1 : decode prog_1_method_6_code 1 = .ok (.iconst 3, 1) := by decide +kernel
theorem d_Log_learn_2 : decode prog_1_method_6_code 2 = .ok (.invokestatic 65, 3) := by decide +kernel
theorem d_Log_learn_5 : decode prog_1_method_6_code 5 = .ok (.aload_n 0, 1) := by decide +kernel
theorem d_Log_learn_6 : decode prog_1_method_6_code 6 = .ok (.getfield 17, 3) := by decide +kernel
theorem d_Log_learn_9 : decode prog_1_method_6_code 9 = .ok (.iload_n 1, 1) := by decide +kernel
theorem d_Log_learn_10 : decode prog_1_method_6_code 10 = .ok (.aaload, 1) := by decide +kernel
theorem d_Log_learn_11 : decode prog_1_method_6_code 11 = .ok (.aload_n 0, 1) := by decide +kernel
theorem d_Log_learn_12 : decode prog_1_method_6_code 12 = .ok (.getfield 55, 3) := by decide +kernel
theorem d_Log_learn_15 : decode prog_1_method_6_code 15 = .ok (.putfield 80, 3) := by decide +kernel
theorem d_Log_learn_18 : decode prog_1_method_6_code 18 = .ok (.aload_n 0, 1) := by decide +kernel
theorem d_Log_learn_19 : decode prog_1_method_6_code 19 = .ok (.getfield 55, 3) := by decide +kernel
theorem d_Log_learn_22 : decode prog_1_method_6_code 22 = .ok (.getfield 119, 3) := by decide +kernel
theorem d_Log_learn_25 : decode prog_1_method_6_code 25 = .ok (.ireturn, 1) := by decide +kernel
theorem d_Log_change_0 : decode prog_1_method_7_code 0 = .ok (.iload_n 1, 1) := by decide +kernel
theorem d_Log_change_1 : decode prog_1_method_7_code 1 = .ok (.iconst 3, 1) := by decide +kernel
theorem d_Log_change_2 : decode prog_1_method_7_code 2 = .ok (.invokestatic 65, 3) := by decide +kernel
theorem d_Log_change_5 : decode prog_1_method_7_code 5 = .ok (.iload_n 2, 1) := by decide +kernel
theorem d_Log_change_6 : decode prog_1_method_7_code 6 = .ok (.iconst 1, 1) := by decide +kernel
theorem d_Log_change_7 : decode prog_1_method_7_code 7 = .ok (.invokestatic 65, 3) := by decide +kernel
theorem d_Log_change_10 : decode prog_1_method_7_code 10 = .ok (.iload_n 3, 1) := by decide +kernel
theorem d_Log_change_11 : decode prog_1_method_7_code 11 = .ok (.invokestatic 122, 3) := by decide +kernel
theorem d_Log_change_14 : decode prog_1_method_7_code 14 = .ok (.aload_n 0, 1) := by decide +kernel
theorem d_Log_change_15 : decode prog_1_method_7_code 15 = .ok (.getfield 17, 3) := by decide +kernel
theorem d_Log_change_18 : decode prog_1_method_7_code 18 = .ok (.iload_n 1, 1) := by decide +kernel
theorem d_Log_change_19 : decode prog_1_method_7_code 19 = .ok (.aaload, 1) := by decide +kernel
theorem d_Log_change_20 : decode prog_1_method_7_code 20 = .ok (.astore 4, 2) := by decide +kernel
theorem d_Log_change_22 : decode prog_1_method_7_code 22 = .ok (.aload_n 0, 1) := by decide +kernel
theorem d_Log_change_23 : decode prog_1_method_7_code 23 = .ok (.getfield 55, 3) := by decide +kernel
theorem d_Log_change_26 : decode prog_1_method_7_code 26 = .ok (.astore 5, 2) := by decide +kernel
theorem d_Log_change_28 : decode prog_1_method_7_code 28 = .ok (.iload_n 3, 1) := by decide +kernel
theorem d_Log_change_29 : decode prog_1_method_7_code 29 = .ok (.invokestatic 48, 3) := by decide +kernel
theorem d_Log_change_32 : decode prog_1_method_7_code 32 = .ok (.astore 6, 2) := by decide +kernel
theorem d_Log_change_34 : decode prog_1_method_7_code 34 = .ok (.aload_n 0, 1) := by decide +kernel
theorem d_Log_change_35 : decode prog_1_method_7_code 35 = .ok (.aload 4, 2) := by decide +kernel
theorem d_Log_change_37 : decode prog_1_method_7_code 37 = .ok (.aload 6, 2) := by decide +kernel
theorem d_Log_change_39 : decode prog_1_method_7_code 39 = .ok (.invokevirtual 126, 3) := by decide +kernel
theorem d_Log_change_42 : decode prog_1_method_7_code 42 = .ok (.aload 5, 2) := by decide +kernel
theorem d_Log_change_44 : decode prog_1_method_7_code 44 = .ok (.iload_n 2, 1) := by decide +kernel
theorem d_Log_change_45 : decode prog_1_method_7_code 45 = .ok (.aload 6, 2) := by decide +kernel
theorem d_Log_change_47 : decode prog_1_method_7_code 47 = .ok (.invokevirtual 130, 3) := by decide +kernel
theorem d_Log_change_50 : decode prog_1_method_7_code 50 = .ok (.astore 7, 2) := by decide +kernel
theorem d_Log_change_52 : decode prog_1_method_7_code 52 = .ok (.aload_n 0, 1) := by decide +kernel
theorem d_Log_change_53 : decode prog_1_method_7_code 53 = .ok (.aload 5, 2) := by decide +kernel
theorem d_Log_change_55 : decode prog_1_method_7_code 55 = .ok (.aload 6, 2) := by decide +kernel
theorem d_Log_change_57 : decode prog_1_method_7_code 57 = .ok (.aload 7, 2) := by decide +kernel
theorem d_Log_change_59 : decode prog_1_method_7_code 59 = .ok (.getfield 119, 3) := by decide +kernel
theorem d_Log_change_62 : decode prog_1_method_7_code 62 = .ok (.invokevirtual 134, 3) := by decide +kernel
theorem d_Log_change_65 : decode prog_1_method_7_code 65 = .ok (.aload_n 0, 1) := by decide +kernel
theorem d_Log_change_66 : decode prog_1_method_7_code 66 = .ok (.aload 5, 2) := by decide +kernel
theorem d_Log_change_68 : decode prog_1_method_7_code 68 = .ok (.iload_n 2, 1) := by decide +kernel
theorem d_Log_change_69 : decode prog_1_method_7_code 69 = .ok (.invokevirtual 138, 3) := by decide +kernel
theorem d_Log_change_72 : decode prog_1_method_7_code 72 = .ok (.aload 6, 2) := by decide +kernel
theorem d_Log_change_74 : decode prog_1_method_7_code 74 = .ok (.iload_n 2, 1) := by decide +kernel
theorem d_Log_change_75 : decode prog_1_method_7_code 75 = .ok (.invokevirtual 141, 3) := by decide +kernel
theorem d_Log_change_78 : decode prog_1_method_7_code 78 = .ok (.aload_n 0, 1) := by decide +kernel
theorem d_Log_change_79 : decode prog_1_method_7_code 79 = .ok (.aload 7, 2) := by decide +kernel
theorem d_Log_change_81 : decode prog_1_method_7_code 81 = .ok (.putfield 55, 3) := by decide +kernel
theorem d_Log_change_84 : decode prog_1_method_7_code 84 = .ok (.aload 4, 2) := by decide +kernel
theorem d_Log_change_86 : decode prog_1_method_7_code 86 = .ok (.aload 7, 2) := by decide +kernel
theorem d_Log_change_88 : decode prog_1_method_7_code 88 = .ok (.putfield 80, 3) := by decide +kernel
theorem d_Log_change_91 : decode prog_1_method_7_code 91 = .ok (.aload_n 0, 1) := by decide +kernel
theorem d_Log_change_92 : decode prog_1_method_7_code 92 = .ok (.getfield 24, 3) := by decide +kernel
theorem d_Log_change_95 : decode prog_1_method_7_code 95 = .ok (.aload 7, 2) := by decide +kernel
theorem d_Log_change_97 : decode prog_1_method_7_code 97 = .ok (.getfield 119, 3) := by decide +kernel
theorem d_Log_change_100 : decode prog_1_method_7_code 100 = .ok (.aload_n 0, 1) := by decide +kernel
theorem d_Log_change_101 : decode prog_1_method_7_code 101 = .ok (.invokevirtual 145, 3) := by decide +kernel
theorem d_Log_change_104 : decode prog_1_method_7_code 104 = .ok (.invokevirtual 149, 3) := by decide +kernel
theorem d_Log_change_107 : decode prog_1_method_7_code 107 = .ok (.aload_n 0, 1) := by decide +kernel
theorem d_Log_change_108 : decode prog_1_method_7_code 108 = .ok (.getfield 24, 3) := by decide +kernel
theorem d_Log_change_111 : decode prog_1_method_7_code 111 = .ok (.getfield 152, 3) := by decide +kernel
theorem d_Log_change_114 : decode prog_1_method_7_code 114 = .ok (.ireturn, 1) := by decide +kernel
theorem d_Log_up_0 : decode prog_1_method_8_code 0 = .ok (.iload_n 1, 1) := by decide +kernel
theorem d_Log_up_1 : decode prog_1_method_8_code 1 = .ok (.iconst 5, 1) := by decide +kernel
theorem d_Log_up_2 : decode prog_1_method_8_code 2 = .ok (.invokestatic 65, 3) := by decide +kernel
theorem d_Log_up_5 : decode prog_1_method_8_code 5 = .ok (.aload_n 0, 1) := by decide +kernel
theorem d_Log_up_6 : decode prog_1_method_8_code 6 = .ok (.getfield 11, 3) := by decide +kernel
theorem d_Log_up_9 : decode prog_1_method_8_code 9 = .ok (.iload_n 1, 1) := by decide +kernel
theorem d_Log_up_10 : decode prog_1_method_8_code 10 = .ok (.aaload, 1) := by decide +kernel
theorem d_Log_up_11 : decode prog_1_method_8_code 11 = .ok (.iload_n 2, 1) := by decide +kernel
theorem d_Log_up_12 : decode prog_1_method_8_code 12 = .ok (.putfield 154, 3) := by decide +kernel
theorem d_Log_up_15 : decode prog_1_method_8_code 15 = .ok (.aload_n 0, 1) := by decide +kernel
theorem d_Log_up_16 : decode prog_1_method_8_code 16 = .ok (.getfield 11, 3) := by decide +kernel
theorem d_Log_up_19 : decode prog_1_method_8_code 19 = .ok (.iload_n 1, 1) := by decide +kernel
theorem d_Log_up_20 : decode prog_1_method_8_code 20 = .ok (.aaload, 1) := by decide +kernel
theorem d_Log_up_21 : decode prog_1_method_8_code 21 = .ok (.getfield 158, 3) := by decide +kernel
theorem d_Log_up_24 : decode prog_1_method_8_code 24 = .ok (.ireturn, 1) := by decide +kernel
theorem d_Log_lose_0 : decode prog_1_method_9_code 0 = .ok (.aload_n 0, 1) := by decide +kernel
theorem d_Log_lose_1 : decode prog_1_method_9_code 1 = .ok (.getfield 24, 3) := by decide +kernel
theorem d_Log_lose_4 : decode prog_1_method_9_code 4 = .ok (.iconst 1, 1) := by decide +kernel
theorem d_Log_lose_5 : decode prog_1_method_9_code 5 = .ok (.putfield 161, 3) := by decide +kernel
theorem d_Log_lose_8 : decode prog_1_method_9_code 8 = .ok (.aload_n 0, 1) := by decide +kernel
theorem d_Log_lose_9 : decode prog_1_method_9_code 9 = .ok (.getfield 24, 3) := by decide +kernel
theorem d_Log_lose_12 : decode prog_1_method_9_code 12 = .ok (.getfield 152, 3) := by decide +kernel
theorem d_Log_lose_15 : decode prog_1_method_9_code 15 = .ok (.ireturn, 1) := by decide +kernel
theorem d_Log_sync_0 : decode prog_1_method_10_code 0 = .ok (.iload_n 1, 1) := by decide +kernel
theorem d_Log_sync_1 : decode prog_1_method_10_code 1 = .ok (.iconst 3, 1) := by decide +kernel
theorem d_Log_sync_2 : decode prog_1_method_10_code 2 = .ok (.invokestatic 65, 3) := by decide +kernel
theorem d_Log_sync_5 : decode prog_1_method_10_code 5 = .ok (.aload_n 0, 1) := by decide +kernel
theorem d_Log_sync_6 : decode prog_1_method_10_code 6 = .ok (.getfield 17, 3) := by decide +kernel
theorem d_Log_sync_9 : decode prog_1_method_10_code 9 = .ok (.iload_n 1, 1) := by decide +kernel
theorem d_Log_sync_10 : decode prog_1_method_10_code 10 = .ok (.aaload, 1) := by decide +kernel
theorem d_Log_sync_11 : decode prog_1_method_10_code 11 = .ok (.astore_n 2, 1) := by decide +kernel
theorem d_Log_sync_12 : decode prog_1_method_10_code 12 = .ok (.aload_n 0, 1) := by decide +kernel
theorem d_Log_sync_13 : decode prog_1_method_10_code 13 = .ok (.aload_n 2, 1) := by decide +kernel
theorem d_Log_sync_14 : decode prog_1_method_10_code 14 = .ok (.invokevirtual 164, 3) := by decide +kernel
theorem d_Log_sync_17 : decode prog_1_method_10_code 17 = .ok (.aload_n 0, 1) := by decide +kernel
theorem d_Log_sync_18 : decode prog_1_method_10_code 18 = .ok (.aload_n 2, 1) := by decide +kernel
theorem d_Log_sync_19 : decode prog_1_method_10_code 19 = .ok (.aload_n 0, 1) := by decide +kernel
theorem d_Log_sync_20 : decode prog_1_method_10_code 20 = .ok (.getfield 24, 3) := by decide +kernel
theorem d_Log_sync_23 : decode prog_1_method_10_code 23 = .ok (.getfield 152, 3) := by decide +kernel
theorem d_Log_sync_26 : decode prog_1_method_10_code 26 = .ok (.invokevirtual 168, 3) := by decide +kernel
theorem d_Log_sync_29 : decode prog_1_method_10_code 29 = .ok (.pop, 1) := by decide +kernel
theorem d_Log_sync_30 : decode prog_1_method_10_code 30 = .ok (.aload_n 2, 1) := by decide +kernel
theorem d_Log_sync_31 : decode prog_1_method_10_code 31 = .ok (.getfield 172, 3) := by decide +kernel
theorem d_Log_sync_34 : decode prog_1_method_10_code 34 = .ok (.ireturn, 1) := by decide +kernel
theorem d_Log_get_0 : decode prog_1_method_11_code 0 = .ok (.iload_n 1, 1) := by decide +kernel
theorem d_Log_get_1 : decode prog_1_method_11_code 1 = .ok (.iconst 3, 1) := by decide +kernel
theorem d_Log_get_2 : decode prog_1_method_11_code 2 = .ok (.invokestatic 65, 3) := by decide +kernel
theorem d_Log_get_5 : decode prog_1_method_11_code 5 = .ok (.iload_n 2, 1) := by decide +kernel
theorem d_Log_get_6 : decode prog_1_method_11_code 6 = .ok (.iconst 3, 1) := by decide +kernel
theorem d_Log_get_7 : decode prog_1_method_11_code 7 = .ok (.invokestatic 65, 3) := by decide +kernel
theorem d_Log_get_10 : decode prog_1_method_11_code 10 = .ok (.aload_n 0, 1) := by decide +kernel
theorem d_Log_get_11 : decode prog_1_method_11_code 11 = .ok (.getfield 17, 3) := by decide +kernel
theorem d_Log_get_14 : decode prog_1_method_11_code 14 = .ok (.iload_n 1, 1) := by decide +kernel
theorem d_Log_get_15 : decode prog_1_method_11_code 15 = .ok (.aaload, 1) := by decide +kernel
theorem d_Log_get_16 : decode prog_1_method_11_code 16 = .ok (.getfield 175, 3) := by decide +kernel
theorem d_Log_get_19 : decode prog_1_method_11_code 19 = .ok (.iload_n 2, 1) := by decide +kernel
theorem d_Log_get_20 : decode prog_1_method_11_code 20 = .ok (.iaload, 1) := by decide +kernel
theorem d_Log_get_21 : decode prog_1_method_11_code 21 = .ok (.ireturn, 1) := by decide +kernel
theorem d_Log_begin_0 : decode prog_1_method_12_code 0 = .ok (.iload_n 1, 1) := by decide +kernel
theorem d_Log_begin_1 : decode prog_1_method_12_code 1 = .ok (.iconst 3, 1) := by decide +kernel
theorem d_Log_begin_2 : decode prog_1_method_12_code 2 = .ok (.invokestatic 65, 3) := by decide +kernel
theorem d_Log_begin_5 : decode prog_1_method_12_code 5 = .ok (.aload_n 0, 1) := by decide +kernel
theorem d_Log_begin_6 : decode prog_1_method_12_code 6 = .ok (.getfield 17, 3) := by decide +kernel
theorem d_Log_begin_9 : decode prog_1_method_12_code 9 = .ok (.iload_n 1, 1) := by decide +kernel
theorem d_Log_begin_10 : decode prog_1_method_12_code 10 = .ok (.aaload, 1) := by decide +kernel
theorem d_Log_begin_11 : decode prog_1_method_12_code 11 = .ok (.astore_n 2, 1) := by decide +kernel
theorem d_Log_begin_12 : decode prog_1_method_12_code 12 = .ok (.aload_n 2, 1) := by decide +kernel
theorem d_Log_begin_13 : decode prog_1_method_12_code 13 = .ok (.getfield 179, 3) := by decide +kernel
theorem d_Log_begin_16 : decode prog_1_method_12_code 16 = .ok (.ifCond .eq 13, 3) := by decide +kernel
theorem d_Log_begin_19 : decode prog_1_method_12_code 19 = .ok (.new 182, 3) := by decide +kernel
theorem d_Log_begin_22 : decode prog_1_method_12_code 22 = .ok (.dup, 1) := by decide +kernel
theorem d_Log_begin_23 : decode prog_1_method_12_code 23 = .ok (.ldc 184, 2) := by decide +kernel
theorem d_Log_begin_25 : decode prog_1_method_12_code 25 = .ok (.invokespecial 186, 3) := by decide +kernel
theorem d_Log_begin_28 : decode prog_1_method_12_code 28 = .ok (.athrow, 1) := by decide +kernel
theorem d_Log_begin_29 : decode prog_1_method_12_code 29 = .ok (.aload_n 2, 1) := by decide +kernel
theorem d_Log_begin_30 : decode prog_1_method_12_code 30 = .ok (.iconst 1, 1) := by decide +kernel
theorem d_Log_begin_31 : decode prog_1_method_12_code 31 = .ok (.putfield 179, 3) := by decide +kernel
theorem d_Log_begin_34 : decode prog_1_method_12_code 34 = .ok (.aload_n 2, 1) := by decide +kernel
theorem d_Log_begin_35 : decode prog_1_method_12_code 35 = .ok (.getfield 187, 3) := by decide +kernel
theorem d_Log_begin_38 : decode prog_1_method_12_code 38 = .ok (.invokevirtual 191, 3) := by decide +kernel
theorem d_Log_begin_41 : decode prog_1_method_12_code 41 = .ok (.aload_n 2, 1) := by decide +kernel
theorem d_Log_begin_42 : decode prog_1_method_12_code 42 = .ok (.getfield 172, 3) := by decide +kernel
theorem d_Log_begin_45 : decode prog_1_method_12_code 45 = .ok (.ireturn, 1) := by decide +kernel
theorem d_Log_see_0 : decode prog_1_method_13_code 0 = .ok (.iload_n 1, 1) := by decide +kernel
theorem d_Log_see_1 : decode prog_1_method_13_code 1 = .ok (.iconst 3, 1) := by decide +kernel
theorem d_Log_see_2 : decode prog_1_method_13_code 2 = .ok (.invokestatic 65, 3) := by decide +kernel
theorem d_Log_see_5 : decode prog_1_method_13_code 5 = .ok (.iload_n 2, 1) := by decide +kernel
theorem d_Log_see_6 : decode prog_1_method_13_code 6 = .ok (.iconst 3, 1) := by decide +kernel
theorem d_Log_see_7 : decode prog_1_method_13_code 7 = .ok (.invokestatic 65, 3) := by decide +kernel
theorem d_Log_see_10 : decode prog_1_method_13_code 10 = .ok (.aload_n 0, 1) := by decide +kernel
theorem d_Log_see_11 : decode prog_1_method_13_code 11 = .ok (.getfield 17, 3) := by decide +kernel
theorem d_Log_see_14 : decode prog_1_method_13_code 14 = .ok (.iload_n 1, 1) := by decide +kernel
theorem d_Log_see_15 : decode prog_1_method_13_code 15 = .ok (.aaload, 1) := by decide +kernel
theorem d_Log_see_16 : decode prog_1_method_13_code 16 = .ok (.astore_n 3, 1) := by decide +kernel
theorem d_Log_see_17 : decode prog_1_method_13_code 17 = .ok (.aload_n 3, 1) := by decide +kernel
theorem d_Log_see_18 : decode prog_1_method_13_code 18 = .ok (.invokestatic 194, 3) := by decide +kernel
theorem d_Log_see_21 : decode prog_1_method_13_code 21 = .ok (.aload_n 3, 1) := by decide +kernel
theorem d_Log_see_22 : decode prog_1_method_13_code 22 = .ok (.getfield 187, 3) := by decide +kernel
theorem d_Log_see_25 : decode prog_1_method_13_code 25 = .ok (.astore 4, 2) := by decide +kernel
theorem d_Log_see_27 : decode prog_1_method_13_code 27 = .ok (.aload 4, 2) := by decide +kernel
theorem d_Log_see_29 : decode prog_1_method_13_code 29 = .ok (.getfield 197, 3) := by decide +kernel
theorem d_Log_see_32 : decode prog_1_method_13_code 32 = .ok (.iload_n 2, 1) := by decide +kernel
theorem d_Log_see_33 : decode prog_1_method_13_code 33 = .ok (.baload, 1) := by decide +kernel
theorem d_Log_see_34 : decode prog_1_method_13_code 34 = .ok (.ifCond .eq 11, 3) := by decide +kernel
theorem d_Log_see_37 : decode prog_1_method_13_code 37 = .ok (.aload 4, 2) := by decide +kernel
theorem d_Log_see_39 : decode prog_1_method_13_code 39 = .ok (.getfield 201, 3) := by decide +kernel
theorem d_Log_see_42 : decode prog_1_method_13_code 42 = .ok (.iload_n 2, 1) := by decide +kernel
theorem d_Log_see_43 : decode prog_1_method_13_code 43 = .ok (.iaload, 1) := by decide +kernel
theorem d_Log_see_44 : decode prog_1_method_13_code 44 = .ok (.ireturn, 1) := by decide +kernel
theorem d_Log_see_45 : decode prog_1_method_13_code 45 = .ok (.aload 4, 2) := by decide +kernel
theorem d_Log_see_47 : decode prog_1_method_13_code 47 = .ok (.iload_n 2, 1) := by decide +kernel
theorem d_Log_see_48 : decode prog_1_method_13_code 48 = .ok (.aload_n 3, 1) := by decide +kernel
theorem d_Log_see_49 : decode prog_1_method_13_code 49 = .ok (.getfield 202, 3) := by decide +kernel
theorem d_Log_see_52 : decode prog_1_method_13_code 52 = .ok (.iload_n 2, 1) := by decide +kernel
theorem d_Log_see_53 : decode prog_1_method_13_code 53 = .ok (.iaload, 1) := by decide +kernel
theorem d_Log_see_54 : decode prog_1_method_13_code 54 = .ok (.invokevirtual 205, 3) := by decide +kernel
theorem d_Log_see_57 : decode prog_1_method_13_code 57 = .ok (.aload_n 3, 1) := by decide +kernel
theorem d_Log_see_58 : decode prog_1_method_13_code 58 = .ok (.getfield 175, 3) := by decide +kernel
theorem d_Log_see_61 : decode prog_1_method_13_code 61 = .ok (.iload_n 2, 1) := by decide +kernel
theorem d_Log_see_62 : decode prog_1_method_13_code 62 = .ok (.iaload, 1) := by decide +kernel
theorem d_Log_see_63 : decode prog_1_method_13_code 63 = .ok (.ireturn, 1) := by decide +kernel
theorem d_Log_put_0 : decode prog_1_method_14_code 0 = .ok (.iload_n 1, 1) := by decide +kernel
theorem d_Log_put_1 : decode prog_1_method_14_code 1 = .ok (.iconst 3, 1) := by decide +kernel
theorem d_Log_put_2 : decode prog_1_method_14_code 2 = .ok (.invokestatic 65, 3) := by decide +kernel
theorem d_Log_put_5 : decode prog_1_method_14_code 5 = .ok (.iload_n 2, 1) := by decide +kernel
theorem d_Log_put_6 : decode prog_1_method_14_code 6 = .ok (.iconst 3, 1) := by decide +kernel
theorem d_Log_put_7 : decode prog_1_method_14_code 7 = .ok (.invokestatic 65, 3) := by decide +kernel
theorem d_Log_put_10 : decode prog_1_method_14_code 10 = .ok (.aload_n 0, 1) := by decide +kernel
theorem d_Log_put_11 : decode prog_1_method_14_code 11 = .ok (.getfield 17, 3) := by decide +kernel
theorem d_Log_put_14 : decode prog_1_method_14_code 14 = .ok (.iload_n 1, 1) := by decide +kernel
theorem d_Log_put_15 : decode prog_1_method_14_code 15 = .ok (.aaload, 1) := by decide +kernel
theorem d_Log_put_16 : decode prog_1_method_14_code 16 = .ok (.astore 4, 2) := by decide +kernel
theorem d_Log_put_18 : decode prog_1_method_14_code 18 = .ok (.aload 4, 2) := by decide +kernel
theorem d_Log_put_20 : decode prog_1_method_14_code 20 = .ok (.invokestatic 194, 3) := by decide +kernel
theorem d_Log_put_23 : decode prog_1_method_14_code 23 = .ok (.aload 4, 2) := by decide +kernel
theorem d_Log_put_25 : decode prog_1_method_14_code 25 = .ok (.getfield 187, 3) := by decide +kernel
theorem d_Log_put_28 : decode prog_1_method_14_code 28 = .ok (.iload_n 2, 1) := by decide +kernel
theorem d_Log_put_29 : decode prog_1_method_14_code 29 = .ok (.iload_n 3, 1) := by decide +kernel
theorem d_Log_put_30 : decode prog_1_method_14_code 30 = .ok (.invokevirtual 73, 3) := by decide +kernel
theorem d_Log_put_33 : decode prog_1_method_14_code 33 = .ok (.aload 4, 2) := by decide +kernel
theorem d_Log_put_35 : decode prog_1_method_14_code 35 = .ok (.getfield 187, 3) := by decide +kernel
theorem d_Log_put_38 : decode prog_1_method_14_code 38 = .ok (.invokevirtual 208, 3) := by decide +kernel
theorem d_Log_put_41 : decode prog_1_method_14_code 41 = .ok (.ireturn, 1) := by decide +kernel
theorem d_Log_commit_0 : decode prog_1_method_15_code 0 = .ok (.iload_n 1, 1) := by decide +kernel
theorem d_Log_commit_1 : decode prog_1_method_15_code 1 = .ok (.iconst 3, 1) := by decide +kernel
theorem d_Log_commit_2 : decode prog_1_method_15_code 2 = .ok (.invokestatic 65, 3) := by decide +kernel
theorem d_Log_commit_5 : decode prog_1_method_15_code 5 = .ok (.aload_n 0, 1) := by decide +kernel
theorem d_Log_commit_6 : decode prog_1_method_15_code 6 = .ok (.getfield 17, 3) := by decide +kernel
theorem d_Log_commit_9 : decode prog_1_method_15_code 9 = .ok (.iload_n 1, 1) := by decide +kernel
theorem d_Log_commit_10 : decode prog_1_method_15_code 10 = .ok (.aaload, 1) := by decide +kernel
theorem d_Log_commit_11 : decode prog_1_method_15_code 11 = .ok (.astore_n 2, 1) := by decide +kernel
theorem d_Log_commit_12 : decode prog_1_method_15_code 12 = .ok (.aload_n 2, 1) := by decide +kernel
theorem d_Log_commit_13 : decode prog_1_method_15_code 13 = .ok (.invokestatic 194, 3) := by decide +kernel
theorem d_Log_commit_16 : decode prog_1_method_15_code 16 = .ok (.aload_n 2, 1) := by decide +kernel
theorem d_Log_commit_17 : decode prog_1_method_15_code 17 = .ok (.getfield 187, 3) := by decide +kernel
theorem d_Log_commit_20 : decode prog_1_method_15_code 20 = .ok (.invokevirtual 208, 3) := by decide +kernel
theorem d_Log_commit_23 : decode prog_1_method_15_code 23 = .ok (.ifCond .ne 14, 3) := by decide +kernel
theorem d_Log_commit_26 : decode prog_1_method_15_code 26 = .ok (.aload_n 2, 1) := by decide +kernel
theorem d_Log_commit_27 : decode prog_1_method_15_code 27 = .ok (.aload_n 2, 1) := by decide +kernel
theorem d_Log_commit_28 : decode prog_1_method_15_code 28 = .ok (.getfield 187, 3) := by decide +kernel
theorem d_Log_commit_31 : decode prog_1_method_15_code 31 = .ok (.invokevirtual 211, 3) := by decide +kernel
theorem d_Log_commit_34 : decode prog_1_method_15_code 34 = .ok (.goto 8, 3) := by decide +kernel
theorem d_Log_commit_37 : decode prog_1_method_15_code 37 = .ok (.aload_n 0, 1) := by decide +kernel
theorem d_Log_commit_38 : decode prog_1_method_15_code 38 = .ok (.aload_n 2, 1) := by decide +kernel
theorem d_Log_commit_39 : decode prog_1_method_15_code 39 = .ok (.invokevirtual 215, 3) := by decide +kernel
theorem d_Log_commit_42 : decode prog_1_method_15_code 42 = .ok (.istore_n 3, 1) := by decide +kernel
theorem d_Log_commit_43 : decode prog_1_method_15_code 43 = .ok (.aload_n 2, 1) := by decide +kernel
theorem d_Log_commit_44 : decode prog_1_method_15_code 44 = .ok (.iconst 0, 1) := by decide +kernel
theorem d_Log_commit_45 : decode prog_1_method_15_code 45 = .ok (.putfield 179, 3) := by decide +kernel
theorem d_Log_commit_48 : decode prog_1_method_15_code 48 = .ok (.iload_n 3, 1) := by decide +kernel
theorem d_Log_commit_49 : decode prog_1_method_15_code 49 = .ok (.ireturn, 1) := by decide +kernel
theorem d_Log_drop_0 : decode prog_1_method_16_code 0 = .ok (.iload_n 1, 1) := by decide +kernel
theorem d_Log_drop_1 : decode prog_1_method_16_code 1 = .ok (.iconst 3, 1) := by decide +kernel
theorem d_Log_drop_2 : decode prog_1_method_16_code 2 = .ok (.invokestatic 65, 3) := by decide +kernel
theorem d_Log_drop_5 : decode prog_1_method_16_code 5 = .ok (.aload_n 0, 1) := by decide +kernel
theorem d_Log_drop_6 : decode prog_1_method_16_code 6 = .ok (.getfield 17, 3) := by decide +kernel
theorem d_Log_drop_9 : decode prog_1_method_16_code 9 = .ok (.iload_n 1, 1) := by decide +kernel
theorem d_Log_drop_10 : decode prog_1_method_16_code 10 = .ok (.aaload, 1) := by decide +kernel
theorem d_Log_drop_11 : decode prog_1_method_16_code 11 = .ok (.astore_n 2, 1) := by decide +kernel
theorem d_Log_drop_12 : decode prog_1_method_16_code 12 = .ok (.aload_n 2, 1) := by decide +kernel
theorem d_Log_drop_13 : decode prog_1_method_16_code 13 = .ok (.getfield 179, 3) := by decide +kernel
theorem d_Log_drop_16 : decode prog_1_method_16_code 16 = .ok (.ifCond .ne 5, 3) := by decide +kernel
theorem d_Log_drop_19 : decode prog_1_method_16_code 19 = .ok (.iconst (-1), 1) := by decide +kernel
theorem d_Log_drop_20 : decode prog_1_method_16_code 20 = .ok (.ireturn, 1) := by decide +kernel
theorem d_Log_drop_21 : decode prog_1_method_16_code 21 = .ok (.aload_n 2, 1) := by decide +kernel
theorem d_Log_drop_22 : decode prog_1_method_16_code 22 = .ok (.iconst 0, 1) := by decide +kernel
theorem d_Log_drop_23 : decode prog_1_method_16_code 23 = .ok (.putfield 179, 3) := by decide +kernel
theorem d_Log_drop_26 : decode prog_1_method_16_code 26 = .ok (.aload_n 2, 1) := by decide +kernel
theorem d_Log_drop_27 : decode prog_1_method_16_code 27 = .ok (.getfield 187, 3) := by decide +kernel
theorem d_Log_drop_30 : decode prog_1_method_16_code 30 = .ok (.invokevirtual 208, 3) := by decide +kernel
theorem d_Log_drop_33 : decode prog_1_method_16_code 33 = .ok (.ireturn, 1) := by decide +kernel
theorem d_Log_look_0 : decode prog_1_method_17_code 0 = .ok (.iload_n 1, 1) := by decide +kernel
theorem d_Log_look_1 : decode prog_1_method_17_code 1 = .ok (.iconst 5, 1) := by decide +kernel
theorem d_Log_look_2 : decode prog_1_method_17_code 2 = .ok (.invokestatic 65, 3) := by decide +kernel
theorem d_Log_look_5 : decode prog_1_method_17_code 5 = .ok (.iload_n 2, 1) := by decide +kernel
theorem d_Log_look_6 : decode prog_1_method_17_code 6 = .ok (.bipush 59, 2) := by decide +kernel
theorem d_Log_look_8 : decode prog_1_method_17_code 8 = .ok (.invokestatic 65, 3) := by decide +kernel
theorem d_Log_look_11 : decode prog_1_method_17_code 11 = .ok (.aload_n 0, 1) := by decide +kernel
theorem d_Log_look_12 : decode prog_1_method_17_code 12 = .ok (.getfield 11, 3) := by decide +kernel
theorem d_Log_look_15 : decode prog_1_method_17_code 15 = .ok (.iload_n 1, 1) := by decide +kernel
theorem d_Log_look_16 : decode prog_1_method_17_code 16 = .ok (.aaload, 1) := by decide +kernel
theorem d_Log_look_17 : decode prog_1_method_17_code 17 = .ok (.getfield 111, 3) := by decide +kernel
theorem d_Log_look_20 : decode prog_1_method_17_code 20 = .ok (.iload_n 2, 1) := by decide +kernel
theorem d_Log_look_21 : decode prog_1_method_17_code 21 = .ok (.aaload, 1) := by decide +kernel
theorem d_Log_look_22 : decode prog_1_method_17_code 22 = .ok (.getfield 90, 3) := by decide +kernel
theorem d_Log_look_25 : decode prog_1_method_17_code 25 = .ok (.ireturn, 1) := by decide +kernel
theorem d_Log_client_0 : decode prog_1_method_18_code 0 = .ok (.iload_n 1, 1) := by decide +kernel
theorem d_Log_client_1 : decode prog_1_method_18_code 1 = .ok (.iconst 3, 1) := by decide +kernel
theorem d_Log_client_2 : decode prog_1_method_18_code 2 = .ok (.invokestatic 65, 3) := by decide +kernel
theorem d_Log_client_5 : decode prog_1_method_18_code 5 = .ok (.iload_n 2, 1) := by decide +kernel
theorem d_Log_client_6 : decode prog_1_method_18_code 6 = .ok (.bipush 8, 2) := by decide +kernel
theorem d_Log_client_8 : decode prog_1_method_18_code 8 = .ok (.invokestatic 65, 3) := by decide +kernel
theorem d_Log_client_11 : decode prog_1_method_18_code 11 = .ok (.aload_n 0, 1) := by decide +kernel
theorem d_Log_client_12 : decode prog_1_method_18_code 12 = .ok (.getfield 17, 3) := by decide +kernel
theorem d_Log_client_15 : decode prog_1_method_18_code 15 = .ok (.iload_n 1, 1) := by decide +kernel
theorem d_Log_client_16 : decode prog_1_method_18_code 16 = .ok (.aaload, 1) := by decide +kernel
theorem d_Log_client_17 : decode prog_1_method_18_code 17 = .ok (.astore_n 3, 1) := by decide +kernel
theorem d_Log_client_18 : decode prog_1_method_18_code 18 = .ok (.iload_n 2, 1) := by decide +kernel
theorem d_Log_client_19 : decode prog_1_method_18_code 19 = .ok (.tableswitch 90 0 8 #[49, 57, 90, 90, 90, 90, 62, 62, 77], 49) := by decide +kernel
theorem d_Log_client_68 : decode prog_1_method_18_code 68 = .ok (.aload_n 3, 1) := by decide +kernel
theorem d_Log_client_69 : decode prog_1_method_18_code 69 = .ok (.getfield 80, 3) := by decide +kernel
theorem d_Log_client_72 : decode prog_1_method_18_code 72 = .ok (.getfield 119, 3) := by decide +kernel
theorem d_Log_client_75 : decode prog_1_method_18_code 75 = .ok (.ireturn, 1) := by decide +kernel
theorem d_Log_client_76 : decode prog_1_method_18_code 76 = .ok (.aload_n 3, 1) := by decide +kernel
theorem d_Log_client_77 : decode prog_1_method_18_code 77 = .ok (.getfield 172, 3) := by decide +kernel
theorem d_Log_client_80 : decode prog_1_method_18_code 80 = .ok (.ireturn, 1) := by decide +kernel
theorem d_Log_client_81 : decode prog_1_method_18_code 81 = .ok (.aload_n 3, 1) := by decide +kernel
theorem d_Log_client_82 : decode prog_1_method_18_code 82 = .ok (.getfield 80, 3) := by decide +kernel
theorem d_Log_client_85 : decode prog_1_method_18_code 85 = .ok (.iload_n 2, 1) := by decide +kernel
theorem d_Log_client_86 : decode prog_1_method_18_code 86 = .ok (.bipush 6, 2) := by decide +kernel
theorem d_Log_client_88 : decode prog_1_method_18_code 88 = .ok (.isub, 1) := by decide +kernel
theorem d_Log_client_89 : decode prog_1_method_18_code 89 = .ok (.invokevirtual 138, 3) := by decide +kernel
theorem d_Log_client_92 : decode prog_1_method_18_code 92 = .ok (.invokestatic 219, 3) := by decide +kernel
theorem d_Log_client_95 : decode prog_1_method_18_code 95 = .ok (.ireturn, 1) := by decide +kernel
theorem d_Log_client_96 : decode prog_1_method_18_code 96 = .ok (.aload_n 3, 1) := by decide +kernel
theorem d_Log_client_97 : decode prog_1_method_18_code 97 = .ok (.getfield 179, 3) := by decide +kernel
theorem d_Log_client_100 : decode prog_1_method_18_code 100 = .ok (.ifCond .eq 7, 3) := by decide +kernel
theorem d_Log_client_103 : decode prog_1_method_18_code 103 = .ok (.iconst 1, 1) := by decide +kernel
theorem d_Log_client_104 : decode prog_1_method_18_code 104 = .ok (.goto 4, 3) := by decide +kernel
theorem d_Log_client_107 : decode prog_1_method_18_code 107 = .ok (.iconst 0, 1) := by decide +kernel
theorem d_Log_client_108 : decode prog_1_method_18_code 108 = .ok (.ireturn, 1) := by decide +kernel
theorem d_Log_client_109 : decode prog_1_method_18_code 109 = .ok (.aload_n 3, 1) := by decide +kernel
theorem d_Log_client_110 : decode prog_1_method_18_code 110 = .ok (.getfield 202, 3) := by decide +kernel
theorem d_Log_client_113 : decode prog_1_method_18_code 113 = .ok (.iload_n 2, 1) := by decide +kernel
theorem d_Log_client_114 : decode prog_1_method_18_code 114 = .ok (.iconst 2, 1) := by decide +kernel
theorem d_Log_client_115 : decode prog_1_method_18_code 115 = .ok (.isub, 1) := by decide +kernel
theorem d_Log_client_116 : decode prog_1_method_18_code 116 = .ok (.iaload, 1) := by decide +kernel
theorem d_Log_client_117 : decode prog_1_method_18_code 117 = .ok (.ireturn, 1) := by decide +kernel
theorem d_Log_count_0 : decode prog_1_method_19_code 0 = .ok (.iload_n 1, 1) := by decide +kernel
theorem d_Log_count_1 : decode prog_1_method_19_code 1 = .ok (.bipush 9, 2) := by decide +kernel
theorem d_Log_count_3 : decode prog_1_method_19_code 3 = .ok (.invokestatic 65, 3) := by decide +kernel
theorem d_Log_count_6 : decode prog_1_method_19_code 6 = .ok (.iload_n 1, 1) := by decide +kernel
theorem d_Log_count_7 : decode prog_1_method_19_code 7 = .ok (.tableswitch 69 0 3 #[29, 37, 45, 53], 29) := by decide +kernel
theorem d_Log_count_36 : decode prog_1_method_19_code 36 = .ok (.aload_n 0, 1) := by decide +kernel
theorem d_Log_count_37 : decode prog_1_method_19_code 37 = .ok (.getfield 55, 3) := by decide +kernel
theorem d_Log_count_40 : decode prog_1_method_19_code 40 = .ok (.getfield 119, 3) := by decide +kernel
theorem d_Log_count_43 : decode prog_1_method_19_code 43 = .ok (.ireturn, 1) := by decide +kernel
theorem d_Log_count_44 : decode prog_1_method_19_code 44 = .ok (.aload_n 0, 1) := by decide +kernel
theorem d_Log_count_45 : decode prog_1_method_19_code 45 = .ok (.getfield 24, 3) := by decide +kernel
theorem d_Log_count_48 : decode prog_1_method_19_code 48 = .ok (.getfield 223, 3) := by decide +kernel
theorem d_Log_count_51 : decode prog_1_method_19_code 51 = .ok (.ireturn, 1) := by decide +kernel
theorem d_Log_count_52 : decode prog_1_method_19_code 52 = .ok (.aload_n 0, 1) := by decide +kernel
theorem d_Log_count_53 : decode prog_1_method_19_code 53 = .ok (.getfield 24, 3) := by decide +kernel
theorem d_Log_count_56 : decode prog_1_method_19_code 56 = .ok (.getfield 152, 3) := by decide +kernel
theorem d_Log_count_59 : decode prog_1_method_19_code 59 = .ok (.ireturn, 1) := by decide +kernel
theorem d_Log_count_60 : decode prog_1_method_19_code 60 = .ok (.aload_n 0, 1) := by decide +kernel
theorem d_Log_count_61 : decode prog_1_method_19_code 61 = .ok (.getfield 24, 3) := by decide +kernel
theorem d_Log_count_64 : decode prog_1_method_19_code 64 = .ok (.getfield 161, 3) := by decide +kernel
theorem d_Log_count_67 : decode prog_1_method_19_code 67 = .ok (.ifCond .eq 7, 3) := by decide +kernel
theorem d_Log_count_70 : decode prog_1_method_19_code 70 = .ok (.iconst 1, 1) := by decide +kernel
theorem d_Log_count_71 : decode prog_1_method_19_code 71 = .ok (.goto 4, 3) := by decide +kernel
theorem d_Log_count_74 : decode prog_1_method_19_code 74 = .ok (.iconst 0, 1) := by decide +kernel
theorem d_Log_count_75 : decode prog_1_method_19_code 75 = .ok (.ireturn, 1) := by decide +kernel
theorem d_Log_count_76 : decode prog_1_method_19_code 76 = .ok (.aload_n 0, 1) := by decide +kernel
theorem d_Log_count_77 : decode prog_1_method_19_code 77 = .ok (.getfield 11, 3) := by decide +kernel
theorem d_Log_count_80 : decode prog_1_method_19_code 80 = .ok (.iload_n 1, 1) := by decide +kernel
theorem d_Log_count_81 : decode prog_1_method_19_code 81 = .ok (.iconst 4, 1) := by decide +kernel
theorem d_Log_count_82 : decode prog_1_method_19_code 82 = .ok (.isub, 1) := by decide +kernel
theorem d_Log_count_83 : decode prog_1_method_19_code 83 = .ok (.aaload, 1) := by decide +kernel
theorem d_Log_count_84 : decode prog_1_method_19_code 84 = .ok (.getfield 158, 3) := by decide +kernel
theorem d_Log_count_87 : decode prog_1_method_19_code 87 = .ok (.ireturn, 1) := by decide +kernel
theorem d_Log_requireWithin_0 : decode prog_1_method_20_code 0 = .ok (.iload_n 0, 1) := by decide +kernel
theorem d_Log_requireWithin_1 : decode prog_1_method_20_code 1 = .ok (.ifCond .lt 8, 3) := by decide +kernel
theorem d_Log_requireWithin_4 : decode prog_1_method_20_code 4 = .ok (.iload_n 0, 1) := by decide +kernel
theorem d_Log_requireWithin_5 : decode prog_1_method_20_code 5 = .ok (.iload_n 1, 1) := by decide +kernel
theorem d_Log_requireWithin_6 : decode prog_1_method_20_code 6 = .ok (.if_icmp .le 13, 3) := by decide +kernel
theorem d_Log_requireWithin_9 : decode prog_1_method_20_code 9 = .ok (.new 224, 3) := by decide +kernel
theorem d_Log_requireWithin_12 : decode prog_1_method_20_code 12 = .ok (.dup, 1) := by decide +kernel
theorem d_Log_requireWithin_13 : decode prog_1_method_20_code 13 = .ok (.ldc 226, 2) := by decide +kernel
theorem d_Log_requireWithin_15 : decode prog_1_method_20_code 15 = .ok (.invokespecial 228, 3) := by decide +kernel
theorem d_Log_requireWithin_18 : decode prog_1_method_20_code 18 = .ok (.athrow, 1) := by decide +kernel
theorem d_Log_requireWithin_19 : decode prog_1_method_20_code 19 = .ok (.return_, 1) := by decide +kernel
theorem d_Log_requireRow_0 : decode prog_1_method_21_code 0 = .ok (.iload_n 0, 1) := by decide +kernel
theorem d_Log_requireRow_1 : decode prog_1_method_21_code 1 = .ok (.invokestatic 229, 3) := by decide +kernel
theorem d_Log_requireRow_4 : decode prog_1_method_21_code 4 = .ok (.ifCond .ne 13, 3) := by decide +kernel
theorem d_Log_requireRow_7 : decode prog_1_method_21_code 7 = .ok (.new 224, 3) := by decide +kernel
theorem d_Log_requireRow_10 : decode prog_1_method_21_code 10 = .ok (.dup, 1) := by decide +kernel
theorem d_Log_requireRow_11 : decode prog_1_method_21_code 11 = .ok (.ldc 232, 2) := by decide +kernel
theorem d_Log_requireRow_13 : decode prog_1_method_21_code 13 = .ok (.invokespecial 228, 3) := by decide +kernel
theorem d_Log_requireRow_16 : decode prog_1_method_21_code 16 = .ok (.athrow, 1) := by decide +kernel
theorem d_Log_requireRow_17 : decode prog_1_method_21_code 17 = .ok (.return_, 1) := by decide +kernel
theorem d_Log_isRow_0 : decode prog_1_method_22_code 0 = .ok (.iload_n 0, 1) := by decide +kernel
theorem d_Log_isRow_1 : decode prog_1_method_22_code 1 = .ok (.iconst 1, 1) := by decide +kernel
theorem d_Log_isRow_2 : decode prog_1_method_22_code 2 = .ok (.if_icmp .lt 10, 3) := by decide +kernel
theorem d_Log_isRow_5 : decode prog_1_method_22_code 5 = .ok (.iload_n 0, 1) := by decide +kernel
theorem d_Log_isRow_6 : decode prog_1_method_22_code 6 = .ok (.sipush 666, 3) := by decide +kernel
theorem d_Log_isRow_9 : decode prog_1_method_22_code 9 = .ok (.if_icmp .le 5, 3) := by decide +kernel
theorem d_Log_isRow_12 : decode prog_1_method_22_code 12 = .ok (.iconst 0, 1) := by decide +kernel
theorem d_Log_isRow_13 : decode prog_1_method_22_code 13 = .ok (.ireturn, 1) := by decide +kernel
theorem d_Log_isRow_14 : decode prog_1_method_22_code 14 = .ok (.bipush 6, 2) := by decide +kernel
theorem d_Log_isRow_16 : decode prog_1_method_22_code 16 = .ok (.newarray .boolean, 2) := by decide +kernel
theorem d_Log_isRow_18 : decode prog_1_method_22_code 18 = .ok (.astore_n 1, 1) := by decide +kernel
theorem d_Log_isRow_19 : decode prog_1_method_22_code 19 = .ok (.iload_n 0, 1) := by decide +kernel
theorem d_Log_isRow_20 : decode prog_1_method_22_code 20 = .ok (.istore_n 2, 1) := by decide +kernel
theorem d_Log_isRow_21 : decode prog_1_method_22_code 21 = .ok (.iload_n 2, 1) := by decide +kernel
theorem d_Log_isRow_22 : decode prog_1_method_22_code 22 = .ok (.ifCond .le 40, 3) := by decide +kernel
theorem d_Log_isRow_25 : decode prog_1_method_22_code 25 = .ok (.iload_n 2, 1) := by decide +kernel
theorem d_Log_isRow_26 : decode prog_1_method_22_code 26 = .ok (.bipush 10, 2) := by decide +kernel
theorem d_Log_isRow_28 : decode prog_1_method_22_code 28 = .ok (.irem, 1) := by decide +kernel
theorem d_Log_isRow_29 : decode prog_1_method_22_code 29 = .ok (.iconst 1, 1) := by decide +kernel
theorem d_Log_isRow_30 : decode prog_1_method_22_code 30 = .ok (.isub, 1) := by decide +kernel
theorem d_Log_isRow_31 : decode prog_1_method_22_code 31 = .ok (.istore_n 3, 1) := by decide +kernel
theorem d_Log_isRow_32 : decode prog_1_method_22_code 32 = .ok (.iload_n 3, 1) := by decide +kernel
theorem d_Log_isRow_33 : decode prog_1_method_22_code 33 = .ok (.ifCond .lt 15, 3) := by decide +kernel
theorem d_Log_isRow_36 : decode prog_1_method_22_code 36 = .ok (.iload_n 3, 1) := by decide +kernel
theorem d_Log_isRow_37 : decode prog_1_method_22_code 37 = .ok (.bipush 6, 2) := by decide +kernel
theorem d_Log_isRow_39 : decode prog_1_method_22_code 39 = .ok (.if_icmp .ge 9, 3) := by decide +kernel
theorem d_Log_isRow_42 : decode prog_1_method_22_code 42 = .ok (.aload_n 1, 1) := by decide +kernel
theorem d_Log_isRow_43 : decode prog_1_method_22_code 43 = .ok (.iload_n 3, 1) := by decide +kernel
theorem d_Log_isRow_44 : decode prog_1_method_22_code 44 = .ok (.baload, 1) := by decide +kernel
theorem d_Log_isRow_45 : decode prog_1_method_22_code 45 = .ok (.ifCond .eq 5, 3) := by decide +kernel
theorem d_Log_isRow_48 : decode prog_1_method_22_code 48 = .ok (.iconst 0, 1) := by decide +kernel
theorem d_Log_isRow_49 : decode prog_1_method_22_code 49 = .ok (.ireturn, 1) := by decide +kernel
theorem d_Log_isRow_50 : decode prog_1_method_22_code 50 = .ok (.aload_n 1, 1) := by decide +kernel
theorem d_Log_isRow_51 : decode prog_1_method_22_code 51 = .ok (.iload_n 3, 1) := by decide +kernel
theorem d_Log_isRow_52 : decode prog_1_method_22_code 52 = .ok (.iconst 1, 1) := by decide +kernel
theorem d_Log_isRow_53 : decode prog_1_method_22_code 53 = .ok (.bastore, 1) := by decide +kernel
theorem d_Log_isRow_54 : decode prog_1_method_22_code 54 = .ok (.iload_n 2, 1) := by decide +kernel
theorem d_Log_isRow_55 : decode prog_1_method_22_code 55 = .ok (.bipush 10, 2) := by decide +kernel
theorem d_Log_isRow_57 : decode prog_1_method_22_code 57 = .ok (.idiv, 1) := by decide +kernel
theorem d_Log_isRow_58 : decode prog_1_method_22_code 58 = .ok (.istore_n 2, 1) := by decide +kernel
theorem d_Log_isRow_59 : decode prog_1_method_22_code 59 = .ok (.goto (-38), 3) := by decide +kernel
theorem d_Log_isRow_62 : decode prog_1_method_22_code 62 = .ok (.iconst 1, 1) := by decide +kernel
theorem d_Log_isRow_63 : decode prog_1_method_22_code 63 = .ok (.ireturn, 1) := by decide +kernel
theorem d_Log_rowOf_0 : decode prog_1_method_23_code 0 = .ok (.iload_n 0, 1) := by decide +kernel
theorem d_Log_rowOf_1 : decode prog_1_method_23_code 1 = .ok (.bipush 10, 2) := by decide +kernel
theorem d_Log_rowOf_3 : decode prog_1_method_23_code 3 = .ok (.if_icmp .ge 7, 3) := by decide +kernel
theorem d_Log_rowOf_6 : decode prog_1_method_23_code 6 = .ok (.iconst 1, 1) := by decide +kernel
theorem d_Log_rowOf_7 : decode prog_1_method_23_code 7 = .ok (.goto 14, 3) := by decide +kernel
theorem d_Log_rowOf_10 : decode prog_1_method_23_code 10 = .ok (.iload_n 0, 1) := by decide +kernel
theorem d_Log_rowOf_11 : decode prog_1_method_23_code 11 = .ok (.bipush 100, 2) := by decide +kernel
theorem d_Log_rowOf_13 : decode prog_1_method_23_code 13 = .ok (.if_icmp .ge 7, 3) := by decide +kernel
theorem d_Log_rowOf_16 : decode prog_1_method_23_code 16 = .ok (.iconst 2, 1) := by decide +kernel
theorem d_Log_rowOf_17 : decode prog_1_method_23_code 17 = .ok (.goto 4, 3) := by decide +kernel
theorem d_Log_rowOf_20 : decode prog_1_method_23_code 20 = .ok (.iconst 3, 1) := by decide +kernel
theorem d_Log_rowOf_21 : decode prog_1_method_23_code 21 = .ok (.istore_n 1, 1) := by decide +kernel
theorem d_Log_rowOf_22 : decode prog_1_method_23_code 22 = .ok (.iload_n 1, 1) := by decide +kernel
theorem d_Log_rowOf_23 : decode prog_1_method_23_code 23 = .ok (.newarray .int, 2) := by decide +kernel
theorem d_Log_rowOf_25 : decode prog_1_method_23_code 25 = .ok (.astore_n 2, 1) := by decide +kernel
theorem d_Log_rowOf_26 : decode prog_1_method_23_code 26 = .ok (.iload_n 0, 1) := by decide +kernel
theorem d_Log_rowOf_27 : decode prog_1_method_23_code 27 = .ok (.istore_n 3, 1) := by decide +kernel
theorem d_Log_rowOf_28 : decode prog_1_method_23_code 28 = .ok (.iload_n 1, 1) := by decide +kernel
theorem d_Log_rowOf_29 : decode prog_1_method_23_code 29 = .ok (.iconst 1, 1) := by decide +kernel
theorem d_Log_rowOf_30 : decode prog_1_method_23_code 30 = .ok (.isub, 1) := by decide +kernel
theorem d_Log_rowOf_31 : decode prog_1_method_23_code 31 = .ok (.istore 4, 2) := by decide +kernel
theorem d_Log_rowOf_33 : decode prog_1_method_23_code 33 = .ok (.iload 4, 2) := by decide +kernel
theorem d_Log_rowOf_35 : decode prog_1_method_23_code 35 = .ok (.ifCond .lt 24, 3) := by decide +kernel
theorem d_Log_rowOf_38 : decode prog_1_method_23_code 38 = .ok (.aload_n 2, 1) := by decide +kernel
theorem d_Log_rowOf_39 : decode prog_1_method_23_code 39 = .ok (.iload 4, 2) := by decide +kernel
theorem d_Log_rowOf_41 : decode prog_1_method_23_code 41 = .ok (.iload_n 3, 1) := by decide +kernel
theorem d_Log_rowOf_42 : decode prog_1_method_23_code 42 = .ok (.bipush 10, 2) := by decide +kernel
theorem d_Log_rowOf_44 : decode prog_1_method_23_code 44 = .ok (.irem, 1) := by decide +kernel
theorem d_Log_rowOf_45 : decode prog_1_method_23_code 45 = .ok (.iconst 1, 1) := by decide +kernel
theorem d_Log_rowOf_46 : decode prog_1_method_23_code 46 = .ok (.isub, 1) := by decide +kernel
theorem d_Log_rowOf_47 : decode prog_1_method_23_code 47 = .ok (.iastore, 1) := by decide +kernel
theorem d_Log_rowOf_48 : decode prog_1_method_23_code 48 = .ok (.iload_n 3, 1) := by decide +kernel
theorem d_Log_rowOf_49 : decode prog_1_method_23_code 49 = .ok (.bipush 10, 2) := by decide +kernel
theorem d_Log_rowOf_51 : decode prog_1_method_23_code 51 = .ok (.idiv, 1) := by decide +kernel
theorem d_Log_rowOf_52 : decode prog_1_method_23_code 52 = .ok (.istore_n 3, 1) := by decide +kernel
theorem d_Log_rowOf_53 : decode prog_1_method_23_code 53 = .ok (.iinc 4 (-1), 3) := by decide +kernel
theorem d_Log_rowOf_56 : decode prog_1_method_23_code 56 = .ok (.goto (-23), 3) := by decide +kernel
theorem d_Log_rowOf_59 : decode prog_1_method_23_code 59 = .ok (.aload_n 2, 1) := by decide +kernel
theorem d_Log_rowOf_60 : decode prog_1_method_23_code 60 = .ok (.areturn, 1) := by decide +kernel
theorem d_Log_digitsOf_0 : decode prog_1_method_24_code 0 = .ok (.iconst 0, 1) := by decide +kernel
theorem d_Log_digitsOf_1 : decode prog_1_method_24_code 1 = .ok (.istore_n 1, 1) := by decide +kernel
theorem d_Log_digitsOf_2 : decode prog_1_method_24_code 2 = .ok (.iconst 0, 1) := by decide +kernel
theorem d_Log_digitsOf_3 : decode prog_1_method_24_code 3 = .ok (.istore_n 2, 1) := by decide +kernel
theorem d_Log_digitsOf_4 : decode prog_1_method_24_code 4 = .ok (.iload_n 2, 1) := by decide +kernel
theorem d_Log_digitsOf_5 : decode prog_1_method_24_code 5 = .ok (.aload_n 0, 1) := by decide +kernel
theorem d_Log_digitsOf_6 : decode prog_1_method_24_code 6 = .ok (.arraylength, 1) := by decide +kernel
theorem d_Log_digitsOf_7 : decode prog_1_method_24_code 7 = .ok (.if_icmp .ge 20, 3) := by decide +kernel
theorem d_Log_digitsOf_10 : decode prog_1_method_24_code 10 = .ok (.iload_n 1, 1) := by decide +kernel
theorem d_Log_digitsOf_11 : decode prog_1_method_24_code 11 = .ok (.bipush 10, 2) := by decide +kernel
theorem d_Log_digitsOf_13 : decode prog_1_method_24_code 13 = .ok (.imul, 1) := by decide +kernel
theorem d_Log_digitsOf_14 : decode prog_1_method_24_code 14 = .ok (.aload_n 0, 1) := by decide +kernel
theorem d_Log_digitsOf_15 : decode prog_1_method_24_code 15 = .ok (.iload_n 2, 1) := by decide +kernel
theorem d_Log_digitsOf_16 : decode prog_1_method_24_code 16 = .ok (.iaload, 1) := by decide +kernel
theorem d_Log_digitsOf_17 : decode prog_1_method_24_code 17 = .ok (.iadd, 1) := by decide +kernel
theorem d_Log_digitsOf_18 : decode prog_1_method_24_code 18 = .ok (.iconst 1, 1) := by decide +kernel
theorem d_Log_digitsOf_19 : decode prog_1_method_24_code 19 = .ok (.iadd, 1) := by decide +kernel
theorem d_Log_digitsOf_20 : decode prog_1_method_24_code 20 = .ok (.istore_n 1, 1) := by decide +kernel
theorem d_Log_digitsOf_21 : decode prog_1_method_24_code 21 = .ok (.iinc 2 1, 3) := by decide +kernel
theorem d_Log_digitsOf_24 : decode prog_1_method_24_code 24 = .ok (.goto (-20), 3) := by decide +kernel
theorem d_Log_digitsOf_27 : decode prog_1_method_24_code 27 = .ok (.iload_n 1, 1) := by decide +kernel
theorem d_Log_digitsOf_28 : decode prog_1_method_24_code 28 = .ok (.ireturn, 1) := by decide +kernel
theorem d_Log_requireTransaction_0 : decode prog_1_method_25_code 0 = .ok (.aload_n 0, 1) := by decide +kernel
theorem d_Log_requireTransaction_1 : decode prog_1_method_25_code 1 = .ok (.getfield 179, 3) := by decide +kernel
theorem d_Log_requireTransaction_4 : decode prog_1_method_25_code 4 = .ok (.ifCond .ne 13, 3) := by decide +kernel
theorem d_Log_requireTransaction_7 : decode prog_1_method_25_code 7 = .ok (.new 182, 3) := by decide +kernel
theorem d_Log_requireTransaction_10 : decode prog_1_method_25_code 10 = .ok (.dup, 1) := by decide +kernel
theorem d_Log_requireTransaction_11 : decode prog_1_method_25_code 11 = .ok (.ldc 234, 2) := by decide +kernel
theorem d_Log_requireTransaction_13 : decode prog_1_method_25_code 13 = .ok (.invokespecial 186, 3) := by decide +kernel
theorem d_Log_requireTransaction_16 : decode prog_1_method_25_code 16 = .ok (.athrow, 1) := by decide +kernel
theorem d_Log_requireTransaction_17 : decode prog_1_method_25_code 17 = .ok (.return_, 1) := by decide +kernel
theorem d_Log_requireSequencer_0 : decode prog_1_method_26_code 0 = .ok (.aload_n 0, 1) := by decide +kernel
theorem d_Log_requireSequencer_1 : decode prog_1_method_26_code 1 = .ok (.getfield 24, 3) := by decide +kernel
theorem d_Log_requireSequencer_4 : decode prog_1_method_26_code 4 = .ok (.getfield 161, 3) := by decide +kernel
theorem d_Log_requireSequencer_7 : decode prog_1_method_26_code 7 = .ok (.ifCond .ne 20, 3) := by decide +kernel
theorem d_Log_requireSequencer_10 : decode prog_1_method_26_code 10 = .ok (.aload_n 0, 1) := by decide +kernel
theorem d_Log_requireSequencer_11 : decode prog_1_method_26_code 11 = .ok (.getfield 24, 3) := by decide +kernel
theorem d_Log_requireSequencer_14 : decode prog_1_method_26_code 14 = .ok (.getfield 223, 3) := by decide +kernel
theorem d_Log_requireSequencer_17 : decode prog_1_method_26_code 17 = .ok (.aload_n 1, 1) := by decide +kernel
theorem d_Log_requireSequencer_18 : decode prog_1_method_26_code 18 = .ok (.getfield 80, 3) := by decide +kernel
theorem d_Log_requireSequencer_21 : decode prog_1_method_26_code 21 = .ok (.getfield 119, 3) := by decide +kernel
theorem d_Log_requireSequencer_24 : decode prog_1_method_26_code 24 = .ok (.if_icmp .eq 13, 3) := by decide +kernel
theorem d_Log_requireSequencer_27 : decode prog_1_method_26_code 27 = .ok (.new 182, 3) := by decide +kernel
theorem d_Log_requireSequencer_30 : decode prog_1_method_26_code 30 = .ok (.dup, 1) := by decide +kernel
theorem d_Log_requireSequencer_31 : decode prog_1_method_26_code 31 = .ok (.ldc 236, 2) := by decide +kernel
theorem d_Log_requireSequencer_33 : decode prog_1_method_26_code 33 = .ok (.invokespecial 186, 3) := by decide +kernel
theorem d_Log_requireSequencer_36 : decode prog_1_method_26_code 36 = .ok (.athrow, 1) := by decide +kernel
theorem d_Log_requireSequencer_37 : decode prog_1_method_26_code 37 = .ok (.return_, 1) := by decide +kernel
theorem d_Log_takeToken_0 : decode prog_1_method_27_code 0 = .ok (.aload_n 0, 1) := by decide +kernel
theorem d_Log_takeToken_1 : decode prog_1_method_27_code 1 = .ok (.aload_n 1, 1) := by decide +kernel
theorem d_Log_takeToken_2 : decode prog_1_method_27_code 2 = .ok (.invokevirtual 164, 3) := by decide +kernel
theorem d_Log_takeToken_5 : decode prog_1_method_27_code 5 = .ok (.aload_n 0, 1) := by decide +kernel
theorem d_Log_takeToken_6 : decode prog_1_method_27_code 6 = .ok (.getfield 24, 3) := by decide +kernel
theorem d_Log_takeToken_9 : decode prog_1_method_27_code 9 = .ok (.getfield 152, 3) := by decide +kernel
theorem d_Log_takeToken_12 : decode prog_1_method_27_code 12 = .ok (.bipush 60, 2) := by decide +kernel
theorem d_Log_takeToken_14 : decode prog_1_method_27_code 14 = .ok (.if_icmp .lt 13, 3) := by decide +kernel
theorem d_Log_takeToken_17 : decode prog_1_method_27_code 17 = .ok (.new 238, 3) := by decide +kernel
theorem d_Log_takeToken_20 : decode prog_1_method_27_code 20 = .ok (.dup, 1) := by decide +kernel
theorem d_Log_takeToken_21 : decode prog_1_method_27_code 21 = .ok (.ldc 240, 2) := by decide +kernel
theorem d_Log_takeToken_23 : decode prog_1_method_27_code 23 = .ok (.invokespecial 242, 3) := by decide +kernel
theorem d_Log_takeToken_26 : decode prog_1_method_27_code 26 = .ok (.athrow, 1) := by decide +kernel
theorem d_Log_takeToken_27 : decode prog_1_method_27_code 27 = .ok (.aload_n 0, 1) := by decide +kernel
theorem d_Log_takeToken_28 : decode prog_1_method_27_code 28 = .ok (.getfield 24, 3) := by decide +kernel
theorem d_Log_takeToken_31 : decode prog_1_method_27_code 31 = .ok (.getfield 152, 3) := by decide +kernel
theorem d_Log_takeToken_34 : decode prog_1_method_27_code 34 = .ok (.istore_n 2, 1) := by decide +kernel
theorem d_Log_takeToken_35 : decode prog_1_method_27_code 35 = .ok (.aload_n 0, 1) := by decide +kernel
theorem d_Log_takeToken_36 : decode prog_1_method_27_code 36 = .ok (.getfield 24, 3) := by decide +kernel
theorem d_Log_takeToken_39 : decode prog_1_method_27_code 39 = .ok (.iload_n 2, 1) := by decide +kernel
theorem d_Log_takeToken_40 : decode prog_1_method_27_code 40 = .ok (.iconst 1, 1) := by decide +kernel
theorem d_Log_takeToken_41 : decode prog_1_method_27_code 41 = .ok (.iadd, 1) := by decide +kernel
theorem d_Log_takeToken_42 : decode prog_1_method_27_code 42 = .ok (.putfield 152, 3) := by decide +kernel
theorem d_Log_takeToken_45 : decode prog_1_method_27_code 45 = .ok (.iload_n 2, 1) := by decide +kernel
theorem d_Log_takeToken_46 : decode prog_1_method_27_code 46 = .ok (.ireturn, 1) := by decide +kernel
theorem d_Log_use_0 : decode prog_1_method_28_code 0 = .ok (.aload_n 0, 1) := by decide +kernel
theorem d_Log_use_1 : decode prog_1_method_28_code 1 = .ok (.getfield 11, 3) := by decide +kernel
theorem d_Log_use_4 : decode prog_1_method_28_code 4 = .ok (.iload_n 2, 1) := by decide +kernel
theorem d_Log_use_5 : decode prog_1_method_28_code 5 = .ok (.aaload, 1) := by decide +kernel
theorem d_Log_use_6 : decode prog_1_method_28_code 6 = .ok (.astore_n 3, 1) := by decide +kernel
theorem d_Log_use_7 : decode prog_1_method_28_code 7 = .ok (.aload_n 3, 1) := by decide +kernel
theorem d_Log_use_8 : decode prog_1_method_28_code 8 = .ok (.getfield 154, 3) := by decide +kernel
theorem d_Log_use_11 : decode prog_1_method_28_code 11 = .ok (.ifCond .eq 17, 3) := by decide +kernel
theorem d_Log_use_14 : decode prog_1_method_28_code 14 = .ok (.aload_n 3, 1) := by decide +kernel
theorem d_Log_use_15 : decode prog_1_method_28_code 15 = .ok (.getfield 158, 3) := by decide +kernel
theorem d_Log_use_18 : decode prog_1_method_28_code 18 = .ok (.aload_n 1, 1) := by decide +kernel
theorem d_Log_use_19 : decode prog_1_method_28_code 19 = .ok (.getfield 80, 3) := by decide +kernel
theorem d_Log_use_22 : decode prog_1_method_28_code 22 = .ok (.getfield 119, 3) := by decide +kernel
theorem d_Log_use_25 : decode prog_1_method_28_code 25 = .ok (.if_icmp .le 13, 3) := by decide +kernel
theorem d_Log_use_28 : decode prog_1_method_28_code 28 = .ok (.new 182, 3) := by decide +kernel
theorem d_Log_use_31 : decode prog_1_method_28_code 31 = .ok (.dup, 1) := by decide +kernel
theorem d_Log_use_32 : decode prog_1_method_28_code 32 = .ok (.ldc 243, 2) := by decide +kernel
theorem d_Log_use_34 : decode prog_1_method_28_code 34 = .ok (.invokespecial 186, 3) := by decide +kernel
theorem d_Log_use_37 : decode prog_1_method_28_code 37 = .ok (.athrow, 1) := by decide +kernel
theorem d_Log_use_38 : decode prog_1_method_28_code 38 = .ok (.aload_n 3, 1) := by decide +kernel
theorem d_Log_use_39 : decode prog_1_method_28_code 39 = .ok (.areturn, 1) := by decide +kernel
theorem d_Log_write_0 : decode prog_1_method_29_code 0 = .ok (.aload_n 1, 1) := by decide +kernel
theorem d_Log_write_1 : decode prog_1_method_29_code 1 = .ok (.getfield 80, 3) := by decide +kernel
theorem d_Log_write_4 : decode prog_1_method_29_code 4 = .ok (.iload_n 2, 1) := by decide +kernel
theorem d_Log_write_5 : decode prog_1_method_29_code 5 = .ok (.invokevirtual 83, 3) := by decide +kernel
theorem d_Log_write_8 : decode prog_1_method_29_code 8 = .ok (.astore 5, 2) := by decide +kernel
theorem d_Log_write_10 : decode prog_1_method_29_code 10 = .ok (.iconst 0, 1) := by decide +kernel
theorem d_Log_write_11 : decode prog_1_method_29_code 11 = .ok (.istore 6, 2) := by decide +kernel
theorem d_Log_write_13 : decode prog_1_method_29_code 13 = .ok (.iload 6, 2) := by decide +kernel
theorem d_Log_write_15 : decode prog_1_method_29_code 15 = .ok (.aload 5, 2) := by decide +kernel
theorem d_Log_write_17 : decode prog_1_method_29_code 17 = .ok (.arraylength, 1) := by decide +kernel
theorem d_Log_write_18 : decode prog_1_method_29_code 18 = .ok (.if_icmp .ge 55, 3) := by decide +kernel
theorem d_Log_write_21 : decode prog_1_method_29_code 21 = .ok (.iload 6, 2) := by decide +kernel
theorem d_Log_write_23 : decode prog_1_method_29_code 23 = .ok (.iload 4, 2) := by decide +kernel
theorem d_Log_write_25 : decode prog_1_method_29_code 25 = .ok (.if_icmp .ge 48, 3) := by decide +kernel
theorem d_Log_write_28 : decode prog_1_method_29_code 28 = .ok (.aload_n 0, 1) := by decide +kernel
theorem d_Log_write_29 : decode prog_1_method_29_code 29 = .ok (.aload_n 1, 1) := by decide +kernel
theorem d_Log_write_30 : decode prog_1_method_29_code 30 = .ok (.aload 5, 2) := by decide +kernel
theorem d_Log_write_32 : decode prog_1_method_29_code 32 = .ok (.iload 6, 2) := by decide +kernel
theorem d_Log_write_34 : decode prog_1_method_29_code 34 = .ok (.iaload, 1) := by decide +kernel
theorem d_Log_write_35 : decode prog_1_method_29_code 35 = .ok (.invokevirtual 103, 3) := by decide +kernel
theorem d_Log_write_38 : decode prog_1_method_29_code 38 = .ok (.astore 7, 2) := by decide +kernel
theorem d_Log_write_40 : decode prog_1_method_29_code 40 = .ok (.aload 7, 2) := by decide +kernel
theorem d_Log_write_42 : decode prog_1_method_29_code 42 = .ok (.iload_n 2, 1) := by decide +kernel
theorem d_Log_write_43 : decode prog_1_method_29_code 43 = .ok (.invokevirtual 107, 3) := by decide +kernel
theorem d_Log_write_46 : decode prog_1_method_29_code 46 = .ok (.ifCond .eq 13, 3) := by decide +kernel
theorem d_Log_write_49 : decode prog_1_method_29_code 49 = .ok (.new 94, 3) := by decide +kernel
theorem d_Log_write_52 : decode prog_1_method_29_code 52 = .ok (.dup, 1) := by decide +kernel
theorem d_Log_write_53 : decode prog_1_method_29_code 53 = .ok (.ldc 245, 2) := by decide +kernel
theorem d_Log_write_55 : decode prog_1_method_29_code 55 = .ok (.invokespecial 97, 3) := by decide +kernel
theorem d_Log_write_58 : decode prog_1_method_29_code 58 = .ok (.athrow, 1) := by decide +kernel
theorem d_Log_write_59 : decode prog_1_method_29_code 59 = .ok (.aload 7, 2) := by decide +kernel
theorem d_Log_write_61 : decode prog_1_method_29_code 61 = .ok (.getfield 111, 3) := by decide +kernel
theorem d_Log_write_64 : decode prog_1_method_29_code 64 = .ok (.iload_n 2, 1) := by decide +kernel
theorem d_Log_write_65 : decode prog_1_method_29_code 65 = .ok (.aload_n 3, 1) := by decide +kernel
theorem d_Log_write_66 : decode prog_1_method_29_code 66 = .ok (.aastore, 1) := by decide +kernel
theorem d_Log_write_67 : decode prog_1_method_29_code 67 = .ok (.iinc 6 1, 3) := by decide +kernel
theorem d_Log_write_70 : decode prog_1_method_29_code 70 = .ok (.goto (-57), 3) := by decide +kernel
theorem d_Log_write_73 : decode prog_1_method_29_code 73 = .ok (.return_, 1) := by decide +kernel
theorem d_Log_entryAtEnd_0 : decode prog_1_method_30_code 0 = .ok (.aload_n 1, 1) := by decide +kernel
theorem d_Log_entryAtEnd_1 : decode prog_1_method_30_code 1 = .ok (.getfield 80, 3) := by decide +kernel
theorem d_Log_entryAtEnd_4 : decode prog_1_method_30_code 4 = .ok (.iload_n 2, 1) := by decide +kernel
theorem d_Log_entryAtEnd_5 : decode prog_1_method_30_code 5 = .ok (.invokevirtual 83, 3) := by decide +kernel
theorem d_Log_entryAtEnd_8 : decode prog_1_method_30_code 8 = .ok (.astore_n 3, 1) := by decide +kernel
theorem d_Log_entryAtEnd_9 : decode prog_1_method_30_code 9 = .ok (.aload_n 0, 1) := by decide +kernel
theorem d_Log_entryAtEnd_10 : decode prog_1_method_30_code 10 = .ok (.aload_n 1, 1) := by decide +kernel
theorem d_Log_entryAtEnd_11 : decode prog_1_method_30_code 11 = .ok (.aload_n 3, 1) := by decide +kernel
theorem d_Log_entryAtEnd_12 : decode prog_1_method_30_code 12 = .ok (.aload_n 3, 1) := by decide +kernel
theorem d_Log_entryAtEnd_13 : decode prog_1_method_30_code 13 = .ok (.arraylength, 1) := by decide +kernel
theorem d_Log_entryAtEnd_14 : decode prog_1_method_30_code 14 = .ok (.iconst 1, 1) := by decide +kernel
theorem d_Log_entryAtEnd_15 : decode prog_1_method_30_code 15 = .ok (.isub, 1) := by decide +kernel
theorem d_Log_entryAtEnd_16 : decode prog_1_method_30_code 16 = .ok (.iaload, 1) := by decide +kernel
theorem d_Log_entryAtEnd_17 : decode prog_1_method_30_code 17 = .ok (.invokevirtual 103, 3) := by decide +kernel
theorem d_Log_entryAtEnd_20 : decode prog_1_method_30_code 20 = .ok (.getfield 111, 3) := by decide +kernel
theorem d_Log_entryAtEnd_23 : decode prog_1_method_30_code 23 = .ok (.iload_n 2, 1) := by decide +kernel
theorem d_Log_entryAtEnd_24 : decode prog_1_method_30_code 24 = .ok (.aaload, 1) := by decide +kernel
theorem d_Log_entryAtEnd_25 : decode prog_1_method_30_code 25 = .ok (.astore 4, 2) := by decide +kernel
theorem d_Log_entryAtEnd_27 : decode prog_1_method_30_code 27 = .ok (.aload 4, 2) := by decide +kernel
theorem d_Log_entryAtEnd_29 : decode prog_1_method_30_code 29 = .ok (.getfield 90, 3) := by decide +kernel
theorem d_Log_entryAtEnd_32 : decode prog_1_method_30_code 32 = .ok (.ifCond .ne 13, 3) := by decide +kernel
theorem d_Log_entryAtEnd_35 : decode prog_1_method_30_code 35 = .ok (.new 238, 3) := by decide +kernel
theorem d_Log_entryAtEnd_38 : decode prog_1_method_30_code 38 = .ok (.dup, 1) := by decide +kernel
theorem d_Log_entryAtEnd_39 : decode prog_1_method_30_code 39 = .ok (.ldc 247, 2) := by decide +kernel
theorem d_Log_entryAtEnd_41 : decode prog_1_method_30_code 41 = .ok (.invokespecial 242, 3) := by decide +kernel
theorem d_Log_entryAtEnd_44 : decode prog_1_method_30_code 44 = .ok (.athrow, 1) := by decide +kernel
theorem d_Log_entryAtEnd_45 : decode prog_1_method_30_code 45 = .ok (.aload 4, 2) := by decide +kernel
theorem d_Log_entryAtEnd_47 : decode prog_1_method_30_code 47 = .ok (.getfield 90, 3) := by decide +kernel
theorem d_Log_entryAtEnd_50 : decode prog_1_method_30_code 50 = .ok (.iconst 4, 1) := by decide +kernel
theorem d_Log_entryAtEnd_51 : decode prog_1_method_30_code 51 = .ok (.if_icmp .ne 13, 3) := by decide +kernel
theorem d_Log_entryAtEnd_54 : decode prog_1_method_30_code 54 = .ok (.new 249, 3) := by decide +kernel
theorem d_Log_entryAtEnd_57 : decode prog_1_method_30_code 57 = .ok (.dup, 1) := by decide +kernel
theorem d_Log_entryAtEnd_58 : decode prog_1_method_30_code 58 = .ok (.ldc 251, 2) := by decide +kernel
theorem d_Log_entryAtEnd_60 : decode prog_1_method_30_code 60 = .ok (.invokespecial 252, 3) := by decide +kernel
theorem d_Log_entryAtEnd_63 : decode prog_1_method_30_code 63 = .ok (.athrow, 1) := by decide +kernel
theorem d_Log_entryAtEnd_64 : decode prog_1_method_30_code 64 = .ok (.aload 4, 2) := by decide +kernel
theorem d_Log_entryAtEnd_66 : decode prog_1_method_30_code 66 = .ok (.areturn, 1) := by decide +kernel
theorem d_Log_trimOne_0 : decode prog_1_method_31_code 0 = .ok (.aload_n 1, 1) := by decide +kernel
theorem d_Log_trimOne_1 : decode prog_1_method_31_code 1 = .ok (.getfield 80, 3) := by decide +kernel
theorem d_Log_trimOne_4 : decode prog_1_method_31_code 4 = .ok (.iload_n 2, 1) := by decide +kernel
theorem d_Log_trimOne_5 : decode prog_1_method_31_code 5 = .ok (.invokevirtual 83, 3) := by decide +kernel
theorem d_Log_trimOne_8 : decode prog_1_method_31_code 8 = .ok (.astore_n 3, 1) := by decide +kernel
theorem d_Log_trimOne_9 : decode prog_1_method_31_code 9 = .ok (.iconst 0, 1) := by decide +kernel
theorem d_Log_trimOne_10 : decode prog_1_method_31_code 10 = .ok (.istore 4, 2) := by decide +kernel
theorem d_Log_trimOne_12 : decode prog_1_method_31_code 12 = .ok (.iconst 0, 1) := by decide +kernel
theorem d_Log_trimOne_13 : decode prog_1_method_31_code 13 = .ok (.istore 5, 2) := by decide +kernel
theorem d_Log_trimOne_15 : decode prog_1_method_31_code 15 = .ok (.iload 5, 2) := by decide +kernel
theorem d_Log_trimOne_17 : decode prog_1_method_31_code 17 = .ok (.aload_n 3, 1) := by decide +kernel
theorem d_Log_trimOne_18 : decode prog_1_method_31_code 18 = .ok (.arraylength, 1) := by decide +kernel
theorem d_Log_trimOne_19 : decode prog_1_method_31_code 19 = .ok (.if_icmp .ge 48, 3) := by decide +kernel
theorem d_Log_trimOne_22 : decode prog_1_method_31_code 22 = .ok (.aload_n 0, 1) := by decide +kernel
theorem d_Log_trimOne_23 : decode prog_1_method_31_code 23 = .ok (.aload_n 1, 1) := by decide +kernel
theorem d_Log_trimOne_24 : decode prog_1_method_31_code 24 = .ok (.aload_n 3, 1) := by decide +kernel
theorem d_Log_trimOne_25 : decode prog_1_method_31_code 25 = .ok (.iload 5, 2) := by decide +kernel
theorem d_Log_trimOne_27 : decode prog_1_method_31_code 27 = .ok (.iaload, 1) := by decide +kernel
theorem d_Log_trimOne_28 : decode prog_1_method_31_code 28 = .ok (.invokevirtual 103, 3) := by decide +kernel
theorem d_Log_trimOne_31 : decode prog_1_method_31_code 31 = .ok (.astore 6, 2) := by decide +kernel
theorem d_Log_trimOne_33 : decode prog_1_method_31_code 33 = .ok (.aload 6, 2) := by decide +kernel
theorem d_Log_trimOne_35 : decode prog_1_method_31_code 35 = .ok (.getfield 111, 3) := by decide +kernel
theorem d_Log_trimOne_38 : decode prog_1_method_31_code 38 = .ok (.iload_n 2, 1) := by decide +kernel
theorem d_Log_trimOne_39 : decode prog_1_method_31_code 39 = .ok (.aaload, 1) := by decide +kernel
theorem d_Log_trimOne_40 : decode prog_1_method_31_code 40 = .ok (.getfield 90, 3) := by decide +kernel
theorem d_Log_trimOne_43 : decode prog_1_method_31_code 43 = .ok (.iconst 4, 1) := by decide +kernel
theorem d_Log_trimOne_44 : decode prog_1_method_31_code 44 = .ok (.if_icmp .eq 17, 3) := by decide +kernel
theorem d_Log_trimOne_47 : decode prog_1_method_31_code 47 = .ok (.aload 6, 2) := by decide +kernel
theorem d_Log_trimOne_49 : decode prog_1_method_31_code 49 = .ok (.getfield 111, 3) := by decide +kernel
theorem d_Log_trimOne_52 : decode prog_1_method_31_code 52 = .ok (.iload_n 2, 1) := by decide +kernel
theorem d_Log_trimOne_53 : decode prog_1_method_31_code 53 = .ok (.aload_n 0, 1) := by decide +kernel
theorem d_Log_trimOne_54 : decode prog_1_method_31_code 54 = .ok (.getfield 43, 3) := by decide +kernel
theorem d_Log_trimOne_57 : decode prog_1_method_31_code 57 = .ok (.aastore, 1) := by decide +kernel
theorem d_Log_trimOne_58 : decode prog_1_method_31_code 58 = .ok (.iinc 4 1, 3) := by decide +kernel
theorem d_Log_trimOne_61 : decode prog_1_method_31_code 61 = .ok (.iinc 5 1, 3) := by decide +kernel
theorem d_Log_trimOne_64 : decode prog_1_method_31_code 64 = .ok (.goto (-49), 3) := by decide +kernel
theorem d_Log_trimOne_67 : decode prog_1_method_31_code 67 = .ok (.iload 4, 2) := by decide +kernel
theorem d_Log_trimOne_69 : decode prog_1_method_31_code 69 = .ok (.ireturn, 1) := by decide +kernel
theorem d_Log_play_0 : decode prog_1_method_32_code 0 = .ok (.iconst 0, 1) := by decide +kernel
theorem d_Log_play_1 : decode prog_1_method_32_code 1 = .ok (.istore_n 3, 1) := by decide +kernel
theorem d_Log_play_2 : decode prog_1_method_32_code 2 = .ok (.aload_n 1, 1) := by decide +kernel
theorem d_Log_play_3 : decode prog_1_method_32_code 3 = .ok (.getfield 172, 3) := by decide +kernel
theorem d_Log_play_6 : decode prog_1_method_32_code 6 = .ok (.istore 4, 2) := by decide +kernel
theorem d_Log_play_8 : decode prog_1_method_32_code 8 = .ok (.iload 4, 2) := by decide +kernel
theorem d_Log_play_10 : decode prog_1_method_32_code 10 = .ok (.iload_n 2, 1) := by decide +kernel
theorem d_Log_play_11 : decode prog_1_method_32_code 11 = .ok (.if_icmp .ge 36, 3) := by decide +kernel
theorem d_Log_play_14 : decode prog_1_method_32_code 14 = .ok (.aload_n 1, 1) := by decide +kernel
theorem d_Log_play_15 : decode prog_1_method_32_code 15 = .ok (.aload_n 0, 1) := by decide +kernel
theorem d_Log_play_16 : decode prog_1_method_32_code 16 = .ok (.aload_n 1, 1) := by decide +kernel
theorem d_Log_play_17 : decode prog_1_method_32_code 17 = .ok (.iload 4, 2) := by decide +kernel
theorem d_Log_play_19 : decode prog_1_method_32_code 19 = .ok (.invokevirtual 86, 3) := by decide +kernel
theorem d_Log_play_22 : decode prog_1_method_32_code 22 = .ok (.getfield 253, 3) := by decide +kernel
theorem d_Log_play_25 : decode prog_1_method_32_code 25 = .ok (.iload 4, 2) := by decide +kernel
theorem d_Log_play_27 : decode prog_1_method_32_code 27 = .ok (.iconst 1, 1) := by decide +kernel
theorem d_Log_play_28 : decode prog_1_method_32_code 28 = .ok (.iadd, 1) := by decide +kernel
theorem d_Log_play_29 : decode prog_1_method_32_code 29 = .ok (.invokevirtual 256, 3) := by decide +kernel
theorem d_Log_play_32 : decode prog_1_method_32_code 32 = .ok (.istore_n 3, 1) := by decide +kernel
theorem d_Log_play_33 : decode prog_1_method_32_code 33 = .ok (.aload_n 1, 1) := by decide +kernel
theorem d_Log_play_34 : decode prog_1_method_32_code 34 = .ok (.iload 4, 2) := by decide +kernel
theorem d_Log_play_36 : decode prog_1_method_32_code 36 = .ok (.iconst 1, 1) := by decide +kernel
theorem d_Log_play_37 : decode prog_1_method_32_code 37 = .ok (.iadd, 1) := by decide +kernel
theorem d_Log_play_38 : decode prog_1_method_32_code 38 = .ok (.putfield 172, 3) := by decide +kernel
theorem d_Log_play_41 : decode prog_1_method_32_code 41 = .ok (.iinc 4 1, 3) := by decide +kernel
theorem d_Log_play_44 : decode prog_1_method_32_code 44 = .ok (.goto (-36), 3) := by decide +kernel
theorem d_Log_play_47 : decode prog_1_method_32_code 47 = .ok (.iload_n 3, 1) := by decide +kernel
theorem d_Log_play_48 : decode prog_1_method_32_code 48 = .ok (.ireturn, 1) := by decide +kernel
theorem d_Log_writeAndPlayCommit_0 : decode prog_1_method_33_code 0 = .ok (.aload_n 0, 1) := by decide +kernel
theorem d_Log_writeAndPlayCommit_1 : decode prog_1_method_33_code 1 = .ok (.aload_n 1, 1) := by decide +kernel
theorem d_Log_writeAndPlayCommit_2 : decode prog_1_method_33_code 2 = .ok (.invokevirtual 69, 3) := by decide +kernel
theorem d_Log_writeAndPlayCommit_5 : decode prog_1_method_33_code 5 = .ok (.istore_n 2, 1) := by decide +kernel
theorem d_Log_writeAndPlayCommit_6 : decode prog_1_method_33_code 6 = .ok (.aload_n 1, 1) := by decide +kernel
theorem d_Log_writeAndPlayCommit_7 : decode prog_1_method_33_code 7 = .ok (.getfield 187, 3) := by decide +kernel
theorem d_Log_writeAndPlayCommit_10 : decode prog_1_method_33_code 10 = .ok (.invokevirtual 260, 3) := by decide +kernel
theorem d_Log_writeAndPlayCommit_13 : decode prog_1_method_33_code 13 = .ok (.astore_n 3, 1) := by decide +kernel
theorem d_Log_writeAndPlayCommit_14 : decode prog_1_method_33_code 14 = .ok (.aload_n 0, 1) := by decide +kernel
theorem d_Log_writeAndPlayCommit_15 : decode prog_1_method_33_code 15 = .ok (.aload_n 1, 1) := by decide +kernel
theorem d_Log_writeAndPlayCommit_16 : decode prog_1_method_33_code 16 = .ok (.iload_n 2, 1) := by decide +kernel
theorem d_Log_writeAndPlayCommit_17 : decode prog_1_method_33_code 17 = .ok (.new 31, 3) := by decide +kernel
theorem d_Log_writeAndPlayCommit_20 : decode prog_1_method_33_code 20 = .ok (.dup, 1) := by decide +kernel
theorem d_Log_writeAndPlayCommit_21 : decode prog_1_method_33_code 21 = .ok (.iconst 2, 1) := by decide +kernel
theorem d_Log_writeAndPlayCommit_22 : decode prog_1_method_33_code 22 = .ok (.aload_n 3, 1) := by decide +kernel
theorem d_Log_writeAndPlayCommit_23 : decode prog_1_method_33_code 23 = .ok (.invokevirtual 208, 3) := by decide +kernel
theorem d_Log_writeAndPlayCommit_26 : decode prog_1_method_33_code 26 = .ok (.aload_n 3, 1) := by decide +kernel
theorem d_Log_writeAndPlayCommit_27 : decode prog_1_method_33_code 27 = .ok (.invokespecial 33, 3) := by decide +kernel
theorem d_Log_writeAndPlayCommit_30 : decode prog_1_method_33_code 30 = .ok (.iconst 3, 1) := by decide +kernel
theorem d_Log_writeAndPlayCommit_31 : decode prog_1_method_33_code 31 = .ok (.invokevirtual 76, 3) := by decide +kernel
theorem d_Log_writeAndPlayCommit_34 : decode prog_1_method_33_code 34 = .ok (.aload_n 0, 1) := by decide +kernel
theorem d_Log_writeAndPlayCommit_35 : decode prog_1_method_33_code 35 = .ok (.aload_n 1, 1) := by decide +kernel
theorem d_Log_writeAndPlayCommit_36 : decode prog_1_method_33_code 36 = .ok (.iload_n 2, 1) := by decide +kernel
theorem d_Log_writeAndPlayCommit_37 : decode prog_1_method_33_code 37 = .ok (.iconst 1, 1) := by decide +kernel
theorem d_Log_writeAndPlayCommit_38 : decode prog_1_method_33_code 38 = .ok (.iadd, 1) := by decide +kernel
theorem d_Log_writeAndPlayCommit_39 : decode prog_1_method_33_code 39 = .ok (.invokevirtual 168, 3) := by decide +kernel
theorem d_Log_writeAndPlayCommit_42 : decode prog_1_method_33_code 42 = .ok (.ireturn, 1) := by decide +kernel
theorem d_Log_requireChangeable_0 : decode prog_1_method_34_code 0 = .ok (.aload_n 1, 1) := by decide +kernel
theorem d_Log_requireChangeable_1 : decode prog_1_method_34_code 1 = .ok (.getfield 80, 3) := by decide +kernel
theorem d_Log_requireChangeable_4 : decode prog_1_method_34_code 4 = .ok (.getfield 119, 3) := by decide +kernel
theorem d_Log_requireChangeable_7 : decode prog_1_method_34_code 7 = .ok (.aload_n 0, 1) := by decide +kernel
theorem d_Log_requireChangeable_8 : decode prog_1_method_34_code 8 = .ok (.getfield 55, 3) := by decide +kernel
theorem d_Log_requireChangeable_11 : decode prog_1_method_34_code 11 = .ok (.getfield 119, 3) := by decide +kernel
theorem d_Log_requireChangeable_14 : decode prog_1_method_34_code 14 = .ok (.if_icmp .eq 14, 3) := by decide +kernel
theorem d_Log_requireChangeable_17 : decode prog_1_method_34_code 17 = .ok (.new 182, 3) := by decide +kernel
theorem d_Log_requireChangeable_20 : decode prog_1_method_34_code 20 = .ok (.dup, 1) := by decide +kernel
theorem d_Log_requireChangeable_21 : decode prog_1_method_34_code 21 = .ok (.ldc_w 264, 3) := by decide +kernel
theorem d_Log_requireChangeable_24 : decode prog_1_method_34_code 24 = .ok (.invokespecial 186, 3) := by decide +kernel
theorem d_Log_requireChangeable_27 : decode prog_1_method_34_code 27 = .ok (.athrow, 1) := by decide +kernel
theorem d_Log_requireChangeable_28 : decode prog_1_method_34_code 28 = .ok (.aload_n 0, 1) := by decide +kernel
theorem d_Log_requireChangeable_29 : decode prog_1_method_34_code 29 = .ok (.aload_n 2, 1) := by decide +kernel
theorem d_Log_requireChangeable_30 : decode prog_1_method_34_code 30 = .ok (.invokevirtual 266, 3) := by decide +kernel
theorem d_Log_requireChangeable_33 : decode prog_1_method_34_code 33 = .ok (.aload_n 2, 1) := by decide +kernel
theorem d_Log_requireChangeable_34 : decode prog_1_method_34_code 34 = .ok (.arraylength, 1) := by decide +kernel
theorem d_Log_requireChangeable_35 : decode prog_1_method_34_code 35 = .ok (.if_icmp .ge 14, 3) := by decide +kernel
theorem d_Log_requireChangeable_38 : decode prog_1_method_34_code 38 = .ok (.new 182, 3) := by decide +kernel
theorem d_Log_requireChangeable_41 : decode prog_1_method_34_code 41 = .ok (.dup, 1) := by decide +kernel
theorem d_Log_requireChangeable_42 : decode prog_1_method_34_code 42 = .ok (.ldc_w 269, 3) := by decide +kernel
theorem d_Log_requireChangeable_45 : decode prog_1_method_34_code 45 = .ok (.invokespecial 186, 3) := by decide +kernel
theorem d_Log_requireChangeable_48 : decode prog_1_method_34_code 48 = .ok (.athrow, 1) := by decide +kernel
theorem d_Log_requireChangeable_49 : decode prog_1_method_34_code 49 = .ok (.iconst 0, 1) := by decide +kernel
theorem d_Log_requireChangeable_50 : decode prog_1_method_34_code 50 = .ok (.istore_n 3, 1) := by decide +kernel
theorem d_Log_requireChangeable_51 : decode prog_1_method_34_code 51 = .ok (.iload_n 3, 1) := by decide +kernel
theorem d_Log_requireChangeable_52 : decode prog_1_method_34_code 52 = .ok (.iconst 2, 1) := by decide +kernel
theorem d_Log_requireChangeable_53 : decode prog_1_method_34_code 53 = .ok (.if_icmp .ge 35, 3) := by decide +kernel
theorem d_Log_requireChangeable_56 : decode prog_1_method_34_code 56 = .ok (.aload_n 0, 1) := by decide +kernel
theorem d_Log_requireChangeable_57 : decode prog_1_method_34_code 57 = .ok (.aload_n 0, 1) := by decide +kernel
theorem d_Log_requireChangeable_58 : decode prog_1_method_34_code 58 = .ok (.getfield 55, 3) := by decide +kernel
theorem d_Log_requireChangeable_61 : decode prog_1_method_34_code 61 = .ok (.iload_n 3, 1) := by decide +kernel
theorem d_Log_requireChangeable_62 : decode prog_1_method_34_code 62 = .ok (.invokevirtual 138, 3) := by decide +kernel
theorem d_Log_requireChangeable_65 : decode prog_1_method_34_code 65 = .ok (.invokevirtual 266, 3) := by decide +kernel
theorem d_Log_requireChangeable_68 : decode prog_1_method_34_code 68 = .ok (.ifCond .ne 14, 3) := by decide +kernel
theorem d_Log_requireChangeable_71 : decode prog_1_method_34_code 71 = .ok (.new 182, 3) := by decide +kernel
theorem d_Log_requireChangeable_74 : decode prog_1_method_34_code 74 = .ok (.dup, 1) := by decide +kernel
theorem d_Log_requireChangeable_75 : decode prog_1_method_34_code 75 = .ok (.ldc_w 271, 3) := by decide +kernel
theorem d_Log_requireChangeable_78 : decode prog_1_method_34_code 78 = .ok (.invokespecial 186, 3) := by decide +kernel
theorem d_Log_requireChangeable_81 : decode prog_1_method_34_code 81 = .ok (.athrow, 1) := by decide +kernel
theorem d_Log_requireChangeable_82 : decode prog_1_method_34_code 82 = .ok (.iinc 3 1, 3) := by decide +kernel
theorem d_Log_requireChangeable_85 : decode prog_1_method_34_code 85 = .ok (.goto (-34), 3) := by decide +kernel
theorem d_Log_requireChangeable_88 : decode prog_1_method_34_code 88 = .ok (.return_, 1) := by decide +kernel
theorem d_Log_upCount_0 : decode prog_1_method_35_code 0 = .ok (.iconst 0, 1) := by decide +kernel
theorem d_Log_upCount_1 : decode prog_1_method_35_code 1 = .ok (.istore_n 2, 1) := by decide +kernel
theorem d_Log_upCount_2 : decode prog_1_method_35_code 2 = .ok (.iconst 0, 1) := by decide +kernel
theorem d_Log_upCount_3 : decode prog_1_method_35_code 3 = .ok (.istore_n 3, 1) := by decide +kernel
theorem d_Log_upCount_4 : decode prog_1_method_35_code 4 = .ok (.iload_n 3, 1) := by decide +kernel
theorem d_Log_upCount_5 : decode prog_1_method_35_code 5 = .ok (.aload_n 1, 1) := by decide +kernel
theorem d_Log_upCount_6 : decode prog_1_method_35_code 6 = .ok (.arraylength, 1) := by decide +kernel
theorem d_Log_upCount_7 : decode prog_1_method_35_code 7 = .ok (.if_icmp .ge 26, 3) := by decide +kernel
theorem d_Log_upCount_10 : decode prog_1_method_35_code 10 = .ok (.aload_n 0, 1) := by decide +kernel
theorem d_Log_upCount_11 : decode prog_1_method_35_code 11 = .ok (.getfield 11, 3) := by decide +kernel
theorem d_Log_upCount_14 : decode prog_1_method_35_code 14 = .ok (.aload_n 1, 1) := by decide +kernel
theorem d_Log_upCount_15 : decode prog_1_method_35_code 15 = .ok (.iload_n 3, 1) := by decide +kernel
theorem d_Log_upCount_16 : decode prog_1_method_35_code 16 = .ok (.iaload, 1) := by decide +kernel
theorem d_Log_upCount_17 : decode prog_1_method_35_code 17 = .ok (.aaload, 1) := by decide +kernel
theorem d_Log_upCount_18 : decode prog_1_method_35_code 18 = .ok (.getfield 154, 3) := by decide +kernel
theorem d_Log_upCount_21 : decode prog_1_method_35_code 21 = .ok (.ifCond .eq 6, 3) := by decide +kernel
theorem d_Log_upCount_24 : decode prog_1_method_35_code 24 = .ok (.iinc 2 1, 3) := by decide +kernel
theorem d_Log_upCount_27 : decode prog_1_method_35_code 27 = .ok (.iinc 3 1, 3) := by decide +kernel
theorem d_Log_upCount_30 : decode prog_1_method_35_code 30 = .ok (.goto (-26), 3) := by decide +kernel
theorem d_Log_upCount_33 : decode prog_1_method_35_code 33 = .ok (.iload_n 2, 1) := by decide +kernel
theorem d_Log_upCount_34 : decode prog_1_method_35_code 34 = .ok (.ireturn, 1) := by decide +kernel
theorem d_Log_sealAll_0 : decode prog_1_method_36_code 0 = .ok (.iconst 0, 1) := by decide +kernel
theorem d_Log_sealAll_1 : decode prog_1_method_36_code 1 = .ok (.istore 4, 2) := by decide +kernel
theorem d_Log_sealAll_3 : decode prog_1_method_36_code 3 = .ok (.iload 4, 2) := by decide +kernel
theorem d_Log_sealAll_5 : decode prog_1_method_36_code 5 = .ok (.iconst 2, 1) := by decide +kernel
theorem d_Log_sealAll_6 : decode prog_1_method_36_code 6 = .ok (.if_icmp .ge 20, 3) := by decide +kernel
theorem d_Log_sealAll_9 : decode prog_1_method_36_code 9 = .ok (.aload_n 0, 1) := by decide +kernel
theorem d_Log_sealAll_10 : decode prog_1_method_36_code 10 = .ok (.aload_n 1, 1) := by decide +kernel
theorem d_Log_sealAll_11 : decode prog_1_method_36_code 11 = .ok (.iload 4, 2) := by decide +kernel
theorem d_Log_sealAll_13 : decode prog_1_method_36_code 13 = .ok (.invokevirtual 138, 3) := by decide +kernel
theorem d_Log_sealAll_16 : decode prog_1_method_36_code 16 = .ok (.iload_n 3, 1) := by decide +kernel
theorem d_Log_sealAll_17 : decode prog_1_method_36_code 17 = .ok (.invokevirtual 273, 3) := by decide +kernel
theorem d_Log_sealAll_20 : decode prog_1_method_36_code 20 = .ok (.iinc 4 1, 3) := by decide +kernel
theorem d_Log_sealAll_23 : decode prog_1_method_36_code 23 = .ok (.goto (-20), 3) := by decide +kernel
theorem d_Log_sealAll_26 : decode prog_1_method_36_code 26 = .ok (.aload_n 0, 1) := by decide +kernel
theorem d_Log_sealAll_27 : decode prog_1_method_36_code 27 = .ok (.aload_n 2, 1) := by decide +kernel
theorem d_Log_sealAll_28 : decode prog_1_method_36_code 28 = .ok (.iload_n 3, 1) := by decide +kernel
theorem d_Log_sealAll_29 : decode prog_1_method_36_code 29 = .ok (.invokevirtual 273, 3) := by decide +kernel
theorem d_Log_sealAll_32 : decode prog_1_method_36_code 32 = .ok (.return_, 1) := by decide +kernel
theorem d_Log_sealRow_0 : decode prog_1_method_37_code 0 = .ok (.iconst 0, 1) := by decide +kernel
theorem d_Log_sealRow_1 : decode prog_1_method_37_code 1 = .ok (.istore_n 3, 1) := by decide +kernel
theorem d_Log_sealRow_2 : decode prog_1_method_37_code 2 = .ok (.iload_n 3, 1) := by decide +kernel
theorem d_Log_sealRow_3 : decode prog_1_method_37_code 3 = .ok (.aload_n 1, 1) := by decide +kernel
theorem d_Log_sealRow_4 : decode prog_1_method_37_code 4 = .ok (.arraylength, 1) := by decide +kernel
theorem d_Log_sealRow_5 : decode prog_1_method_37_code 5 = .ok (.if_icmp .ge 33, 3) := by decide +kernel
theorem d_Log_sealRow_8 : decode prog_1_method_37_code 8 = .ok (.aload_n 0, 1) := by decide +kernel
theorem d_Log_sealRow_9 : decode prog_1_method_37_code 9 = .ok (.getfield 11, 3) := by decide +kernel
theorem d_Log_sealRow_12 : decode prog_1_method_37_code 12 = .ok (.aload_n 1, 1) := by decide +kernel
theorem d_Log_sealRow_13 : decode prog_1_method_37_code 13 = .ok (.iload_n 3, 1) := by decide +kernel
theorem d_Log_sealRow_14 : decode prog_1_method_37_code 14 = .ok (.iaload, 1) := by decide +kernel
theorem d_Log_sealRow_15 : decode prog_1_method_37_code 15 = .ok (.aaload, 1) := by decide +kernel
theorem d_Log_sealRow_16 : decode prog_1_method_37_code 16 = .ok (.astore 4, 2) := by decide +kernel
theorem d_Log_sealRow_18 : decode prog_1_method_37_code 18 = .ok (.aload 4, 2) := by decide +kernel
theorem d_Log_sealRow_20 : decode prog_1_method_37_code 20 = .ok (.getfield 154, 3) := by decide +kernel
theorem d_Log_sealRow_23 : decode prog_1_method_37_code 23 = .ok (.ifCond .eq 9, 3) := by decide +kernel
theorem d_Log_sealRow_26 : decode prog_1_method_37_code 26 = .ok (.aload 4, 2) := by decide +kernel
theorem d_Log_sealRow_28 : decode prog_1_method_37_code 28 = .ok (.iload_n 2, 1) := by decide +kernel
theorem d_Log_sealRow_29 : decode prog_1_method_37_code 29 = .ok (.putfield 158, 3) := by decide +kernel
theorem d_Log_sealRow_32 : decode prog_1_method_37_code 32 = .ok (.iinc 3 1, 3) := by decide +kernel
theorem d_Log_sealRow_35 : decode prog_1_method_37_code 35 = .ok (.goto (-33), 3) := by decide +kernel
theorem d_Log_sealRow_38 : decode prog_1_method_37_code 38 = .ok (.return_, 1) := by decide +kernel
theorem d_Log_merge_0 : decode prog_1_method_38_code 0 = .ok (.iload_n 3, 1) := by decide +kernel
theorem d_Log_merge_1 : decode prog_1_method_38_code 1 = .ok (.istore 4, 2) := by decide +kernel
theorem d_Log_merge_3 : decode prog_1_method_38_code 3 = .ok (.iload 4, 2) := by decide +kernel
theorem d_Log_merge_5 : decode prog_1_method_38_code 5 = .ok (.bipush 60, 2) := by decide +kernel
theorem d_Log_merge_7 : decode prog_1_method_38_code 7 = .ok (.if_icmp .ge 51, 3) := by decide +kernel
theorem d_Log_merge_10 : decode prog_1_method_38_code 10 = .ok (.aload_n 0, 1) := by decide +kernel
theorem d_Log_merge_11 : decode prog_1_method_38_code 11 = .ok (.aload_n 1, 1) := by decide +kernel
theorem d_Log_merge_12 : decode prog_1_method_38_code 12 = .ok (.iload 4, 2) := by decide +kernel
theorem d_Log_merge_14 : decode prog_1_method_38_code 14 = .ok (.invokevirtual 277, 3) := by decide +kernel
theorem d_Log_merge_17 : decode prog_1_method_38_code 17 = .ok (.astore 5, 2) := by decide +kernel
theorem d_Log_merge_19 : decode prog_1_method_38_code 19 = .ok (.iconst 0, 1) := by decide +kernel
theorem d_Log_merge_20 : decode prog_1_method_38_code 20 = .ok (.istore 6, 2) := by decide +kernel
theorem d_Log_merge_22 : decode prog_1_method_38_code 22 = .ok (.iload 6, 2) := by decide +kernel
theorem d_Log_merge_24 : decode prog_1_method_38_code 24 = .ok (.aload_n 2, 1) := by decide +kernel
theorem d_Log_merge_25 : decode prog_1_method_38_code 25 = .ok (.arraylength, 1) := by decide +kernel
theorem d_Log_merge_26 : decode prog_1_method_38_code 26 = .ok (.if_icmp .ge 26, 3) := by decide +kernel
theorem d_Log_merge_29 : decode prog_1_method_38_code 29 = .ok (.aload_n 0, 1) := by decide +kernel
theorem d_Log_merge_30 : decode prog_1_method_38_code 30 = .ok (.getfield 11, 3) := by decide +kernel
theorem d_Log_merge_33 : decode prog_1_method_38_code 33 = .ok (.aload_n 2, 1) := by decide +kernel
theorem d_Log_merge_34 : decode prog_1_method_38_code 34 = .ok (.iload 6, 2) := by decide +kernel
theorem d_Log_merge_36 : decode prog_1_method_38_code 36 = .ok (.iaload, 1) := by decide +kernel
theorem d_Log_merge_37 : decode prog_1_method_38_code 37 = .ok (.aaload, 1) := by decide +kernel
theorem d_Log_merge_38 : decode prog_1_method_38_code 38 = .ok (.getfield 111, 3) := by decide +kernel
theorem d_Log_merge_41 : decode prog_1_method_38_code 41 = .ok (.iload 4, 2) := by decide +kernel
theorem d_Log_merge_43 : decode prog_1_method_38_code 43 = .ok (.aload 5, 2) := by decide +kernel
theorem d_Log_merge_45 : decode prog_1_method_38_code 45 = .ok (.aastore, 1) := by decide +kernel
theorem d_Log_merge_46 : decode prog_1_method_38_code 46 = .ok (.iinc 6 1, 3) := by decide +kernel
theorem d_Log_merge_49 : decode prog_1_method_38_code 49 = .ok (.goto (-27), 3) := by decide +kernel
theorem d_Log_merge_52 : decode prog_1_method_38_code 52 = .ok (.iinc 4 2, 3) := by decide +kernel
theorem d_Log_merge_55 : decode prog_1_method_38_code 55 = .ok (.goto (-52), 3) := by decide +kernel
theorem d_Log_merge_58 : decode prog_1_method_38_code 58 = .ok (.return_, 1) := by decide +kernel
theorem d_Log_firstHeld_0 : decode prog_1_method_39_code 0 = .ok (.iconst 0, 1) := by decide +kernel
theorem d_Log_firstHeld_1 : decode prog_1_method_39_code 1 = .ok (.istore_n 3, 1) := by decide +kernel
theorem d_Log_firstHeld_2 : decode prog_1_method_39_code 2 = .ok (.iload_n 3, 1) := by decide +kernel
theorem d_Log_firstHeld_3 : decode prog_1_method_39_code 3 = .ok (.aload_n 1, 1) := by decide +kernel
theorem d_Log_firstHeld_4 : decode prog_1_method_39_code 4 = .ok (.arraylength, 1) := by decide +kernel
theorem d_Log_firstHeld_5 : decode prog_1_method_39_code 5 = .ok (.if_icmp .ge 44, 3) := by decide +kernel
theorem d_Log_firstHeld_8 : decode prog_1_method_39_code 8 = .ok (.aload_n 0, 1) := by decide +kernel
theorem d_Log_firstHeld_9 : decode prog_1_method_39_code 9 = .ok (.getfield 11, 3) := by decide +kernel
theorem d_Log_firstHeld_12 : decode prog_1_method_39_code 12 = .ok (.aload_n 1, 1) := by decide +kernel
theorem d_Log_firstHeld_13 : decode prog_1_method_39_code 13 = .ok (.iload_n 3, 1) := by decide +kernel
theorem d_Log_firstHeld_14 : decode prog_1_method_39_code 14 = .ok (.iaload, 1) := by decide +kernel
theorem d_Log_firstHeld_15 : decode prog_1_method_39_code 15 = .ok (.aaload, 1) := by decide +kernel
theorem d_Log_firstHeld_16 : decode prog_1_method_39_code 16 = .ok (.astore 4, 2) := by decide +kernel
theorem d_Log_firstHeld_18 : decode prog_1_method_39_code 18 = .ok (.aload 4, 2) := by decide +kernel
theorem d_Log_firstHeld_20 : decode prog_1_method_39_code 20 = .ok (.getfield 154, 3) := by decide +kernel
theorem d_Log_firstHeld_23 : decode prog_1_method_39_code 23 = .ok (.ifCond .eq 20, 3) := by decide +kernel
theorem d_Log_firstHeld_26 : decode prog_1_method_39_code 26 = .ok (.aload 4, 2) := by decide +kernel
theorem d_Log_firstHeld_28 : decode prog_1_method_39_code 28 = .ok (.iload_n 2, 1) := by decide +kernel
theorem d_Log_firstHeld_29 : decode prog_1_method_39_code 29 = .ok (.invokevirtual 107, 3) := by decide +kernel
theorem d_Log_firstHeld_32 : decode prog_1_method_39_code 32 = .ok (.ifCond .eq 11, 3) := by decide +kernel
theorem d_Log_firstHeld_35 : decode prog_1_method_39_code 35 = .ok (.aload 4, 2) := by decide +kernel
theorem d_Log_firstHeld_37 : decode prog_1_method_39_code 37 = .ok (.getfield 111, 3) := by decide +kernel
theorem d_Log_firstHeld_40 : decode prog_1_method_39_code 40 = .ok (.iload_n 2, 1) := by decide +kernel
theorem d_Log_firstHeld_41 : decode prog_1_method_39_code 41 = .ok (.aaload, 1) := by decide +kernel
theorem d_Log_firstHeld_42 : decode prog_1_method_39_code 42 = .ok (.areturn, 1) := by decide +kernel
theorem d_Log_firstHeld_43 : decode prog_1_method_39_code 43 = .ok (.iinc 3 1, 3) := by decide +kernel
theorem d_Log_firstHeld_46 : decode prog_1_method_39_code 46 = .ok (.goto (-44), 3) := by decide +kernel
theorem d_Log_firstHeld_49 : decode prog_1_method_39_code 49 = .ok (.aload_n 0, 1) := by decide +kernel
theorem d_Log_firstHeld_50 : decode prog_1_method_39_code 50 = .ok (.getfield 36, 3) := by decide +kernel
theorem d_Log_firstHeld_53 : decode prog_1_method_39_code 53 = .ok (.areturn, 1) := by decide +kernel
theorem d_Log_firstFreeOffset_0 : decode prog_1_method_40_code 0 = .ok (.bipush 59, 2) := by decide +kernel
theorem d_Log_firstFreeOffset_2 : decode prog_1_method_40_code 2 = .ok (.istore_n 1, 1) := by decide +kernel
theorem d_Log_firstFreeOffset_3 : decode prog_1_method_40_code 3 = .ok (.iload_n 1, 1) := by decide +kernel
theorem d_Log_firstFreeOffset_4 : decode prog_1_method_40_code 4 = .ok (.ifCond .lt 32, 3) := by decide +kernel
theorem d_Log_firstFreeOffset_7 : decode prog_1_method_40_code 7 = .ok (.aload_n 0, 1) := by decide +kernel
theorem d_Log_firstFreeOffset_8 : decode prog_1_method_40_code 8 = .ok (.aload_n 0, 1) := by decide +kernel
theorem d_Log_firstFreeOffset_9 : decode prog_1_method_40_code 9 = .ok (.getfield 55, 3) := by decide +kernel
theorem d_Log_firstFreeOffset_12 : decode prog_1_method_40_code 12 = .ok (.iload_n 1, 1) := by decide +kernel
theorem d_Log_firstFreeOffset_13 : decode prog_1_method_40_code 13 = .ok (.invokevirtual 83, 3) := by decide +kernel
theorem d_Log_firstFreeOffset_16 : decode prog_1_method_40_code 16 = .ok (.iload_n 1, 1) := by decide +kernel
theorem d_Log_firstFreeOffset_17 : decode prog_1_method_40_code 17 = .ok (.invokevirtual 277, 3) := by decide +kernel
theorem d_Log_firstFreeOffset_20 : decode prog_1_method_40_code 20 = .ok (.getfield 90, 3) := by decide +kernel
theorem d_Log_firstFreeOffset_23 : decode prog_1_method_40_code 23 = .ok (.ifCond .eq 7, 3) := by decide +kernel
theorem d_Log_firstFreeOffset_26 : decode prog_1_method_40_code 26 = .ok (.iload_n 1, 1) := by decide +kernel
theorem d_Log_firstFreeOffset_27 : decode prog_1_method_40_code 27 = .ok (.iconst 1, 1) := by decide +kernel
theorem d_Log_firstFreeOffset_28 : decode prog_1_method_40_code 28 = .ok (.iadd, 1) := by decide +kernel
theorem d_Log_firstFreeOffset_29 : decode prog_1_method_40_code 29 = .ok (.ireturn, 1) := by decide +kernel
theorem d_Log_firstFreeOffset_30 : decode prog_1_method_40_code 30 = .ok (.iinc 1 (-1), 3) := by decide +kernel
theorem d_Log_firstFreeOffset_33 : decode prog_1_method_40_code 33 = .ok (.goto (-30), 3) := by decide +kernel
theorem d_Log_firstFreeOffset_36 : decode prog_1_method_40_code 36 = .ok (.iconst 0, 1) := by decide +kernel
theorem d_Log_firstFreeOffset_37 : decode prog_1_method_40_code 37 = .ok (.ireturn, 1) := by decide +kernel
end
section
theorem d_Unit_init_0 : decode prog_6_method_1_code 0 = .ok (.aload_n 0, 1) := by decide +kernel
theorem d_Unit_init_1 : decode prog_6_method_1_code 1 = .ok (.invokespecial 3, 3) := by decide +kernel
theorem d_Unit_init_4 : decode prog_6_method_1_code 4 = .ok (.aload_n 0, 1) := by decide +kernel
theorem d_Unit_init_5 : decode prog_6_method_1_code 5 = .ok (.bipush 60, 2) := by decide +kernel
theorem d_Unit_init_7 : decode prog_6_method_1_code 7 = .ok (.anewarray 9, 3) := by decide +kernel
theorem d_Unit_init_10 : decode prog_6_method_1_code 10 = .ok (.putfield 11, 3) := by decide +kernel
theorem d_Unit_init_13 : decode prog_6_method_1_code 13 = .ok (.aload_n 0, 1) := by decide +kernel
theorem d_Unit_init_14 : decode prog_6_method_1_code 14 = .ok (.iconst 1, 1) := by decide +kernel
theorem d_Unit_init_15 : decode prog_6_method_1_code 15 = .ok (.putfield 17, 3) := by decide +kernel
theorem d_Unit_init_18 : decode prog_6_method_1_code 18 = .ok (.aload_n 0, 1) := by decide +kernel
theorem d_Unit_init_19 : decode prog_6_method_1_code 19 = .ok (.iconst 0, 1) := by decide +kernel
theorem d_Unit_init_20 : decode prog_6_method_1_code 20 = .ok (.putfield 21, 3) := by decide +kernel
theorem d_Unit_init_23 : decode prog_6_method_1_code 23 = .ok (.iconst 0, 1) := by decide +kernel
theorem d_Unit_init_24 : decode prog_6_method_1_code 24 = .ok (.istore_n 2, 1) := by decide +kernel
theorem d_Unit_init_25 : decode prog_6_method_1_code 25 = .ok (.iload_n 2, 1) := by decide +kernel
theorem d_Unit_init_26 : decode prog_6_method_1_code 26 = .ok (.bipush 60, 2) := by decide +kernel
theorem d_Unit_init_28 : decode prog_6_method_1_code 28 = .ok (.if_icmp .ge 16, 3) := by decide +kernel
theorem d_Unit_init_31 : decode prog_6_method_1_code 31 = .ok (.aload_n 0, 1) := by decide +kernel
theorem d_Unit_init_32 : decode prog_6_method_1_code 32 = .ok (.getfield 11, 3) := by decide +kernel
theorem d_Unit_init_35 : decode prog_6_method_1_code 35 = .ok (.iload_n 2, 1) := by decide +kernel
theorem d_Unit_init_36 : decode prog_6_method_1_code 36 = .ok (.aload_n 1, 1) := by decide +kernel
theorem d_Unit_init_37 : decode prog_6_method_1_code 37 = .ok (.aastore, 1) := by decide +kernel
theorem d_Unit_init_38 : decode prog_6_method_1_code 38 = .ok (.iinc 2 1, 3) := by decide +kernel
theorem d_Unit_init_41 : decode prog_6_method_1_code 41 = .ok (.goto (-16), 3) := by decide +kernel
theorem d_Unit_init_44 : decode prog_6_method_1_code 44 = .ok (.return_, 1) := by decide +kernel
theorem d_Unit_holds_0 : decode prog_6_method_2_code 0 = .ok (.aload_n 0, 1) := by decide +kernel
theorem d_Unit_holds_1 : decode prog_6_method_2_code 1 = .ok (.getfield 11, 3) := by decide +kernel
theorem d_Unit_holds_4 : decode prog_6_method_2_code 4 = .ok (.iload_n 1, 1) := by decide +kernel
theorem d_Unit_holds_5 : decode prog_6_method_2_code 5 = .ok (.aaload, 1) := by decide +kernel
theorem d_Unit_holds_6 : decode prog_6_method_2_code 6 = .ok (.getfield 25, 3) := by decide +kernel
theorem d_Unit_holds_9 : decode prog_6_method_2_code 9 = .ok (.ifCond .eq 7, 3) := by decide +kernel
theorem d_Unit_holds_12 : decode prog_6_method_2_code 12 = .ok (.iconst 1, 1) := by decide +kernel
theorem d_Unit_holds_13 : decode prog_6_method_2_code 13 = .ok (.goto 4, 3) := by decide +kernel
theorem d_Unit_holds_16 : decode prog_6_method_2_code 16 = .ok (.iconst 0, 1) := by decide +kernel
theorem d_Unit_holds_17 : decode prog_6_method_2_code 17 = .ok (.ireturn, 1) := by decide +kernel
theorem d_Entry_init_0 : decode prog_3_method_1_code 0 = .ok (.aload_n 0, 1) := by decide +kernel
theorem d_Entry_init_1 : decode prog_3_method_1_code 1 = .ok (.invokespecial 1, 3) := by decide +kernel
theorem d_Entry_init_4 : decode prog_3_method_1_code 4 = .ok (.aload_n 0, 1) := by decide +kernel
theorem d_Entry_init_5 : decode prog_3_method_1_code 5 = .ok (.iload_n 1, 1) := by decide +kernel
theorem d_Entry_init_6 : decode prog_3_method_1_code 6 = .ok (.putfield 7, 3) := by decide +kernel
theorem d_Entry_init_9 : decode prog_3_method_1_code 9 = .ok (.aload_n 0, 1) := by decide +kernel
theorem d_Entry_init_10 : decode prog_3_method_1_code 10 = .ok (.iload_n 2, 1) := by decide +kernel
theorem d_Entry_init_11 : decode prog_3_method_1_code 11 = .ok (.putfield 13, 3) := by decide +kernel
theorem d_Entry_init_14 : decode prog_3_method_1_code 14 = .ok (.aload_n 0, 1) := by decide +kernel
theorem d_Entry_init_15 : decode prog_3_method_1_code 15 = .ok (.aload_n 3, 1) := by decide +kernel
theorem d_Entry_init_16 : decode prog_3_method_1_code 16 = .ok (.putfield 16, 3) := by decide +kernel
theorem d_Entry_init_19 : decode prog_3_method_1_code 19 = .ok (.return_, 1) := by decide +kernel
theorem d_Layout_init_0 : decode prog_4_method_1_code 0 = .ok (.aload_n 0, 1) := by decide +kernel
theorem d_Layout_init_1 : decode prog_4_method_1_code 1 = .ok (.invokespecial 3, 3) := by decide +kernel
theorem d_Layout_init_4 : decode prog_4_method_1_code 4 = .ok (.aload_n 0, 1) := by decide +kernel
theorem d_Layout_init_5 : decode prog_4_method_1_code 5 = .ok (.iload_n 1, 1) := by decide +kernel
theorem d_Layout_init_6 : decode prog_4_method_1_code 6 = .ok (.putfield 9, 3) := by decide +kernel
theorem d_Layout_init_9 : decode prog_4_method_1_code 9 = .ok (.aload_n 0, 1) := by decide +kernel
theorem d_Layout_init_10 : decode prog_4_method_1_code 10 = .ok (.aload_n 2, 1) := by decide +kernel
theorem d_Layout_init_11 : decode prog_4_method_1_code 11 = .ok (.putfield 15, 3) := by decide +kernel
theorem d_Layout_init_14 : decode prog_4_method_1_code 14 = .ok (.aload_n 0, 1) := by decide +kernel
theorem d_Layout_init_15 : decode prog_4_method_1_code 15 = .ok (.aload_n 3, 1) := by decide +kernel
theorem d_Layout_init_16 : decode prog_4_method_1_code 16 = .ok (.putfield 19, 3) := by decide +kernel
theorem d_Layout_init_19 : decode prog_4_method_1_code 19 = .ok (.return_, 1) := by decide +kernel
theorem d_Layout_chain_0 : decode prog_4_method_2_code 0 = .ok (.iload_n 1, 1) := by decide +kernel
theorem d_Layout_chain_1 : decode prog_4_method_2_code 1 = .ok (.ifCond .ne 10, 3) := by decide +kernel
theorem d_Layout_chain_4 : decode prog_4_method_2_code 4 = .ok (.aload_n 0, 1) := by decide +kernel
theorem d_Layout_chain_5 : decode prog_4_method_2_code 5 = .ok (.getfield 15, 3) := by decide +kernel
theorem d_Layout_chain_8 : decode prog_4_method_2_code 8 = .ok (.goto 7, 3) := by decide +kernel
theorem d_Layout_chain_11 : decode prog_4_method_2_code 11 = .ok (.aload_n 0, 1) := by decide +kernel
theorem d_Layout_chain_12 : decode prog_4_method_2_code 12 = .ok (.getfield 19, 3) := by decide +kernel
theorem d_Layout_chain_15 : decode prog_4_method_2_code 15 = .ok (.areturn, 1) := by decide +kernel
theorem d_Layout_chainOf_0 : decode prog_4_method_3_code 0 = .ok (.aload_n 0, 1) := by decide +kernel
theorem d_Layout_chainOf_1 : decode prog_4_method_3_code 1 = .ok (.iload_n 1, 1) := by decide +kernel
theorem d_Layout_chainOf_2 : decode prog_4_method_3_code 2 = .ok (.iconst 2, 1) := by decide +kernel
theorem d_Layout_chainOf_3 : decode prog_4_method_3_code 3 = .ok (.irem, 1) := by decide +kernel
theorem d_Layout_chainOf_4 : decode prog_4_method_3_code 4 = .ok (.invokevirtual 22, 3) := by decide +kernel
theorem d_Layout_chainOf_7 : decode prog_4_method_3_code 7 = .ok (.areturn, 1) := by decide +kernel
theorem d_Layout_next_0 : decode prog_4_method_4_code 0 = .ok (.iload_n 1, 1) := by decide +kernel
theorem d_Layout_next_1 : decode prog_4_method_4_code 1 = .ok (.ifCond .ne 24, 3) := by decide +kernel
theorem d_Layout_next_4 : decode prog_4_method_4_code 4 = .ok (.new 10, 3) := by decide +kernel
theorem d_Layout_next_7 : decode prog_4_method_4_code 7 = .ok (.dup, 1) := by decide +kernel
theorem d_Layout_next_8 : decode prog_4_method_4_code 8 = .ok (.aload_n 0, 1) := by decide +kernel
theorem d_Layout_next_9 : decode prog_4_method_4_code 9 = .ok (.getfield 9, 3) := by decide +kernel
theorem d_Layout_next_12 : decode prog_4_method_4_code 12 = .ok (.iconst 1, 1) := by decide +kernel
theorem d_Layout_next_13 : decode prog_4_method_4_code 13 = .ok (.iadd, 1) := by decide +kernel
theorem d_Layout_next_14 : decode prog_4_method_4_code 14 = .ok (.aload_n 2, 1) := by decide +kernel
theorem d_Layout_next_15 : decode prog_4_method_4_code 15 = .ok (.aload_n 0, 1) := by decide +kernel
theorem d_Layout_next_16 : decode prog_4_method_4_code 16 = .ok (.getfield 19, 3) := by decide +kernel
theorem d_Layout_next_19 : decode prog_4_method_4_code 19 = .ok (.invokespecial 26, 3) := by decide +kernel
theorem d_Layout_next_22 : decode prog_4_method_4_code 22 = .ok (.goto 21, 3) := by decide +kernel
theorem d_Layout_next_25 : decode prog_4_method_4_code 25 = .ok (.new 10, 3) := by decide +kernel
theorem d_Layout_next_28 : decode prog_4_method_4_code 28 = .ok (.dup, 1) := by decide +kernel
theorem d_Layout_next_29 : decode prog_4_method_4_code 29 = .ok (.aload_n 0, 1) := by decide +kernel
theorem d_Layout_next_30 : decode prog_4_method_4_code 30 = .ok (.getfield 9, 3) := by decide +kernel
theorem d_Layout_next_33 : decode prog_4_method_4_code 33 = .ok (.iconst 1, 1) := by decide +kernel
theorem d_Layout_next_34 : decode prog_4_method_4_code 34 = .ok (.iadd, 1) := by decide +kernel
theorem d_Layout_next_35 : decode prog_4_method_4_code 35 = .ok (.aload_n 0, 1) := by decide +kernel
theorem d_Layout_next_36 : decode prog_4_method_4_code 36 = .ok (.getfield 15, 3) := by decide +kernel
theorem d_Layout_next_39 : decode prog_4_method_4_code 39 = .ok (.aload_n 2, 1) := by decide +kernel
theorem d_Layout_next_40 : decode prog_4_method_4_code 40 = .ok (.invokespecial 26, 3) := by decide +kernel
theorem d_Layout_next_43 : decode prog_4_method_4_code 43 = .ok (.areturn, 1) := by decide +kernel
theorem d_Seq_init_0 : decode prog_5_method_1_code 0 = .ok (.aload_n 0, 1) := by decide +kernel
theorem d_Seq_init_1 : decode prog_5_method_1_code 1 = .ok (.invokespecial 3, 3) := by decide +kernel
theorem d_Seq_init_4 : decode prog_5_method_1_code 4 = .ok (.aload_n 0, 1) := by decide +kernel
theorem d_Seq_init_5 : decode prog_5_method_1_code 5 = .ok (.iconst 0, 1) := by decide +kernel
theorem d_Seq_init_6 : decode prog_5_method_1_code 6 = .ok (.putfield 9, 3) := by decide +kernel
theorem d_Seq_init_9 : decode prog_5_method_1_code 9 = .ok (.aload_n 0, 1) := by decide +kernel
theorem d_Seq_init_10 : decode prog_5_method_1_code 10 = .ok (.iconst 1, 1) := by decide +kernel
theorem d_Seq_init_11 : decode prog_5_method_1_code 11 = .ok (.putfield 15, 3) := by decide +kernel
theorem d_Seq_init_14 : decode prog_5_method_1_code 14 = .ok (.aload_n 0, 1) := by decide +kernel
theorem d_Seq_init_15 : decode prog_5_method_1_code 15 = .ok (.iconst 0, 1) := by decide +kernel
theorem d_Seq_init_16 : decode prog_5_method_1_code 16 = .ok (.putfield 19, 3) := by decide +kernel
theorem d_Seq_init_19 : decode prog_5_method_1_code 19 = .ok (.return_, 1) := by decide +kernel
theorem d_Seq_restart_0 : decode prog_5_method_2_code 0 = .ok (.aload_n 0, 1) := by decide +kernel
theorem d_Seq_restart_1 : decode prog_5_method_2_code 1 = .ok (.iconst 0, 1) := by decide +kernel
theorem d_Seq_restart_2 : decode prog_5_method_2_code 2 = .ok (.putfield 9, 3) := by decide +kernel
theorem d_Seq_restart_5 : decode prog_5_method_2_code 5 = .ok (.aload_n 0, 1) := by decide +kernel
theorem d_Seq_restart_6 : decode prog_5_method_2_code 6 = .ok (.iload_n 1, 1) := by decide +kernel
theorem d_Seq_restart_7 : decode prog_5_method_2_code 7 = .ok (.putfield 15, 3) := by decide +kernel
theorem d_Seq_restart_10 : decode prog_5_method_2_code 10 = .ok (.aload_n 0, 1) := by decide +kernel
theorem d_Seq_restart_11 : decode prog_5_method_2_code 11 = .ok (.iload_n 2, 1) := by decide +kernel
theorem d_Seq_restart_12 : decode prog_5_method_2_code 12 = .ok (.putfield 19, 3) := by decide +kernel
theorem d_Seq_restart_15 : decode prog_5_method_2_code 15 = .ok (.return_, 1) := by decide +kernel
theorem d_Work_init_0 : decode prog_7_method_1_code 0 = .ok (.aload_n 0, 1) := by decide +kernel
theorem d_Work_init_1 : decode prog_7_method_1_code 1 = .ok (.invokespecial 3, 3) := by decide +kernel
theorem d_Work_init_4 : decode prog_7_method_1_code 4 = .ok (.aload_n 0, 1) := by decide +kernel
theorem d_Work_init_5 : decode prog_7_method_1_code 5 = .ok (.iconst 4, 1) := by decide +kernel
theorem d_Work_init_6 : decode prog_7_method_1_code 6 = .ok (.newarray .boolean, 2) := by decide +kernel
theorem d_Work_init_8 : decode prog_7_method_1_code 8 = .ok (.putfield 9, 3) := by decide +kernel
theorem d_Work_init_11 : decode prog_7_method_1_code 11 = .ok (.aload_n 0, 1) := by decide +kernel
theorem d_Work_init_12 : decode prog_7_method_1_code 12 = .ok (.iconst 4, 1) := by decide +kernel
theorem d_Work_init_13 : decode prog_7_method_1_code 13 = .ok (.newarray .int, 2) := by decide +kernel
theorem d_Work_init_15 : decode prog_7_method_1_code 15 = .ok (.putfield 15, 3) := by decide +kernel
theorem d_Work_init_18 : decode prog_7_method_1_code 18 = .ok (.aload_n 0, 1) := by decide +kernel
theorem d_Work_init_19 : decode prog_7_method_1_code 19 = .ok (.iconst 4, 1) := by decide +kernel
theorem d_Work_init_20 : decode prog_7_method_1_code 20 = .ok (.newarray .boolean, 2) := by decide +kernel
theorem d_Work_init_22 : decode prog_7_method_1_code 22 = .ok (.putfield 19, 3) := by decide +kernel
theorem d_Work_init_25 : decode prog_7_method_1_code 25 = .ok (.aload_n 0, 1) := by decide +kernel
theorem d_Work_init_26 : decode prog_7_method_1_code 26 = .ok (.iconst 4, 1) := by decide +kernel
theorem d_Work_init_27 : decode prog_7_method_1_code 27 = .ok (.newarray .int, 2) := by decide +kernel
theorem d_Work_init_29 : decode prog_7_method_1_code 29 = .ok (.putfield 22, 3) := by decide +kernel
theorem d_Work_init_32 : decode prog_7_method_1_code 32 = .ok (.return_, 1) := by decide +kernel
theorem d_Work_clear_0 : decode prog_7_method_2_code 0 = .ok (.iconst 0, 1) := by decide +kernel
theorem d_Work_clear_1 : decode prog_7_method_2_code 1 = .ok (.istore_n 1, 1) := by decide +kernel
theorem d_Work_clear_2 : decode prog_7_method_2_code 2 = .ok (.iload_n 1, 1) := by decide +kernel
theorem d_Work_clear_3 : decode prog_7_method_2_code 3 = .ok (.iconst 4, 1) := by decide +kernel
theorem d_Work_clear_4 : decode prog_7_method_2_code 4 = .ok (.if_icmp .ge 23, 3) := by decide +kernel
theorem d_Work_clear_7 : decode prog_7_method_2_code 7 = .ok (.aload_n 0, 1) := by decide +kernel
theorem d_Work_clear_8 : decode prog_7_method_2_code 8 = .ok (.getfield 9, 3) := by decide +kernel
theorem d_Work_clear_11 : decode prog_7_method_2_code 11 = .ok (.iload_n 1, 1) := by decide +kernel
theorem d_Work_clear_12 : decode prog_7_method_2_code 12 = .ok (.iconst 0, 1) := by decide +kernel
theorem d_Work_clear_13 : decode prog_7_method_2_code 13 = .ok (.bastore, 1) := by decide +kernel
theorem d_Work_clear_14 : decode prog_7_method_2_code 14 = .ok (.aload_n 0, 1) := by decide +kernel
theorem d_Work_clear_15 : decode prog_7_method_2_code 15 = .ok (.getfield 19, 3) := by decide +kernel
theorem d_Work_clear_18 : decode prog_7_method_2_code 18 = .ok (.iload_n 1, 1) := by decide +kernel
theorem d_Work_clear_19 : decode prog_7_method_2_code 19 = .ok (.iconst 0, 1) := by decide +kernel
theorem d_Work_clear_20 : decode prog_7_method_2_code 20 = .ok (.bastore, 1) := by decide +kernel
theorem d_Work_clear_21 : decode prog_7_method_2_code 21 = .ok (.iinc 1 1, 3) := by decide +kernel
theorem d_Work_clear_24 : decode prog_7_method_2_code 24 = .ok (.goto (-22), 3) := by decide +kernel
theorem d_Work_clear_27 : decode prog_7_method_2_code 27 = .ok (.return_, 1) := by decide +kernel
theorem d_Work_noteRead_0 : decode prog_7_method_3_code 0 = .ok (.aload_n 0, 1) := by decide +kernel
theorem d_Work_noteRead_1 : decode prog_7_method_3_code 1 = .ok (.getfield 9, 3) := by decide +kernel
theorem d_Work_noteRead_4 : decode prog_7_method_3_code 4 = .ok (.iload_n 1, 1) := by decide +kernel
theorem d_Work_noteRead_5 : decode prog_7_method_3_code 5 = .ok (.baload, 1) := by decide +kernel
theorem d_Work_noteRead_6 : decode prog_7_method_3_code 6 = .ok (.ifCond .ne 17, 3) := by decide +kernel
theorem d_Work_noteRead_9 : decode prog_7_method_3_code 9 = .ok (.aload_n 0, 1) := by decide +kernel
theorem d_Work_noteRead_10 : decode prog_7_method_3_code 10 = .ok (.getfield 9, 3) := by decide +kernel
theorem d_Work_noteRead_13 : decode prog_7_method_3_code 13 = .ok (.iload_n 1, 1) := by decide +kernel
theorem d_Work_noteRead_14 : decode prog_7_method_3_code 14 = .ok (.iconst 1, 1) := by decide +kernel
theorem d_Work_noteRead_15 : decode prog_7_method_3_code 15 = .ok (.bastore, 1) := by decide +kernel
theorem d_Work_noteRead_16 : decode prog_7_method_3_code 16 = .ok (.aload_n 0, 1) := by decide +kernel
theorem d_Work_noteRead_17 : decode prog_7_method_3_code 17 = .ok (.getfield 15, 3) := by decide +kernel
theorem d_Work_noteRead_20 : decode prog_7_method_3_code 20 = .ok (.iload_n 1, 1) := by decide +kernel
theorem d_Work_noteRead_21 : decode prog_7_method_3_code 21 = .ok (.iload_n 2, 1) := by decide +kernel
theorem d_Work_noteRead_22 : decode prog_7_method_3_code 22 = .ok (.iastore, 1) := by decide +kernel
theorem d_Work_noteRead_23 : decode prog_7_method_3_code 23 = .ok (.return_, 1) := by decide +kernel
theorem d_Work_setPut_0 : decode prog_7_method_4_code 0 = .ok (.aload_n 0, 1) := by decide +kernel
theorem d_Work_setPut_1 : decode prog_7_method_4_code 1 = .ok (.getfield 19, 3) := by decide +kernel
theorem d_Work_setPut_4 : decode prog_7_method_4_code 4 = .ok (.iload_n 1, 1) := by decide +kernel
theorem d_Work_setPut_5 : decode prog_7_method_4_code 5 = .ok (.iconst 1, 1) := by decide +kernel
theorem d_Work_setPut_6 : decode prog_7_method_4_code 6 = .ok (.bastore, 1) := by decide +kernel
theorem d_Work_setPut_7 : decode prog_7_method_4_code 7 = .ok (.aload_n 0, 1) := by decide +kernel
theorem d_Work_setPut_8 : decode prog_7_method_4_code 8 = .ok (.getfield 22, 3) := by decide +kernel
theorem d_Work_setPut_11 : decode prog_7_method_4_code 11 = .ok (.iload_n 1, 1) := by decide +kernel
theorem d_Work_setPut_12 : decode prog_7_method_4_code 12 = .ok (.iload_n 2, 1) := by decide +kernel
theorem d_Work_setPut_13 : decode prog_7_method_4_code 13 = .ok (.iastore, 1) := by decide +kernel
theorem d_Work_setPut_14 : decode prog_7_method_4_code 14 = .ok (.return_, 1) := by decide +kernel
theorem d_Work_putCount_0 : decode prog_7_method_5_code 0 = .ok (.iconst 0, 1) := by decide +kernel
theorem d_Work_putCount_1 : decode prog_7_method_5_code 1 = .ok (.istore_n 1, 1) := by decide +kernel
theorem d_Work_putCount_2 : decode prog_7_method_5_code 2 = .ok (.iconst 0, 1) := by decide +kernel
theorem d_Work_putCount_3 : decode prog_7_method_5_code 3 = .ok (.istore_n 2, 1) := by decide +kernel
theorem d_Work_putCount_4 : decode prog_7_method_5_code 4 = .ok (.iload_n 2, 1) := by decide +kernel
theorem d_Work_putCount_5 : decode prog_7_method_5_code 5 = .ok (.iconst 4, 1) := by decide +kernel
theorem d_Work_putCount_6 : decode prog_7_method_5_code 6 = .ok (.if_icmp .ge 21, 3) := by decide +kernel
theorem d_Work_putCount_9 : decode prog_7_method_5_code 9 = .ok (.aload_n 0, 1) := by decide +kernel
theorem d_Work_putCount_10 : decode prog_7_method_5_code 10 = .ok (.getfield 19, 3) := by decide +kernel
theorem d_Work_putCount_13 : decode prog_7_method_5_code 13 = .ok (.iload_n 2, 1) := by decide +kernel
theorem d_Work_putCount_14 : decode prog_7_method_5_code 14 = .ok (.baload, 1) := by decide +kernel
theorem d_Work_putCount_15 : decode prog_7_method_5_code 15 = .ok (.ifCond .eq 6, 3) := by decide +kernel
theorem d_Work_putCount_18 : decode prog_7_method_5_code 18 = .ok (.iinc 1 1, 3) := by decide +kernel
theorem d_Work_putCount_21 : decode prog_7_method_5_code 21 = .ok (.iinc 2 1, 3) := by decide +kernel
theorem d_Work_putCount_24 : decode prog_7_method_5_code 24 = .ok (.goto (-20), 3) := by decide +kernel
theorem d_Work_putCount_27 : decode prog_7_method_5_code 27 = .ok (.iload_n 1, 1) := by decide +kernel
theorem d_Work_putCount_28 : decode prog_7_method_5_code 28 = .ok (.ireturn, 1) := by decide +kernel
theorem d_Work_copy_0 : decode prog_7_method_6_code 0 = .ok (.new 10, 3) := by decide +kernel
theorem d_Work_copy_3 : decode prog_7_method_6_code 3 = .ok (.dup, 1) := by decide +kernel
theorem d_Work_copy_4 : decode prog_7_method_6_code 4 = .ok (.invokespecial 25, 3) := by decide +kernel
theorem d_Work_copy_7 : decode prog_7_method_6_code 7 = .ok (.astore_n 1, 1) := by decide +kernel
theorem d_Work_copy_8 : decode prog_7_method_6_code 8 = .ok (.iconst 0, 1) := by decide +kernel
theorem d_Work_copy_9 : decode prog_7_method_6_code 9 = .ok (.istore_n 2, 1) := by decide +kernel
theorem d_Work_copy_10 : decode prog_7_method_6_code 10 = .ok (.iload_n 2, 1) := by decide +kernel
theorem d_Work_copy_11 : decode prog_7_method_6_code 11 = .ok (.iconst 4, 1) := by decide +kernel
theorem d_Work_copy_12 : decode prog_7_method_6_code 12 = .ok (.if_icmp .ge 57, 3) := by decide +kernel
theorem d_Work_copy_15 : decode prog_7_method_6_code 15 = .ok (.aload_n 1, 1) := by decide +kernel
theorem d_Work_copy_16 : decode prog_7_method_6_code 16 = .ok (.getfield 9, 3) := by decide +kernel
theorem d_Work_copy_19 : decode prog_7_method_6_code 19 = .ok (.iload_n 2, 1) := by decide +kernel
theorem d_Work_copy_20 : decode prog_7_method_6_code 20 = .ok (.aload_n 0, 1) := by decide +kernel
theorem d_Work_copy_21 : decode prog_7_method_6_code 21 = .ok (.getfield 9, 3) := by decide +kernel
theorem d_Work_copy_24 : decode prog_7_method_6_code 24 = .ok (.iload_n 2, 1) := by decide +kernel
theorem d_Work_copy_25 : decode prog_7_method_6_code 25 = .ok (.baload, 1) := by decide +kernel
theorem d_Work_copy_26 : decode prog_7_method_6_code 26 = .ok (.bastore, 1) := by decide +kernel
theorem d_Work_copy_27 : decode prog_7_method_6_code 27 = .ok (.aload_n 1, 1) := by decide +kernel
theorem d_Work_copy_28 : decode prog_7_method_6_code 28 = .ok (.getfield 15, 3) := by decide +kernel
theorem d_Work_copy_31 : decode prog_7_method_6_code 31 = .ok (.iload_n 2, 1) := by decide +kernel
theorem d_Work_copy_32 : decode prog_7_method_6_code 32 = .ok (.aload_n 0, 1) := by decide +kernel
theorem d_Work_copy_33 : decode prog_7_method_6_code 33 = .ok (.getfield 15, 3) := by decide +kernel
theorem d_Work_copy_36 : decode prog_7_method_6_code 36 = .ok (.iload_n 2, 1) := by decide +kernel
theorem d_Work_copy_37 : decode prog_7_method_6_code 37 = .ok (.iaload, 1) := by decide +kernel
theorem d_Work_copy_38 : decode prog_7_method_6_code 38 = .ok (.iastore, 1) := by decide +kernel
theorem d_Work_copy_39 : decode prog_7_method_6_code 39 = .ok (.aload_n 1, 1) := by decide +kernel
theorem d_Work_copy_40 : decode prog_7_method_6_code 40 = .ok (.getfield 19, 3) := by decide +kernel
theorem d_Work_copy_43 : decode prog_7_method_6_code 43 = .ok (.iload_n 2, 1) := by decide +kernel
theorem d_Work_copy_44 : decode prog_7_method_6_code 44 = .ok (.aload_n 0, 1) := by decide +kernel
theorem d_Work_copy_45 : decode prog_7_method_6_code 45 = .ok (.getfield 19, 3) := by decide +kernel
theorem d_Work_copy_48 : decode prog_7_method_6_code 48 = .ok (.iload_n 2, 1) := by decide +kernel
theorem d_Work_copy_49 : decode prog_7_method_6_code 49 = .ok (.baload, 1) := by decide +kernel
theorem d_Work_copy_50 : decode prog_7_method_6_code 50 = .ok (.bastore, 1) := by decide +kernel
theorem d_Work_copy_51 : decode prog_7_method_6_code 51 = .ok (.aload_n 1, 1) := by decide +kernel
theorem d_Work_copy_52 : decode prog_7_method_6_code 52 = .ok (.getfield 22, 3) := by decide +kernel
theorem d_Work_copy_55 : decode prog_7_method_6_code 55 = .ok (.iload_n 2, 1) := by decide +kernel
theorem d_Work_copy_56 : decode prog_7_method_6_code 56 = .ok (.aload_n 0, 1) := by decide +kernel
theorem d_Work_copy_57 : decode prog_7_method_6_code 57 = .ok (.getfield 22, 3) := by decide +kernel
theorem d_Work_copy_60 : decode prog_7_method_6_code 60 = .ok (.iload_n 2, 1) := by decide +kernel
theorem d_Work_copy_61 : decode prog_7_method_6_code 61 = .ok (.iaload, 1) := by decide +kernel
theorem d_Work_copy_62 : decode prog_7_method_6_code 62 = .ok (.iastore, 1) := by decide +kernel
theorem d_Work_copy_63 : decode prog_7_method_6_code 63 = .ok (.iinc 2 1, 3) := by decide +kernel
theorem d_Work_copy_66 : decode prog_7_method_6_code 66 = .ok (.goto (-56), 3) := by decide +kernel
theorem d_Work_copy_69 : decode prog_7_method_6_code 69 = .ok (.aload_n 1, 1) := by decide +kernel
theorem d_Work_copy_70 : decode prog_7_method_6_code 70 = .ok (.areturn, 1) := by decide +kernel
theorem d_Client_init_0 : decode prog_2_method_1_code 0 = .ok (.aload_n 0, 1) := by decide +kernel
theorem d_Client_init_1 : decode prog_2_method_1_code 1 = .ok (.invokespecial 3, 3) := by decide +kernel
theorem d_Client_init_4 : decode prog_2_method_1_code 4 = .ok (.aload_n 0, 1) := by decide +kernel
theorem d_Client_init_5 : decode prog_2_method_1_code 5 = .ok (.iconst 4, 1) := by decide +kernel
theorem d_Client_init_6 : decode prog_2_method_1_code 6 = .ok (.newarray .int, 2) := by decide +kernel
theorem d_Client_init_8 : decode prog_2_method_1_code 8 = .ok (.putfield 9, 3) := by decide +kernel
theorem d_Client_init_11 : decode prog_2_method_1_code 11 = .ok (.aload_n 0, 1) := by decide +kernel
theorem d_Client_init_12 : decode prog_2_method_1_code 12 = .ok (.iconst 4, 1) := by decide +kernel
theorem d_Client_init_13 : decode prog_2_method_1_code 13 = .ok (.newarray .int, 2) := by decide +kernel
theorem d_Client_init_15 : decode prog_2_method_1_code 15 = .ok (.putfield 15, 3) := by decide +kernel
theorem d_Client_init_18 : decode prog_2_method_1_code 18 = .ok (.aload_n 0, 1) := by decide +kernel
theorem d_Client_init_19 : decode prog_2_method_1_code 19 = .ok (.new 18, 3) := by decide +kernel
theorem d_Client_init_22 : decode prog_2_method_1_code 22 = .ok (.dup, 1) := by decide +kernel
theorem d_Client_init_23 : decode prog_2_method_1_code 23 = .ok (.invokespecial 20, 3) := by decide +kernel
theorem d_Client_init_26 : decode prog_2_method_1_code 26 = .ok (.putfield 21, 3) := by decide +kernel
theorem d_Client_init_29 : decode prog_2_method_1_code 29 = .ok (.aload_n 0, 1) := by decide +kernel
theorem d_Client_init_30 : decode prog_2_method_1_code 30 = .ok (.iconst 0, 1) := by decide +kernel
theorem d_Client_init_31 : decode prog_2_method_1_code 31 = .ok (.putfield 25, 3) := by decide +kernel
theorem d_Client_init_34 : decode prog_2_method_1_code 34 = .ok (.aload_n 0, 1) := by decide +kernel
theorem d_Client_init_35 : decode prog_2_method_1_code 35 = .ok (.iconst 0, 1) := by decide +kernel
theorem d_Client_init_36 : decode prog_2_method_1_code 36 = .ok (.putfield 29, 3) := by decide +kernel
theorem d_Client_init_39 : decode prog_2_method_1_code 39 = .ok (.aload_n 0, 1) := by decide +kernel
theorem d_Client_init_40 : decode prog_2_method_1_code 40 = .ok (.aload_n 1, 1) := by decide +kernel
theorem d_Client_init_41 : decode prog_2_method_1_code 41 = .ok (.putfield 33, 3) := by decide +kernel
theorem d_Client_init_44 : decode prog_2_method_1_code 44 = .ok (.return_, 1) := by decide +kernel
theorem d_Client_agesMatch_0 : decode prog_2_method_2_code 0 = .ok (.iconst 0, 1) := by decide +kernel
theorem d_Client_agesMatch_1 : decode prog_2_method_2_code 1 = .ok (.istore_n 2, 1) := by decide +kernel
theorem d_Client_agesMatch_2 : decode prog_2_method_2_code 2 = .ok (.iload_n 2, 1) := by decide +kernel
theorem d_Client_agesMatch_3 : decode prog_2_method_2_code 3 = .ok (.iconst 4, 1) := by decide +kernel
theorem d_Client_agesMatch_4 : decode prog_2_method_2_code 4 = .ok (.if_icmp .ge 35, 3) := by decide +kernel
theorem d_Client_agesMatch_7 : decode prog_2_method_2_code 7 = .ok (.aload_n 1, 1) := by decide +kernel
theorem d_Client_agesMatch_8 : decode prog_2_method_2_code 8 = .ok (.getfield 37, 3) := by decide +kernel
theorem d_Client_agesMatch_11 : decode prog_2_method_2_code 11 = .ok (.iload_n 2, 1) := by decide +kernel
theorem d_Client_agesMatch_12 : decode prog_2_method_2_code 12 = .ok (.baload, 1) := by decide +kernel
theorem d_Client_agesMatch_13 : decode prog_2_method_2_code 13 = .ok (.ifCond .eq 20, 3) := by decide +kernel
theorem d_Client_agesMatch_16 : decode prog_2_method_2_code 16 = .ok (.aload_n 1, 1) := by decide +kernel
theorem d_Client_agesMatch_17 : decode prog_2_method_2_code 17 = .ok (.getfield 41, 3) := by decide +kernel
theorem d_Client_agesMatch_20 : decode prog_2_method_2_code 20 = .ok (.iload_n 2, 1) := by decide +kernel
theorem d_Client_agesMatch_21 : decode prog_2_method_2_code 21 = .ok (.iaload, 1) := by decide +kernel
theorem d_Client_agesMatch_22 : decode prog_2_method_2_code 22 = .ok (.aload_n 0, 1) := by decide +kernel
theorem d_Client_agesMatch_23 : decode prog_2_method_2_code 23 = .ok (.getfield 15, 3) := by decide +kernel
theorem d_Client_agesMatch_26 : decode prog_2_method_2_code 26 = .ok (.iload_n 2, 1) := by decide +kernel
theorem d_Client_agesMatch_27 : decode prog_2_method_2_code 27 = .ok (.iaload, 1) := by decide +kernel
theorem d_Client_agesMatch_28 : decode prog_2_method_2_code 28 = .ok (.if_icmp .eq 5, 3) := by decide +kernel
theorem d_Client_agesMatch_31 : decode prog_2_method_2_code 31 = .ok (.iconst 0, 1) := by decide +kernel
theorem d_Client_agesMatch_32 : decode prog_2_method_2_code 32 = .ok (.ireturn, 1) := by decide +kernel
theorem d_Client_agesMatch_33 : decode prog_2_method_2_code 33 = .ok (.iinc 2 1, 3) := by decide +kernel
theorem d_Client_agesMatch_36 : decode prog_2_method_2_code 36 = .ok (.goto (-34), 3) := by decide +kernel
theorem d_Client_agesMatch_39 : decode prog_2_method_2_code 39 = .ok (.iconst 1, 1) := by decide +kernel
theorem d_Client_agesMatch_40 : decode prog_2_method_2_code 40 = .ok (.ireturn, 1) := by decide +kernel
theorem d_Client_apply_0 : decode prog_2_method_3_code 0 = .ok (.aload_n 0, 1) := by decide +kernel
theorem d_Client_apply_1 : decode prog_2_method_3_code 1 = .ok (.aload_n 1, 1) := by decide +kernel
theorem d_Client_apply_2 : decode prog_2_method_3_code 2 = .ok (.invokevirtual 44, 3) := by decide +kernel
theorem d_Client_apply_5 : decode prog_2_method_3_code 5 = .ok (.ifCond .ne 5, 3) := by decide +kernel
theorem d_Client_apply_8 : decode prog_2_method_3_code 8 = .ok (.iconst 0, 1) := by decide +kernel
theorem d_Client_apply_9 : decode prog_2_method_3_code 9 = .ok (.ireturn, 1) := by decide +kernel
theorem d_Client_apply_10 : decode prog_2_method_3_code 10 = .ok (.iconst 0, 1) := by decide +kernel
theorem d_Client_apply_11 : decode prog_2_method_3_code 11 = .ok (.istore_n 3, 1) := by decide +kernel
theorem d_Client_apply_12 : decode prog_2_method_3_code 12 = .ok (.iload_n 3, 1) := by decide +kernel
theorem d_Client_apply_13 : decode prog_2_method_3_code 13 = .ok (.iconst 4, 1) := by decide +kernel
theorem d_Client_apply_14 : decode prog_2_method_3_code 14 = .ok (.if_icmp .ge 37, 3) := by decide +kernel
theorem d_Client_apply_17 : decode prog_2_method_3_code 17 = .ok (.aload_n 1, 1) := by decide +kernel
theorem d_Client_apply_18 : decode prog_2_method_3_code 18 = .ok (.getfield 48, 3) := by decide +kernel
theorem d_Client_apply_21 : decode prog_2_method_3_code 21 = .ok (.iload_n 3, 1) := by decide +kernel
theorem d_Client_apply_22 : decode prog_2_method_3_code 22 = .ok (.baload, 1) := by decide +kernel
theorem d_Client_apply_23 : decode prog_2_method_3_code 23 = .ok (.ifCond .eq 22, 3) := by decide +kernel
theorem d_Client_apply_26 : decode prog_2_method_3_code 26 = .ok (.aload_n 0, 1) := by decide +kernel
theorem d_Client_apply_27 : decode prog_2_method_3_code 27 = .ok (.getfield 9, 3) := by decide +kernel
theorem d_Client_apply_30 : decode prog_2_method_3_code 30 = .ok (.iload_n 3, 1) := by decide +kernel
theorem d_Client_apply_31 : decode prog_2_method_3_code 31 = .ok (.aload_n 1, 1) := by decide +kernel
theorem d_Client_apply_32 : decode prog_2_method_3_code 32 = .ok (.getfield 51, 3) := by decide +kernel
theorem d_Client_apply_35 : decode prog_2_method_3_code 35 = .ok (.iload_n 3, 1) := by decide +kernel
theorem d_Client_apply_36 : decode prog_2_method_3_code 36 = .ok (.iaload, 1) := by decide +kernel
theorem d_Client_apply_37 : decode prog_2_method_3_code 37 = .ok (.iastore, 1) := by decide +kernel
theorem d_Client_apply_38 : decode prog_2_method_3_code 38 = .ok (.aload_n 0, 1) := by decide +kernel
theorem d_Client_apply_39 : decode prog_2_method_3_code 39 = .ok (.getfield 15, 3) := by decide +kernel
theorem d_Client_apply_42 : decode prog_2_method_3_code 42 = .ok (.iload_n 3, 1) := by decide +kernel
theorem d_Client_apply_43 : decode prog_2_method_3_code 43 = .ok (.iload_n 2, 1) := by decide +kernel
theorem d_Client_apply_44 : decode prog_2_method_3_code 44 = .ok (.iastore, 1) := by decide +kernel
theorem d_Client_apply_45 : decode prog_2_method_3_code 45 = .ok (.iinc 3 1, 3) := by decide +kernel
theorem d_Client_apply_48 : decode prog_2_method_3_code 48 = .ok (.goto (-36), 3) := by decide +kernel
theorem d_Client_apply_51 : decode prog_2_method_3_code 51 = .ok (.iconst 1, 1) := by decide +kernel
theorem d_Client_apply_52 : decode prog_2_method_3_code 52 = .ok (.ireturn, 1) := by decide +kernel
end
section
/-! LEAVES: methods that call nothing of their own -/
theorem no_hd (pc : Nat) : ∀ x ∈ tableOf [], covers x pc = false := fun _ h => absurd h List.not_mem_nil
theorem mu_up_up (μ : mu_M) (a : Nat) (x y : va_E) : mu_up (mu_up μ a x) a y = mu_up μ a y := by
  funext q
  by_cases h : q = a
  · subst h; rw [mu_up_s, mu_up_s]
  · rw [mu_up_n h, mu_up_n h, mu_up_n h]
abbrev IAE : String := "java/lang/IllegalArgumentException"
abbrev ISE : String := "java/lang/IllegalStateException"
abbrev UOE : String := "java/lang/UnsupportedOperationException"
abbrev IOE : String := "java/lang/IndexOutOfBoundsException"
abbrev NSE : String := "java/util/NoSuchElementException"
set_option maxHeartbeats 1000000 in
set_option maxRecDepth 10000 in
theorem ct_requireWithin (G : mt_G) (μ : mu_M) (x y : Int32) : CT G M_Log_requireWithin [.int x, .int y] μ (fun v μ' => v = none ∧ μ' = μ ∧ ¬ x < 0 ∧ ¬ y < x) (fun E μ' => E = IAE ∧ μ' = μ ∧ (x < 0 ∨ y < x)) := by
  refine CT.of (by decide) rfl (Nat.le_of_ble_eq_true rfl) ?_
  refine wp_iload_n d_Log_requireWithin_0 rfl rfl ?_
  refine wp_if_lt (tgt := 9) d_Log_requireWithin_1 (by decide) (fun c1 => ?_) (fun c1 => ?_)
  · exact wp_throw th_Log_224_226 rfl (no_hd _) d_Log_requireWithin_9 d_Log_requireWithin_12 d_Log_requireWithin_13 d_Log_requireWithin_15 d_Log_requireWithin_18 (Nat.le_of_ble_eq_true rfl) (Nat.le_of_ble_eq_true rfl) (Nat.le_of_ble_eq_true rfl) (Nat.le_of_ble_eq_true rfl) ⟨rfl, rfl, Or.inl c1⟩
  · refine wp_iload_n d_Log_requireWithin_4 rfl rfl ?_
    refine wp_iload_n d_Log_requireWithin_5 rfl rfl ?_
    refine wp_icmp_le (tgt := 19) d_Log_requireWithin_6 (by decide) (fun c6 => ?_) (fun c6 => ?_)
    · exact wp_vret d_Log_requireWithin_19 rfl (by decide) (by decide) ⟨rfl, rfl, c1, Int32.not_lt.mpr c6⟩
    · exact wp_throw th_Log_224_226 rfl (no_hd _) d_Log_requireWithin_9 d_Log_requireWithin_12 d_Log_requireWithin_13 d_Log_requireWithin_15 d_Log_requireWithin_18 (Nat.le_of_ble_eq_true rfl) (Nat.le_of_ble_eq_true rfl) (Nat.le_of_ble_eq_true rfl) (Nat.le_of_ble_eq_true rfl) ⟨rfl, rfl, Or.inr (Int32.not_le.mp c6)⟩
set_option maxHeartbeats 1000000 in
set_option maxRecDepth 10000 in
theorem ct_chain (G : mt_G) (μ : mu_M) (la a0 a1 : Nat) (ep ch : Int32) (h : μ la = some (.inr (3, [.int ep, .ref a0, .ref a1]))) : CT G M_Layout_chain [.ref la, .int ch] μ (fun v μ' => v = some (.ref (if ch = 0 then a0 else a1)) ∧ μ' = μ) (fun _ _ => False) := by
  refine CT.of (by decide) rfl (Nat.le_of_ble_eq_true rfl) ?_
  refine wp_iload_n d_Layout_chain_0 rfl rfl ?_
  refine wp_if_ne (tgt := 11) d_Layout_chain_1 (by decide) (fun c1 => ?_) (fun c1 => ?_)
  · refine wp_aload_n d_Layout_chain_11 rfl rfl ?_
    refine wp_get d_Layout_chain_12 fl_Layout_19 (by exact h) (by rfl) ?_
    exact wp_aret d_Layout_chain_15 rfl (Or.inr ⟨_, rfl⟩) (by decide) (by decide) ⟨by rw [if_neg c1], rfl⟩
  · refine wp_aload_n d_Layout_chain_4 rfl rfl ?_
    refine wp_get d_Layout_chain_5 fl_Layout_15 (by exact h) (by rfl) ?_
    refine wp_goto (tgt := 15) d_Layout_chain_8 (by decide) ?_
    exact wp_aret d_Layout_chain_15 rfl (Or.inr ⟨_, rfl⟩) (by decide) (by decide) ⟨by rw [if_pos c1], rfl⟩
set_option maxHeartbeats 1000000 in
set_option maxRecDepth 10000 in
theorem ct_chainOf (G : mt_G) (μ : mu_M) (la a0 a1 o : Nat) (ep : Int32) (ho : o < 1000) (h : μ la = some (.inr (3, [.int ep, .ref a0, .ref a1]))) : CT G M_Layout_chainOf [.ref la, .int (nI o)] μ (fun v μ' => v = some (.ref (if o % 2 = 0 then a0 else a1)) ∧ μ' = μ) (fun _ _ => False) := by
  refine CT.of (by decide) rfl (Nat.le_of_ble_eq_true rfl) ?_
  refine wp_aload_n d_Layout_chainOf_0 rfl rfl ?_
  refine wp_iload_n d_Layout_chainOf_1 rfl rfl ?_
  refine wp_iconst (v := 2) d_Layout_chainOf_2 (by decide) ?_
  refine wp_irem d_Layout_chainOf_3 (by decide) ?_
  refine wx_callV d_Layout_chainOf_4 cv_Layout_22 cd_Layout_chain ⟨by decide, by decide⟩ (ct_chain G μ la a0 a1 ep _ h) (by exact h) rfl rfl (Nat.le_of_ble_eq_true rfl) (Nat.le_of_ble_eq_true rfl) (Nat.le_of_ble_eq_true rfl) (fun E1 μ1 hq => WX.out rfl (no_hd _) (Nat.le_of_ble_eq_true rfl) (Nat.le_of_ble_eq_true rfl) ?_) (fun v1 μ1 hq => ?_)
  · exact hq
  · obtain ⟨rfl, rfl⟩ := hq
    refine wp_aret d_Layout_chainOf_7 rfl (Or.inr ⟨_, rfl⟩) (by decide) (by decide) ⟨?_, rfl⟩
    have e1 : nI o - nI o / 2 * 2 = nI (o % 2) := pk_rem (by omega) (by decide) (by decide)
    rw [e1]
    rcases (show o % 2 = 0 ∨ o % 2 = 1 by omega) with e2 | e2
    · rw [e2, if_pos nI_0, if_pos rfl]
    · rw [e2, if_neg (by decide), if_neg (by decide)]
set_option maxHeartbeats 1000000 in
set_option maxRecDepth 10000 in
theorem ct_holds (G : mt_G) (μ : mu_M) (ua ca o ea : Nat) (f : Nat → Option Nat) (x1 x2 : Value) (kd an : Int32) (w : Value) (ho : o < 60) (hu : μ ua = some (.inr (1, [.ref ca, x1, x2]))) (hc : μ ca = some (.inl (G.2.2.1 5, 60, .inr (.inr (.inr (.inr f)))))) (hf : f o = some ea) (he : μ ea = some (.inr (2, [.int kd, .int an, w]))) :
    CT G M_Unit_holds [.ref ua, .int (nI o)] μ (fun v μ' => v = some (.int (if kd = 0 then 0 else 1)) ∧ μ' = μ) (fun _ _ => False) := by
  refine CT.of (by decide) rfl (Nat.le_of_ble_eq_true rfl) ?_
  refine wp_aload_n d_Unit_holds_0 rfl rfl ?_
  refine wp_get d_Unit_holds_1 fl_Unit_11 (by first | exact hu | exact hc | exact he) (by rfl) ?_
  refine wp_iload_n d_Unit_holds_4 rfl rfl ?_
  refine wp_aald d_Unit_holds_5 (t := 5) (C := "SharedLog$Entry") rfl hc rfl ho (by omega) hf ?_
  refine wp_get d_Unit_holds_6 fl_Unit_25 (by first | exact hu | exact hc | exact he) (by rfl) ?_
  refine wp_if_eq (tgt := 16) d_Unit_holds_9 (by decide) (fun c9 => ?_) (fun c9 => ?_)
  · refine wp_iconst (v := 0) d_Unit_holds_16 (by decide) ?_
    exact wp_zret d_Unit_holds_17 rfl rfl (by decide) (by decide) ⟨by rw [if_pos c9], rfl⟩
  · refine wp_iconst (v := 1) d_Unit_holds_12 (by decide) ?_
    refine wp_goto (tgt := 17) d_Unit_holds_13 (by decide) ?_
    exact wp_zret d_Unit_holds_17 rfl rfl (by decide) (by decide) ⟨by rw [if_neg c9], rfl⟩
set_option maxHeartbeats 1000000 in
set_option maxRecDepth 10000 in
theorem ct_restart (G : mt_G) (μ : mu_M) (a : Nat) (x0 x1 x2 : Value) (ep nx : Int32) (h : μ a = some (.inr (4, [x0, x1, x2]))) (hB : G.2.2.2 ≤ a) : CT G M_Seq_restart [.ref a, .int ep, .int nx] μ (fun v μ' => v = none ∧ μ' = mu_up μ a (.inr (4, [.int 0, .int ep, .int nx]))) (fun _ _ => False) := by
  refine CT.of (by decide) rfl (Nat.le_of_ble_eq_true rfl) ?_
  refine wp_aload_n d_Seq_restart_0 rfl rfl ?_
  refine wp_iconst (v := 0) d_Seq_restart_1 (by decide) ?_
  refine wp_put d_Seq_restart_2 fp_Seq_9 (by first | exact mu_up_s _ _ _ | exact h) (by exact hB) (by rfl) (by rfl) (Nat.le_of_ble_eq_true rfl) ?_
  refine wp_aload_n d_Seq_restart_5 rfl rfl ?_
  refine wp_iload_n d_Seq_restart_6 rfl rfl ?_
  refine wp_put d_Seq_restart_7 fp_Seq_15 (by first | exact mu_up_s _ _ _ | exact h) (by exact hB) (by rfl) (by rfl) (Nat.le_of_ble_eq_true rfl) ?_
  refine wp_aload_n d_Seq_restart_10 rfl rfl ?_
  refine wp_iload_n d_Seq_restart_11 rfl rfl ?_
  refine wp_put d_Seq_restart_12 fp_Seq_19 (by first | exact mu_up_s _ _ _ | exact h) (by exact hB) (by rfl) (by rfl) (Nat.le_of_ble_eq_true rfl) ?_
  exact wp_vret d_Seq_restart_15 rfl (by decide) (by decide) ⟨rfl, by rw [mu_up_up, mu_up_up]; rfl⟩
set_option maxHeartbeats 1000000 in
set_option maxRecDepth 10000 in
theorem ct_setPut (G : mt_G) (μ : mu_M) (w a2 a3 k : Nat) (x0 x1 : Value) (f2 f3 : Nat → Int32) (x : Int32) (hk : k < 4) (h : μ w = some (.inr (5, [x0, x1, .ref a2, .ref a3]))) (h2 : μ a2 = some (.inl (G.2.2.1 1, 4, .inl f2))) (h3 : μ a3 = some (.inl (G.2.2.1 0, 4, .inl f3))) (n23 : a3 ≠ a2) (nw2 : w ≠ a2) (hB2 : G.2.2.2 ≤ a2) (hB3 : G.2.2.2 ≤ a3) :
    CT G M_Work_setPut [.ref w, .int (nI k), .int x] μ (fun v μ' => v = none ∧ μ' = mu_up (mu_up μ a2 (.inl (G.2.2.1 1, 4, .inl (upd f2 k 1)))) a3 (.inl (G.2.2.1 0, 4, .inl (upd f3 k x)))) (fun _ _ => False) := by
  refine CT.of (by decide) rfl (Nat.le_of_ble_eq_true rfl) ?_
  refine wp_aload_n d_Work_setPut_0 rfl rfl ?_
  refine wp_get d_Work_setPut_1 fl_Work_19 (by first | exact h | exact h2 | exact (mu_up_n nw2).trans h | exact (mu_up_n n23).trans h3) (by rfl) ?_
  refine wp_iload_n d_Work_setPut_4 rfl rfl ?_
  refine wp_iconst (v := 1) d_Work_setPut_5 (by decide) ?_
  refine wp_zast d_Work_setPut_6 (by first | exact h | exact h2 | exact (mu_up_n nw2).trans h | exact (mu_up_n n23).trans h3) (by first | exact hB2 | exact hB3) (by rfl) (by exact hk) (by omega) (by rfl) ?_
  refine wp_aload_n d_Work_setPut_7 rfl rfl ?_
  refine wp_get d_Work_setPut_8 fl_Work_22 (by first | exact h | exact h2 | exact (mu_up_n nw2).trans h | exact (mu_up_n n23).trans h3) (by rfl) ?_
  refine wp_iload_n d_Work_setPut_11 rfl rfl ?_
  refine wp_iload_n d_Work_setPut_12 rfl rfl ?_
  refine wp_iast d_Work_setPut_13 (by first | exact h | exact h2 | exact (mu_up_n nw2).trans h | exact (mu_up_n n23).trans h3) (by first | exact hB2 | exact hB3) (by rfl) (by exact hk) (by omega) ?_
  exact wp_vret d_Work_setPut_14 rfl (by decide) (by decide) ⟨rfl, rfl⟩
set_option maxHeartbeats 1000000 in
set_option maxRecDepth 10000 in
theorem ct_noteRead (G : mt_G) (μ : mu_M) (w a0 a1 k : Nat) (x2 x3 : Value) (f0 f1 : Nat → Int32) (x : Int32) (hk : k < 4) (h : μ w = some (.inr (5, [.ref a0, .ref a1, x2, x3]))) (h0 : μ a0 = some (.inl (G.2.2.1 1, 4, .inl f0))) (h1 : μ a1 = some (.inl (G.2.2.1 0, 4, .inl f1))) (n01 : a1 ≠ a0) (nw0 : w ≠ a0) (hB0 : G.2.2.2 ≤ a0) (hB1 : G.2.2.2 ≤ a1) :
    CT G M_Work_noteRead [.ref w, .int (nI k), .int x] μ (fun v μ' => v = none ∧ μ' = if f0 k = 0 then mu_up (mu_up μ a0 (.inl (G.2.2.1 1, 4, .inl (upd f0 k 1)))) a1 (.inl (G.2.2.1 0, 4, .inl (upd f1 k x))) else μ) (fun _ _ => False) := by
  refine CT.of (by decide) rfl (Nat.le_of_ble_eq_true rfl) ?_
  refine wp_aload_n d_Work_noteRead_0 rfl rfl ?_
  refine wp_get d_Work_noteRead_1 fl_Work_9 (by first | exact h | exact h0 | exact (mu_up_n nw0).trans h | exact (mu_up_n n01).trans h1) (by rfl) ?_
  refine wp_iload_n d_Work_noteRead_4 rfl rfl ?_
  refine wp_zald d_Work_noteRead_5 (by first | exact h | exact h0 | exact (mu_up_n nw0).trans h | exact (mu_up_n n01).trans h1) (by rfl) (by exact hk) (by omega) ?_
  refine wp_if_ne (tgt := 23) d_Work_noteRead_6 (by decide) (fun c6 => ?_) (fun c6 => ?_)
  · exact wp_vret d_Work_noteRead_23 rfl (by decide) (by decide) ⟨rfl, by rw [if_neg c6]⟩
  · refine wp_aload_n d_Work_noteRead_9 rfl rfl ?_
    refine wp_get d_Work_noteRead_10 fl_Work_9 (by first | exact h | exact h0 | exact (mu_up_n nw0).trans h | exact (mu_up_n n01).trans h1) (by rfl) ?_
    refine wp_iload_n d_Work_noteRead_13 rfl rfl ?_
    refine wp_iconst (v := 1) d_Work_noteRead_14 (by decide) ?_
    refine wp_zast d_Work_noteRead_15 (by first | exact h | exact h0 | exact (mu_up_n nw0).trans h | exact (mu_up_n n01).trans h1) (by first | exact hB0 | exact hB1) (by rfl) (by exact hk) (by omega) (by rfl) ?_
    refine wp_aload_n d_Work_noteRead_16 rfl rfl ?_
    refine wp_get d_Work_noteRead_17 fl_Work_15 (by first | exact h | exact h0 | exact (mu_up_n nw0).trans h | exact (mu_up_n n01).trans h1) (by rfl) ?_
    refine wp_iload_n d_Work_noteRead_20 rfl rfl ?_
    refine wp_iload_n d_Work_noteRead_21 rfl rfl ?_
    refine wp_iast d_Work_noteRead_22 (by first | exact h | exact h0 | exact (mu_up_n nw0).trans h | exact (mu_up_n n01).trans h1) (by first | exact hB0 | exact hB1) (by rfl) (by exact hk) (by omega) ?_
    exact wp_vret d_Work_noteRead_23 rfl (by decide) (by decide) ⟨rfl, by rw [if_pos c6]⟩
end
section
/-! ROWS OF UNITS as digits; what an entry and a layout hold; the state's relation to the cells -/
abbrev sg : Type := Nat → Nat → Int32
abbrev dg : Type := Nat → Nat → Nat
def ln (d : Nat) : Nat := if 99 < d then 3 else if 9 < d then 2 else 1
def un (d i : Nat) : Nat := d / 10 ^ (ln d - 1 - i) % 10 - 1
def vr (d : Nat) : Bool := decide (1 ≤ d) && decide (d ≤ 666) && (List.range (ln d)).all (fun i => decide (1 ≤ d / 10 ^ (ln d - 1 - i) % 10) && decide (d / 10 ^ (ln d - 1 - i) % 10 ≤ 6)) && (List.range (ln d)).all (fun i => (List.range i).all (fun j => decide (un d i ≠ un d j)))
theorem vr_le {d : Nat} (h : vr d = true) : 1 ≤ d ∧ d ≤ 666 := by
  simp only [vr, Bool.and_eq_true, decide_eq_true_eq] at h
  exact ⟨h.1.1.1, h.1.1.2⟩
set_option maxRecDepth 100000 in
theorem vr_un0 : ∀ d, d < 667 → vr d = true → ∀ i, i < 3 → i < ln d → un d i < 6 := by decide +kernel
theorem ln_pos (d : Nat) : 1 ≤ ln d ∧ ln d ≤ 3 := by
  unfold ln
  split
  · omega
  · split <;> omega
theorem vr_un {d i : Nat} (h : vr d = true) (hi : i < ln d) : un d i < 6 := vr_un0 d (by have := vr_le h; omega) h i (by have := ln_pos d; omega) hi
theorem vr_inj {d i j : Nat} (h : vr d = true) (hi : i < ln d) (hj : j < ln d) (e : un d i = un d j) : i = j := by
  simp only [vr, Bool.and_eq_true, List.all_eq_true, List.mem_range, decide_eq_true_eq] at h
  obtain ⟨-, h4⟩ := h
  rcases Nat.lt_trichotomy i j with q | q | q
  · exact absurd e.symm (h4 j hj i q)
  · exact q
  · exact absurd e (h4 i hi j q)
/-- the row of the state that an entry's values stand in: 0 kind, 1 answer, 2+k reads, 6+k their ages, 10+k puts, 14+k values -/
def eR (u o : Nat) : Nat := 100 + 60 * u + o
def FW (G : mt_G) (φ : mu_M) (w : Nat) (v : Nat → Int32) : Prop := ∃ (a0 a1 a2 a3 : Nat) (f0 f1 f2 f3 : Nat → Int32), φ w = some (.inr (5, [.ref a0, .ref a1, .ref a2, .ref a3])) ∧ φ a0 = some (.inl (G.2.2.1 1, 4, .inl f0)) ∧ φ a1 = some (.inl (G.2.2.1 0, 4, .inl f1)) ∧ φ a2 = some (.inl (G.2.2.1 1, 4, .inl f2)) ∧ φ a3 = some (.inl (G.2.2.1 0, 4, .inl f3)) ∧ ∀ k, k < 4 → f0 k = v (2 + k) ∧ f1 k = v (6 + k) ∧ f2 k = v (10 + k) ∧ f3 k = v (14 + k)
def FE (G : mt_G) (φ : mu_M) (a : Nat) (v : Nat → Int32) : Prop := ∃ w : Nat, φ a = some (.inr (2, [.int (v 0), .int (v 1), .ref w])) ∧ FW G φ w v
def FL (G : mt_G) (φ : mu_M) (a : Nat) (ep : Int32) (dl : Nat → Nat) : Prop := ∃ (a0 a1 : Nat) (f0 f1 : Nat → Int32), φ a = some (.inr (3, [.int ep, .ref a0, .ref a1])) ∧ φ a0 = some (.inl (G.2.2.1 0, ln (dl 0), .inl f0)) ∧ φ a1 = some (.inl (G.2.2.1 0, ln (dl 1), .inl f1)) ∧ (∀ i, i < ln (dl 0) → f0 i = nI (un (dl 0) i)) ∧ ∀ i, i < ln (dl 1) → f1 i = nI (un (dl 1) i)
theorem FW.mono {G : mt_G} {φ φ' : mu_M} {w : Nat} {v : Nat → Int32} (h : FW G φ w v) (hs : sub φ φ') : FW G φ' w v := by
  obtain ⟨a0, a1, a2, a3, f0, f1, f2, f3, h0, h1, h2, h3, h4, h5⟩ := h
  exact ⟨a0, a1, a2, a3, f0, f1, f2, f3, hs _ _ h0, hs _ _ h1, hs _ _ h2, hs _ _ h3, hs _ _ h4, h5⟩
theorem FE.mono {G : mt_G} {φ φ' : mu_M} {a : Nat} {v : Nat → Int32} (h : FE G φ a v) (hs : sub φ φ') : FE G φ' a v := by
  obtain ⟨w, h0, h1⟩ := h
  exact ⟨w, hs _ _ h0, h1.mono hs⟩
theorem FL.mono {G : mt_G} {φ φ' : mu_M} {a : Nat} {ep : Int32} {dl : Nat → Nat} (h : FL G φ a ep dl) (hs : sub φ φ') : FL G φ' a ep dl := by
  obtain ⟨a0, a1, f0, f1, h0, h1, h2, h3, h4⟩ := h
  exact ⟨a0, a1, f0, f1, hs _ _ h0, hs _ _ h1, hs _ _ h2, h3, h4⟩
def vNone : Nat → Int32 := fun _ => 0
def vJunk : Nat → Int32 := fun i => if i = 0 then 3 else 0
def vTrim : Nat → Int32 := fun i => if i = 0 then 4 else 0
/-- the cells hold the state σ, δ: rows 0 .. 47 of σ are the roles, eR u o the entries, 501 + c the layout that client c knows (500: the installed one): its epoch at 0; δ (1 + c) (δ 0): its two rows as digits -/
def Cx (G : mt_G) (μ φ : mu_M) (ad : Nat → Nat) (g : dg) (σ : sg) (δ : dg) : Prop :=
  Rp G μ ad σ g ∧ Fz μ φ ad ∧ (∀ u o, u < 6 → o < 60 → FE G φ (g (10 + u) o) (σ (eR u o))) ∧ FE G φ (g 0 3) vNone ∧ FE G φ (g 0 4) vJunk ∧ FE G φ (g 0 5) vTrim ∧ FL G φ (g 0 6) (σ 500 0) (δ 0) ∧ ∀ c, c < 4 → FL G φ (g (16 + c) 5) (σ (501 + c) 0) (δ (1 + c))
theorem Fz.sub {μ φ : mu_M} {ad : Nat → Nat} (h : Fz μ φ ad) : sub φ μ := fun a e q => (h a e q).1
section CxGet
variable {G : mt_G} {μ φ : mu_M} {ad : Nat → Nat} {g : dg} {σ : sg} {δ : dg}
theorem Cx.R (h : Cx G μ φ ad g σ δ) : Rp G μ ad σ g := h.1
theorem Cx.z (h : Cx G μ φ ad g σ δ) : Fz μ φ ad := h.2.1
theorem Cx.ent (h : Cx G μ φ ad g σ δ) {u o : Nat} (hu : u < 6) (ho : o < 60) : ∃ w : Nat, μ (g (10 + u) o) = some (.inr (2, [.int (σ (eR u o) 0), .int (σ (eR u o) 1), .ref w])) ∧ FW G φ w (σ (eR u o)) := by
  obtain ⟨w, h0, h1⟩ := h.2.2.1 u o hu ho
  exact ⟨w, (h.2.1 _ _ h0).1, h1⟩
theorem Cx.kn (h : Cx G μ φ ad g σ δ) {c : Nat} (hc : c < 4) : ∃ (a0 a1 : Nat) (f0 f1 : Nat → Int32), μ (g (16 + c) 5) = some (.inr (3, [.int (σ (501 + c) 0), .ref a0, .ref a1])) ∧ μ a0 = some (.inl (G.2.2.1 0, ln (δ (1 + c) 0), .inl f0)) ∧ μ a1 = some (.inl (G.2.2.1 0, ln (δ (1 + c) 1), .inl f1)) ∧ (∀ i, i < ln (δ (1 + c) 0) → f0 i = nI (un (δ (1 + c) 0) i)) ∧ ∀ i, i < ln (δ (1 + c) 1) → f1 i = nI (un (δ (1 + c) 1) i) :=
  (h.2.2.2.2.2.2.2 c hc).mono h.2.1.sub
theorem Cx.row (h : Cx G μ φ ad g σ δ) {c : Nat} (hc : c < 4) (o : Nat) : ∃ (a0 a1 rw : Nat) (f : Nat → Int32), μ (g (16 + c) 5) = some (.inr (3, [.int (σ (501 + c) 0), .ref a0, .ref a1])) ∧ (if o % 2 = 0 then a0 else a1) = rw ∧ μ rw = some (.inl (G.2.2.1 0, ln (δ (1 + c) (o % 2)), .inl f)) ∧ ∀ i, i < ln (δ (1 + c) (o % 2)) → f i = nI (un (δ (1 + c) (o % 2)) i) := by
  obtain ⟨a0, a1, f0, f1, h0, h1, h2, h3, h4⟩ := h.kn hc
  rcases (show o % 2 = 0 ∨ o % 2 = 1 by omega) with e | e
  · refine ⟨a0, a1, a0, f0, h0, if_pos e, ?_, ?_⟩ <;> rw [e] <;> assumption
  · refine ⟨a0, a1, a1, f1, h0, if_neg (by omega), ?_, ?_⟩ <;> rw [e] <;> assumption
theorem Cx.rowφ (h : Cx G μ φ ad g σ δ) {c : Nat} (hc : c < 4) (o : Nat) : ∃ (a0 a1 rw : Nat) (f : Nat → Int32), φ (g (16 + c) 5) = some (.inr (3, [.int (σ (501 + c) 0), .ref a0, .ref a1])) ∧ (if o % 2 = 0 then a0 else a1) = rw ∧ φ rw = some (.inl (G.2.2.1 0, ln (δ (1 + c) (o % 2)), .inl f)) ∧ ∀ i, i < ln (δ (1 + c) (o % 2)) → f i = nI (un (δ (1 + c) (o % 2)) i) := by
  obtain ⟨a0, a1, f0, f1, h0, h1, h2, h3, h4⟩ := h.2.2.2.2.2.2.2 c hc
  rcases (show o % 2 = 0 ∨ o % 2 = 1 by omega) with e | e
  · refine ⟨a0, a1, a0, f0, h0, if_pos e, ?_, ?_⟩ <;> rw [e] <;> assumption
  · refine ⟨a0, a1, a1, f1, h0, if_neg (by omega), ?_, ?_⟩ <;> rw [e] <;> assumption
theorem Cx.at (h : Cx G μ φ ad g σ δ) {a : Nat} {e : va_E} (hq : φ a = some e) : μ a = some e := (h.2.1 a e hq).1
theorem Cx.B (h : Cx G μ φ ad g σ δ) {i : Nat} (hi : i < 48) : G.2.2.2 ≤ ad i := h.1.2.2 i hi
end CxGet
/-- an update of a number in a role 3 .. 47 -/
theorem Cx.reg {G : mt_G} {μ μ' φ : mu_M} {ad : Nat → Nat} {g : dg} {σ : sg} {δ : dg} {i k : Nat} {x : Int32} (h : Cx G μ φ ad g σ δ) (hi : i < 48) (hR : Rp G μ' ad (up2 σ i k x) g) (hz : Fz μ' φ ad) : Cx G μ' φ ad g (up2 σ i k x) δ := by
  obtain ⟨-, -, h3, h4, h5, h6, h7, h8⟩ := h
  refine ⟨hR, hz, fun u o hu ho => ?_, h4, h5, h6, ?_, fun c hc => ?_⟩
  · rw [up2_n (by unfold eR; omega)]; exact h3 u o hu ho
  · rw [up2_n (by omega)]; exact h7
  · rw [up2_n (by omega)]; exact h8 c hc
/-- an entry is put at a unit's offset -/
theorem Cx.cell {G : mt_G} {μ μ' φ : mu_M} {ad : Nat → Nat} {g : dg} {σ : sg} {δ : dg} {u o a : Nat} {v : Nat → Int32} (h : Cx G μ φ ad g σ δ) (hu : u < 6) (ho : o < 60) (hR : Rp G μ' ad σ (up2 g (10 + u) o a)) (hz : Fz μ' φ ad) (hE : FE G φ a v) : Cx G μ' φ ad (up2 g (10 + u) o a) (va_up σ (eR u o) v) δ := by
  obtain ⟨-, -, h3, h4, h5, h6, h7, h8⟩ := h
  have hlow : ∀ i, i < 48 → (va_up σ (eR u o) v) i = σ i := fun i hi => va_up_ne _ _ (by unfold eR; omega)
  refine ⟨⟨fun i hi => ?_, hR.2.1, hR.2.2⟩, hz, fun u1 o1 hu1 ho1 => ?_, ?_, ?_, ?_, ?_, fun c hc => ?_⟩
  · rw [hR.1 i hi, sh_congr (hlow i hi) rfl]
  · by_cases hu2 : u1 = u
    · subst hu2
      rw [up2_s]
      by_cases ho2 : o1 = o
      · subst ho2
        rw [va_up_self, va_up_self]
        exact hE
      · rw [va_up_ne _ _ ho2, va_up_ne _ _ (by unfold eR; omega)]
        exact h3 u1 o1 hu ho1
    · rw [up2_n (by omega), va_up_ne _ _ (by unfold eR; omega)]
      exact h3 u1 o1 hu1 ho1
  · rw [up2_n (by omega)]; exact h4
  · rw [up2_n (by omega)]; exact h5
  · rw [up2_n (by omega)]; exact h6
  · rw [up2_n (by omega), va_up_ne _ _ (by unfold eR; omega)]; exact h7
  · rw [up2_n (by omega), va_up_ne _ _ (by unfold eR; omega)]; exact h8 c hc
/-- a cell is new, and is not seen from the state -/
theorem Cx.new {G : mt_G} {μ φ : mu_M} {ad : Nat → Nat} {g : dg} {σ : sg} {δ : dg} {q : Nat} {e : va_E} (h : Cx G μ φ ad g σ δ) (hq : μ q = none) : Cx G (mu_up μ q e) φ ad g σ δ :=
  ⟨h.1.new hq, h.2.1.new hq, h.2.2⟩
/-- what is never changed grows -/
theorem Cx.grow {G : mt_G} {μ φ φ' : mu_M} {ad : Nat → Nat} {g : dg} {σ : sg} {δ : dg} (h : Cx G μ φ ad g σ δ) (hz : Fz μ φ' ad) (hs : sub φ φ') : Cx G μ φ' ad g σ δ :=
  ⟨h.1, hz, fun u o hu ho => (h.2.2.1 u o hu ho).mono hs, h.2.2.2.1.mono hs, h.2.2.2.2.1.mono hs, h.2.2.2.2.2.1.mono hs, h.2.2.2.2.2.2.1.mono hs, fun c hc => (h.2.2.2.2.2.2.2 c hc).mono hs⟩
end
section
/-! THE CLASS, its private methods over the state -/
def usb (σ : sg) (c u : Nat) : Bool := decide (σ (4 + u) 1 ≠ 0) && decide (σ (4 + u) 2 ≤ σ (501 + c) 0)
set_option maxHeartbeats 1000000 in
set_option maxRecDepth 10000 in
theorem ct_use {G : mt_G} {μ φ : mu_M} {ad : Nat → Nat} {g : dg} {σ : sg} {δ : dg} (hC : Cx G μ φ ad g σ δ) {c u : Nat} (hc : c < 4) (hu : u < 6) :
    CT G M_Log_use [.ref (ad 0), .ref (ad (16 + c)), .int (nI u)] μ (fun v μ' => v = some (.ref (ad (4 + u))) ∧ μ' = μ ∧ usb σ c u = true) (fun E μ' => E = ISE ∧ μ' = μ ∧ usb σ c u = false) := by
  obtain ⟨a0, a1, f0, f1, hk0, -⟩ := hC.kn hc
  have hR := hC.R
  refine CT.of (by decide) rfl (Nat.le_of_ble_eq_true rfl) ?_
  refine wp_aload_n d_Log_use_0 rfl rfl ?_
  refine wp_get d_Log_use_1 fl_Log_11 (by first | exact hR.log | exact hR.uar | exact hR.unit hu | exact hR.cli hc | exact hk0) (by rfl) ?_
  refine wp_iload_n d_Log_use_4 rfl rfl ?_
  refine wp_aald d_Log_use_5 (t := 3) (C := "SharedLog$Unit") rfl (by first | exact hR.log | exact hR.uar | exact hR.unit hu | exact hR.cli hc | exact hk0) (by rfl) (by exact hu) (by omega) (by rfl) ?_
  refine wp_astore_n d_Log_use_6 rfl (by decide) ?_
  refine wp_aload_n d_Log_use_7 rfl rfl ?_
  refine wp_get d_Log_use_8 fl_Log_154 (by first | exact hR.log | exact hR.uar | exact hR.unit hu | exact hR.cli hc | exact hk0) (by rfl) ?_
  refine wp_if_eq (tgt := 28) d_Log_use_11 (by decide) (fun c11 => ?_) (fun c11 => ?_)
  · exact wp_throw th_Log_182_243 rfl (no_hd _) d_Log_use_28 d_Log_use_31 d_Log_use_32 d_Log_use_34 d_Log_use_37 (Nat.le_of_ble_eq_true rfl) (Nat.le_of_ble_eq_true rfl) (Nat.le_of_ble_eq_true rfl) (Nat.le_of_ble_eq_true rfl) ⟨rfl, rfl, by simp [usb, c11]⟩
  · refine wp_aload_n d_Log_use_14 rfl rfl ?_
    refine wp_get d_Log_use_15 fl_Log_158 (by first | exact hR.log | exact hR.uar | exact hR.unit hu | exact hR.cli hc | exact hk0) (by rfl) ?_
    refine wp_aload_n d_Log_use_18 rfl rfl ?_
    refine wp_get d_Log_use_19 fl_Log_80 (by first | exact hR.log | exact hR.uar | exact hR.unit hu | exact hR.cli hc | exact hk0) (by rfl) ?_
    refine wp_get d_Log_use_22 fl_Log_119 (by first | exact hR.log | exact hR.uar | exact hR.unit hu | exact hR.cli hc | exact hk0) (by rfl) ?_
    refine wp_icmp_le (tgt := 38) d_Log_use_25 (by decide) (fun c25 => ?_) (fun c25 => ?_)
    · refine wp_aload_n d_Log_use_38 rfl rfl ?_
      exact wp_aret d_Log_use_39 rfl (Or.inl ⟨_, rfl⟩) (by decide) (by decide) ⟨rfl, rfl, by simp [usb, c11, c25]⟩
    · exact wp_throw th_Log_182_243 rfl (no_hd _) d_Log_use_28 d_Log_use_31 d_Log_use_32 d_Log_use_34 d_Log_use_37 (Nat.le_of_ble_eq_true rfl) (Nat.le_of_ble_eq_true rfl) (Nat.le_of_ble_eq_true rfl) (Nat.le_of_ble_eq_true rfl) ⟨rfl, rfl, by simp [usb, c25]⟩
set_option maxHeartbeats 1000000 in
set_option maxRecDepth 10000 in
theorem ct_requireTransaction {G : mt_G} {μ φ : mu_M} {ad : Nat → Nat} {g : dg} {σ : sg} {δ : dg} (hC : Cx G μ φ ad g σ δ) {c : Nat} (hc : c < 4) :
    CT G M_Log_requireTransaction [.ref (ad (16 + c))] μ (fun v μ' => v = none ∧ μ' = μ ∧ ¬ σ (16 + c) 3 = 0) (fun E μ' => E = ISE ∧ μ' = μ ∧ σ (16 + c) 3 = 0) := by
  have hR := hC.R
  refine CT.of (by decide) rfl (Nat.le_of_ble_eq_true rfl) ?_
  refine wp_aload_n d_Log_requireTransaction_0 rfl rfl ?_
  refine wp_get d_Log_requireTransaction_1 fl_Log_179 (by exact hR.cli hc) (by rfl) ?_
  refine wp_if_ne (tgt := 17) d_Log_requireTransaction_4 (by decide) (fun c4 => ?_) (fun c4 => ?_)
  · exact wp_vret d_Log_requireTransaction_17 rfl (by decide) (by decide) ⟨rfl, rfl, c4⟩
  · exact wp_throw th_Log_182_234 rfl (no_hd _) d_Log_requireTransaction_7 d_Log_requireTransaction_10 d_Log_requireTransaction_11 d_Log_requireTransaction_13 d_Log_requireTransaction_16 (Nat.le_of_ble_eq_true rfl) (Nat.le_of_ble_eq_true rfl) (Nat.le_of_ble_eq_true rfl) (Nat.le_of_ble_eq_true rfl) ⟨rfl, rfl, c4⟩
/-- no token for this client -/
def ntk (σ : sg) (c : Nat) : Bool := decide (σ 3 0 ≠ 0) || decide (σ 3 1 ≠ σ (501 + c) 0)
set_option maxHeartbeats 1000000 in
set_option maxRecDepth 10000 in
theorem ct_requireSequencer {G : mt_G} {μ φ : mu_M} {ad : Nat → Nat} {g : dg} {σ : sg} {δ : dg} (hC : Cx G μ φ ad g σ δ) {c : Nat} (hc : c < 4) :
    CT G M_Log_requireSequencer [.ref (ad 0), .ref (ad (16 + c))] μ (fun v μ' => v = none ∧ μ' = μ ∧ ntk σ c = false) (fun E μ' => E = ISE ∧ μ' = μ ∧ ntk σ c = true) := by
  obtain ⟨a0, a1, f0, f1, hk0, -⟩ := hC.kn hc
  have hR := hC.R
  refine CT.of (by decide) rfl (Nat.le_of_ble_eq_true rfl) ?_
  refine wp_aload_n d_Log_requireSequencer_0 rfl rfl ?_
  refine wp_get d_Log_requireSequencer_1 fl_Log_24 (by first | exact hR.log | exact hR.seq | exact hR.cli hc | exact hk0) (by rfl) ?_
  refine wp_get d_Log_requireSequencer_4 fl_Log_161 (by first | exact hR.log | exact hR.seq | exact hR.cli hc | exact hk0) (by rfl) ?_
  refine wp_if_ne (tgt := 27) d_Log_requireSequencer_7 (by decide) (fun c7 => ?_) (fun c7 => ?_)
  · exact wp_throw th_Log_182_236 rfl (no_hd _) d_Log_requireSequencer_27 d_Log_requireSequencer_30 d_Log_requireSequencer_31 d_Log_requireSequencer_33 d_Log_requireSequencer_36 (Nat.le_of_ble_eq_true rfl) (Nat.le_of_ble_eq_true rfl) (Nat.le_of_ble_eq_true rfl) (Nat.le_of_ble_eq_true rfl) ⟨rfl, rfl, by simp [ntk, c7]⟩
  · refine wp_aload_n d_Log_requireSequencer_10 rfl rfl ?_
    refine wp_get d_Log_requireSequencer_11 fl_Log_24 (by first | exact hR.log | exact hR.seq | exact hR.cli hc | exact hk0) (by rfl) ?_
    refine wp_get d_Log_requireSequencer_14 fl_Log_223 (by first | exact hR.log | exact hR.seq | exact hR.cli hc | exact hk0) (by rfl) ?_
    refine wp_aload_n d_Log_requireSequencer_17 rfl rfl ?_
    refine wp_get d_Log_requireSequencer_18 fl_Log_80 (by first | exact hR.log | exact hR.seq | exact hR.cli hc | exact hk0) (by rfl) ?_
    refine wp_get d_Log_requireSequencer_21 fl_Log_119 (by first | exact hR.log | exact hR.seq | exact hR.cli hc | exact hk0) (by rfl) ?_
    refine wp_icmp_eq (tgt := 37) d_Log_requireSequencer_24 (by decide) (fun c24 => ?_) (fun c24 => ?_)
    · exact wp_vret d_Log_requireSequencer_37 rfl (by decide) (by decide) ⟨rfl, rfl, by simp [ntk, c7, c24]⟩
    · exact wp_throw th_Log_182_236 rfl (no_hd _) d_Log_requireSequencer_27 d_Log_requireSequencer_30 d_Log_requireSequencer_31 d_Log_requireSequencer_33 d_Log_requireSequencer_36 (Nat.le_of_ble_eq_true rfl) (Nat.le_of_ble_eq_true rfl) (Nat.le_of_ble_eq_true rfl) (Nat.le_of_ble_eq_true rfl) ⟨rfl, rfl, by simp [ntk, c24]⟩
set_option maxHeartbeats 1000000 in
set_option maxRecDepth 10000 in
theorem ct_takeToken {G : mt_G} {μ φ : mu_M} {ad : Nat → Nat} {g : dg} {σ : sg} {δ : dg} (hC : Cx G μ φ ad g σ δ) {c : Nat} (hc : c < 4) :
    CT G M_Log_takeToken [.ref (ad 0), .ref (ad (16 + c))] μ (fun v μ' => v = some (.int (σ 3 2)) ∧ ntk σ c = false ∧ σ 3 2 < 60 ∧ Cx G μ' φ ad g (up2 σ 3 2 (σ 3 2 + 1)) δ)
      (fun E μ' => μ' = μ ∧ ((E = ISE ∧ ntk σ c = true) ∨ (E = IOE ∧ ntk σ c = false ∧ ¬ σ 3 2 < 60))) := by
  have hR := hC.R
  refine CT.of (by decide) rfl (Nat.le_of_ble_eq_true rfl) ?_
  refine wp_aload_n d_Log_takeToken_0 rfl rfl ?_
  refine wp_aload_n d_Log_takeToken_1 rfl rfl ?_
  refine wx_callV d_Log_takeToken_2 cv_Log_164 cd_Log_requireSequencer ⟨by decide, by decide⟩ (ct_requireSequencer hC hc) (by exact hR.log) rfl rfl (Nat.le_of_ble_eq_true rfl) (Nat.le_of_ble_eq_true rfl) (Nat.le_of_ble_eq_true rfl) (fun E1 μ1 hq => WX.out rfl (no_hd _) (Nat.le_of_ble_eq_true rfl) (Nat.le_of_ble_eq_true rfl) ?_) (fun v1 μ1 hq => ?_)
  · exact ⟨hq.2.1, Or.inl ⟨hq.1, hq.2.2⟩⟩
  · obtain ⟨rfl, rfl, hn⟩ := hq
    refine wp_aload_n d_Log_takeToken_5 rfl rfl ?_
    refine wp_get d_Log_takeToken_6 fl_Log_24 (by first | exact hR.log | exact hR.seq) (by rfl) ?_
    refine wp_get d_Log_takeToken_9 fl_Log_152 (by first | exact hR.log | exact hR.seq) (by rfl) ?_
    refine wp_bipush (v := 60) d_Log_takeToken_12 (by decide) ?_
    refine wp_icmp_lt (tgt := 27) d_Log_takeToken_14 (by decide) (fun c14 => ?_) (fun c14 => ?_)
    · refine wp_aload_n d_Log_takeToken_27 rfl rfl ?_
      refine wp_get d_Log_takeToken_28 fl_Log_24 (by first | exact hR.log | exact hR.seq) (by rfl) ?_
      refine wp_get d_Log_takeToken_31 fl_Log_152 (by first | exact hR.log | exact hR.seq) (by rfl) ?_
      refine wp_istore_n d_Log_takeToken_34 rfl (by decide) ?_
      refine wp_aload_n d_Log_takeToken_35 rfl rfl ?_
      refine wp_get d_Log_takeToken_36 fl_Log_24 (by first | exact hR.log | exact hR.seq) (by rfl) ?_
      refine wp_iload_n d_Log_takeToken_39 rfl rfl ?_
      refine wp_iconst (v := 1) d_Log_takeToken_40 (by decide) ?_
      refine wp_iadd d_Log_takeToken_41 ?_
      refine wp_put d_Log_takeToken_42 fp_Log_152 (by first | exact hR.log | exact hR.seq) (by exact hC.B (by decide)) (by rfl) (by rfl) (Nat.le_of_ble_eq_true rfl) ?_
      refine wp_iload_n d_Log_takeToken_45 rfl rfl ?_
      exact wp_iret d_Log_takeToken_46 rfl (Nat.le_of_ble_eq_true rfl) (Nat.le_of_ble_eq_true rfl) ⟨rfl, hn, c14, hC.reg (by decide) hR.pSeq2 (hC.z.up (by decide))⟩
    · exact wp_throw th_Log_238_240 rfl (no_hd _) d_Log_takeToken_17 d_Log_takeToken_20 d_Log_takeToken_21 d_Log_takeToken_23 d_Log_takeToken_26 (Nat.le_of_ble_eq_true rfl) (Nat.le_of_ble_eq_true rfl) (Nat.le_of_ble_eq_true rfl) (Nat.le_of_ble_eq_true rfl) ⟨rfl, Or.inr ⟨rfl, hn, c14⟩⟩
/-- an entry v is written at offset o to n more units of the row d, from place i on: 0, or 1 (not to be used), 2 (held already) -/
def wrS (c o : Nat) (v : Nat → Int32) (d : Nat) : Nat → Nat → sg → Nat × sg
  | 0, _, σ => (0, σ)
  | n + 1, i, σ => if usb σ c (un d i) = true then (if σ (eR (un d i) o) 0 = 0 then wrS c o v d n (i + 1) (va_up σ (eR (un d i) o) v) else (2, σ)) else (1, σ)
set_option maxHeartbeats 4000000 in
set_option maxRecDepth 10000 in
theorem ct_write {G : mt_G} {μ φ : mu_M} {ad : Nat → Nat} {g : dg} {σ : sg} {δ : dg} (hC : Cx G μ φ ad g σ δ) {c o ea m : Nat} {v : Nat → Int32} (hc : c < 4) (ho : o < 60) (hm : m ≤ 3) (hE : FE G φ ea v) (hd : vr (δ (1 + c) (o % 2)) = true) :
    CT G M_Log_write [.ref (ad 0), .ref (ad (16 + c)), .int (nI o), .ref ea, .int (nI m)] μ
      (fun w μ' => w = none ∧ ∃ g' σ', wrS c o v (δ (1 + c) (o % 2)) (min (ln (δ (1 + c) (o % 2))) m) 0 σ = (0, σ') ∧ Cx G μ' φ ad g' σ' δ)
      (fun E μ' => ∃ g' σ' k, wrS c o v (δ (1 + c) (o % 2)) (min (ln (δ (1 + c) (o % 2))) m) 0 σ = (k, σ') ∧ Cx G μ' φ ad g' σ' δ ∧ ((k = 1 ∧ E = ISE) ∨ (k = 2 ∧ E = UOE))) := by
  obtain ⟨a0, a1, rw, f, hk0, hrw, hrφ, hf⟩ := hC.rowφ hc o
  generalize δ (1 + c) (o % 2) = d at hd hrφ hf ⊢
  have hR := hC.R
  have hln := ln_pos d
  refine CT.of (by decide) rfl (Nat.le_of_ble_eq_true rfl) ?_
  refine wp_aload_n d_Log_write_0 rfl rfl ?_
  refine wp_get d_Log_write_1 fl_Log_80 (by first | exact hR.cli hc | exact hC.at hk0) (by rfl) ?_
  refine wp_iload_n d_Log_write_4 rfl rfl ?_
  refine wx_callV d_Log_write_5 cv_Log_83 cd_Layout_chainOf ⟨by decide, by decide⟩ (ct_chainOf G μ _ a0 a1 o _ (by omega) (hC.at hk0)) (by first | exact hR.cli hc | exact hC.at hk0) rfl rfl (Nat.le_of_ble_eq_true rfl) (Nat.le_of_ble_eq_true rfl) (Nat.le_of_ble_eq_true rfl) (fun E1 μ1 hq => WX.out rfl (no_hd _) (Nat.le_of_ble_eq_true rfl) (Nat.le_of_ble_eq_true rfl) ?_) (fun v1 μ1 hq => ?_)
  · exact hq.elim
  · obtain ⟨rfl, rfl⟩ := hq
    rw [hrw]
    refine wp_astore d_Log_write_8 (by decide) ?_
    refine wp_iconst (v := 0) d_Log_write_10 (by decide) ?_
    refine wp_istore d_Log_write_11 (by decide) ?_
    have loop : ∀ (n i : Nat) (σ1 : sg) (g1 : dg) (μ1 : mu_M), i + n = min (ln d) m → Cx G μ1 φ ad g1 σ1 δ → wrS c o v d n i σ1 = wrS c o v d (min (ln d) m) 0 σ →
        WP G M_Log_write (EC G M_Log_write (fun w μ' => w = none ∧ ∃ g' σ', wrS c o v d (min (ln d) m) 0 σ = (0, σ') ∧ Cx G μ' φ ad g' σ' δ) (fun E μ' => ∃ g' σ' k, wrS c o v d (min (ln d) m) 0 σ = (k, σ') ∧ Cx G μ' φ ad g' σ' δ ∧ ((k = 1 ∧ E = ISE) ∨ (k = 2 ∧ E = UOE))))
          [(0, .ref (ad 0)), (1, .ref (ad (16 + c))), (2, .int (nI o)), (3, .ref ea), (4, .int (nI m)), (5, .ref rw), (6, .int (nI i))] 13 [] μ1 i (6 * i) := by
      intro n
      induction n with
      | zero =>
        intro i σ1 g1 μ1 hi hC1 hw
        have hpost : wrS c o v d (min (ln d) m) 0 σ = (0, σ1) := hw.symm
        have hend : WP G M_Log_write (EC G M_Log_write (fun w μ' => w = none ∧ ∃ g' σ', wrS c o v d (min (ln d) m) 0 σ = (0, σ') ∧ Cx G μ' φ ad g' σ' δ) (fun E μ' => ∃ g' σ' k, wrS c o v d (min (ln d) m) 0 σ = (k, σ') ∧ Cx G μ' φ ad g' σ' δ ∧ ((k = 1 ∧ E = ISE) ∨ (k = 2 ∧ E = UOE))))
          [(0, .ref (ad 0)), (1, .ref (ad (16 + c))), (2, .int (nI o)), (3, .ref ea), (4, .int (nI m)), (5, .ref rw), (6, .int (nI i))] 73 [] μ1 i (6 * i) :=
          wp_vret d_Log_write_73 rfl (by show i ≤ 4; omega) (by show 6 * i ≤ 24; omega) ⟨rfl, g1, σ1, hpost, hC1⟩
        refine wp_iload d_Log_write_13 rfl ?_
        refine wp_aload d_Log_write_15 rfl ?_
        refine wp_alen d_Log_write_17 (by exact (rfl : (TYS G.2.2.1)[0]? = some (G.2.2.1 0, .int))) (by exact hC1.at hrφ) ?_
        refine wp_icmp_ge (tgt := 73) d_Log_write_18 (by decide) (fun c18 => ?_) (fun c18 => ?_)
        · exact hend
        · refine wp_iload d_Log_write_21 rfl ?_
          refine wp_iload d_Log_write_23 rfl ?_
          refine wp_icmp_ge (tgt := 73) d_Log_write_25 (by decide) (fun c25 => ?_) (fun c25 => ?_)
          · exact hend
          · exfalso
            rw [nI_leI (by omega) (by omega)] at c18 c25
            omega
      | succ n ih =>
        intro i σ1 g1 μ1 hi hC1 hw
        have hR1 := hC1.R
        have hil : i < ln d := by omega
        have hu : un d i < 6 := vr_un hd hil
        have hce : ∀ k, i + 1 ≤ k → True := fun _ _ => trivial
        obtain ⟨w1, he1, -⟩ := hC1.ent hu ho
        refine wp_iload d_Log_write_13 rfl ?_
        refine wp_aload d_Log_write_15 rfl ?_
        refine wp_alen d_Log_write_17 (by exact (rfl : (TYS G.2.2.1)[0]? = some (G.2.2.1 0, .int))) (by exact hC1.at hrφ) ?_
        refine wp_icmp_ge (tgt := 73) d_Log_write_18 (by decide) (fun c18 => ?_) (fun c18 => ?_)
        · exact absurd ((nI_leI (by omega) (by omega)).mp c18) (by omega)
        refine wp_iload d_Log_write_21 rfl ?_
        refine wp_iload d_Log_write_23 rfl ?_
        refine wp_icmp_ge (tgt := 73) d_Log_write_25 (by decide) (fun c25 => ?_) (fun c25 => ?_)
        · exact absurd ((nI_leI (by omega) (by omega)).mp c25) (by omega)
        refine wp_aload_n d_Log_write_28 rfl rfl ?_
        refine wp_aload_n d_Log_write_29 rfl rfl ?_
        refine wp_aload d_Log_write_30 rfl ?_
        refine wp_iload d_Log_write_32 rfl ?_
        refine wp_iald d_Log_write_34 (by exact hC1.at hrφ) (by rfl) (by exact hil) (by omega) ?_
        rw [hf i hil]
        refine wx_callV d_Log_write_35 cv_Log_103 cd_Log_use ⟨by decide, by decide⟩ (ct_use hC1 hc hu) (by exact hR1.log) rfl rfl (Nat.le_of_ble_eq_true rfl) (by first | exact Nat.le_of_ble_eq_true rfl | (dsimp only [mt_R, M_Log_write, M_Log_use, M_Unit_holds, M_Layout_chainOf]; omega)) (by first | exact Nat.le_of_ble_eq_true rfl | (dsimp only [mt_R, M_Log_write, M_Log_use, M_Unit_holds, M_Layout_chainOf]; omega)) (fun E1 μ1 hq => WX.out rfl (no_hd _) (by first | exact Nat.le_of_ble_eq_true rfl | (dsimp only [mt_R, M_Log_write, M_Log_use, M_Unit_holds, M_Layout_chainOf]; omega)) (by first | exact Nat.le_of_ble_eq_true rfl | (dsimp only [mt_R, M_Log_write, M_Log_use, M_Unit_holds, M_Layout_chainOf]; omega)) ?_) (fun v1 μ1 hq => ?_)
        · obtain ⟨rfl, rfl, hub⟩ := hq
          refine ⟨g1, σ1, 1, ?_, hC1, Or.inl ⟨rfl, rfl⟩⟩
          rw [← hw, wrS, if_neg (by rw [hub]; decide)]
        · obtain ⟨rfl, rfl, hub⟩ := hq
          refine wp_astore d_Log_write_38 (by decide) ?_
          refine wp_aload d_Log_write_40 rfl ?_
          refine wp_iload_n d_Log_write_42 rfl rfl ?_
          refine wx_callV d_Log_write_43 cv_Log_107 cd_Unit_holds ⟨by decide, by decide⟩ (ct_holds G μ1 _ _ o _ _ _ _ _ _ _ ho (hR1.unit hu) (hR1.cells hu) rfl he1) (by exact hR1.unit hu) rfl rfl (Nat.le_of_ble_eq_true rfl) (by first | exact Nat.le_of_ble_eq_true rfl | (dsimp only [mt_R, M_Log_write, M_Log_use, M_Unit_holds, M_Layout_chainOf]; omega)) (by first | exact Nat.le_of_ble_eq_true rfl | (dsimp only [mt_R, M_Log_write, M_Log_use, M_Unit_holds, M_Layout_chainOf]; omega)) (fun E1 μ1 hq => WX.out rfl (no_hd _) (by first | exact Nat.le_of_ble_eq_true rfl | (dsimp only [mt_R, M_Log_write, M_Log_use, M_Unit_holds, M_Layout_chainOf]; omega)) (by first | exact Nat.le_of_ble_eq_true rfl | (dsimp only [mt_R, M_Log_write, M_Log_use, M_Unit_holds, M_Layout_chainOf]; omega)) ?_) (fun v1 μ1 hq => ?_)
          · exact hq.elim
          · obtain ⟨rfl, rfl⟩ := hq
            refine wp_if_eq (tgt := 59) d_Log_write_46 (by decide) (fun c46 => ?_) (fun c46 => ?_)
            · have hz : σ1 (eR (un d i) o) 0 = 0 := by
                by_cases hz : σ1 (eR (un d i) o) 0 = 0
                · exact hz
                · rw [if_neg hz] at c46; exact absurd c46 (by decide)
              refine wp_aload d_Log_write_59 rfl ?_
              refine wp_get d_Log_write_61 fl_Log_111 (by first | exact hR1.unit hu | exact hR1.cells hu) (by rfl) ?_
              refine wp_iload_n d_Log_write_64 rfl rfl ?_
              refine wp_aload_n d_Log_write_65 rfl rfl ?_
              obtain ⟨w2, hE2, -⟩ := id hE
              refine wp_aast d_Log_write_66 (t := 5) (ci := 2) (r := ("SharedLog$Entry", F_Entry, 3)) rfl rfl (hR1.cells hu) (hC1.B (by omega)) (hC1.at hE2) rfl ho (by omega) ?_
              refine wp_iinc d_Log_write_67 rfl rfl (by decide) ?_
              refine wp_goto (tgt := 13) d_Log_write_70 (by decide) ?_
              have hC2 := hC1.cell hu ho (hR1.pCell (k := o) (x := ea) hu) (hC1.z.up (by omega)) hE
              refine WP.loc [(0, .ref (ad 0)), (1, .ref (ad (16 + c))), (2, .int (nI o)), (3, .ref ea), (4, .int (nI m)), (5, .ref rw), (6, .int (nI (i + 1)))] ?_ (WP.widen (k := i + 1) (n := 6 * (i + 1)) (by dsimp only [mt_R, M_Log_write, M_Log_use, M_Unit_holds, M_Layout_chainOf]; omega) (by dsimp only [mt_R, M_Log_write, M_Log_use, M_Unit_holds, M_Layout_chainOf]; omega) (ih (i + 1) _ _ _ (by omega) hC2 ?_))
              · rw [← nI_1 i]; rfl
              · rw [← hw, wrS, if_pos hub, if_pos hz]
            · have hz : ¬ σ1 (eR (un d i) o) 0 = 0 := fun hz => c46 (by rw [if_pos hz])
              exact wp_throw th_Log_94_245 rfl (no_hd _) d_Log_write_49 d_Log_write_52 d_Log_write_53 d_Log_write_55 d_Log_write_58 (Nat.le_of_ble_eq_true rfl) (Nat.le_of_ble_eq_true rfl) (by first | exact Nat.le_of_ble_eq_true rfl | (dsimp only [mt_R, M_Log_write, M_Log_use, M_Unit_holds, M_Layout_chainOf]; omega)) (by first | exact Nat.le_of_ble_eq_true rfl | (dsimp only [mt_R, M_Log_write, M_Log_use, M_Unit_holds, M_Layout_chainOf]; omega)) ⟨g1, σ1, 2, by rw [← hw, wrS, if_pos hub, if_neg hz], hC1, Or.inr ⟨rfl, rfl⟩⟩
    exact WP.loc _ rfl (loop _ 0 σ g μ1 (by omega) hC rfl)
end
section
/-! THE CLASS: trimming, playing -/
theorem nI_m1 {n : Nat} (h : 1 ≤ n) : nI n - 1 = nI (n - 1) := by
  obtain ⟨k, rfl⟩ : ∃ k, n = k + 1 := ⟨n - 1, by omega⟩
  exact nI_pred k
/-- the unit at a row's end -/
def uL (d : Nat) : Nat := un d (ln d - 1)
theorem uL_lt {d : Nat} (h : vr d = true) : uL d < 6 := vr_un h (by have := ln_pos d; omega)
set_option maxHeartbeats 1000000 in
set_option maxRecDepth 10000 in
theorem ct_entryAtEnd {G : mt_G} {μ φ : mu_M} {ad : Nat → Nat} {g : dg} {σ : sg} {δ : dg} (hC : Cx G μ φ ad g σ δ) {c o : Nat} (hc : c < 4) (ho : o < 60) (hd : vr (δ (1 + c) (o % 2)) = true) :
    CT G M_Log_entryAtEnd [.ref (ad 0), .ref (ad (16 + c)), .int (nI o)] μ
      (fun v μ' => v = some (.ref (g (10 + uL (δ (1 + c) (o % 2))) o)) ∧ μ' = μ ∧ usb σ c (uL (δ (1 + c) (o % 2))) = true ∧ ¬ σ (eR (uL (δ (1 + c) (o % 2))) o) 0 = 0 ∧ ¬ σ (eR (uL (δ (1 + c) (o % 2))) o) 0 = 4)
      (fun E μ' => μ' = μ ∧ ((E = ISE ∧ usb σ c (uL (δ (1 + c) (o % 2))) = false) ∨ (E = IOE ∧ usb σ c (uL (δ (1 + c) (o % 2))) = true ∧ σ (eR (uL (δ (1 + c) (o % 2))) o) 0 = 0) ∨ (E = NSE ∧ usb σ c (uL (δ (1 + c) (o % 2))) = true ∧ ¬ σ (eR (uL (δ (1 + c) (o % 2))) o) 0 = 0 ∧ σ (eR (uL (δ (1 + c) (o % 2))) o) 0 = 4))) := by
  obtain ⟨a0, a1, rw, f, hk0, hrw, hrφ, hf⟩ := hC.rowφ hc o
  generalize δ (1 + c) (o % 2) = d at hd hrφ hf ⊢
  have hR := hC.R
  have hln := ln_pos d
  have hu := uL_lt hd
  obtain ⟨w1, he1, -⟩ := hC.ent hu ho
  refine CT.of (by decide) rfl (Nat.le_of_ble_eq_true rfl) ?_
  refine wp_aload_n d_Log_entryAtEnd_0 rfl rfl ?_
  refine wp_get d_Log_entryAtEnd_1 fl_Log_80 (by first | exact hR.cli hc | exact hC.at hk0 | exact hC.at hrφ | exact hR.unit hu | exact hR.cells hu | exact he1) (by rfl) ?_
  refine wp_iload_n d_Log_entryAtEnd_4 rfl rfl ?_
  refine wx_callV d_Log_entryAtEnd_5 cv_Log_83 cd_Layout_chainOf ⟨by decide, by decide⟩ (ct_chainOf G μ _ a0 a1 o _ (by omega) (hC.at hk0)) (by first | exact hR.cli hc | exact hC.at hk0 | exact hC.at hrφ | exact hR.unit hu | exact hR.cells hu | exact he1) rfl rfl (Nat.le_of_ble_eq_true rfl) (Nat.le_of_ble_eq_true rfl) (Nat.le_of_ble_eq_true rfl) (fun E1 μ1 hq => WX.out rfl (no_hd _) (Nat.le_of_ble_eq_true rfl) (Nat.le_of_ble_eq_true rfl) ?_) (fun v1 μ1 hq => ?_)
  · exact hq.elim
  · obtain ⟨rfl, rfl⟩ := hq
    rw [hrw]
    refine wp_astore_n d_Log_entryAtEnd_8 rfl (by decide) ?_
    refine wp_aload_n d_Log_entryAtEnd_9 rfl rfl ?_
    refine wp_aload_n d_Log_entryAtEnd_10 rfl rfl ?_
    refine wp_aload_n d_Log_entryAtEnd_11 rfl rfl ?_
    refine wp_aload_n d_Log_entryAtEnd_12 rfl rfl ?_
    refine wp_alen d_Log_entryAtEnd_13 (by exact (rfl : (TYS G.2.2.1)[0]? = some (G.2.2.1 0, .int))) (by first | exact hR.cli hc | exact hC.at hk0 | exact hC.at hrφ | exact hR.unit hu | exact hR.cells hu | exact he1) ?_
    refine wp_iconst (v := 1) d_Log_entryAtEnd_14 (by decide) ?_
    refine wp_isub d_Log_entryAtEnd_15 ?_
    refine wp_iald d_Log_entryAtEnd_16 (by first | exact hR.cli hc | exact hC.at hk0 | exact hC.at hrφ | exact hR.unit hu | exact hR.cells hu | exact he1) (by exact nI_m1 hln.1) (by omega) (by omega) ?_
    rw [hf _ (by omega)]
    refine wx_callV d_Log_entryAtEnd_17 cv_Log_103 cd_Log_use ⟨by decide, by decide⟩ (ct_use hC hc hu) (by exact hR.log) rfl rfl (Nat.le_of_ble_eq_true rfl) (Nat.le_of_ble_eq_true rfl) (Nat.le_of_ble_eq_true rfl) (fun E1 μ1 hq => WX.out rfl (no_hd _) (Nat.le_of_ble_eq_true rfl) (Nat.le_of_ble_eq_true rfl) ?_) (fun v1 μ1 hq => ?_)
    · exact ⟨hq.2.1, Or.inl ⟨hq.1, hq.2.2⟩⟩
    · obtain ⟨rfl, rfl, hub⟩ := hq
      refine wp_get d_Log_entryAtEnd_20 fl_Log_111 (by first | exact hR.cli hc | exact hC.at hk0 | exact hC.at hrφ | exact hR.unit hu | exact hR.cells hu | exact he1) (by rfl) ?_
      refine wp_iload_n d_Log_entryAtEnd_23 rfl rfl ?_
      refine wp_aald d_Log_entryAtEnd_24 (t := 5) (C := "SharedLog$Entry") rfl (by first | exact hR.cli hc | exact hC.at hk0 | exact hC.at hrφ | exact hR.unit hu | exact hR.cells hu | exact he1) (by rfl) (by exact ho) (by omega) (by rfl) ?_
      refine wp_astore d_Log_entryAtEnd_25 (by decide) ?_
      refine wp_aload d_Log_entryAtEnd_27 rfl ?_
      refine wp_get d_Log_entryAtEnd_29 fl_Log_90 (by first | exact hR.cli hc | exact hC.at hk0 | exact hC.at hrφ | exact hR.unit hu | exact hR.cells hu | exact he1) (by rfl) ?_
      refine wp_if_ne (tgt := 45) d_Log_entryAtEnd_32 (by decide) (fun c32 => ?_) (fun c32 => ?_)
      · refine wp_aload d_Log_entryAtEnd_45 rfl ?_
        refine wp_get d_Log_entryAtEnd_47 fl_Log_90 (by first | exact hR.cli hc | exact hC.at hk0 | exact hC.at hrφ | exact hR.unit hu | exact hR.cells hu | exact he1) (by rfl) ?_
        refine wp_iconst (v := 4) d_Log_entryAtEnd_50 (by decide) ?_
        refine wp_icmp_ne (tgt := 64) d_Log_entryAtEnd_51 (by decide) (fun c51 => ?_) (fun c51 => ?_)
        · refine wp_aload d_Log_entryAtEnd_64 rfl ?_
          exact wp_aret d_Log_entryAtEnd_66 rfl (Or.inl ⟨_, rfl⟩) (Nat.le_of_ble_eq_true rfl) (Nat.le_of_ble_eq_true rfl) ⟨rfl, rfl, hub, c32, c51⟩
        · exact wp_nse rfl rfl (no_hd _) d_Log_entryAtEnd_54 d_Log_entryAtEnd_57 d_Log_entryAtEnd_58 d_Log_entryAtEnd_60 d_Log_entryAtEnd_63 (Nat.le_of_ble_eq_true rfl) (Nat.le_of_ble_eq_true rfl) (Nat.le_of_ble_eq_true rfl) (Nat.le_of_ble_eq_true rfl) ⟨rfl, Or.inr (Or.inr ⟨rfl, hub, c32, c51⟩)⟩
      · exact wp_throw th_Log_238_247 rfl (no_hd _) d_Log_entryAtEnd_35 d_Log_entryAtEnd_38 d_Log_entryAtEnd_39 d_Log_entryAtEnd_41 d_Log_entryAtEnd_44 (Nat.le_of_ble_eq_true rfl) (Nat.le_of_ble_eq_true rfl) (Nat.le_of_ble_eq_true rfl) (Nat.le_of_ble_eq_true rfl) ⟨rfl, Or.inr (Or.inl ⟨rfl, hub, c32⟩)⟩
/-- trimming at one offset: code, how many had none, the state -/
def t1S (c o d : Nat) : Nat → Nat → Nat → sg → Nat × Nat × sg
  | 0, _, k, σ => (0, k, σ)
  | n + 1, i, k, σ => if usb σ c (un d i) = true then (if σ (eR (un d i) o) 0 = 4 then t1S c o d n (i + 1) k σ else t1S c o d n (i + 1) (k + 1) (va_up σ (eR (un d i) o) vTrim)) else (1, k, σ)
set_option maxHeartbeats 4000000 in
set_option maxRecDepth 10000 in
theorem ct_trimOne {G : mt_G} {μ φ : mu_M} {ad : Nat → Nat} {g : dg} {σ : sg} {δ : dg} (hC : Cx G μ φ ad g σ δ) {c o : Nat} (hc : c < 4) (ho : o < 60) (hd : vr (δ (1 + c) (o % 2)) = true) :
    CT G M_Log_trimOne [.ref (ad 0), .ref (ad (16 + c)), .int (nI o)] μ
      (fun w μ' => ∃ g' σ' k, w = some (.int (nI k)) ∧ k ≤ 3 ∧ t1S c o (δ (1 + c) (o % 2)) (ln (δ (1 + c) (o % 2))) 0 0 σ = (0, k, σ') ∧ Cx G μ' φ ad g' σ' δ)
      (fun E μ' => ∃ g' σ' k, E = ISE ∧ t1S c o (δ (1 + c) (o % 2)) (ln (δ (1 + c) (o % 2))) 0 0 σ = (1, k, σ') ∧ Cx G μ' φ ad g' σ' δ) := by
  obtain ⟨a0, a1, rw, f, hk0, hrw, hrφ, hf⟩ := hC.rowφ hc o
  generalize δ (1 + c) (o % 2) = d at hd hrφ hf ⊢
  have hR := hC.R
  have hln := ln_pos d
  refine CT.of (by decide) rfl (Nat.le_of_ble_eq_true rfl) ?_
  refine wp_aload_n d_Log_trimOne_0 rfl rfl ?_
  refine wp_get d_Log_trimOne_1 fl_Log_80 (by first | exact hR.cli hc | exact hC.at hk0) (by rfl) ?_
  refine wp_iload_n d_Log_trimOne_4 rfl rfl ?_
  refine wx_callV d_Log_trimOne_5 cv_Log_83 cd_Layout_chainOf ⟨by decide, by decide⟩ (ct_chainOf G μ _ a0 a1 o _ (by omega) (hC.at hk0)) (by first | exact hR.cli hc | exact hC.at hk0) rfl rfl (Nat.le_of_ble_eq_true rfl) (Nat.le_of_ble_eq_true rfl) (Nat.le_of_ble_eq_true rfl) (fun E1 μ1 hq => WX.out rfl (no_hd _) (Nat.le_of_ble_eq_true rfl) (Nat.le_of_ble_eq_true rfl) ?_) (fun v1 μ1 hq => ?_)
  · exact hq.elim
  · obtain ⟨rfl, rfl⟩ := hq
    rw [hrw]
    refine wp_astore_n d_Log_trimOne_8 rfl (by decide) ?_
    refine wp_iconst (v := 0) d_Log_trimOne_9 (by decide) ?_
    refine wp_istore d_Log_trimOne_10 (by decide) ?_
    refine wp_iconst (v := 0) d_Log_trimOne_12 (by decide) ?_
    refine wp_istore d_Log_trimOne_13 (by decide) ?_
    have loop : ∀ (n i k : Nat) (σ1 : sg) (g1 : dg) (μ1 : mu_M), i + n = ln d → k ≤ i → Cx G μ1 φ ad g1 σ1 δ → t1S c o d n i k σ1 = t1S c o d (ln d) 0 0 σ →
        WP G M_Log_trimOne (EC G M_Log_trimOne (fun w μ' => ∃ g' σ' k, w = some (.int (nI k)) ∧ k ≤ 3 ∧ t1S c o d (ln d) 0 0 σ = (0, k, σ') ∧ Cx G μ' φ ad g' σ' δ) (fun E μ' => ∃ g' σ' k, E = ISE ∧ t1S c o d (ln d) 0 0 σ = (1, k, σ') ∧ Cx G μ' φ ad g' σ' δ))
          [(0, .ref (ad 0)), (1, .ref (ad (16 + c))), (2, .int (nI o)), (3, .ref rw), (4, .int (nI k)), (5, .int (nI i))] 15 [] μ1 i (6 * i) := by
      intro n
      induction n with
      | zero =>
        intro i k σ1 g1 μ1 hi hki hC1 hw
        refine wp_iload d_Log_trimOne_15 rfl ?_
        refine wp_aload_n d_Log_trimOne_17 rfl rfl ?_
        refine wp_alen d_Log_trimOne_18 (by exact (rfl : (TYS G.2.2.1)[0]? = some (G.2.2.1 0, .int))) (by exact hC1.at hrφ) ?_
        refine wp_icmp_ge (tgt := 67) d_Log_trimOne_19 (by decide) (fun c19 => ?_) (fun c19 => ?_)
        · refine wp_iload d_Log_trimOne_67 rfl ?_
          exact wp_iret d_Log_trimOne_69 rfl (by show i ≤ 3; omega) (by show 6 * i ≤ 18; omega) ⟨g1, σ1, k, rfl, by omega, hw.symm, hC1⟩
        · rw [nI_leI (by omega) (by omega)] at c19
          omega
      | succ n ih =>
        intro i k σ1 g1 μ1 hi hki hC1 hw
        have hR1 := hC1.R
        have hil : i < ln d := by omega
        have hu : un d i < 6 := vr_un hd hil
        obtain ⟨w1, he1, -⟩ := hC1.ent hu ho
        refine wp_iload d_Log_trimOne_15 rfl ?_
        refine wp_aload_n d_Log_trimOne_17 rfl rfl ?_
        refine wp_alen d_Log_trimOne_18 (by exact (rfl : (TYS G.2.2.1)[0]? = some (G.2.2.1 0, .int))) (by exact hC1.at hrφ) ?_
        refine wp_icmp_ge (tgt := 67) d_Log_trimOne_19 (by decide) (fun c19 => ?_) (fun c19 => ?_)
        · exact absurd ((nI_leI (by omega) (by omega)).mp c19) (by omega)
        refine wp_aload_n d_Log_trimOne_22 rfl rfl ?_
        refine wp_aload_n d_Log_trimOne_23 rfl rfl ?_
        refine wp_aload_n d_Log_trimOne_24 rfl rfl ?_
        refine wp_iload d_Log_trimOne_25 rfl ?_
        refine wp_iald d_Log_trimOne_27 (by exact hC1.at hrφ) (by rfl) (by exact hil) (by omega) ?_
        rw [hf i hil]
        refine wx_callV d_Log_trimOne_28 cv_Log_103 cd_Log_use ⟨by decide, by decide⟩ (ct_use hC1 hc hu) (by exact hR1.log) rfl rfl (Nat.le_of_ble_eq_true rfl) (by first | exact Nat.le_of_ble_eq_true rfl | (dsimp only [mt_R, M_Log_trimOne, M_Log_use, M_Layout_chainOf]; omega)) (by first | exact Nat.le_of_ble_eq_true rfl | (dsimp only [mt_R, M_Log_trimOne, M_Log_use, M_Layout_chainOf]; omega)) (fun E1 μ1 hq => WX.out rfl (no_hd _) (by first | exact Nat.le_of_ble_eq_true rfl | (dsimp only [mt_R, M_Log_trimOne, M_Log_use, M_Layout_chainOf]; omega)) (by first | exact Nat.le_of_ble_eq_true rfl | (dsimp only [mt_R, M_Log_trimOne, M_Log_use, M_Layout_chainOf]; omega)) ?_) (fun v1 μ1 hq => ?_)
        · obtain ⟨rfl, rfl, hub⟩ := hq
          exact ⟨g1, σ1, k, rfl, by rw [← hw, t1S, if_neg (by rw [hub]; decide)], hC1⟩
        · obtain ⟨rfl, rfl, hub⟩ := hq
          refine wp_astore d_Log_trimOne_31 (by decide) ?_
          refine wp_aload d_Log_trimOne_33 rfl ?_
          refine wp_get d_Log_trimOne_35 fl_Log_111 (by first | exact hR1.unit hu | exact hR1.cells hu | exact he1 | exact hR1.log) (by rfl) ?_
          refine wp_iload_n d_Log_trimOne_38 rfl rfl ?_
          refine wp_aald d_Log_trimOne_39 (t := 5) (C := "SharedLog$Entry") rfl (by first | exact hR1.unit hu | exact hR1.cells hu | exact he1 | exact hR1.log) (by rfl) (by exact ho) (by omega) (by rfl) ?_
          refine wp_get d_Log_trimOne_40 fl_Log_90 (by first | exact hR1.unit hu | exact hR1.cells hu | exact he1 | exact hR1.log) (by rfl) ?_
          refine wp_iconst (v := 4) d_Log_trimOne_43 (by decide) ?_
          refine wp_icmp_eq (tgt := 61) d_Log_trimOne_44 (by decide) (fun c44 => ?_) (fun c44 => ?_)
          · refine wp_iinc d_Log_trimOne_61 rfl rfl (by decide) ?_
            refine wp_goto (tgt := 15) d_Log_trimOne_64 (by decide) ?_
            refine WP.loc [(0, .ref (ad 0)), (1, .ref (ad (16 + c))), (2, .int (nI o)), (3, .ref rw), (4, .int (nI k)), (5, .int (nI (i + 1)))] ?_ (WP.widen (k := i + 1) (n := 6 * (i + 1)) (by dsimp only [mt_R, M_Log_trimOne, M_Log_use, M_Layout_chainOf]; omega) (by dsimp only [mt_R, M_Log_trimOne, M_Log_use, M_Layout_chainOf]; omega) (ih (i + 1) k _ _ _ (by omega) (by omega) hC1 ?_))
            · rw [← nI_1 i]; rfl
            · rw [← hw, t1S, if_pos hub, if_pos c44]
          · refine wp_aload d_Log_trimOne_47 rfl ?_
            refine wp_get d_Log_trimOne_49 fl_Log_111 (by first | exact hR1.unit hu | exact hR1.cells hu | exact he1 | exact hR1.log) (by rfl) ?_
            refine wp_iload_n d_Log_trimOne_52 rfl rfl ?_
            refine wp_aload_n d_Log_trimOne_53 rfl rfl ?_
            refine wp_get d_Log_trimOne_54 fl_Log_43 (by first | exact hR1.unit hu | exact hR1.cells hu | exact he1 | exact hR1.log) (by rfl) ?_
            obtain ⟨w2, hE2, -⟩ := hC1.2.2.2.2.2.1
            refine wp_aast d_Log_trimOne_57 (t := 5) (ci := 2) (r := ("SharedLog$Entry", F_Entry, 3)) rfl rfl (hR1.cells hu) (hC1.B (by omega)) (hC1.at hE2) rfl ho (by omega) ?_
            refine wp_iinc d_Log_trimOne_58 rfl rfl (by decide) ?_
            refine wp_iinc d_Log_trimOne_61 rfl rfl (by decide) ?_
            refine wp_goto (tgt := 15) d_Log_trimOne_64 (by decide) ?_
            have hC2 := hC1.cell hu ho (hR1.pCell (k := o) (x := g1 0 5) hu) (hC1.z.up (by omega)) hC1.2.2.2.2.2.1
            refine WP.loc [(0, .ref (ad 0)), (1, .ref (ad (16 + c))), (2, .int (nI o)), (3, .ref rw), (4, .int (nI (k + 1))), (5, .int (nI (i + 1)))] ?_ (WP.widen (k := i + 1) (n := 6 * (i + 1)) (by dsimp only [mt_R, M_Log_trimOne, M_Log_use, M_Layout_chainOf]; omega) (by dsimp only [mt_R, M_Log_trimOne, M_Log_use, M_Layout_chainOf]; omega) (ih (i + 1) (k + 1) _ _ _ (by omega) (by omega) hC2 ?_))
            · rw [← nI_1 i, ← nI_1 k]; rfl
            · rw [← hw, t1S, if_pos hub, if_neg c44]
    exact WP.loc _ rfl (loop _ 0 0 σ g μ1 (by omega) (by omega) hC rfl)
/-- the ages of what was read are the same still -/
def am (f0 f1 ag : Nat → Int32) : Bool := (List.range 4).all (fun k => decide (f0 k = 0) || decide (f1 k = ag k))
theorem am_iff {f0 f1 ag : Nat → Int32} : am f0 f1 ag = true ↔ ∀ k, k < 4 → f0 k = 0 ∨ f1 k = ag k := by
  simp only [am, List.all_eq_true, List.mem_range, Bool.or_eq_true, decide_eq_true_eq]
set_option maxHeartbeats 4000000 in
set_option maxRecDepth 10000 in
theorem ct_agesMatch (G : mt_G) (μ : mu_M) (ca va aa w a0 a1 : Nat) (y0 y2 y3 y4 y5 x2 x3 : Value) (f0 f1 ag : Nat → Int32) (hc : μ ca = some (.inr (6, [y0, .ref aa, y2, y3, y4, y5]))) (ha : μ aa = some (.inl (G.2.2.1 0, 4, .inl ag))) (hw : μ w = some (.inr (5, [.ref a0, .ref a1, x2, x3]))) (h0 : μ a0 = some (.inl (G.2.2.1 1, 4, .inl f0))) (h1 : μ a1 = some (.inl (G.2.2.1 0, 4, .inl f1))) :
    CT G M_Client_agesMatch [.ref ca, .ref w] μ (fun v μ' => v = some (.int (if am f0 f1 ag = true then 1 else 0)) ∧ μ' = μ) (fun _ _ => False) := by
  refine CT.of (by decide) rfl (Nat.le_of_ble_eq_true rfl) ?_
  refine wp_iconst (v := 0) d_Client_agesMatch_0 (by decide) ?_
  refine wp_istore_n d_Client_agesMatch_1 rfl (by decide) ?_
  have loop : ∀ (n i : Nat), i + n = 4 → (∀ k, k < i → f0 k = 0 ∨ f1 k = ag k) → WP G M_Client_agesMatch (EC G M_Client_agesMatch (fun v μ' => v = some (.int (if am f0 f1 ag = true then 1 else 0)) ∧ μ' = μ) (fun _ _ => False)) [(0, .ref ca), (1, .ref w), (2, .int (nI i))] 2 [] μ 0 0 := by
    intro n
    induction n with
    | zero =>
      intro i hi hk
      obtain rfl : i = 4 := by omega
      refine wp_iload_n d_Client_agesMatch_2 rfl rfl ?_
      refine wp_iconst (v := 4) d_Client_agesMatch_3 (by decide) ?_
      refine wp_icmp_ge (tgt := 39) d_Client_agesMatch_4 (by decide) (fun c4 => ?_) (fun c4 => ?_)
      · refine wp_iconst (v := 1) d_Client_agesMatch_39 (by decide) ?_
        exact wp_zret d_Client_agesMatch_40 rfl rfl (by decide) (by decide) ⟨by rw [if_pos (am_iff.mpr hk)], rfl⟩
      · exact absurd (by decide) c4
    | succ n ih =>
      intro i hi hk
      refine wp_iload_n d_Client_agesMatch_2 rfl rfl ?_
      refine wp_iconst (v := 4) d_Client_agesMatch_3 (by decide) ?_
      refine wp_icmp_ge (tgt := 39) d_Client_agesMatch_4 (by decide) (fun c4 => ?_) (fun c4 => ?_)
      · exact absurd ((nI_leI (a := 4) (by omega) (by omega)).mp c4) (by omega)
      refine wp_aload_n d_Client_agesMatch_7 rfl rfl ?_
      refine wp_get d_Client_agesMatch_8 fl_Client_37 (by first | exact hc | exact ha | exact hw | exact h0 | exact h1) (by rfl) ?_
      refine wp_iload_n d_Client_agesMatch_11 rfl rfl ?_
      refine wp_zald d_Client_agesMatch_12 (by first | exact hc | exact ha | exact hw | exact h0 | exact h1) (by rfl) (by omega) (by omega) ?_
      have next : (f0 i = 0 ∨ f1 i = ag i) → WP G M_Client_agesMatch (EC G M_Client_agesMatch (fun v μ' => v = some (.int (if am f0 f1 ag = true then 1 else 0)) ∧ μ' = μ) (fun _ _ => False)) [(0, .ref ca), (1, .ref w), (2, .int (nI i))] 33 [] μ 0 0 := by
        intro hz
        refine wp_iinc d_Client_agesMatch_33 rfl rfl (by decide) ?_
        refine wp_goto (tgt := 2) d_Client_agesMatch_36 (by decide) ?_
        refine WP.loc [(0, .ref ca), (1, .ref w), (2, .int (nI (i + 1)))] (by rw [← nI_1 i]; rfl) (ih (i + 1) (by omega) (fun k hk1 => ?_))
        rcases Nat.lt_or_ge k i with q | q
        · exact hk k q
        · rw [show k = i by omega]; exact hz
      refine wp_if_eq (tgt := 33) d_Client_agesMatch_13 (by decide) (fun c13 => ?_) (fun c13 => ?_)
      · exact next (Or.inl c13)
      · refine wp_aload_n d_Client_agesMatch_16 rfl rfl ?_
        refine wp_get d_Client_agesMatch_17 fl_Client_41 (by first | exact hc | exact ha | exact hw | exact h0 | exact h1) (by rfl) ?_
        refine wp_iload_n d_Client_agesMatch_20 rfl rfl ?_
        refine wp_iald d_Client_agesMatch_21 (by first | exact hc | exact ha | exact hw | exact h0 | exact h1) (by rfl) (by omega) (by omega) ?_
        refine wp_aload_n d_Client_agesMatch_22 rfl rfl ?_
        refine wp_get d_Client_agesMatch_23 fl_Client_15 (by first | exact hc | exact ha | exact hw | exact h0 | exact h1) (by rfl) ?_
        refine wp_iload_n d_Client_agesMatch_26 rfl rfl ?_
        refine wp_iald d_Client_agesMatch_27 (by first | exact hc | exact ha | exact hw | exact h0 | exact h1) (by rfl) (by omega) (by omega) ?_
        refine wp_icmp_eq (tgt := 33) d_Client_agesMatch_28 (by decide) (fun c28 => ?_) (fun c28 => ?_)
        · exact next (Or.inr c28)
        · refine wp_iconst (v := 0) d_Client_agesMatch_31 (by decide) ?_
          refine wp_zret d_Client_agesMatch_32 rfl rfl (by decide) (by decide) ⟨?_, rfl⟩
          rw [if_neg]
          intro hz
          rcases am_iff.mp hz i (by omega) with q | q
          · exact c13 q
          · exact c28 q
  exact WP.loc _ rfl (loop 4 0 rfl (fun _ h => absurd h (Nat.not_lt_zero _)))
end
section
/-! THE CLASS: playing -/
/-- what a work v puts, done for client c, with an age: the first k registers -/
def apR (c : Nat) (v : Nat → Int32) (age : Int32) : Nat → sg → sg
  | 0, σ => σ
  | k + 1, σ => if v (10 + k) = 0 then apR c v age k σ else up2 (up2 (apR c v age k σ) (20 + c) k (v (14 + k))) (24 + c) k age
theorem apR_off {c : Nat} {v : Nat → Int32} {age : Int32} {i : Nat} (h1 : i ≠ 20 + c) (h2 : i ≠ 24 + c) : ∀ (k : Nat) (σ : sg), apR c v age k σ i = σ i
  | 0, σ => rfl
  | k + 1, σ => by
    unfold apR
    split
    · exact apR_off h1 h2 k σ
    · rw [up2_n h2, up2_n h1]; exact apR_off h1 h2 k σ
set_option maxHeartbeats 4000000 in
set_option maxRecDepth 10000 in
theorem ct_apply {G : mt_G} {μ φ : mu_M} {ad : Nat → Nat} {g : dg} {σ : sg} {δ : dg} (hC : Cx G μ φ ad g σ δ) {c w : Nat} {v : Nat → Int32} {age : Int32} (hc : c < 4) (hw : FW G φ w v) :
    CT G M_Client_apply [.ref (ad (16 + c)), .ref w, .int age] μ
      (fun x μ' => x = some (.int (if am (fun k => v (2 + k)) (fun k => v (6 + k)) (σ (24 + c)) = true then 1 else 0)) ∧ Cx G μ' φ ad g (if am (fun k => v (2 + k)) (fun k => v (6 + k)) (σ (24 + c)) = true then apR c v age 4 σ else σ) δ) (fun _ _ => False) := by
  have hR := hC.R
  obtain ⟨a0, a1, a2, a3, f0, f1, f2, f3, w0, w1, w2, w3, w4, wf⟩ := hw
  have ham : am f0 f1 (σ (24 + c)) = am (fun k => v (2 + k)) (fun k => v (6 + k)) (σ (24 + c)) := by
    rw [Bool.eq_iff_iff, am_iff, am_iff]
    constructor
    · intro h k hk; have := h k hk; rw [(wf k hk).1, (wf k hk).2.1] at this; exact this
    · intro h k hk; rw [(wf k hk).1, (wf k hk).2.1]; exact h k hk
  rw [← ham]
  refine CT.of (by decide) rfl (Nat.le_of_ble_eq_true rfl) ?_
  refine wp_aload_n d_Client_apply_0 rfl rfl ?_
  refine wp_aload_n d_Client_apply_1 rfl rfl ?_
  refine wx_callV d_Client_apply_2 cv_Client_44 cd_Client_agesMatch ⟨by decide, by decide⟩ (ct_agesMatch G μ _ 0 _ w a0 a1 _ _ _ _ _ _ _ f0 f1 _ (hR.cli hc) (hR.age hc) (hC.at w0) (hC.at w1) (hC.at w2)) (by exact hR.cli hc) rfl rfl (Nat.le_of_ble_eq_true rfl) (Nat.le_of_ble_eq_true rfl) (Nat.le_of_ble_eq_true rfl) (fun E1 μ1 hq => WX.out rfl (no_hd _) (Nat.le_of_ble_eq_true rfl) (Nat.le_of_ble_eq_true rfl) ?_) (fun v1 μ1 hq => ?_)
  · exact hq.elim
  · obtain ⟨rfl, rfl⟩ := hq
    refine wp_if_ne (tgt := 10) d_Client_apply_5 (by decide) (fun c5 => ?_) (fun c5 => ?_)
    · have hm : am f0 f1 (σ (24 + c)) = true := by
        by_cases hm : am f0 f1 (σ (24 + c)) = true
        · exact hm
        · rw [if_neg hm] at c5; exact absurd rfl c5
      rw [hm]
      refine wp_iconst (v := 0) d_Client_apply_10 (by decide) ?_
      refine wp_istore_n d_Client_apply_11 rfl (by decide) ?_
      have loop : ∀ (n i : Nat) (μ1 : mu_M), i + n = 4 → Cx G μ1 φ ad g (apR c v age i σ) δ → WP G M_Client_apply (EC G M_Client_apply (fun x μ' => x = some (.int (if true = true then 1 else 0)) ∧ Cx G μ' φ ad g (if true = true then apR c v age 4 σ else σ) δ) (fun _ _ => False)) [(0, .ref (ad (16 + c))), (1, .ref w), (2, .int age), (3, .int (nI i))] 12 [] μ1 0 0 := by
        intro n
        induction n with
        | zero =>
          intro i μ1 hi hC1
          obtain rfl : i = 4 := by omega
          refine wp_iload_n d_Client_apply_12 rfl rfl ?_
          refine wp_iconst (v := 4) d_Client_apply_13 (by decide) ?_
          refine wp_icmp_ge (tgt := 51) d_Client_apply_14 (by decide) (fun c14 => ?_) (fun c14 => ?_)
          · refine wp_iconst (v := 1) d_Client_apply_51 (by decide) ?_
            exact wp_zret d_Client_apply_52 rfl rfl (by decide) (by decide) ⟨rfl, hC1⟩
          · exact absurd (by decide) c14
        | succ n ih =>
          intro i μ1 hi hC1
          have hR1 := hC1.R
          refine wp_iload_n d_Client_apply_12 rfl rfl ?_
          refine wp_iconst (v := 4) d_Client_apply_13 (by decide) ?_
          refine wp_icmp_ge (tgt := 51) d_Client_apply_14 (by decide) (fun c14 => ?_) (fun c14 => ?_)
          · exact absurd ((nI_leI (a := 4) (by omega) (by omega)).mp c14) (by omega)
          refine wp_aload_n d_Client_apply_17 rfl rfl ?_
          refine wp_get d_Client_apply_18 fl_Client_48 (by first | exact hR1.cli hc | exact hC1.at w0 | exact hC1.at w3 | exact hC1.at w4 | exact hR1.val hc | exact hR1.age hc) (by rfl) ?_
          refine wp_iload_n d_Client_apply_21 rfl rfl ?_
          refine wp_zald d_Client_apply_22 (by first | exact hR1.cli hc | exact hC1.at w0 | exact hC1.at w3 | exact hC1.at w4 | exact hR1.val hc | exact hR1.age hc) (by rfl) (by omega) (by omega) ?_
          refine wp_if_eq (tgt := 45) d_Client_apply_23 (by decide) (fun c23 => ?_) (fun c23 => ?_)
          · refine wp_iinc d_Client_apply_45 rfl rfl (by decide) ?_
            refine wp_goto (tgt := 12) d_Client_apply_48 (by decide) ?_
            refine WP.loc [(0, .ref (ad (16 + c))), (1, .ref w), (2, .int age), (3, .int (nI (i + 1)))] (by rw [← nI_1 i]; rfl) (ih (i + 1) μ1 (by omega) ?_)
            rw [apR, if_pos (by rw [← (wf i (by omega)).2.2.1]; exact c23)]
            exact hC1
          · refine wp_aload_n d_Client_apply_26 rfl rfl ?_
            refine wp_get d_Client_apply_27 fl_Client_9 (by first | exact hR1.cli hc | exact hC1.at w0 | exact hC1.at w3 | exact hC1.at w4 | exact hR1.val hc | exact hR1.age hc) (by rfl) ?_
            refine wp_iload_n d_Client_apply_30 rfl rfl ?_
            refine wp_aload_n d_Client_apply_31 rfl rfl ?_
            refine wp_get d_Client_apply_32 fl_Client_51 (by first | exact hR1.cli hc | exact hC1.at w0 | exact hC1.at w3 | exact hC1.at w4 | exact hR1.val hc | exact hR1.age hc) (by rfl) ?_
            refine wp_iload_n d_Client_apply_35 rfl rfl ?_
            refine wp_iald d_Client_apply_36 (by first | exact hR1.cli hc | exact hC1.at w0 | exact hC1.at w3 | exact hC1.at w4 | exact hR1.val hc | exact hR1.age hc) (by rfl) (by omega) (by omega) ?_
            refine wp_iast d_Client_apply_37 (by first | exact hR1.cli hc | exact hC1.at w0 | exact hC1.at w3 | exact hC1.at w4 | exact hR1.val hc | exact hR1.age hc) (by exact hC1.B (by omega)) (by rfl) (by omega) (by omega) ?_
            have hC2 := hC1.reg (by omega) (hR1.pInt (i := 20 + c) (k := i) (x := f3 i) (by omega) (Or.inl (by omega))) (hC1.z.up (by omega))
            have hR2 := hC2.R
            refine wp_aload_n d_Client_apply_38 rfl rfl ?_
            refine wp_get d_Client_apply_39 fl_Client_15 (by first | exact hR2.cli hc | exact hR2.age hc) (by rfl) ?_
            refine wp_iload_n d_Client_apply_42 rfl rfl ?_
            refine wp_iload_n d_Client_apply_43 rfl rfl ?_
            refine wp_iast d_Client_apply_44 (by first | exact hR2.cli hc | exact hR2.age hc) (by exact hC1.B (by omega)) (by rfl) (by omega) (by omega) ?_
            refine wp_iinc d_Client_apply_45 rfl rfl (by decide) ?_
            refine wp_goto (tgt := 12) d_Client_apply_48 (by decide) ?_
            have hC3 := hC2.reg (by omega) (hR2.pInt (i := 24 + c) (k := i) (x := age) (by omega) (Or.inl (by omega))) (hC2.z.up (by omega))
            refine WP.loc [(0, .ref (ad (16 + c))), (1, .ref w), (2, .int age), (3, .int (nI (i + 1)))] (by rw [← nI_1 i]; rfl) (ih (i + 1) _ (by omega) ?_)
            rw [apR, if_neg (by rw [← (wf i (by omega)).2.2.1]; exact c23), ← (wf i (by omega)).2.2.2]
            exact hC3
      exact WP.loc _ rfl (loop 4 0 μ1 rfl hC)
    · have hm : ¬ am f0 f1 (σ (24 + c)) = true := fun hm => by rw [if_pos hm] at c5; exact absurd c5 (by decide)
      refine wp_iconst (v := 0) d_Client_apply_8 (by decide) ?_
      exact wp_zret d_Client_apply_9 rfl rfl (by decide) (by decide) ⟨by rw [if_neg hm], by rw [if_neg hm]; exact hC⟩
/-- playing n more entries from offset p on: code (0; 1 not to be used, 2 nothing, 3 a trim), whether the last took effect, the state -/
def plS (c : Nat) (δ : dg) : Nat → Nat → Int32 → sg → Nat × Int32 × sg
  | 0, _, t, σ => (0, t, σ)
  | n + 1, p, t, σ =>
    if usb σ c (uL (δ (1 + c) (p % 2))) = true then
      (if σ (eR (uL (δ (1 + c) (p % 2))) p) 0 = 0 then (2, t, σ)
       else if σ (eR (uL (δ (1 + c) (p % 2))) p) 0 = 4 then (3, t, σ)
       else if am (fun k => σ (eR (uL (δ (1 + c) (p % 2))) p) (2 + k)) (fun k => σ (eR (uL (δ (1 + c) (p % 2))) p) (6 + k)) (σ (24 + c)) = true
         then plS c δ n (p + 1) 1 (up2 (apR c (σ (eR (uL (δ (1 + c) (p % 2))) p)) (nI (p + 1)) 4 σ) (16 + c) 4 (nI (p + 1)))
         else plS c δ n (p + 1) 0 (up2 σ (16 + c) 4 (nI (p + 1))))
    else (1, t, σ)
set_option maxHeartbeats 4000000 in
set_option maxRecDepth 10000 in
theorem ct_play {G : mt_G} {μ φ : mu_M} {ad : Nat → Nat} {g : dg} {σ : sg} {δ : dg} (hC : Cx G μ φ ad g σ δ) {c p e : Nat} (hc : c < 4) (hp : σ (16 + c) 4 = nI p) (hp6 : p ≤ 60) (he : e ≤ 60) (hd : ∀ ch, ch < 2 → vr (δ (1 + c) ch) = true) :
    CT G M_Log_play [.ref (ad 0), .ref (ad (16 + c)), .int (nI e)] μ
      (fun x μ' => ∃ t σ', x = some (.int t) ∧ (t = 0 ∨ t = 1) ∧ plS c δ (e - p) p 0 σ = (0, t, σ') ∧ Cx G μ' φ ad g σ' δ)
      (fun E μ' => ∃ k t σ', plS c δ (e - p) p 0 σ = (k, t, σ') ∧ Cx G μ' φ ad g σ' δ ∧ ((k = 1 ∧ E = ISE) ∨ (k = 2 ∧ E = IOE) ∨ (k = 3 ∧ E = NSE))) := by
  have hR := hC.R
  refine CT.of (by decide) rfl (Nat.le_of_ble_eq_true rfl) ?_
  refine wp_iconst (v := 0) d_Log_play_0 (by decide) ?_
  refine wp_istore_n d_Log_play_1 rfl (by decide) ?_
  refine wp_aload_n d_Log_play_2 rfl rfl ?_
  refine wp_get d_Log_play_3 fl_Log_172 (by exact hR.cli hc) (by rfl) ?_
  rw [hp]
  refine wp_istore d_Log_play_6 (by decide) ?_
  have loop : ∀ (n i : Nat) (t : Int32) (σ1 : sg) (μ1 : mu_M), i = p ∨ i ≤ e → i + n = p + (e - p) → p ≤ i → (t = 0 ∨ t = 1) → Cx G μ1 φ ad g σ1 δ → plS c δ n i t σ1 = plS c δ (e - p) p 0 σ →
      WP G M_Log_play (EC G M_Log_play (fun x μ' => ∃ t σ', x = some (.int t) ∧ (t = 0 ∨ t = 1) ∧ plS c δ (e - p) p 0 σ = (0, t, σ') ∧ Cx G μ' φ ad g σ' δ) (fun E μ' => ∃ k t σ', plS c δ (e - p) p 0 σ = (k, t, σ') ∧ Cx G μ' φ ad g σ' δ ∧ ((k = 1 ∧ E = ISE) ∨ (k = 2 ∧ E = IOE) ∨ (k = 3 ∧ E = NSE))))
        [(0, .ref (ad 0)), (1, .ref (ad (16 + c))), (2, .int (nI e)), (3, .int t), (4, .int (nI i))] 8 [] μ1 (2 * (i - p)) (12 * (i - p)) := by
    intro n
    induction n with
    | zero =>
      intro i t σ1 μ1 h1 h2 h3 ht hC1 hw
      refine wp_iload d_Log_play_8 rfl ?_
      refine wp_iload_n d_Log_play_10 rfl rfl ?_
      refine wp_icmp_ge (tgt := 47) d_Log_play_11 (by decide) (fun c11 => ?_) (fun c11 => ?_)
      · refine wp_iload_n d_Log_play_47 rfl rfl ?_
        exact wp_zret d_Log_play_48 rfl (by rcases ht with rfl | rfl <;> rfl) (by show 2 * (i - p) ≤ 120; omega) (by show 12 * (i - p) ≤ 720; omega) ⟨t, σ1, rfl, ht, hw.symm, hC1⟩
      · rw [nI_leI (by omega) (by omega)] at c11
        omega
    | succ n ih =>
      intro i t σ1 μ1 h1 h2 h3 ht hC1 hw
      have hR1 := hC1.R
      have hi6 : i < 60 := by omega
      have hvr := hd (i % 2) (by omega)
      have hu := uL_lt hvr
      obtain ⟨w1, he1, hw1⟩ := hC1.ent hu hi6
      refine wp_iload d_Log_play_8 rfl ?_
      refine wp_iload_n d_Log_play_10 rfl rfl ?_
      refine wp_icmp_ge (tgt := 47) d_Log_play_11 (by decide) (fun c11 => ?_) (fun c11 => ?_)
      · exact absurd ((nI_leI (by omega) (by omega)).mp c11) (by omega)
      refine wp_aload_n d_Log_play_14 rfl rfl ?_
      refine wp_aload_n d_Log_play_15 rfl rfl ?_
      refine wp_aload_n d_Log_play_16 rfl rfl ?_
      refine wp_iload d_Log_play_17 rfl ?_
      refine wx_callV d_Log_play_19 cv_Log_86 cd_Log_entryAtEnd ⟨by decide, by decide⟩ (ct_entryAtEnd hC1 hc hi6 hvr) (by exact hR1.log) rfl rfl (Nat.le_of_ble_eq_true rfl) (by first | exact Nat.le_of_ble_eq_true rfl | (dsimp only [mt_R, M_Log_play, M_Log_entryAtEnd, M_Client_apply]; omega)) (by first | exact Nat.le_of_ble_eq_true rfl | (dsimp only [mt_R, M_Log_play, M_Log_entryAtEnd, M_Client_apply]; omega)) (fun E1 μ1 hq => WX.out rfl (no_hd _) (by first | exact Nat.le_of_ble_eq_true rfl | (dsimp only [mt_R, M_Log_play, M_Log_entryAtEnd, M_Client_apply]; omega)) (by first | exact Nat.le_of_ble_eq_true rfl | (dsimp only [mt_R, M_Log_play, M_Log_entryAtEnd, M_Client_apply]; omega)) ?_) (fun v1 μ1 hq => ?_)
      · obtain ⟨rfl, hq⟩ := hq
        rcases hq with ⟨rfl, q1⟩ | ⟨rfl, q1, q2⟩ | ⟨rfl, q1, q2, q3⟩
        · exact ⟨1, t, σ1, by rw [← hw, plS, if_neg (by rw [q1]; decide)], hC1, Or.inl ⟨rfl, rfl⟩⟩
        · exact ⟨2, t, σ1, by rw [← hw, plS, if_pos q1, if_pos q2], hC1, Or.inr (Or.inl ⟨rfl, rfl⟩)⟩
        · exact ⟨3, t, σ1, by rw [← hw, plS, if_pos q1, if_neg q2, if_pos q3], hC1, Or.inr (Or.inr ⟨rfl, rfl⟩)⟩
      · obtain ⟨rfl, rfl, q1, q2, q3⟩ := hq
        refine wp_get d_Log_play_22 fl_Log_253 (by exact he1) (by rfl) ?_
        refine wp_iload d_Log_play_25 rfl ?_
        refine wp_iconst (v := 1) d_Log_play_27 (by decide) ?_
        refine wp_iadd d_Log_play_28 ?_
        rw [nI_1 i]
        refine wx_callV d_Log_play_29 cv_Log_256 cd_Client_apply ⟨by decide, by decide⟩ (ct_apply hC1 hc hw1) (by exact hR1.cli hc) rfl rfl (Nat.le_of_ble_eq_true rfl) (by first | exact Nat.le_of_ble_eq_true rfl | (dsimp only [mt_R, M_Log_play, M_Log_entryAtEnd, M_Client_apply]; omega)) (by first | exact Nat.le_of_ble_eq_true rfl | (dsimp only [mt_R, M_Log_play, M_Log_entryAtEnd, M_Client_apply]; omega)) (fun E1 μ1 hq => WX.out rfl (no_hd _) (by first | exact Nat.le_of_ble_eq_true rfl | (dsimp only [mt_R, M_Log_play, M_Log_entryAtEnd, M_Client_apply]; omega)) (by first | exact Nat.le_of_ble_eq_true rfl | (dsimp only [mt_R, M_Log_play, M_Log_entryAtEnd, M_Client_apply]; omega)) ?_) (fun v1 μ1 hq => ?_)
        · exact hq.elim
        · obtain ⟨rfl, hC2⟩ := hq
          have hR2 := hC2.R
          refine wp_istore_n d_Log_play_32 rfl (by decide) ?_
          refine wp_aload_n d_Log_play_33 rfl rfl ?_
          refine wp_iload d_Log_play_34 rfl ?_
          refine wp_iconst (v := 1) d_Log_play_36 (by decide) ?_
          refine wp_iadd d_Log_play_37 ?_
          rw [nI_1 i]
          refine wp_put d_Log_play_38 fp_Log_172 (by exact hR2.cli hc) (by exact hC2.B (by omega)) (by rfl) (by rfl) (Nat.le_of_ble_eq_true rfl) ?_
          refine wp_iinc d_Log_play_41 rfl rfl (by decide) ?_
          refine wp_goto (tgt := 8) d_Log_play_44 (by decide) ?_
          have hC3 := hC2.reg (by omega) (hR2.pPos (x := nI (i + 1)) hc) (hC2.z.up (by omega))
          refine WP.loc [(0, .ref (ad 0)), (1, .ref (ad (16 + c))), (2, .int (nI e)), (3, .int (if am (fun k => σ1 (eR (uL (δ (1 + c) (i % 2))) i) (2 + k)) (fun k => σ1 (eR (uL (δ (1 + c) (i % 2))) i) (6 + k)) (σ1 (24 + c)) = true then 1 else 0)), (4, .int (nI (i + 1)))] (by rw [← nI_1 i]; rfl) (WP.widen (k := 2 * (i + 1 - p)) (n := 12 * (i + 1 - p)) (by dsimp only [mt_R, M_Log_play, M_Log_entryAtEnd, M_Client_apply]; omega) (by dsimp only [mt_R, M_Log_play, M_Log_entryAtEnd, M_Client_apply]; omega) (ih (i + 1) _ _ _ (by omega) (by omega) (by omega) ?_ hC3 ?_))
          · split
            · exact Or.inr rfl
            · exact Or.inl rfl
          · rw [← hw, plS, if_pos q1, if_neg q2, if_neg q3]
            split <;> rfl
  exact WP.loc _ rfl (WP.widen (by omega) (by omega) (loop _ p 0 σ μ (Or.inl rfl) rfl (by omega) (Or.inl rfl) hC rfl))
end
section
/-! THE CLASS'S FACE: each call's contract by one function of the state -/
/-- an argument within 0 .. n - 1 -/
def ar (x : Int32) (n : Nat) : Option Nat := if x < 0 ∨ nI n ≤ x then none else some x.toNatClampNeg
theorem ar_nI {c n : Nat} (h : c < n) (hn : n < 2 ^ 31) : ar (nI c) n = some c := by
  unfold ar
  rw [if_neg, nI_clamp (by omega)]
  intro q
  rcases q with q | q
  · exact nI_pos (by omega) q
  · exact nI_ge h hn q
theorem ar_ok {x y : Int32} {n : Nat} (hy : y = nI n) (hn : n < 1000) (h1 : ¬ x < 0) (h2 : ¬ y < x) : ∃ c, c < n + 1 ∧ x = nI c := by
  obtain ⟨j, hj, rfl⟩ := nI_of2 (M := y) (n := n) (by rw [hy]; exact nI_toInt (by omega)) h1 (Int32.not_lt.mp h2)
  exact ⟨j, by omega, rfl⟩
theorem ar_no {x y : Int32} {n : Nat} (hy : y = nI n) (hn : n < 1000) (h : x < 0 ∨ y < x) : ar x (n + 1) = none := by
  unfold ar
  rw [if_pos]
  rcases h with h | h
  · exact Or.inl h
  · refine Or.inr ?_
    rw [hy, Int32.lt_iff_toInt_lt, nI_toInt (by omega)] at h
    rw [Int32.le_iff_toInt_le, nI_toInt (by omega)]
    omega
abbrev RS : Type := Nat × Int32 × sg × dg
def PostC (G : mt_G) (φ : mu_M) (ad : Nat → Nat) (r : RS) : Option Value → mu_M → Prop := fun v μ' => r.1 = 0 ∧ v = some (.int r.2.1) ∧ ∃ g' φ', Cx G μ' φ' ad g' r.2.2.1 r.2.2.2 ∧ sub φ φ'
def PxC (G : mt_G) (φ : mu_M) (ad : Nat → Nat) (ex : Nat → String) (r : RS) : String → mu_M → Prop := fun E μ' => r.1 ≠ 0 ∧ E = ex r.1 ∧ ∃ g' φ', Cx G μ' φ' ad g' r.2.2.1 r.2.2.2 ∧ sub φ φ'
/-- what the numbers of the state are -/
def PI (σ : sg) (δ : dg) : Prop :=
  (∀ k ch, k < 5 → ch < 2 → vr (δ k ch) = true) ∧ (∃ n, n ≤ 60 ∧ σ 3 2 = nI n) ∧ (∀ c, c < 4 → ∃ p, p ≤ 60 ∧ σ (16 + c) 4 = nI p) ∧ (σ 3 0 = 0 ∨ σ 3 0 = 1) ∧ (∀ u, u < 6 → σ (4 + u) 1 = 0 ∨ σ (4 + u) 1 = 1) ∧ (∀ c, c < 4 → σ (16 + c) 3 = 0 ∨ σ (16 + c) 3 = 1) ∧
  (∀ c k, c < 4 → k < 4 → (σ (32 + c) k = 0 ∨ σ (32 + c) k = 1) ∧ (σ (40 + c) k = 0 ∨ σ (40 + c) k = 1)) ∧ ∀ u o, u < 6 → o < 60 → ∀ k, k < 4 → (σ (eR u o) (2 + k) = 0 ∨ σ (eR u o) (2 + k) = 1) ∧ (σ (eR u o) (10 + k) = 0 ∨ σ (eR u o) (10 + k) = 1)
def ex1 : Nat → String := fun _ => IAE
def ex2 : Nat → String := fun n => if n = 1 then IAE else ISE
section Pub
variable {G : mt_G} {μ φ : mu_M} {ad : Nat → Nat} {g : dg} {σ : sg} {δ : dg}
def S_learn (x : Int32) (σ : sg) (δ : dg) : RS := match ar x 4 with
  | some c => (0, σ 500 0, up2 σ (501 + c) 0 (σ 500 0), va_up δ (1 + c) (δ 0))
  | none => (1, 0, σ, δ)
/-- a client knows another layout -/
theorem Cx.know {μ' : mu_M} {c a : Nat} {ep : Int32} {dl : Nat → Nat} (h : Cx G μ φ ad g σ δ) (hc : c < 4) (hR : Rp G μ' ad σ (up2 g (16 + c) 5 a)) (hz : Fz μ' φ ad) (hL : FL G φ a ep dl) : Cx G μ' φ ad (up2 g (16 + c) 5 a) (up2 σ (501 + c) 0 ep) (va_up δ (1 + c) dl) := by
  obtain ⟨-, -, h3, h4, h5, h6, h7, h8⟩ := h
  refine ⟨⟨fun i hi => ?_, hR.2.1, hR.2.2⟩, hz, fun u o hu ho => ?_, ?_, ?_, ?_, ?_, fun c1 hc1 => ?_⟩
  · rw [hR.1 i hi]; exact congrArg some (sh_congr (up2_n (by omega)) rfl)
  · rw [up2_n (by omega), up2_n (by unfold eR; omega)]; exact h3 u o hu ho
  · rw [up2_n (by omega)]; exact h4
  · rw [up2_n (by omega)]; exact h5
  · rw [up2_n (by omega)]; exact h6
  · rw [up2_n (by omega), up2_n (by omega), va_up_ne _ _ (by omega)]; exact h7
  · by_cases e : c1 = c
    · subst e
      rw [up2_s, up2_s, va_up_self, va_up_self, va_up_self]
      exact hL
    · rw [up2_n (by omega), up2_n (by omega), va_up_ne _ _ (by omega)]
      exact h8 c1 hc1
set_option maxHeartbeats 1000000 in
set_option maxRecDepth 10000 in
theorem ct_learn (hC : Cx G μ φ ad g σ δ) (x : Int32) : CT G M_Log_learn [.ref (ad 0), .int x] μ (PostC G φ ad (S_learn x σ δ)) (PxC G φ ad ex1 (S_learn x σ δ)) := by
  have hR := hC.R
  refine CT.of (by decide) rfl (Nat.le_of_ble_eq_true rfl) ?_
  refine wp_iload_n d_Log_learn_0 rfl rfl ?_
  refine wp_iconst (v := 3) d_Log_learn_1 (by decide) ?_
  refine wx_callS d_Log_learn_2 cs_Log_65 cd_Log_requireWithin ⟨by decide, by decide⟩ (ct_requireWithin G μ x 3) rfl rfl (Nat.le_of_ble_eq_true rfl) (Nat.le_of_ble_eq_true rfl) (Nat.le_of_ble_eq_true rfl) (fun E1 μ1 hq => WX.out rfl (no_hd _) (Nat.le_of_ble_eq_true rfl) (Nat.le_of_ble_eq_true rfl) ?_) (fun v1 μ1 hq => ?_)
  · obtain ⟨rfl, rfl, hx⟩ := hq
    rw [S_learn, ar_no (n := 3) rfl (by omega) hx]
    exact ⟨Nat.one_ne_zero, rfl, g, φ, hC, sub.rf φ⟩
  · obtain ⟨rfl, rfl, h1, h2⟩ := hq
    obtain ⟨c, hc, rfl⟩ := ar_ok (n := 3) rfl (by omega) h1 h2
    rw [S_learn, ar_nI hc (by omega)]
    refine wp_aload_n d_Log_learn_5 rfl rfl ?_
    refine wp_get d_Log_learn_6 fl_Log_17 (by first | exact hR.log | exact hR.car | exact hR.cli hc) (by rfl) ?_
    refine wp_iload_n d_Log_learn_9 rfl rfl ?_
    refine wp_aald d_Log_learn_10 (t := 4) (C := "SharedLog$Client") rfl (by first | exact hR.log | exact hR.car | exact hR.cli hc) (by rfl) (by exact hc) (by omega) (by rfl) ?_
    refine wp_aload_n d_Log_learn_11 rfl rfl ?_
    refine wp_get d_Log_learn_12 fl_Log_55 (by first | exact hR.log | exact hR.car | exact hR.cli hc) (by rfl) ?_
    refine wp_put d_Log_learn_15 fp_Log_80 (by first | exact hR.log | exact hR.car | exact hR.cli hc) (by exact hC.B (by omega)) (by rfl) (by rfl) (Nat.le_of_ble_eq_true rfl) ?_
    have hC2 := hC.know hc (hR.pKn (x := g 0 6) hc) (hC.z.up (by omega)) hC.2.2.2.2.2.2.1
    have hR2 := hC2.R
    obtain ⟨a0, a1, f0, f1, hk0, -⟩ := hC.2.2.2.2.2.2.1
    refine wp_aload_n d_Log_learn_18 rfl rfl ?_
    refine wp_get d_Log_learn_19 fl_Log_55 (by first | exact hR2.log | (rw [up2_n (show (0 : Nat) ≠ 16 + c by omega)]; exact hC2.at hk0)) (by rfl) ?_
    refine wp_get d_Log_learn_22 fl_Log_119 (by first | exact hR2.log | (rw [up2_n (show (0 : Nat) ≠ 16 + c by omega)]; exact hC2.at hk0)) (by rfl) ?_
    exact wp_iret d_Log_learn_25 rfl (by decide) (by decide) ⟨rfl, rfl, _, φ, hC2, sub.rf φ⟩
def S_up (x on : Int32) (σ : sg) (δ : dg) : RS := match ar x 6 with
  | some u => (0, σ (4 + u) 2, up2 σ (4 + u) 1 on, δ)
  | none => (1, 0, σ, δ)
set_option maxHeartbeats 1000000 in
set_option maxRecDepth 10000 in
theorem ct_up (hC : Cx G μ φ ad g σ δ) (x on : Int32) (hon : on = 0 ∨ on = 1) : CT G M_Log_up [.ref (ad 0), .int x, .int on] μ (PostC G φ ad (S_up x on σ δ)) (PxC G φ ad ex1 (S_up x on σ δ)) := by
  have hR := hC.R
  refine CT.of (by decide) rfl (Nat.le_of_ble_eq_true rfl) ?_
  refine wp_iload_n d_Log_up_0 rfl rfl ?_
  refine wp_iconst (v := 5) d_Log_up_1 (by decide) ?_
  refine wx_callS d_Log_up_2 cs_Log_65 cd_Log_requireWithin ⟨by decide, by decide⟩ (ct_requireWithin G μ x 5) rfl rfl (Nat.le_of_ble_eq_true rfl) (Nat.le_of_ble_eq_true rfl) (Nat.le_of_ble_eq_true rfl) (fun E1 μ1 hq => WX.out rfl (no_hd _) (Nat.le_of_ble_eq_true rfl) (Nat.le_of_ble_eq_true rfl) ?_) (fun v1 μ1 hq => ?_)
  · obtain ⟨rfl, rfl, hx⟩ := hq
    rw [S_up, ar_no (n := 5) rfl (by omega) hx]
    exact ⟨Nat.one_ne_zero, rfl, g, φ, hC, sub.rf φ⟩
  · obtain ⟨rfl, rfl, h1, h2⟩ := hq
    obtain ⟨u, hu, rfl⟩ := ar_ok (n := 5) rfl (by omega) h1 h2
    rw [S_up, ar_nI hu (by omega)]
    refine wp_aload_n d_Log_up_5 rfl rfl ?_
    refine wp_get d_Log_up_6 fl_Log_11 (by first | exact hR.log | exact hR.uar | exact hR.unit hu) (by rfl) ?_
    refine wp_iload_n d_Log_up_9 rfl rfl ?_
    refine wp_aald d_Log_up_10 (t := 3) (C := "SharedLog$Unit") rfl (by first | exact hR.log | exact hR.uar | exact hR.unit hu) (by rfl) (by exact hu) (by omega) (by rfl) ?_
    refine wp_iload_n d_Log_up_11 rfl rfl ?_
    refine wp_put d_Log_up_12 fp_Log_154 (by first | exact hR.log | exact hR.uar | exact hR.unit hu) (by exact hC.B (by omega)) (by rcases hon with rfl | rfl <;> rfl) (by rcases hon with rfl | rfl <;> rfl) (Nat.le_of_ble_eq_true rfl) ?_
    have hC2 := hC.reg (by omega) (hR.pUp (x := on) hu) (hC.z.up (by omega))
    have hR2 := hC2.R
    refine wp_aload_n d_Log_up_15 rfl rfl ?_
    refine wp_get d_Log_up_16 fl_Log_11 (by first | exact hR2.log | exact hR2.uar | exact hR2.unit hu) (by rfl) ?_
    refine wp_iload_n d_Log_up_19 rfl rfl ?_
    refine wp_aald d_Log_up_20 (t := 3) (C := "SharedLog$Unit") rfl (by first | exact hR2.log | exact hR2.uar | exact hR2.unit hu) (by rfl) (by exact hu) (by omega) (by rfl) ?_
    refine wp_get d_Log_up_21 fl_Log_158 (by first | exact hR2.log | exact hR2.uar | exact hR2.unit hu) (by rfl) ?_
    refine wp_iret d_Log_up_24 rfl (by decide) (by decide) ⟨rfl, ?_, _, φ, hC2, sub.rf φ⟩
    rw [up2_s, va_up_ne _ _ (by decide)]
def S_lose (σ : sg) (δ : dg) : RS := (0, σ 3 2, up2 σ 3 0 1, δ)
set_option maxHeartbeats 1000000 in
set_option maxRecDepth 10000 in
theorem ct_lose (hC : Cx G μ φ ad g σ δ) : CT G M_Log_lose [.ref (ad 0)] μ (PostC G φ ad (S_lose σ δ)) (fun _ _ => False) := by
  have hR := hC.R
  refine CT.of (by decide) rfl (Nat.le_of_ble_eq_true rfl) ?_
  refine wp_aload_n d_Log_lose_0 rfl rfl ?_
  refine wp_get d_Log_lose_1 fl_Log_24 (by first | exact hR.log | exact hR.seq) (by rfl) ?_
  refine wp_iconst (v := 1) d_Log_lose_4 (by decide) ?_
  refine wp_put d_Log_lose_5 fp_Log_161 (by first | exact hR.log | exact hR.seq) (by exact hC.B (by omega)) (by rfl) (by rfl) (Nat.le_of_ble_eq_true rfl) ?_
  have hC2 := hC.reg (by omega) (hR.pSeq0 (x := 1)) (hC.z.up (by omega))
  have hR2 := hC2.R
  refine wp_aload_n d_Log_lose_8 rfl rfl ?_
  refine wp_get d_Log_lose_9 fl_Log_24 (by first | exact hR2.log | exact hR2.seq) (by rfl) ?_
  refine wp_get d_Log_lose_12 fl_Log_152 (by first | exact hR2.log | exact hR2.seq) (by rfl) ?_
  exact wp_iret d_Log_lose_15 rfl (by decide) (by decide) ⟨rfl, rfl, _, φ, hC2, sub.rf φ⟩
def S_get (x k : Int32) (σ : sg) (δ : dg) : RS := match ar x 4, ar k 4 with
  | some c, some k => (0, σ (20 + c) k, σ, δ)
  | _, _ => (1, 0, σ, δ)
set_option maxHeartbeats 1000000 in
set_option maxRecDepth 10000 in
theorem ct_get (hC : Cx G μ φ ad g σ δ) (x y : Int32) : CT G M_Log_get [.ref (ad 0), .int x, .int y] μ (PostC G φ ad (S_get x y σ δ)) (PxC G φ ad ex1 (S_get x y σ δ)) := by
  have hR := hC.R
  refine CT.of (by decide) rfl (Nat.le_of_ble_eq_true rfl) ?_
  refine wp_iload_n d_Log_get_0 rfl rfl ?_
  refine wp_iconst (v := 3) d_Log_get_1 (by decide) ?_
  refine wx_callS d_Log_get_2 cs_Log_65 cd_Log_requireWithin ⟨by decide, by decide⟩ (ct_requireWithin G μ x 3) rfl rfl (Nat.le_of_ble_eq_true rfl) (Nat.le_of_ble_eq_true rfl) (Nat.le_of_ble_eq_true rfl) (fun E1 μ1 hq => WX.out rfl (no_hd _) (Nat.le_of_ble_eq_true rfl) (Nat.le_of_ble_eq_true rfl) ?_) (fun v1 μ1 hq => ?_)
  · obtain ⟨rfl, rfl, hx⟩ := hq
    rw [S_get, ar_no (n := 3) rfl (by omega) hx]
    exact ⟨Nat.one_ne_zero, rfl, g, φ, hC, sub.rf φ⟩
  · obtain ⟨rfl, rfl, h1, h2⟩ := hq
    obtain ⟨c, hc, rfl⟩ := ar_ok (n := 3) rfl (by omega) h1 h2
    refine wp_iload_n d_Log_get_5 rfl rfl ?_
    refine wp_iconst (v := 3) d_Log_get_6 (by decide) ?_
    refine wx_callS d_Log_get_7 cs_Log_65 cd_Log_requireWithin ⟨by decide, by decide⟩ (ct_requireWithin G μ1 y 3) rfl rfl (Nat.le_of_ble_eq_true rfl) (Nat.le_of_ble_eq_true rfl) (Nat.le_of_ble_eq_true rfl) (fun E1 μ1 hq => WX.out rfl (no_hd _) (Nat.le_of_ble_eq_true rfl) (Nat.le_of_ble_eq_true rfl) ?_) (fun v1 μ1 hq => ?_)
    · obtain ⟨rfl, rfl, hx⟩ := hq
      rw [S_get, ar_nI hc (by omega), ar_no (n := 3) rfl (by omega) hx]
      exact ⟨Nat.one_ne_zero, rfl, g, φ, hC, sub.rf φ⟩
    · obtain ⟨rfl, rfl, h1, h2⟩ := hq
      obtain ⟨k, hk, rfl⟩ := ar_ok (n := 3) rfl (by omega) h1 h2
      rw [S_get, ar_nI hc (by omega), ar_nI hk (by omega)]
      refine wp_aload_n d_Log_get_10 rfl rfl ?_
      refine wp_get d_Log_get_11 fl_Log_17 (by first | exact hR.log | exact hR.car | exact hR.cli hc | exact hR.val hc) (by rfl) ?_
      refine wp_iload_n d_Log_get_14 rfl rfl ?_
      refine wp_aald d_Log_get_15 (t := 4) (C := "SharedLog$Client") rfl (by first | exact hR.log | exact hR.car | exact hR.cli hc | exact hR.val hc) (by rfl) (by assumption) (by omega) (by rfl) ?_
      refine wp_get d_Log_get_16 fl_Log_175 (by first | exact hR.log | exact hR.car | exact hR.cli hc | exact hR.val hc) (by rfl) ?_
      refine wp_iload_n d_Log_get_19 rfl rfl ?_
      refine wp_iald d_Log_get_20 (by first | exact hR.log | exact hR.car | exact hR.cli hc | exact hR.val hc) (by rfl) (by assumption) (by omega) ?_
      exact wp_iret d_Log_get_21 rfl (by decide) (by decide) ⟨rfl, rfl, g, φ, hC, sub.rf φ⟩
def S_look (x y : Int32) (σ : sg) (δ : dg) : RS := match ar x 6, ar y 60 with
  | some u, some o => (0, σ (eR u o) 0, σ, δ)
  | _, _ => (1, 0, σ, δ)
set_option maxHeartbeats 1000000 in
set_option maxRecDepth 10000 in
theorem ct_look (hC : Cx G μ φ ad g σ δ) (x y : Int32) : CT G M_Log_look [.ref (ad 0), .int x, .int y] μ (PostC G φ ad (S_look x y σ δ)) (PxC G φ ad ex1 (S_look x y σ δ)) := by
  have hR := hC.R
  refine CT.of (by decide) rfl (Nat.le_of_ble_eq_true rfl) ?_
  refine wp_iload_n d_Log_look_0 rfl rfl ?_
  refine wp_iconst (v := 5) d_Log_look_1 (by decide) ?_
  refine wx_callS d_Log_look_2 cs_Log_65 cd_Log_requireWithin ⟨by decide, by decide⟩ (ct_requireWithin G μ x 5) rfl rfl (Nat.le_of_ble_eq_true rfl) (Nat.le_of_ble_eq_true rfl) (Nat.le_of_ble_eq_true rfl) (fun E1 μ1 hq => WX.out rfl (no_hd _) (Nat.le_of_ble_eq_true rfl) (Nat.le_of_ble_eq_true rfl) ?_) (fun v1 μ1 hq => ?_)
  · obtain ⟨rfl, rfl, hx⟩ := hq
    rw [S_look, ar_no (n := 5) rfl (by omega) hx]
    exact ⟨Nat.one_ne_zero, rfl, g, φ, hC, sub.rf φ⟩
  · obtain ⟨rfl, rfl, h1, h2⟩ := hq
    obtain ⟨u, hu, rfl⟩ := ar_ok (n := 5) rfl (by omega) h1 h2
    refine wp_iload_n d_Log_look_5 rfl rfl ?_
    refine wp_bipush (v := 59) d_Log_look_6 (by decide) ?_
    refine wx_callS d_Log_look_8 cs_Log_65 cd_Log_requireWithin ⟨by decide, by decide⟩ (ct_requireWithin G μ1 y 59) rfl rfl (Nat.le_of_ble_eq_true rfl) (Nat.le_of_ble_eq_true rfl) (Nat.le_of_ble_eq_true rfl) (fun E1 μ1 hq => WX.out rfl (no_hd _) (Nat.le_of_ble_eq_true rfl) (Nat.le_of_ble_eq_true rfl) ?_) (fun v1 μ1 hq => ?_)
    · obtain ⟨rfl, rfl, hx⟩ := hq
      rw [S_look, ar_nI hu (by omega), ar_no (n := 59) rfl (by omega) hx]
      exact ⟨Nat.one_ne_zero, rfl, g, φ, hC, sub.rf φ⟩
    · obtain ⟨rfl, rfl, h1, h2⟩ := hq
      obtain ⟨o, ho, rfl⟩ := ar_ok (n := 59) rfl (by omega) h1 h2
      rw [S_look, ar_nI hu (by omega), ar_nI ho (by omega)]
      obtain ⟨w1, he1, -⟩ := hC.ent hu ho
      refine wp_aload_n d_Log_look_11 rfl rfl ?_
      refine wp_get d_Log_look_12 fl_Log_11 (by first | exact hR.log | exact hR.uar | exact hR.unit hu | exact hR.cells hu | exact he1) (by rfl) ?_
      refine wp_iload_n d_Log_look_15 rfl rfl ?_
      refine wp_aald d_Log_look_16 (t := 3) (C := "SharedLog$Unit") rfl (by first | exact hR.log | exact hR.uar | exact hR.unit hu | exact hR.cells hu | exact he1) (by rfl) (by assumption) (by omega) (by rfl) ?_
      refine wp_get d_Log_look_17 fl_Log_111 (by first | exact hR.log | exact hR.uar | exact hR.unit hu | exact hR.cells hu | exact he1) (by rfl) ?_
      refine wp_iload_n d_Log_look_20 rfl rfl ?_
      refine wp_aald d_Log_look_21 (t := 5) (C := "SharedLog$Entry") rfl (by first | exact hR.log | exact hR.uar | exact hR.unit hu | exact hR.cells hu | exact he1) (by rfl) (by assumption) (by omega) (by rfl) ?_
      refine wp_get d_Log_look_22 fl_Log_90 (by first | exact hR.log | exact hR.uar | exact hR.unit hu | exact hR.cells hu | exact he1) (by rfl) ?_
      exact wp_iret d_Log_look_25 rfl (by decide) (by decide) ⟨rfl, rfl, g, φ, hC, sub.rf φ⟩
end Pub
end
section
/-! THE CLASS'S FACE: transactions -/
theorem Rp.ne {G : mt_G} {μ : mu_M} {ad : Nat → Nat} {r : sg} {g : dg} (h : Rp G μ ad r g) {i j : Nat} (hi : i < 48) (hj : j < 48) (hij : i ≠ j) : ad i ≠ ad j := fun e => hij (h.2.1 i j hi hj e)
/-- how many of the first n are set -/
def pcN (f : Nat → Int32) : Nat → Nat
  | 0 => 0
  | k + 1 => if f k = 0 then pcN f k else pcN f k + 1
theorem pcN_le (f : Nat → Int32) : ∀ n, pcN f n ≤ n
  | 0 => Nat.le_refl 0
  | n + 1 => by
    have := pcN_le f n
    unfold pcN
    split <;> omega
set_option maxHeartbeats 4000000 in
set_option maxRecDepth 10000 in
theorem ct_putCount (G : mt_G) (μ : mu_M) (w a2 : Nat) (x0 x1 x3 : Value) (f2 : Nat → Int32) (hw : μ w = some (.inr (5, [x0, x1, .ref a2, x3]))) (h2 : μ a2 = some (.inl (G.2.2.1 1, 4, .inl f2))) :
    CT G M_Work_putCount [.ref w] μ (fun v μ' => v = some (.int (nI (pcN f2 4))) ∧ μ' = μ) (fun _ _ => False) := by
  refine CT.of (by decide) rfl (Nat.le_of_ble_eq_true rfl) ?_
  refine wp_iconst (v := 0) d_Work_putCount_0 (by decide) ?_
  refine wp_istore_n d_Work_putCount_1 rfl (by decide) ?_
  refine wp_iconst (v := 0) d_Work_putCount_2 (by decide) ?_
  refine wp_istore_n d_Work_putCount_3 rfl (by decide) ?_
  have loop : ∀ (n i : Nat), i + n = 4 → WP G M_Work_putCount (EC G M_Work_putCount (fun v μ' => v = some (.int (nI (pcN f2 4))) ∧ μ' = μ) (fun _ _ => False)) [(0, .ref w), (1, .int (nI (pcN f2 i))), (2, .int (nI i))] 4 [] μ 0 0 := by
    intro n
    induction n with
    | zero =>
      intro i hi
      obtain rfl : i = 4 := by omega
      refine wp_iload_n d_Work_putCount_4 rfl rfl ?_
      refine wp_iconst (v := 4) d_Work_putCount_5 (by decide) ?_
      refine wp_icmp_ge (tgt := 27) d_Work_putCount_6 (by decide) (fun c6 => ?_) (fun c6 => ?_)
      · refine wp_iload_n d_Work_putCount_27 rfl rfl ?_
        exact wp_iret d_Work_putCount_28 rfl (by decide) (by decide) ⟨rfl, rfl⟩
      · exact absurd (by decide) c6
    | succ n ih =>
      intro i hi
      refine wp_iload_n d_Work_putCount_4 rfl rfl ?_
      refine wp_iconst (v := 4) d_Work_putCount_5 (by decide) ?_
      refine wp_icmp_ge (tgt := 27) d_Work_putCount_6 (by decide) (fun c6 => ?_) (fun c6 => ?_)
      · exact absurd ((nI_leI (a := 4) (by omega) (by omega)).mp c6) (by omega)
      refine wp_aload_n d_Work_putCount_9 rfl rfl ?_
      refine wp_get d_Work_putCount_10 fl_Work_19 (by first | exact hw | exact h2) (by rfl) ?_
      refine wp_iload_n d_Work_putCount_13 rfl rfl ?_
      refine wp_zald d_Work_putCount_14 (by first | exact hw | exact h2) (by rfl) (by omega) (by omega) ?_
      refine wp_if_eq (tgt := 21) d_Work_putCount_15 (by decide) (fun c15 => ?_) (fun c15 => ?_)
      · refine wp_iinc d_Work_putCount_21 rfl rfl (by decide) ?_
        refine wp_goto (tgt := 4) d_Work_putCount_24 (by decide) ?_
        refine WP.loc [(0, .ref w), (1, .int (nI (pcN f2 (i + 1)))), (2, .int (nI (i + 1)))] ?_ (ih (i + 1) (by omega))
        rw [← nI_1 i, pcN, if_pos c15]; rfl
      · refine wp_iinc d_Work_putCount_18 rfl rfl (by decide) ?_
        refine wp_iinc d_Work_putCount_21 rfl rfl (by decide) ?_
        refine wp_goto (tgt := 4) d_Work_putCount_24 (by decide) ?_
        refine WP.loc [(0, .ref w), (1, .int (nI (pcN f2 (i + 1)))), (2, .int (nI (i + 1)))] ?_ (ih (i + 1) (by omega))
        rw [← nI_1 i, pcN, if_neg c15, ← nI_1 (pcN f2 i)]; rfl
  exact WP.loc _ rfl (loop 4 0 rfl)
def clS (c : Nat) : Nat → sg → sg
  | 0, σ => σ
  | k + 1, σ => up2 (up2 (clS c k σ) (32 + c) k 0) (40 + c) k 0
section Pub2
variable {G : mt_G} {μ φ : mu_M} {ad : Nat → Nat} {g : dg} {σ : sg} {δ : dg}
set_option maxHeartbeats 4000000 in
set_option maxRecDepth 10000 in
theorem ct_clear (hC : Cx G μ φ ad g σ δ) {c : Nat} (hc : c < 4) : CT G M_Work_clear [.ref (ad (28 + c))] μ (fun v μ' => v = none ∧ Cx G μ' φ ad g (clS c 4 σ) δ) (fun _ _ => False) := by
  refine CT.of (by decide) rfl (Nat.le_of_ble_eq_true rfl) ?_
  refine wp_iconst (v := 0) d_Work_clear_0 (by decide) ?_
  refine wp_istore_n d_Work_clear_1 rfl (by decide) ?_
  have loop : ∀ (n i : Nat) (μ1 : mu_M), i + n = 4 → Cx G μ1 φ ad g (clS c i σ) δ → WP G M_Work_clear (EC G M_Work_clear (fun v μ' => v = none ∧ Cx G μ' φ ad g (clS c 4 σ) δ) (fun _ _ => False)) [(0, .ref (ad (28 + c))), (1, .int (nI i))] 2 [] μ1 0 0 := by
    intro n
    induction n with
    | zero =>
      intro i μ1 hi hC1
      obtain rfl : i = 4 := by omega
      refine wp_iload_n d_Work_clear_2 rfl rfl ?_
      refine wp_iconst (v := 4) d_Work_clear_3 (by decide) ?_
      refine wp_icmp_ge (tgt := 27) d_Work_clear_4 (by decide) (fun c4 => ?_) (fun c4 => ?_)
      · exact wp_vret d_Work_clear_27 rfl (by decide) (by decide) ⟨rfl, hC1⟩
      · exact absurd (by decide) c4
    | succ n ih =>
      intro i μ1 hi hC1
      have hR1 := hC1.R
      refine wp_iload_n d_Work_clear_2 rfl rfl ?_
      refine wp_iconst (v := 4) d_Work_clear_3 (by decide) ?_
      refine wp_icmp_ge (tgt := 27) d_Work_clear_4 (by decide) (fun c4 => ?_) (fun c4 => ?_)
      · exact absurd ((nI_leI (a := 4) (by omega) (by omega)).mp c4) (by omega)
      refine wp_aload_n d_Work_clear_7 rfl rfl ?_
      refine wp_get d_Work_clear_8 fl_Work_9 (by first | exact hR1.tx hc | exact hR1.tr hc) (by rfl) ?_
      refine wp_iload_n d_Work_clear_11 rfl rfl ?_
      refine wp_iconst (v := 0) d_Work_clear_12 (by decide) ?_
      refine wp_zast d_Work_clear_13 (by first | exact hR1.tx hc | exact hR1.tr hc) (by exact hC1.B (by omega)) (by rfl) (by omega) (by omega) (by rfl) ?_
      have hC2 := hC1.reg (by omega) (hR1.pBool (i := 32 + c) (k := i) (x := 0) (Or.inl (by omega))) (hC1.z.up (by omega))
      have hR2 := hC2.R
      refine wp_aload_n d_Work_clear_14 rfl rfl ?_
      refine wp_get d_Work_clear_15 fl_Work_19 (by first | exact hR2.tx hc | exact hR2.tp hc) (by rfl) ?_
      refine wp_iload_n d_Work_clear_18 rfl rfl ?_
      refine wp_iconst (v := 0) d_Work_clear_19 (by decide) ?_
      refine wp_zast d_Work_clear_20 (by first | exact hR2.tx hc | exact hR2.tp hc) (by exact hC1.B (by omega)) (by rfl) (by omega) (by omega) (by rfl) ?_
      refine wp_iinc d_Work_clear_21 rfl rfl (by decide) ?_
      refine wp_goto (tgt := 2) d_Work_clear_24 (by decide) ?_
      have hC3 := hC2.reg (by omega) (hR2.pBool (i := 40 + c) (k := i) (x := 0) (Or.inr (by omega))) (hC2.z.up (by omega))
      exact WP.loc [(0, .ref (ad (28 + c))), (1, .int (nI (i + 1)))] (by rw [← nI_1 i]; rfl) (ih (i + 1) _ (by omega) hC3)
  exact WP.loc _ rfl (loop 4 0 μ rfl hC)
def S_begin (x : Int32) (σ : sg) (δ : dg) : RS := match ar x 4 with
  | some c => if σ (16 + c) 3 = 0 then (0, σ (16 + c) 4, clS c 4 (up2 σ (16 + c) 3 1), δ) else (2, 0, σ, δ)
  | none => (1, 0, σ, δ)
theorem clS_off {c i : Nat} (h1 : i ≠ 32 + c) (h2 : i ≠ 40 + c) : ∀ (k : Nat) (σ : sg), clS c k σ i = σ i
  | 0, σ => rfl
  | k + 1, σ => by
    unfold clS
    rw [up2_n h2, up2_n h1]; exact clS_off h1 h2 k σ
set_option maxHeartbeats 1000000 in
set_option maxRecDepth 10000 in
theorem ct_begin (hC : Cx G μ φ ad g σ δ) (x : Int32) : CT G M_Log_begin [.ref (ad 0), .int x] μ (PostC G φ ad (S_begin x σ δ)) (PxC G φ ad ex2 (S_begin x σ δ)) := by
  have hR := hC.R
  refine CT.of (by decide) rfl (Nat.le_of_ble_eq_true rfl) ?_
  refine wp_iload_n d_Log_begin_0 rfl rfl ?_
  refine wp_iconst (v := 3) d_Log_begin_1 (by decide) ?_
  refine wx_callS d_Log_begin_2 cs_Log_65 cd_Log_requireWithin ⟨by decide, by decide⟩ (ct_requireWithin G μ x 3) rfl rfl (Nat.le_of_ble_eq_true rfl) (Nat.le_of_ble_eq_true rfl) (Nat.le_of_ble_eq_true rfl) (fun E1 μ1 hq => WX.out rfl (no_hd _) (Nat.le_of_ble_eq_true rfl) (Nat.le_of_ble_eq_true rfl) ?_) (fun v1 μ1 hq => ?_)
  · obtain ⟨rfl, rfl, hx⟩ := hq
    rw [S_begin, ar_no (n := 3) rfl (by omega) hx]
    exact ⟨Nat.one_ne_zero, rfl, g, φ, hC, sub.rf φ⟩
  · obtain ⟨rfl, rfl, h1, h2⟩ := hq
    obtain ⟨c, hc, rfl⟩ := ar_ok (n := 3) rfl (by omega) h1 h2
    rw [S_begin, ar_nI hc (by omega)]
    refine wp_aload_n d_Log_begin_5 rfl rfl ?_
    refine wp_get d_Log_begin_6 fl_Log_17 (by first | exact hR.log | exact hR.car | exact hR.cli hc) (by rfl) ?_
    refine wp_iload_n d_Log_begin_9 rfl rfl ?_
    refine wp_aald d_Log_begin_10 (t := 4) (C := "SharedLog$Client") rfl (by first | exact hR.log | exact hR.car | exact hR.cli hc) (by rfl) (by exact hc) (by omega) (by rfl) ?_
    refine wp_astore_n d_Log_begin_11 rfl (by decide) ?_
    refine wp_aload_n d_Log_begin_12 rfl rfl ?_
    refine wp_get d_Log_begin_13 fl_Log_179 (by first | exact hR.log | exact hR.car | exact hR.cli hc) (by rfl) ?_
    refine wp_if_eq (tgt := 29) d_Log_begin_16 (by decide) (fun c16 => ?_) (fun c16 => ?_)
    · refine wp_aload_n d_Log_begin_29 rfl rfl ?_
      refine wp_iconst (v := 1) d_Log_begin_30 (by decide) ?_
      refine wp_put d_Log_begin_31 fp_Log_179 (by first | exact hR.log | exact hR.car | exact hR.cli hc) (by exact hC.B (by omega)) (by rfl) (by rfl) (Nat.le_of_ble_eq_true rfl) ?_
      have hC2 := hC.reg (by omega) (hR.pTxn (x := 1) hc) (hC.z.up (by omega))
      have hR2 := hC2.R
      refine wp_aload_n d_Log_begin_34 rfl rfl ?_
      refine wp_get d_Log_begin_35 fl_Log_187 (by exact hR2.cli hc) (by rfl) ?_
      refine wx_callV d_Log_begin_38 cv_Log_191 cd_Work_clear ⟨by decide, by decide⟩ (ct_clear hC2 hc) (by exact hR2.tx hc) rfl rfl (Nat.le_of_ble_eq_true rfl) (Nat.le_of_ble_eq_true rfl) (Nat.le_of_ble_eq_true rfl) (fun E1 μ1 hq => WX.out rfl (no_hd _) (Nat.le_of_ble_eq_true rfl) (Nat.le_of_ble_eq_true rfl) ?_) (fun v1 μ1 hq => ?_)
      · exact hq.elim
      · obtain ⟨rfl, hC3⟩ := hq
        have hR3 := hC3.R
        refine wp_aload_n d_Log_begin_41 rfl rfl ?_
        refine wp_get d_Log_begin_42 fl_Log_172 (by exact hR3.cli hc) (by rfl) ?_
        refine wp_iret d_Log_begin_45 rfl (by decide) (by decide) ?_
        show PostC G φ ad (if σ (16 + c) 3 = 0 then _ else _) _ _
        rw [if_pos c16]
        refine ⟨rfl, ?_, g, φ, hC3, sub.rf φ⟩
        rw [clS_off (by omega) (by omega), up2_s, va_up_ne _ _ (by decide)]
    · have hpx : PxC G φ ad ex2 (if σ (16 + c) 3 = 0 then (0, σ (16 + c) 4, clS c 4 (up2 σ (16 + c) 3 1), δ) else (2, 0, σ, δ)) ISE μ1 := by
        rw [if_neg c16]
        exact ⟨by show 2 ≠ 0; decide, rfl, g, φ, hC, sub.rf φ⟩
      exact wp_throw th_Log_182_184 rfl (no_hd _) d_Log_begin_19 d_Log_begin_22 d_Log_begin_23 d_Log_begin_25 d_Log_begin_28 (Nat.le_of_ble_eq_true rfl) (Nat.le_of_ble_eq_true rfl) (Nat.le_of_ble_eq_true rfl) (Nat.le_of_ble_eq_true rfl) hpx
def S_see (x y : Int32) (σ : sg) (δ : dg) : RS := match ar x 4, ar y 4 with
  | some c, some k => if σ (16 + c) 3 = 0 then (2, 0, σ, δ) else if σ (40 + c) k = 0 then (0, σ (20 + c) k, (if σ (32 + c) k = 0 then up2 (up2 σ (32 + c) k 1) (36 + c) k (σ (24 + c) k) else σ), δ) else (0, σ (44 + c) k, σ, δ)
  | _, _ => (1, 0, σ, δ)
set_option maxHeartbeats 1000000 in
set_option maxRecDepth 10000 in
theorem ct_see (hC : Cx G μ φ ad g σ δ) (x y : Int32) : CT G M_Log_see [.ref (ad 0), .int x, .int y] μ (PostC G φ ad (S_see x y σ δ)) (PxC G φ ad ex2 (S_see x y σ δ)) := by
  have hR := hC.R
  refine CT.of (by decide) rfl (Nat.le_of_ble_eq_true rfl) ?_
  refine wp_iload_n d_Log_see_0 rfl rfl ?_
  refine wp_iconst (v := 3) d_Log_see_1 (by decide) ?_
  refine wx_callS d_Log_see_2 cs_Log_65 cd_Log_requireWithin ⟨by decide, by decide⟩ (ct_requireWithin G μ x 3) rfl rfl (Nat.le_of_ble_eq_true rfl) (Nat.le_of_ble_eq_true rfl) (Nat.le_of_ble_eq_true rfl) (fun E1 μ1 hq => WX.out rfl (no_hd _) (Nat.le_of_ble_eq_true rfl) (Nat.le_of_ble_eq_true rfl) ?_) (fun v1 μ1 hq => ?_)
  · obtain ⟨rfl, rfl, hx⟩ := hq
    rw [S_see, ar_no (n := 3) rfl (by omega) hx]
    exact ⟨Nat.one_ne_zero, rfl, g, φ, hC, sub.rf φ⟩
  · obtain ⟨rfl, rfl, h1, h2⟩ := hq
    obtain ⟨c, hc, rfl⟩ := ar_ok (n := 3) rfl (by omega) h1 h2
    refine wp_iload_n d_Log_see_5 rfl rfl ?_
    refine wp_iconst (v := 3) d_Log_see_6 (by decide) ?_
    refine wx_callS d_Log_see_7 cs_Log_65 cd_Log_requireWithin ⟨by decide, by decide⟩ (ct_requireWithin G μ1 y 3) rfl rfl (Nat.le_of_ble_eq_true rfl) (Nat.le_of_ble_eq_true rfl) (Nat.le_of_ble_eq_true rfl) (fun E1 μ1 hq => WX.out rfl (no_hd _) (Nat.le_of_ble_eq_true rfl) (Nat.le_of_ble_eq_true rfl) ?_) (fun v1 μ1 hq => ?_)
    · obtain ⟨rfl, rfl, hx⟩ := hq
      rw [S_see, ar_nI hc (by omega), ar_no (n := 3) rfl (by omega) hx]
      exact ⟨Nat.one_ne_zero, rfl, g, φ, hC, sub.rf φ⟩
    · obtain ⟨rfl, rfl, h1, h2⟩ := hq
      obtain ⟨k, hk, rfl⟩ := ar_ok (n := 3) rfl (by omega) h1 h2
      have hS : S_see (nI c) (nI k) σ δ = if σ (16 + c) 3 = 0 then (2, 0, σ, δ) else if σ (40 + c) k = 0 then (0, σ (20 + c) k, (if σ (32 + c) k = 0 then up2 (up2 σ (32 + c) k 1) (36 + c) k (σ (24 + c) k) else σ), δ) else (0, σ (44 + c) k, σ, δ) := by
        rw [S_see, ar_nI hc (by omega), ar_nI hk (by omega)]
      refine wp_aload_n d_Log_see_10 rfl rfl ?_
      refine wp_get d_Log_see_11 fl_Log_17 (by first | exact hR.log | exact hR.car | exact hR.cli hc | exact hR.tx hc | exact hR.tp hc | exact hR.tv hc | exact hR.age hc) (by rfl) ?_
      refine wp_iload_n d_Log_see_14 rfl rfl ?_
      refine wp_aald d_Log_see_15 (t := 4) (C := "SharedLog$Client") rfl (by first | exact hR.log | exact hR.car | exact hR.cli hc | exact hR.tx hc | exact hR.tp hc | exact hR.tv hc | exact hR.age hc) (by rfl) (by assumption) (by omega) (by rfl) ?_
      refine wp_astore_n d_Log_see_16 rfl (by decide) ?_
      refine wp_aload_n d_Log_see_17 rfl rfl ?_
      refine wx_callS d_Log_see_18 cs_Log_194 cd_Log_requireTransaction ⟨by decide, by decide⟩ (ct_requireTransaction hC hc) rfl rfl (Nat.le_of_ble_eq_true rfl) (Nat.le_of_ble_eq_true rfl) (Nat.le_of_ble_eq_true rfl) (fun E1 μ1 hq => WX.out rfl (no_hd _) (Nat.le_of_ble_eq_true rfl) (Nat.le_of_ble_eq_true rfl) ?_) (fun v1 μ1 hq => ?_)
      · obtain ⟨rfl, rfl, ht⟩ := hq
        rw [hS, if_pos ht]
        exact ⟨by show 2 ≠ 0; decide, rfl, g, φ, hC, sub.rf φ⟩
      · obtain ⟨rfl, rfl, ht⟩ := hq
        rw [hS, if_neg ht]
        refine wp_aload_n d_Log_see_21 rfl rfl ?_
        refine wp_get d_Log_see_22 fl_Log_187 (by first | exact hR.log | exact hR.car | exact hR.cli hc | exact hR.tx hc | exact hR.tp hc | exact hR.tv hc | exact hR.age hc) (by rfl) ?_
        refine wp_astore d_Log_see_25 (by decide) ?_
        refine wp_aload d_Log_see_27 rfl ?_
        refine wp_get d_Log_see_29 fl_Log_197 (by first | exact hR.log | exact hR.car | exact hR.cli hc | exact hR.tx hc | exact hR.tp hc | exact hR.tv hc | exact hR.age hc) (by rfl) ?_
        refine wp_iload_n d_Log_see_32 rfl rfl ?_
        refine wp_zald d_Log_see_33 (by first | exact hR.log | exact hR.car | exact hR.cli hc | exact hR.tx hc | exact hR.tp hc | exact hR.tv hc | exact hR.age hc) (by rfl) (by assumption) (by omega) ?_
        refine wp_if_eq (tgt := 45) d_Log_see_34 (by decide) (fun c34 => ?_) (fun c34 => ?_)
        · rw [if_pos c34]
          refine wp_aload d_Log_see_45 rfl ?_
          refine wp_iload_n d_Log_see_47 rfl rfl ?_
          refine wp_aload_n d_Log_see_48 rfl rfl ?_
          refine wp_get d_Log_see_49 fl_Log_202 (by first | exact hR.log | exact hR.car | exact hR.cli hc | exact hR.tx hc | exact hR.tp hc | exact hR.tv hc | exact hR.age hc) (by rfl) ?_
          refine wp_iload_n d_Log_see_52 rfl rfl ?_
          refine wp_iald d_Log_see_53 (by first | exact hR.log | exact hR.car | exact hR.cli hc | exact hR.tx hc | exact hR.tp hc | exact hR.tv hc | exact hR.age hc) (by rfl) (by assumption) (by omega) ?_
          refine wx_callV d_Log_see_54 cv_Log_205 cd_Work_noteRead ⟨by decide, by decide⟩ (ct_noteRead G μ1 _ _ _ k _ _ _ _ _ hk (hR.tx hc) (hR.tr hc) (hR.ta hc) (hR.ne (by omega) (by omega) (by omega)) (hR.ne (by omega) (by omega) (by omega)) (hC.B (by omega)) (hC.B (by omega))) (by exact hR.tx hc) rfl rfl (Nat.le_of_ble_eq_true rfl) (Nat.le_of_ble_eq_true rfl) (Nat.le_of_ble_eq_true rfl) (fun E1 μ1 hq => WX.out rfl (no_hd _) (Nat.le_of_ble_eq_true rfl) (Nat.le_of_ble_eq_true rfl) ?_) (fun v1 μ1 hq => ?_)
          · exact hq.elim
          · obtain ⟨rfl, hq⟩ := hq
            have hC2 : Cx G μ1 φ ad g (if σ (32 + c) k = 0 then up2 (up2 σ (32 + c) k 1) (36 + c) k (σ (24 + c) k) else σ) δ := by
              subst hq
              split
              · have hC3 := hC.reg (by omega) (hR.pBool (i := 32 + c) (k := k) (x := 1) (Or.inl (by omega))) (hC.z.up (by omega))
                have e : up2 σ (32 + c) k 1 (36 + c) = σ (36 + c) := up2_n (by omega)
                have h9 := hC3.R.pInt (i := 36 + c) (k := k) (x := σ (24 + c) k) (by omega) (Or.inr (Or.inl (by omega)))
                rw [e] at h9
                exact hC3.reg (by omega) h9 (hC3.z.up (by omega))
              · exact hC
            have hR2 := hC2.R
            have e : (if σ (32 + c) k = 0 then up2 (up2 σ (32 + c) k 1) (36 + c) k (σ (24 + c) k) else σ) (20 + c) = σ (20 + c) := by
              split
              · rw [up2_n (by omega), up2_n (by omega)]
              · rfl
            have hv := hR2.val hc
            rw [e] at hv
            refine wp_aload_n d_Log_see_57 rfl rfl ?_
            refine wp_get d_Log_see_58 fl_Log_175 (by first | exact hR2.cli hc | exact hv) (by rfl) ?_
            refine wp_iload_n d_Log_see_61 rfl rfl ?_
            refine wp_iald d_Log_see_62 (by first | exact hR2.cli hc | exact hv) (by rfl) (by assumption) (by omega) ?_
            exact wp_iret d_Log_see_63 rfl (by decide) (by decide) ⟨rfl, rfl, g, φ, hC2, sub.rf φ⟩
        · rw [if_neg c34]
          refine wp_aload d_Log_see_37 rfl ?_
          refine wp_get d_Log_see_39 fl_Log_201 (by first | exact hR.tx hc | exact hR.tv hc) (by rfl) ?_
          refine wp_iload_n d_Log_see_42 rfl rfl ?_
          refine wp_iald d_Log_see_43 (by first | exact hR.tx hc | exact hR.tv hc) (by rfl) (by assumption) (by omega) ?_
          exact wp_iret d_Log_see_44 rfl (by decide) (by decide) ⟨rfl, rfl, g, φ, hC, sub.rf φ⟩
def S_put (x y v : Int32) (σ : sg) (δ : dg) : RS := match ar x 4, ar y 4 with
  | some c, some k => if σ (16 + c) 3 = 0 then (2, 0, σ, δ) else (0, nI (pcN (va_up (σ (40 + c)) k 1) 4), up2 (up2 σ (40 + c) k 1) (44 + c) k v, δ)
  | _, _ => (1, 0, σ, δ)
set_option maxHeartbeats 1000000 in
set_option maxRecDepth 10000 in
theorem ct_put (hC : Cx G μ φ ad g σ δ) (x y v : Int32) : CT G M_Log_put [.ref (ad 0), .int x, .int y, .int v] μ (PostC G φ ad (S_put x y v σ δ)) (PxC G φ ad ex2 (S_put x y v σ δ)) := by
  have hR := hC.R
  refine CT.of (by decide) rfl (Nat.le_of_ble_eq_true rfl) ?_
  refine wp_iload_n d_Log_put_0 rfl rfl ?_
  refine wp_iconst (v := 3) d_Log_put_1 (by decide) ?_
  refine wx_callS d_Log_put_2 cs_Log_65 cd_Log_requireWithin ⟨by decide, by decide⟩ (ct_requireWithin G μ x 3) rfl rfl (Nat.le_of_ble_eq_true rfl) (Nat.le_of_ble_eq_true rfl) (Nat.le_of_ble_eq_true rfl) (fun E1 μ1 hq => WX.out rfl (no_hd _) (Nat.le_of_ble_eq_true rfl) (Nat.le_of_ble_eq_true rfl) ?_) (fun v1 μ1 hq => ?_)
  · obtain ⟨rfl, rfl, hx⟩ := hq
    rw [S_put, ar_no (n := 3) rfl (by omega) hx]
    exact ⟨Nat.one_ne_zero, rfl, g, φ, hC, sub.rf φ⟩
  · obtain ⟨rfl, rfl, h1, h2⟩ := hq
    obtain ⟨c, hc, rfl⟩ := ar_ok (n := 3) rfl (by omega) h1 h2
    refine wp_iload_n d_Log_put_5 rfl rfl ?_
    refine wp_iconst (v := 3) d_Log_put_6 (by decide) ?_
    refine wx_callS d_Log_put_7 cs_Log_65 cd_Log_requireWithin ⟨by decide, by decide⟩ (ct_requireWithin G μ1 y 3) rfl rfl (Nat.le_of_ble_eq_true rfl) (Nat.le_of_ble_eq_true rfl) (Nat.le_of_ble_eq_true rfl) (fun E1 μ1 hq => WX.out rfl (no_hd _) (Nat.le_of_ble_eq_true rfl) (Nat.le_of_ble_eq_true rfl) ?_) (fun v1 μ1 hq => ?_)
    · obtain ⟨rfl, rfl, hx⟩ := hq
      rw [S_put, ar_nI hc (by omega), ar_no (n := 3) rfl (by omega) hx]
      exact ⟨Nat.one_ne_zero, rfl, g, φ, hC, sub.rf φ⟩
    · obtain ⟨rfl, rfl, h1, h2⟩ := hq
      obtain ⟨k, hk, rfl⟩ := ar_ok (n := 3) rfl (by omega) h1 h2
      have hS : S_put (nI c) (nI k) v σ δ = if σ (16 + c) 3 = 0 then (2, 0, σ, δ) else (0, nI (pcN (va_up (σ (40 + c)) k 1) 4), up2 (up2 σ (40 + c) k 1) (44 + c) k v, δ) := by
        rw [S_put, ar_nI hc (by omega), ar_nI hk (by omega)]
      refine wp_aload_n d_Log_put_10 rfl rfl ?_
      refine wp_get d_Log_put_11 fl_Log_17 (by first | exact hR.log | exact hR.car | exact hR.cli hc) (by rfl) ?_
      refine wp_iload_n d_Log_put_14 rfl rfl ?_
      refine wp_aald d_Log_put_15 (t := 4) (C := "SharedLog$Client") rfl (by first | exact hR.log | exact hR.car | exact hR.cli hc) (by rfl) (by assumption) (by omega) (by rfl) ?_
      refine wp_astore d_Log_put_16 (by decide) ?_
      refine wp_aload d_Log_put_18 rfl ?_
      refine wx_callS d_Log_put_20 cs_Log_194 cd_Log_requireTransaction ⟨by decide, by decide⟩ (ct_requireTransaction hC hc) rfl rfl (Nat.le_of_ble_eq_true rfl) (Nat.le_of_ble_eq_true rfl) (Nat.le_of_ble_eq_true rfl) (fun E1 μ1 hq => WX.out rfl (no_hd _) (Nat.le_of_ble_eq_true rfl) (Nat.le_of_ble_eq_true rfl) ?_) (fun v1 μ1 hq => ?_)
      · obtain ⟨rfl, rfl, ht⟩ := hq
        rw [hS, if_pos ht]
        exact ⟨by show 2 ≠ 0; decide, rfl, g, φ, hC, sub.rf φ⟩
      · obtain ⟨rfl, rfl, ht⟩ := hq
        rw [hS, if_neg ht]
        refine wp_aload d_Log_put_23 rfl ?_
        refine wp_get d_Log_put_25 fl_Log_187 (by first | exact hR.log | exact hR.car | exact hR.cli hc) (by rfl) ?_
        refine wp_iload_n d_Log_put_28 rfl rfl ?_
        refine wp_iload_n d_Log_put_29 rfl rfl ?_
        refine wx_callV d_Log_put_30 cv_Log_73 cd_Work_setPut ⟨by decide, by decide⟩ (ct_setPut G μ1 _ _ _ k _ _ _ _ _ hk (hR.tx hc) (hR.tp hc) (hR.tv hc) (hR.ne (by omega) (by omega) (by omega)) (hR.ne (by omega) (by omega) (by omega)) (hC.B (by omega)) (hC.B (by omega))) (by exact hR.tx hc) rfl rfl (Nat.le_of_ble_eq_true rfl) (Nat.le_of_ble_eq_true rfl) (Nat.le_of_ble_eq_true rfl) (fun E1 μ1 hq => WX.out rfl (no_hd _) (Nat.le_of_ble_eq_true rfl) (Nat.le_of_ble_eq_true rfl) ?_) (fun v1 μ1 hq => ?_)
        · exact hq.elim
        · obtain ⟨rfl, rfl⟩ := hq
          have hC3 := hC.reg (by omega) (hR.pBool (i := 40 + c) (k := k) (x := 1) (Or.inr (by omega))) (hC.z.up (by omega))
          have e : up2 σ (40 + c) k 1 (44 + c) = σ (44 + c) := up2_n (by omega)
          have h9 := hC3.R.pInt (i := 44 + c) (k := k) (x := v) (by omega) (Or.inr (Or.inr (by omega)))
          rw [e] at h9
          have hC4 := hC3.reg (by omega) h9 (hC3.z.up (by omega))
          have hR4 := hC4.R
          have e2 : up2 (up2 σ (40 + c) k 1) (44 + c) k v (40 + c) = va_up (σ (40 + c)) k 1 := by rw [up2_n (by omega), up2_s]
          have hp := hR4.tp hc
          rw [e2] at hp
          refine wp_aload d_Log_put_33 rfl ?_
          refine wp_get d_Log_put_35 fl_Log_187 (by exact hR4.cli hc) (by rfl) ?_
          refine wx_callV d_Log_put_38 cv_Log_208 cd_Work_putCount ⟨by decide, by decide⟩ (ct_putCount G _ _ _ _ _ _ _ (hR4.tx hc) hp) (by exact hR4.tx hc) rfl rfl (Nat.le_of_ble_eq_true rfl) (Nat.le_of_ble_eq_true rfl) (Nat.le_of_ble_eq_true rfl) (fun E1 μ1 hq => WX.out rfl (no_hd _) (Nat.le_of_ble_eq_true rfl) (Nat.le_of_ble_eq_true rfl) ?_) (fun v1 μ1 hq => ?_)
          · exact hq.elim
          · obtain ⟨rfl, rfl⟩ := hq
            exact wp_iret d_Log_put_41 rfl (by decide) (by decide) ⟨rfl, rfl, g, φ, hC4, sub.rf φ⟩
def S_drop (x : Int32) (σ : sg) (δ : dg) : RS := match ar x 4 with
  | some c => if σ (16 + c) 3 = 0 then (0, -1, σ, δ) else (0, nI (pcN (σ (40 + c)) 4), up2 σ (16 + c) 3 0, δ)
  | none => (1, 0, σ, δ)
set_option maxHeartbeats 1000000 in
set_option maxRecDepth 10000 in
theorem ct_drop (hC : Cx G μ φ ad g σ δ) (x : Int32) : CT G M_Log_drop [.ref (ad 0), .int x] μ (PostC G φ ad (S_drop x σ δ)) (PxC G φ ad ex1 (S_drop x σ δ)) := by
  have hR := hC.R
  refine CT.of (by decide) rfl (Nat.le_of_ble_eq_true rfl) ?_
  refine wp_iload_n d_Log_drop_0 rfl rfl ?_
  refine wp_iconst (v := 3) d_Log_drop_1 (by decide) ?_
  refine wx_callS d_Log_drop_2 cs_Log_65 cd_Log_requireWithin ⟨by decide, by decide⟩ (ct_requireWithin G μ x 3) rfl rfl (Nat.le_of_ble_eq_true rfl) (Nat.le_of_ble_eq_true rfl) (Nat.le_of_ble_eq_true rfl) (fun E1 μ1 hq => WX.out rfl (no_hd _) (Nat.le_of_ble_eq_true rfl) (Nat.le_of_ble_eq_true rfl) ?_) (fun v1 μ1 hq => ?_)
  · obtain ⟨rfl, rfl, hx⟩ := hq
    rw [S_drop, ar_no (n := 3) rfl (by omega) hx]
    exact ⟨Nat.one_ne_zero, rfl, g, φ, hC, sub.rf φ⟩
  · obtain ⟨rfl, rfl, h1, h2⟩ := hq
    obtain ⟨c, hc, rfl⟩ := ar_ok (n := 3) rfl (by omega) h1 h2
    have hS : S_drop (nI c) σ δ = if σ (16 + c) 3 = 0 then (0, -1, σ, δ) else (0, nI (pcN (σ (40 + c)) 4), up2 σ (16 + c) 3 0, δ) := by
      rw [S_drop, ar_nI hc (by omega)]
    rw [hS]
    refine wp_aload_n d_Log_drop_5 rfl rfl ?_
    refine wp_get d_Log_drop_6 fl_Log_17 (by first | exact hR.log | exact hR.car | exact hR.cli hc) (by rfl) ?_
    refine wp_iload_n d_Log_drop_9 rfl rfl ?_
    refine wp_aald d_Log_drop_10 (t := 4) (C := "SharedLog$Client") rfl (by first | exact hR.log | exact hR.car | exact hR.cli hc) (by rfl) (by exact hc) (by omega) (by rfl) ?_
    refine wp_astore_n d_Log_drop_11 rfl (by decide) ?_
    refine wp_aload_n d_Log_drop_12 rfl rfl ?_
    refine wp_get d_Log_drop_13 fl_Log_179 (by first | exact hR.log | exact hR.car | exact hR.cli hc) (by rfl) ?_
    refine wp_if_ne (tgt := 21) d_Log_drop_16 (by decide) (fun c16 => ?_) (fun c16 => ?_)
    · rw [if_neg c16]
      refine wp_aload_n d_Log_drop_21 rfl rfl ?_
      refine wp_iconst (v := 0) d_Log_drop_22 (by decide) ?_
      refine wp_put d_Log_drop_23 fp_Log_179 (by first | exact hR.log | exact hR.car | exact hR.cli hc) (by exact hC.B (by omega)) (by rfl) (by rfl) (Nat.le_of_ble_eq_true rfl) ?_
      have hC2 := hC.reg (by omega) (hR.pTxn (x := 0) hc) (hC.z.up (by omega))
      have hR2 := hC2.R
      have hp := hR2.tp hc
      rw [up2_n (by omega)] at hp
      refine wp_aload_n d_Log_drop_26 rfl rfl ?_
      refine wp_get d_Log_drop_27 fl_Log_187 (by exact hR2.cli hc) (by rfl) ?_
      refine wx_callV d_Log_drop_30 cv_Log_208 cd_Work_putCount ⟨by decide, by decide⟩ (ct_putCount G _ _ _ _ _ _ _ (hR2.tx hc) hp) (by exact hR2.tx hc) rfl rfl (Nat.le_of_ble_eq_true rfl) (Nat.le_of_ble_eq_true rfl) (Nat.le_of_ble_eq_true rfl) (fun E1 μ1 hq => WX.out rfl (no_hd _) (Nat.le_of_ble_eq_true rfl) (Nat.le_of_ble_eq_true rfl) ?_) (fun v1 μ1 hq => ?_)
      · exact hq.elim
      · obtain ⟨rfl, rfl⟩ := hq
        exact wp_iret d_Log_drop_33 rfl (by decide) (by decide) ⟨rfl, rfl, g, φ, hC2, sub.rf φ⟩
    · rw [if_pos c16]
      refine wp_iconst (v := (-1)) d_Log_drop_19 (by decide) ?_
      exact wp_iret d_Log_drop_20 rfl (by decide) (by decide) ⟨rfl, rfl, g, φ, hC, sub.rf φ⟩
end Pub2
end
section
/-! THE CLASS'S FACE: read, sync, trim, fill -/
section Pub3
variable {G : mt_G} {μ φ : mu_M} {ad : Nat → Nat} {g : dg} {σ : sg} {δ : dg}
def exRead : Nat → String := fun n => if n = 1 then IAE else if n = 2 then ISE else if n = 3 then NSE else if n = 4 then UOE else IOE
def rdS (c o : Nat) (σ : sg) (δ : dg) : RS :=
  if usb σ c (uL (δ (1 + c) (o % 2))) = true then
    (if σ (eR (uL (δ (1 + c) (o % 2))) o) 0 = 0 then (5, 0, σ, δ) else if σ (eR (uL (δ (1 + c) (o % 2))) o) 0 = 4 then (3, 0, σ, δ) else if σ (eR (uL (δ (1 + c) (o % 2))) o) 0 = 3 then (4, 0, σ, δ) else (0, σ (eR (uL (δ (1 + c) (o % 2))) o) 1, σ, δ))
  else (2, 0, σ, δ)
def S_read (x y : Int32) (σ : sg) (δ : dg) : RS := match ar x 4, ar y 60 with
  | some c, some o => rdS c o σ δ
  | _, _ => (1, 0, σ, δ)
set_option maxHeartbeats 1000000 in
set_option maxRecDepth 10000 in
theorem ct_read (hC : Cx G μ φ ad g σ δ) (hI : PI σ δ) (x y : Int32) : CT G M_Log_read [.ref (ad 0), .int x, .int y] μ (PostC G φ ad (S_read x y σ δ)) (PxC G φ ad exRead (S_read x y σ δ)) := by
  have hR := hC.R
  refine CT.of (by decide) rfl (Nat.le_of_ble_eq_true rfl) ?_
  refine wp_iload_n d_Log_read_0 rfl rfl ?_
  refine wp_iconst (v := 3) d_Log_read_1 (by decide) ?_
  refine wx_callS d_Log_read_2 cs_Log_65 cd_Log_requireWithin ⟨by decide, by decide⟩ (ct_requireWithin G μ x 3) rfl rfl (Nat.le_of_ble_eq_true rfl) (Nat.le_of_ble_eq_true rfl) (Nat.le_of_ble_eq_true rfl) (fun E1 μ1 hq => WX.out rfl (no_hd _) (Nat.le_of_ble_eq_true rfl) (Nat.le_of_ble_eq_true rfl) ?_) (fun v1 μ1 hq => ?_)
  · obtain ⟨rfl, rfl, hx⟩ := hq
    rw [S_read, ar_no (n := 3) rfl (by omega) hx]
    exact ⟨Nat.one_ne_zero, rfl, g, φ, hC, sub.rf φ⟩
  · obtain ⟨rfl, rfl, h1, h2⟩ := hq
    obtain ⟨c, hc, rfl⟩ := ar_ok (n := 3) rfl (by omega) h1 h2
    refine wp_iload_n d_Log_read_5 rfl rfl ?_
    refine wp_bipush (v := 59) d_Log_read_6 (by decide) ?_
    refine wx_callS d_Log_read_8 cs_Log_65 cd_Log_requireWithin ⟨by decide, by decide⟩ (ct_requireWithin G μ1 y 59) rfl rfl (Nat.le_of_ble_eq_true rfl) (Nat.le_of_ble_eq_true rfl) (Nat.le_of_ble_eq_true rfl) (fun E1 μ1 hq => WX.out rfl (no_hd _) (Nat.le_of_ble_eq_true rfl) (Nat.le_of_ble_eq_true rfl) ?_) (fun v1 μ1 hq => ?_)
    · obtain ⟨rfl, rfl, hx⟩ := hq
      rw [S_read, ar_nI hc (by omega), ar_no (n := 59) rfl (by omega) hx]
      exact ⟨Nat.one_ne_zero, rfl, g, φ, hC, sub.rf φ⟩
    · obtain ⟨rfl, rfl, h1, h2⟩ := hq
      obtain ⟨o, ho, rfl⟩ := ar_ok (n := 59) rfl (by omega) h1 h2
      have hS : S_read (nI c) (nI o) σ δ = rdS c o σ δ := by rw [S_read, ar_nI hc (by omega), ar_nI ho (by omega)]
      rw [hS]
      have hvr := hI.1 (1 + c) (o % 2) (by omega) (by omega)
      obtain ⟨w1, he1, -⟩ := hC.ent (uL_lt hvr) ho
      refine wp_aload_n d_Log_read_11 rfl rfl ?_
      refine wp_aload_n d_Log_read_12 rfl rfl ?_
      refine wp_get d_Log_read_13 fl_Log_17 (by first | exact hR.log | exact hR.car) (by rfl) ?_
      refine wp_iload_n d_Log_read_16 rfl rfl ?_
      refine wp_aald d_Log_read_17 (t := 4) (C := "SharedLog$Client") rfl (by first | exact hR.log | exact hR.car) (by rfl) (by assumption) (by omega) (by rfl) ?_
      refine wp_iload_n d_Log_read_18 rfl rfl ?_
      refine wx_callV d_Log_read_19 cv_Log_86 cd_Log_entryAtEnd ⟨by decide, by decide⟩ (ct_entryAtEnd hC hc ho hvr) (by exact hR.log) rfl rfl (Nat.le_of_ble_eq_true rfl) (Nat.le_of_ble_eq_true rfl) (Nat.le_of_ble_eq_true rfl) (fun E1 μ1 hq => WX.out rfl (no_hd _) (Nat.le_of_ble_eq_true rfl) (Nat.le_of_ble_eq_true rfl) ?_) (fun v1 μ1 hq => ?_)
      · obtain ⟨rfl, hq⟩ := hq
        rcases hq with ⟨rfl, q1⟩ | ⟨rfl, q1, q2⟩ | ⟨rfl, q1, q2, q3⟩
        · rw [rdS, if_neg (by rw [q1]; decide)]
          exact ⟨by show 2 ≠ 0; decide, rfl, g, φ, hC, sub.rf φ⟩
        · rw [rdS, if_pos q1, if_pos q2]
          exact ⟨by show 5 ≠ 0; decide, rfl, g, φ, hC, sub.rf φ⟩
        · rw [rdS, if_pos q1, if_neg q2, if_pos q3]
          exact ⟨by show 3 ≠ 0; decide, rfl, g, φ, hC, sub.rf φ⟩
      · obtain ⟨rfl, rfl, q1, q2, q3⟩ := hq
        rw [rdS, if_pos q1, if_neg q2, if_neg q3]
        refine wp_astore_n d_Log_read_22 rfl (by decide) ?_
        refine wp_aload_n d_Log_read_23 rfl rfl ?_
        refine wp_get d_Log_read_24 fl_Log_90 (by exact he1) (by rfl) ?_
        refine wp_iconst (v := 3) d_Log_read_27 (by decide) ?_
        refine wp_icmp_ne (tgt := 41) d_Log_read_28 (by decide) (fun c28 => ?_) (fun c28 => ?_)
        · rw [if_neg c28]
          refine wp_aload_n d_Log_read_41 rfl rfl ?_
          refine wp_get d_Log_read_42 fl_Log_100 (by exact he1) (by rfl) ?_
          exact wp_iret d_Log_read_45 rfl (by decide) (by decide) ⟨rfl, rfl, g, φ, hC, sub.rf φ⟩
        · rw [if_pos c28]
          exact wp_throw th_Log_94_96 rfl (no_hd _) d_Log_read_31 d_Log_read_34 d_Log_read_35 d_Log_read_37 d_Log_read_40 (Nat.le_of_ble_eq_true rfl) (Nat.le_of_ble_eq_true rfl) (Nat.le_of_ble_eq_true rfl) (Nat.le_of_ble_eq_true rfl) ⟨by show 4 ≠ 0; decide, rfl, g, φ, hC, sub.rf φ⟩
def exSync : Nat → String := fun n => if n = 1 then IAE else if n = 2 then ISE else if n = 3 then NSE else IOE
def syS (c : Nat) (σ : sg) (δ : dg) : RS :=
  if ntk σ c = true then (2, 0, σ, δ) else
    match plS c δ ((σ 3 2).toNatClampNeg - (σ (16 + c) 4).toNatClampNeg) (σ (16 + c) 4).toNatClampNeg 0 σ with
    | (k, _, σ') => if k = 0 then (0, σ' (16 + c) 4, σ', δ) else (if k = 1 then 2 else if k = 2 then 4 else 3, 0, σ', δ)
def S_sync (x : Int32) (σ : sg) (δ : dg) : RS := match ar x 4 with
  | some c => syS c σ δ
  | none => (1, 0, σ, δ)
set_option maxHeartbeats 1000000 in
set_option maxRecDepth 10000 in
theorem ct_sync (hC : Cx G μ φ ad g σ δ) (hI : PI σ δ) (x : Int32) : CT G M_Log_sync [.ref (ad 0), .int x] μ (PostC G φ ad (S_sync x σ δ)) (PxC G φ ad exSync (S_sync x σ δ)) := by
  have hR := hC.R
  refine CT.of (by decide) rfl (Nat.le_of_ble_eq_true rfl) ?_
  refine wp_iload_n d_Log_sync_0 rfl rfl ?_
  refine wp_iconst (v := 3) d_Log_sync_1 (by decide) ?_
  refine wx_callS d_Log_sync_2 cs_Log_65 cd_Log_requireWithin ⟨by decide, by decide⟩ (ct_requireWithin G μ x 3) rfl rfl (Nat.le_of_ble_eq_true rfl) (Nat.le_of_ble_eq_true rfl) (Nat.le_of_ble_eq_true rfl) (fun E1 μ1 hq => WX.out rfl (no_hd _) (Nat.le_of_ble_eq_true rfl) (Nat.le_of_ble_eq_true rfl) ?_) (fun v1 μ1 hq => ?_)
  · obtain ⟨rfl, rfl, hx⟩ := hq
    rw [S_sync, ar_no (n := 3) rfl (by omega) hx]
    exact ⟨Nat.one_ne_zero, rfl, g, φ, hC, sub.rf φ⟩
  · obtain ⟨rfl, rfl, h1, h2⟩ := hq
    obtain ⟨c, hc, rfl⟩ := ar_ok (n := 3) rfl (by omega) h1 h2
    have hS : S_sync (nI c) σ δ = syS c σ δ := by rw [S_sync, ar_nI hc (by omega)]
    rw [hS]
    obtain ⟨n, hn, hn2⟩ := hI.2.1
    obtain ⟨p, hp, hp2⟩ := hI.2.2.1 c hc
    have hcl1 : (σ 3 2).toNatClampNeg = n := by rw [hn2]; exact nI_clamp (by omega)
    have hcl2 : (σ (16 + c) 4).toNatClampNeg = p := by rw [hp2]; exact nI_clamp (by omega)
    refine wp_aload_n d_Log_sync_5 rfl rfl ?_
    refine wp_get d_Log_sync_6 fl_Log_17 (by first | exact hR.log | exact hR.car | exact hR.seq) (by rfl) ?_
    refine wp_iload_n d_Log_sync_9 rfl rfl ?_
    refine wp_aald d_Log_sync_10 (t := 4) (C := "SharedLog$Client") rfl (by first | exact hR.log | exact hR.car | exact hR.seq) (by rfl) (by assumption) (by omega) (by rfl) ?_
    refine wp_astore_n d_Log_sync_11 rfl (by decide) ?_
    refine wp_aload_n d_Log_sync_12 rfl rfl ?_
    refine wp_aload_n d_Log_sync_13 rfl rfl ?_
    refine wx_callV d_Log_sync_14 cv_Log_164 cd_Log_requireSequencer ⟨by decide, by decide⟩ (ct_requireSequencer hC hc) (by exact hR.log) rfl rfl (Nat.le_of_ble_eq_true rfl) (Nat.le_of_ble_eq_true rfl) (Nat.le_of_ble_eq_true rfl) (fun E1 μ1 hq => WX.out rfl (no_hd _) (Nat.le_of_ble_eq_true rfl) (Nat.le_of_ble_eq_true rfl) ?_) (fun v1 μ1 hq => ?_)
    · obtain ⟨rfl, rfl, ht⟩ := hq
      rw [syS, if_pos ht]
      exact ⟨by show 2 ≠ 0; decide, rfl, g, φ, hC, sub.rf φ⟩
    · obtain ⟨rfl, rfl, ht⟩ := hq
      rw [syS, if_neg (by rw [ht]; decide), hcl1, hcl2]
      refine wp_aload_n d_Log_sync_17 rfl rfl ?_
      refine wp_aload_n d_Log_sync_18 rfl rfl ?_
      refine wp_aload_n d_Log_sync_19 rfl rfl ?_
      refine wp_get d_Log_sync_20 fl_Log_24 (by first | exact hR.log | exact hR.car | exact hR.seq) (by rfl) ?_
      refine wp_get d_Log_sync_23 fl_Log_152 (by first | exact hR.log | exact hR.car | exact hR.seq) (by rfl) ?_
      rw [hn2]
      refine wx_callV d_Log_sync_26 cv_Log_168 cd_Log_play ⟨by decide, by decide⟩ (ct_play hC hc hp2 hp hn (fun ch hch => hI.1 (1 + c) ch (by omega) hch)) (by exact hR.log) rfl rfl (Nat.le_of_ble_eq_true rfl) (Nat.le_of_ble_eq_true rfl) (Nat.le_of_ble_eq_true rfl) (fun E1 μ1 hq => WX.out rfl (no_hd _) (Nat.le_of_ble_eq_true rfl) (Nat.le_of_ble_eq_true rfl) ?_) (fun v1 μ1 hq => ?_)
      · obtain ⟨k, t, σ', e, hC2, hk⟩ := hq
        rw [e]
        rcases hk with ⟨rfl, rfl⟩ | ⟨rfl, rfl⟩ | ⟨rfl, rfl⟩
        · exact ⟨by show 2 ≠ 0; decide, rfl, g, φ, hC2, sub.rf φ⟩
        · exact ⟨by show 4 ≠ 0; decide, rfl, g, φ, hC2, sub.rf φ⟩
        · exact ⟨by show 3 ≠ 0; decide, rfl, g, φ, hC2, sub.rf φ⟩
      · obtain ⟨t, σ', rfl, -, e, hC2⟩ := hq
        rw [e]
        have hR2 := hC2.R
        refine wp_pop d_Log_sync_29 rfl ?_
        refine wp_aload_n d_Log_sync_30 rfl rfl ?_
        refine wp_get d_Log_sync_31 fl_Log_172 (by exact hR2.cli hc) (by rfl) ?_
        exact wp_iret d_Log_sync_34 rfl (by decide) (by decide) ⟨rfl, rfl, g, φ, hC2, sub.rf φ⟩
/-- trimming n more offsets from o on -/
def trS (c : Nat) (δ : dg) : Nat → Nat → Nat → sg → Nat × Nat × sg
  | 0, _, k, σ => (0, k, σ)
  | n + 1, o, k, σ => match t1S c o (δ (1 + c) (o % 2)) (ln (δ (1 + c) (o % 2))) 0 0 σ with
    | (q, j, σ') => if q = 0 then trS c δ n (o + 1) (k + j) σ' else (1, k, σ')
def S_trim (x y : Int32) (σ : sg) (δ : dg) : RS := match ar x 4, ar y 60 with
  | some c, some o => match trS c δ (o + 1) 0 0 σ with
    | (q, k, σ') => if q = 0 then (0, nI k, σ', δ) else (2, 0, σ', δ)
  | _, _ => (1, 0, σ, δ)
set_option maxHeartbeats 4000000 in
set_option maxRecDepth 10000 in
theorem ct_trim (hC : Cx G μ φ ad g σ δ) (hI : PI σ δ) (x y : Int32) : CT G M_Log_trim [.ref (ad 0), .int x, .int y] μ (PostC G φ ad (S_trim x y σ δ)) (PxC G φ ad ex2 (S_trim x y σ δ)) := by
  have hR := hC.R
  refine CT.of (by decide) rfl (Nat.le_of_ble_eq_true rfl) ?_
  refine wp_iload_n d_Log_trim_0 rfl rfl ?_
  refine wp_iconst (v := 3) d_Log_trim_1 (by decide) ?_
  refine wx_callS d_Log_trim_2 cs_Log_65 cd_Log_requireWithin ⟨by decide, by decide⟩ (ct_requireWithin G μ x 3) rfl rfl (Nat.le_of_ble_eq_true rfl) (Nat.le_of_ble_eq_true rfl) (Nat.le_of_ble_eq_true rfl) (fun E1 μ1 hq => WX.out rfl (no_hd _) (Nat.le_of_ble_eq_true rfl) (Nat.le_of_ble_eq_true rfl) ?_) (fun v1 μ1 hq => ?_)
  · obtain ⟨rfl, rfl, hx⟩ := hq
    rw [S_trim, ar_no (n := 3) rfl (by omega) hx]
    exact ⟨Nat.one_ne_zero, rfl, g, φ, hC, sub.rf φ⟩
  · obtain ⟨rfl, rfl, h1, h2⟩ := hq
    obtain ⟨c, hc, rfl⟩ := ar_ok (n := 3) rfl (by omega) h1 h2
    refine wp_iload_n d_Log_trim_5 rfl rfl ?_
    refine wp_bipush (v := 59) d_Log_trim_6 (by decide) ?_
    refine wx_callS d_Log_trim_8 cs_Log_65 cd_Log_requireWithin ⟨by decide, by decide⟩ (ct_requireWithin G μ1 y 59) rfl rfl (Nat.le_of_ble_eq_true rfl) (Nat.le_of_ble_eq_true rfl) (Nat.le_of_ble_eq_true rfl) (fun E1 μ1 hq => WX.out rfl (no_hd _) (Nat.le_of_ble_eq_true rfl) (Nat.le_of_ble_eq_true rfl) ?_) (fun v1 μ1 hq => ?_)
    · obtain ⟨rfl, rfl, hx⟩ := hq
      rw [S_trim, ar_nI hc (by omega), ar_no (n := 59) rfl (by omega) hx]
      exact ⟨Nat.one_ne_zero, rfl, g, φ, hC, sub.rf φ⟩
    · obtain ⟨rfl, rfl, h1, h2⟩ := hq
      obtain ⟨o, ho, rfl⟩ := ar_ok (n := 59) rfl (by omega) h1 h2
      have hS : S_trim (nI c) (nI o) σ δ = (match trS c δ (o + 1) 0 0 σ with | (q, k, σ') => if q = 0 then ((0, nI k, σ', δ) : RS) else (2, 0, σ', δ)) := by rw [S_trim, ar_nI hc (by omega), ar_nI ho (by omega)]
      rw [hS]
      refine wp_iconst (v := 0) d_Log_trim_11 (by decide) ?_
      refine wp_istore_n d_Log_trim_12 rfl (by decide) ?_
      refine wp_iconst (v := 0) d_Log_trim_13 (by decide) ?_
      refine wp_istore d_Log_trim_14 (by decide) ?_
      have loop : ∀ (n i k : Nat) (σ1 : sg) (g1 : dg) (μ1 : mu_M), i + n = o + 1 → k ≤ 3 * i → Cx G μ1 φ ad g1 σ1 δ → trS c δ n i k σ1 = trS c δ (o + 1) 0 0 σ →
          WP G M_Log_trim (EC G M_Log_trim (PostC G φ ad (match trS c δ (o + 1) 0 0 σ with | (q, k, σ') => if q = 0 then ((0, nI k, σ', δ) : RS) else (2, 0, σ', δ))) (PxC G φ ad ex2 (match trS c δ (o + 1) 0 0 σ with | (q, k, σ') => if q = 0 then ((0, nI k, σ', δ) : RS) else (2, 0, σ', δ))))
            [(0, .ref (ad 0)), (1, .int (nI c)), (2, .int (nI o)), (3, .int (nI k)), (4, .int (nI i))] 16 [] μ1 (2 + 3 * i) (12 + 18 * i) := by
        intro n
        induction n with
        | zero =>
          intro i k σ1 g1 μ1 h1 h2 hC1 hw
          rw [← hw]
          refine wp_iload d_Log_trim_16 rfl ?_
          refine wp_iload_n d_Log_trim_18 rfl rfl ?_
          refine wp_icmp_gt (tgt := 43) d_Log_trim_19 (by decide) (fun c19 => ?_) (fun c19 => ?_)
          · refine wp_iload_n d_Log_trim_43 rfl rfl ?_
            exact wp_iret d_Log_trim_44 rfl (by show 2 + 3 * i ≤ 182; omega) (by show 12 + 18 * i ≤ 1092; omega) ⟨rfl, rfl, g1, φ, hC1, sub.rf φ⟩
          · exact absurd ((nI_ltI (by omega) (by omega)).mpr (by omega)) c19
        | succ n ih =>
          intro i k σ1 g1 μ1 h1 h2 hC1 hw
          have hR1 := hC1.R
          have hi6 : i < 60 := by omega
          have hvr := hI.1 (1 + c) (i % 2) (by omega) (by omega)
          refine wp_iload d_Log_trim_16 rfl ?_
          refine wp_iload_n d_Log_trim_18 rfl rfl ?_
          refine wp_icmp_gt (tgt := 43) d_Log_trim_19 (by decide) (fun c19 => ?_) (fun c19 => ?_)
          · exact absurd ((nI_ltI (by omega) (by omega)).mp c19) (by omega)
          refine wp_iload_n d_Log_trim_22 rfl rfl ?_
          refine wp_aload_n d_Log_trim_23 rfl rfl ?_
          refine wp_aload_n d_Log_trim_24 rfl rfl ?_
          refine wp_get d_Log_trim_25 fl_Log_17 (by first | exact hR1.log | exact hR1.car) (by rfl) ?_
          refine wp_iload_n d_Log_trim_28 rfl rfl ?_
          refine wp_aald d_Log_trim_29 (t := 4) (C := "SharedLog$Client") rfl (by first | exact hR1.log | exact hR1.car) (by rfl) (by assumption) (by omega) (by rfl) ?_
          refine wp_iload d_Log_trim_30 rfl ?_
          refine wx_callV d_Log_trim_32 cv_Log_115 cd_Log_trimOne ⟨by decide, by decide⟩ (ct_trimOne hC1 hc hi6 hvr) (by exact hR1.log) rfl rfl (Nat.le_of_ble_eq_true rfl) (by first | exact Nat.le_of_ble_eq_true rfl | (dsimp only [mt_R, M_Log_trim, M_Log_trimOne]; omega)) (by first | exact Nat.le_of_ble_eq_true rfl | (dsimp only [mt_R, M_Log_trim, M_Log_trimOne]; omega)) (fun E1 μ1 hq => WX.out rfl (no_hd _) (by first | exact Nat.le_of_ble_eq_true rfl | (dsimp only [mt_R, M_Log_trim, M_Log_trimOne]; omega)) (by first | exact Nat.le_of_ble_eq_true rfl | (dsimp only [mt_R, M_Log_trim, M_Log_trimOne]; omega)) ?_) (fun v1 μ1 hq => ?_)
          · obtain ⟨g2, σ2, j, rfl, e, hC2⟩ := hq
            rw [← hw, trS, e]
            exact ⟨by show 2 ≠ 0; decide, rfl, g2, φ, hC2, sub.rf φ⟩
          · obtain ⟨g2, σ2, j, rfl, hj, e, hC2⟩ := hq
            refine wp_iadd d_Log_trim_35 ?_
            rw [nI_add k j]
            refine wp_istore_n d_Log_trim_36 rfl (by decide) ?_
            refine wp_iinc d_Log_trim_37 rfl rfl (by decide) ?_
            refine wp_goto (tgt := 16) d_Log_trim_40 (by decide) ?_
            refine WP.loc [(0, .ref (ad 0)), (1, .int (nI c)), (2, .int (nI o)), (3, .int (nI (k + j))), (4, .int (nI (i + 1)))] (by rw [← nI_1 i]; rfl) (WP.widen (k := 2 + 3 * (i + 1)) (n := 12 + 18 * (i + 1)) (by dsimp only [mt_R, M_Log_trim, M_Log_trimOne]; omega) (by dsimp only [mt_R, M_Log_trim, M_Log_trimOne]; omega) (ih (i + 1) (k + j) σ2 g2 _ (by omega) (by omega) hC2 ?_))
            rw [← hw, trS, e]
            rfl
      exact WP.loc _ rfl (loop _ 0 0 σ g _ (by omega) (by omega) hC rfl)
/-- filling n more units of the row d from place i on; k have got something; fv is what is given -/
def flS (c o d : Nat) : Nat → Nat → Nat → (Nat → Int32) → sg → Nat × Nat × sg
  | 0, _, k, _, σ => (0, k, σ)
  | n + 1, i, k, fv, σ => if usb σ c (un d i) = true then (if σ (eR (un d i) o) 0 = 0 then flS c o d n (i + 1) (k + 1) fv (va_up σ (eR (un d i) o) fv) else flS c o d n (i + 1) k (if i = 0 then σ (eR (un d i) o) else fv) σ) else (1, k, σ)
def S_fill (x y : Int32) (σ : sg) (δ : dg) : RS := match ar x 4, ar y 60 with
  | some c, some o => match flS c o (δ (1 + c) (o % 2)) (ln (δ (1 + c) (o % 2))) 0 0 vJunk σ with
    | (q, k, σ') => if q = 0 then (0, nI k, σ', δ) else (2, 0, σ', δ)
  | _, _ => (1, 0, σ, δ)
set_option maxHeartbeats 4000000 in
set_option maxRecDepth 10000 in
theorem ct_fill (hC : Cx G μ φ ad g σ δ) (hI : PI σ δ) (x y : Int32) : CT G M_Log_fill [.ref (ad 0), .int x, .int y] μ (PostC G φ ad (S_fill x y σ δ)) (PxC G φ ad ex2 (S_fill x y σ δ)) := by
  have hR := hC.R
  refine CT.of (by decide) rfl (Nat.le_of_ble_eq_true rfl) ?_
  refine wp_iload_n d_Log_fill_0 rfl rfl ?_
  refine wp_iconst (v := 3) d_Log_fill_1 (by decide) ?_
  refine wx_callS d_Log_fill_2 cs_Log_65 cd_Log_requireWithin ⟨by decide, by decide⟩ (ct_requireWithin G μ x 3) rfl rfl (Nat.le_of_ble_eq_true rfl) (Nat.le_of_ble_eq_true rfl) (Nat.le_of_ble_eq_true rfl) (fun E1 μ1 hq => WX.out rfl (no_hd _) (Nat.le_of_ble_eq_true rfl) (Nat.le_of_ble_eq_true rfl) ?_) (fun v1 μ1 hq => ?_)
  · obtain ⟨rfl, rfl, hx⟩ := hq
    rw [S_fill, ar_no (n := 3) rfl (by omega) hx]
    exact ⟨Nat.one_ne_zero, rfl, g, φ, hC, sub.rf φ⟩
  · obtain ⟨rfl, rfl, h1, h2⟩ := hq
    obtain ⟨c, hc, rfl⟩ := ar_ok (n := 3) rfl (by omega) h1 h2
    refine wp_iload_n d_Log_fill_5 rfl rfl ?_
    refine wp_bipush (v := 59) d_Log_fill_6 (by decide) ?_
    refine wx_callS d_Log_fill_8 cs_Log_65 cd_Log_requireWithin ⟨by decide, by decide⟩ (ct_requireWithin G μ1 y 59) rfl rfl (Nat.le_of_ble_eq_true rfl) (Nat.le_of_ble_eq_true rfl) (Nat.le_of_ble_eq_true rfl) (fun E1 μ1 hq => WX.out rfl (no_hd _) (Nat.le_of_ble_eq_true rfl) (Nat.le_of_ble_eq_true rfl) ?_) (fun v1 μ1 hq => ?_)
    · obtain ⟨rfl, rfl, hx⟩ := hq
      rw [S_fill, ar_nI hc (by omega), ar_no (n := 59) rfl (by omega) hx]
      exact ⟨Nat.one_ne_zero, rfl, g, φ, hC, sub.rf φ⟩
    · obtain ⟨rfl, rfl, h1, h2⟩ := hq
      obtain ⟨o, ho, rfl⟩ := ar_ok (n := 59) rfl (by omega) h1 h2
      have hS : S_fill (nI c) (nI o) σ δ = (match flS c o (δ (1 + c) (o % 2)) (ln (δ (1 + c) (o % 2))) 0 0 vJunk σ with | (q, k, σ') => if q = 0 then ((0, nI k, σ', δ) : RS) else (2, 0, σ', δ)) := by rw [S_fill, ar_nI hc (by omega), ar_nI ho (by omega)]
      rw [hS]
      have hd := hI.1 (1 + c) (o % 2) (by omega) (by omega)
      obtain ⟨a0, a1, rw, f, hk0, hrw, hrφ, hf⟩ := hC.rowφ hc o
      generalize δ (1 + c) (o % 2) = d at hd hrφ hf ⊢
      have hln := ln_pos d
      refine wp_aload_n d_Log_fill_11 rfl rfl ?_
      refine wp_get d_Log_fill_12 fl_Log_17 (by first | exact hR.log | exact hR.car | exact hR.cli hc) (by rfl) ?_
      refine wp_iload_n d_Log_fill_15 rfl rfl ?_
      refine wp_aald d_Log_fill_16 (t := 4) (C := "SharedLog$Client") rfl (by first | exact hR.log | exact hR.car | exact hR.cli hc) (by rfl) (by assumption) (by omega) (by rfl) ?_
      refine wp_astore_n d_Log_fill_17 rfl (by decide) ?_
      refine wp_aload_n d_Log_fill_18 rfl rfl ?_
      refine wp_get d_Log_fill_19 fl_Log_80 (by first | exact hR.log | exact hR.car | exact hR.cli hc) (by rfl) ?_
      refine wp_iload_n d_Log_fill_22 rfl rfl ?_
      refine wx_callV d_Log_fill_23 cv_Log_83 cd_Layout_chainOf ⟨by decide, by decide⟩ (ct_chainOf G μ1 _ a0 a1 o _ (by omega) (hC.at hk0)) (by exact hC.at hk0) rfl rfl (Nat.le_of_ble_eq_true rfl) (Nat.le_of_ble_eq_true rfl) (Nat.le_of_ble_eq_true rfl) (fun E1 μ1 hq => WX.out rfl (no_hd _) (Nat.le_of_ble_eq_true rfl) (Nat.le_of_ble_eq_true rfl) ?_) (fun v1 μ1 hq => ?_)
      · exact hq.elim
      · obtain ⟨rfl, rfl⟩ := hq
        rw [hrw]
        refine wp_astore d_Log_fill_26 (by decide) ?_
        refine wp_aload_n d_Log_fill_28 rfl rfl ?_
        refine wp_get d_Log_fill_29 fl_Log_40 (by first | exact hR.log | exact hR.car | exact hR.cli hc) (by rfl) ?_
        refine wp_astore d_Log_fill_32 (by decide) ?_
        refine wp_iconst (v := 0) d_Log_fill_34 (by decide) ?_
        refine wp_istore d_Log_fill_35 (by decide) ?_
        refine wp_iconst (v := 0) d_Log_fill_37 (by decide) ?_
        refine wp_istore d_Log_fill_38 (by decide) ?_
        have loop : ∀ (n i k fa : Nat) (fv : Nat → Int32) (σ1 : sg) (g1 : dg) (μ1 : mu_M), i + n = ln d → k ≤ i → Cx G μ1 φ ad g1 σ1 δ → FE G φ fa fv → flS c o d n i k fv σ1 = flS c o d (ln d) 0 0 vJunk σ →
            WP G M_Log_fill (EC G M_Log_fill (PostC G φ ad (match flS c o d (ln d) 0 0 vJunk σ with | (q, k, σ') => if q = 0 then ((0, nI k, σ', δ) : RS) else (2, 0, σ', δ))) (PxC G φ ad ex2 (match flS c o d (ln d) 0 0 vJunk σ with | (q, k, σ') => if q = 0 then ((0, nI k, σ', δ) : RS) else (2, 0, σ', δ))))
              [(0, .ref (ad 0)), (2, .int (nI o)), (3, .ref (ad (16 + c))), (4, .ref rw), (5, .ref fa), (6, .int (nI k)), (7, .int (nI i))] 40 [] μ1 (2 + i) (12 + 6 * i) := by
          intro n
          induction n with
          | zero =>
            intro i k fa fv σ1 g1 μ1 hi hki hC1 hfa hw
            rw [← hw]
            refine wp_iload d_Log_fill_40 rfl ?_
            refine wp_aload d_Log_fill_42 rfl ?_
            refine wp_alen d_Log_fill_44 rfl (by exact hC1.at hrφ) ?_
            refine wp_icmp_ge (tgt := 104) d_Log_fill_45 (by decide) (fun c45 => ?_) (fun c45 => ?_)
            · refine wp_iload d_Log_fill_104 rfl ?_
              exact wp_iret d_Log_fill_106 rfl (by show 2 + i ≤ 5; omega) (by show 12 + 6 * i ≤ 30; omega) ⟨rfl, rfl, g1, φ, hC1, sub.rf φ⟩
            · rw [nI_leI (by omega) (by omega)] at c45
              omega
          | succ n ih =>
            intro i k fa fv σ1 g1 μ1 hi hki hC1 hfa hw
            have hR1 := hC1.R
            have hil : i < ln d := by omega
            have hu : un d i < 6 := vr_un hd hil
            obtain ⟨w1, he1, -⟩ := hC1.ent hu ho
            refine wp_iload d_Log_fill_40 rfl ?_
            refine wp_aload d_Log_fill_42 rfl ?_
            refine wp_alen d_Log_fill_44 rfl (by exact hC1.at hrφ) ?_
            refine wp_icmp_ge (tgt := 104) d_Log_fill_45 (by decide) (fun c45 => ?_) (fun c45 => ?_)
            · exact absurd ((nI_leI (by omega) (by omega)).mp c45) (by omega)
            refine wp_aload_n d_Log_fill_48 rfl rfl ?_
            refine wp_aload_n d_Log_fill_49 rfl rfl ?_
            refine wp_aload d_Log_fill_50 rfl ?_
            refine wp_iload d_Log_fill_52 rfl ?_
            refine wp_iald d_Log_fill_54 (by exact hC1.at hrφ) (by rfl) (by exact hil) (by omega) ?_
            rw [hf i hil]
            refine wx_callV d_Log_fill_55 cv_Log_103 cd_Log_use ⟨by decide, by decide⟩ (ct_use hC1 hc hu) (by exact hR1.log) rfl rfl (Nat.le_of_ble_eq_true rfl) (by first | exact Nat.le_of_ble_eq_true rfl | (dsimp only [mt_R, M_Log_fill, M_Log_use, M_Unit_holds, M_Layout_chainOf]; omega)) (by first | exact Nat.le_of_ble_eq_true rfl | (dsimp only [mt_R, M_Log_fill, M_Log_use, M_Unit_holds, M_Layout_chainOf]; omega)) (fun E1 μ1 hq => WX.out rfl (no_hd _) (by first | exact Nat.le_of_ble_eq_true rfl | (dsimp only [mt_R, M_Log_fill, M_Log_use, M_Unit_holds, M_Layout_chainOf]; omega)) (by first | exact Nat.le_of_ble_eq_true rfl | (dsimp only [mt_R, M_Log_fill, M_Log_use, M_Unit_holds, M_Layout_chainOf]; omega)) ?_) (fun v1 μ1 hq => ?_)
            · obtain ⟨rfl, rfl, hub⟩ := hq
              rw [← hw, flS, if_neg (by rw [hub]; decide)]
              exact ⟨by show 2 ≠ 0; decide, rfl, g1, φ, hC1, sub.rf φ⟩
            · obtain ⟨rfl, rfl, hub⟩ := hq
              refine wp_astore d_Log_fill_58 (by decide) ?_
              refine wp_aload d_Log_fill_60 rfl ?_
              refine wp_iload_n d_Log_fill_62 rfl rfl ?_
              refine wx_callV d_Log_fill_63 cv_Log_107 cd_Unit_holds ⟨by decide, by decide⟩ (ct_holds G μ1 _ _ o _ _ _ _ _ _ _ ho (hR1.unit hu) (hR1.cells hu) rfl he1) (by exact hR1.unit hu) rfl rfl (Nat.le_of_ble_eq_true rfl) (by first | exact Nat.le_of_ble_eq_true rfl | (dsimp only [mt_R, M_Log_fill, M_Log_use, M_Unit_holds, M_Layout_chainOf]; omega)) (by first | exact Nat.le_of_ble_eq_true rfl | (dsimp only [mt_R, M_Log_fill, M_Log_use, M_Unit_holds, M_Layout_chainOf]; omega)) (fun E1 μ1 hq => WX.out rfl (no_hd _) (by first | exact Nat.le_of_ble_eq_true rfl | (dsimp only [mt_R, M_Log_fill, M_Log_use, M_Unit_holds, M_Layout_chainOf]; omega)) (by first | exact Nat.le_of_ble_eq_true rfl | (dsimp only [mt_R, M_Log_fill, M_Log_use, M_Unit_holds, M_Layout_chainOf]; omega)) ?_) (fun v1 μ1 hq => ?_)
              · exact hq.elim
              · obtain ⟨rfl, rfl⟩ := hq
                refine wp_if_ne (tgt := 84) d_Log_fill_66 (by decide) (fun c66 => ?_) (fun c66 => ?_)
                · have hz : ¬ σ1 (eR (un d i) o) 0 = 0 := fun hz => c66 (by rw [if_pos hz])
                  have hw2 : flS c o d n (i + 1) k (if i = 0 then σ1 (eR (un d i) o) else fv) σ1 = flS c o d (ln d) 0 0 vJunk σ := by
                    rw [← hw, flS, if_pos hub, if_neg hz]
                  refine wp_iload d_Log_fill_84 rfl ?_
                  refine wp_if_ne (tgt := 98) d_Log_fill_86 (by decide) (fun c86 => ?_) (fun c86 => ?_)
                  · have hi0 : ¬ i = 0 := fun e => c86 (by rw [e]; exact nI_0)
                    rw [if_neg hi0] at hw2
                    refine wp_iinc d_Log_fill_98 rfl rfl (by decide) ?_
                    refine wp_goto (tgt := 40) d_Log_fill_101 (by decide) ?_
                    exact WP.loc [(0, .ref (ad 0)), (2, .int (nI o)), (3, .ref (ad (16 + c))), (4, .ref rw), (5, .ref fa), (6, .int (nI k)), (7, .int (nI (i + 1)))] (by rw [← nI_1 i]; rfl) (WP.widen (k := 2 + (i + 1)) (n := 12 + 6 * (i + 1)) (by dsimp only [mt_R, M_Log_fill, M_Log_use, M_Unit_holds, M_Layout_chainOf]; omega) (by dsimp only [mt_R, M_Log_fill, M_Log_use, M_Unit_holds, M_Layout_chainOf]; omega) (ih (i + 1) k fa fv _ _ _ (by omega) (by omega) hC1 hfa hw2))
                  · have hi0 : i = 0 := by
                      rcases Nat.eq_zero_or_pos i with e | e
                      · exact e
                      · exact absurd c86 (nI_ne0 e (by omega))
                    rw [if_pos hi0] at hw2
                    refine wp_aload d_Log_fill_89 rfl ?_
                    refine wp_get d_Log_fill_91 fl_Log_111 (by first | exact hR1.unit hu | exact hR1.cells hu) (by rfl) ?_
                    refine wp_iload_n d_Log_fill_94 rfl rfl ?_
                    refine wp_aald d_Log_fill_95 (t := 5) (C := "SharedLog$Entry") rfl (by first | exact hR1.unit hu | exact hR1.cells hu) (by rfl) (by exact ho) (by omega) (by rfl) ?_
                    refine wp_astore d_Log_fill_96 (by decide) ?_
                    refine wp_iinc d_Log_fill_98 rfl rfl (by decide) ?_
                    refine wp_goto (tgt := 40) d_Log_fill_101 (by decide) ?_
                    exact WP.loc [(0, .ref (ad 0)), (2, .int (nI o)), (3, .ref (ad (16 + c))), (4, .ref rw), (5, .ref (g1 (10 + un d i) o)), (6, .int (nI k)), (7, .int (nI (i + 1)))] (by rw [← nI_1 i]; rfl) (WP.widen (k := 2 + (i + 1)) (n := 12 + 6 * (i + 1)) (by dsimp only [mt_R, M_Log_fill, M_Log_use, M_Unit_holds, M_Layout_chainOf]; omega) (by dsimp only [mt_R, M_Log_fill, M_Log_use, M_Unit_holds, M_Layout_chainOf]; omega) (ih (i + 1) k _ _ _ _ _ (by omega) (by omega) hC1 (hC1.2.2.1 _ _ hu ho) hw2))
                · have hz : σ1 (eR (un d i) o) 0 = 0 := by
                    by_cases hz : σ1 (eR (un d i) o) 0 = 0
                    · exact hz
                    · rw [if_neg hz] at c66; exact absurd c66 (by decide)
                  refine wp_aload d_Log_fill_69 rfl ?_
                  refine wp_get d_Log_fill_71 fl_Log_111 (by first | exact hR1.unit hu | exact hR1.cells hu) (by rfl) ?_
                  refine wp_iload_n d_Log_fill_74 rfl rfl ?_
                  refine wp_aload d_Log_fill_75 rfl ?_
                  obtain ⟨w2, hE2, -⟩ := id hfa
                  refine wp_aast d_Log_fill_77 (t := 5) (ci := 2) (r := ("SharedLog$Entry", F_Entry, 3)) rfl rfl (hR1.cells hu) (hC1.B (by omega)) (hC1.at hE2) rfl ho (by omega) ?_
                  refine wp_iinc d_Log_fill_78 rfl rfl (by decide) ?_
                  refine wp_goto (tgt := 98) d_Log_fill_81 (by decide) ?_
                  refine wp_iinc d_Log_fill_98 rfl rfl (by decide) ?_
                  refine wp_goto (tgt := 40) d_Log_fill_101 (by decide) ?_
                  have hC2 := hC1.cell hu ho (hR1.pCell (k := o) (x := fa) hu) (hC1.z.up (by omega)) hfa
                  refine WP.loc [(0, .ref (ad 0)), (2, .int (nI o)), (3, .ref (ad (16 + c))), (4, .ref rw), (5, .ref fa), (6, .int (nI (k + 1))), (7, .int (nI (i + 1)))] (by rw [← nI_1 i, ← nI_1 k]; rfl) (WP.widen (k := 2 + (i + 1)) (n := 12 + 6 * (i + 1)) (by dsimp only [mt_R, M_Log_fill, M_Log_use, M_Unit_holds, M_Layout_chainOf]; omega) (by dsimp only [mt_R, M_Log_fill, M_Log_use, M_Unit_holds, M_Layout_chainOf]; omega) (ih (i + 1) (k + 1) fa fv _ _ _ (by omega) (by omega) hC2 hfa ?_))
                  rw [← hw, flS, if_pos hub, if_pos hz]
        exact WP.loc _ rfl (loop _ 0 0 _ vJunk σ g _ (by omega) (by omega) hC hC.2.2.2.2.1 rfl)
end Pub3
end
section
/-! WHAT IS MADE: entries, works, layouts -/
theorem mu_none {μ : mu_M} {a q : Nat} {e : va_E} (h : mu_up μ a e q = none) : q ≠ a ∧ μ q = none := by
  by_cases hq : q = a
  · subst hq; rw [mu_up_s] at h; cases h
  · rw [mu_up_n hq] at h; exact ⟨hq, h⟩
theorem mu_some_ne {μ : mu_M} {a q : Nat} {e : va_E} (h : μ a = some e) (hq : μ q = none) : a ≠ q := fun z => by rw [z, hq] at h; cases h
theorem sub_up {μ : mu_M} {q : Nat} {e : va_E} (hq : μ q = none) : sub μ (mu_up μ q e) := fun a x hx => (mu_up_n (mu_some_ne hx hq)).trans hx
theorem sub_upd {μ0 μ : mu_M} {q : Nat} {e : va_E} (hs : sub μ0 μ) (hq : μ0 q = none) : sub μ0 (mu_up μ q e) := fun a x hx => (mu_up_n (mu_some_ne hx hq)).trans (hs a x hx)
theorem Cx.mono {G : mt_G} {μ μ' φ : mu_M} {ad : Nat → Nat} {g : dg} {σ : sg} {δ : dg} (h : Cx G μ φ ad g σ δ) (hs : sub μ μ') : Cx G μ' φ ad g σ δ :=
  ⟨⟨fun i hi => hs _ _ (h.1.1 i hi), h.1.2⟩, fun a e he => ⟨hs _ _ (h.2.1 a e he).1, (h.2.1 a e he).2⟩, h.2.2⟩
/-- all that is new since μ0 is frozen -/
def frz (μ0 μ1 φ : mu_M) : mu_M := fun a => match μ0 a with
  | none => μ1 a
  | some _ => φ a
theorem frz_n {μ0 μ1 φ : mu_M} {a : Nat} (h : μ0 a = none) : frz μ0 μ1 φ a = μ1 a := by unfold frz; rw [h]
theorem frz_s {μ0 μ1 φ : mu_M} {a : Nat} {e : va_E} (h : μ0 a = some e) : frz μ0 μ1 φ a = φ a := by unfold frz; rw [h]
theorem Cx.freeze {G : mt_G} {μ0 μ1 φ : mu_M} {ad : Nat → Nat} {g : dg} {σ : sg} {δ : dg} (h : Cx G μ0 φ ad g σ δ) (hs : sub μ0 μ1) : Cx G μ1 (frz μ0 μ1 φ) ad g σ δ ∧ sub φ (frz μ0 μ1 φ) := by
  have hsub : sub φ (frz μ0 μ1 φ) := fun a e he => (frz_s (h.2.1 a e he).1).trans he
  refine ⟨(h.mono hs).grow (fun a e he => ?_) hsub, hsub⟩
  cases hm : μ0 a with
  | none =>
    rw [frz_n hm] at he
    exact ⟨he, fun i hi z => by rw [z, h.1.1 i hi] at hm; cases hm⟩
  | some x =>
    rw [frz_s hm] at he
    exact ⟨hs _ _ (h.2.1 a e he).1, (h.2.1 a e he).2⟩
section Make
variable {G : mt_G} {μ : mu_M}
set_option maxHeartbeats 1000000 in
set_option maxRecDepth 10000 in
theorem ct_Entry_init (q w : Nat) (k a : Int32) (x0 x1 x2 : Value) (h : μ q = some (.inr (2, [x0, x1, x2]))) (hB : G.2.2.2 ≤ q) : CTI G M_Entry_init [.ref q, .int k, .int a, .ref w] μ (fun v μ' => v = none ∧ μ' = mu_up μ q (.inr (2, [.int k, .int a, .ref w]))) := by
  refine CTI.of (by decide) rfl (Nat.le_of_ble_eq_true rfl) ?_
  refine wp_aload_n d_Entry_init_0 rfl rfl ?_
  refine wp_objInit d_Entry_init_1 oi_Entry oi_i oi_c (by decide) (Nat.le_of_ble_eq_true rfl) ?_
  refine wp_aload_n d_Entry_init_4 rfl rfl ?_
  refine wp_iload_n d_Entry_init_5 rfl rfl ?_
  refine wp_putF d_Entry_init_6 ff_Entry_7 rfl (by first | exact mu_up_s _ _ _ | exact h) (by exact hB) (by rfl) (by rfl) (Nat.le_of_ble_eq_true rfl) ?_
  refine wp_aload_n d_Entry_init_9 rfl rfl ?_
  refine wp_iload_n d_Entry_init_10 rfl rfl ?_
  refine wp_putF d_Entry_init_11 ff_Entry_13 rfl (by first | exact mu_up_s _ _ _ | exact h) (by exact hB) (by rfl) (by rfl) (Nat.le_of_ble_eq_true rfl) ?_
  refine wp_aload_n d_Entry_init_14 rfl rfl ?_
  refine wp_aload_n d_Entry_init_15 rfl rfl ?_
  refine wp_putF d_Entry_init_16 ff_Entry_16 rfl (by first | exact mu_up_s _ _ _ | exact h) (by exact hB) (by rfl) (by rfl) (Nat.le_of_ble_eq_true rfl) ?_
  exact wp_vretI d_Entry_init_19 rfl (by decide) (by decide) ⟨rfl, by rw [mu_up_up, mu_up_up]; rfl⟩
set_option maxHeartbeats 1000000 in
set_option maxRecDepth 10000 in
theorem ct_Layout_init (q a0 a1 : Nat) (ep : Int32) (x0 x1 x2 : Value) (h : μ q = some (.inr (3, [x0, x1, x2]))) (hB : G.2.2.2 ≤ q) : CTI G M_Layout_init [.ref q, .int ep, .ref a0, .ref a1] μ (fun v μ' => v = none ∧ μ' = mu_up μ q (.inr (3, [.int ep, .ref a0, .ref a1]))) := by
  refine CTI.of (by decide) rfl (Nat.le_of_ble_eq_true rfl) ?_
  refine wp_aload_n d_Layout_init_0 rfl rfl ?_
  refine wp_objInit d_Layout_init_1 oi_Layout oi_i oi_c (by decide) (Nat.le_of_ble_eq_true rfl) ?_
  refine wp_aload_n d_Layout_init_4 rfl rfl ?_
  refine wp_iload_n d_Layout_init_5 rfl rfl ?_
  refine wp_putF d_Layout_init_6 ff_Layout_9 rfl (by first | exact mu_up_s _ _ _ | exact h) (by exact hB) (by rfl) (by rfl) (Nat.le_of_ble_eq_true rfl) ?_
  refine wp_aload_n d_Layout_init_9 rfl rfl ?_
  refine wp_aload_n d_Layout_init_10 rfl rfl ?_
  refine wp_putF d_Layout_init_11 ff_Layout_15 rfl (by first | exact mu_up_s _ _ _ | exact h) (by exact hB) (by rfl) (by rfl) (Nat.le_of_ble_eq_true rfl) ?_
  refine wp_aload_n d_Layout_init_14 rfl rfl ?_
  refine wp_aload_n d_Layout_init_15 rfl rfl ?_
  refine wp_putF d_Layout_init_16 ff_Layout_19 rfl (by first | exact mu_up_s _ _ _ | exact h) (by exact hB) (by rfl) (by rfl) (Nat.le_of_ble_eq_true rfl) ?_
  exact wp_vretI d_Layout_init_19 rfl (by decide) (by decide) ⟨rfl, by rw [mu_up_up, mu_up_up]; rfl⟩
set_option maxHeartbeats 1000000 in
set_option maxRecDepth 10000 in
theorem ct_Layout_next (la a0 a1 fr : Nat) (ep ch : Int32) (h : μ la = some (.inr (3, [.int ep, .ref a0, .ref a1]))) : CT G M_Layout_next [.ref la, .int ch, .ref fr] μ (fun v μ' => ∃ q, v = some (.ref q) ∧ G.2.2.2 ≤ q ∧ μ q = none ∧ μ' = mu_up μ q (.inr (3, [.int (ep + 1), .ref (if ch = 0 then fr else a0), .ref (if ch = 0 then a1 else fr)]))) (fun _ _ => False) := by
  refine CT.of (by decide) rfl (Nat.le_of_ble_eq_true rfl) ?_
  refine wp_iload_n d_Layout_next_0 rfl rfl ?_
  refine wp_if_ne (tgt := 25) d_Layout_next_1 (by decide) (fun c1 => ?_) (fun c1 => ?_)
  · refine wp_new d_Layout_next_25 nw_Layout_10 (Nat.le_of_ble_eq_true rfl) (Nat.le_of_ble_eq_true rfl) (fun q hB hq => ?_)
    refine wp_dup d_Layout_next_28 rfl ?_
    refine wp_aload_n d_Layout_next_29 rfl rfl ?_
    refine wp_get d_Layout_next_30 fl_Layout_9 (by exact (mu_up_n (mu_some_ne h hq)).trans h) (by rfl) ?_
    refine wp_iconst (v := 1) d_Layout_next_33 (by decide) ?_
    refine wp_iadd d_Layout_next_34 ?_
    refine wp_aload_n d_Layout_next_35 rfl rfl ?_
    refine wp_get d_Layout_next_36 fl_Layout_15 (by exact (mu_up_n (mu_some_ne h hq)).trans h) (by rfl) ?_
    refine wp_aload_n d_Layout_next_39 rfl rfl ?_
    refine wi_call d_Layout_next_40 ci_Layout_26 cd_Layout_init ⟨by decide, by decide⟩ (ct_Layout_init q a0 fr (ep + 1) _ _ _ (mu_up_s _ _ _) hB) rfl rfl (Nat.le_of_ble_eq_true rfl) (Nat.le_of_ble_eq_true rfl) (Nat.le_of_ble_eq_true rfl) (fun v1 μ1 hq => ?_)
    obtain ⟨rfl, rfl⟩ := hq
    refine wp_aret d_Layout_next_43 rfl (Or.inl ⟨_, rfl⟩) (by decide) (by decide) ⟨q, rfl, hB, by assumption, ?_⟩
    rw [mu_up_up, if_neg c1, if_neg c1]
  · refine wp_new d_Layout_next_4 nw_Layout_10 (Nat.le_of_ble_eq_true rfl) (Nat.le_of_ble_eq_true rfl) (fun q hB hq => ?_)
    refine wp_dup d_Layout_next_7 rfl ?_
    refine wp_aload_n d_Layout_next_8 rfl rfl ?_
    refine wp_get d_Layout_next_9 fl_Layout_9 (by exact (mu_up_n (mu_some_ne h hq)).trans h) (by rfl) ?_
    refine wp_iconst (v := 1) d_Layout_next_12 (by decide) ?_
    refine wp_iadd d_Layout_next_13 ?_
    refine wp_aload_n d_Layout_next_14 rfl rfl ?_
    refine wp_aload_n d_Layout_next_15 rfl rfl ?_
    refine wp_get d_Layout_next_16 fl_Layout_19 (by exact (mu_up_n (mu_some_ne h hq)).trans h) (by rfl) ?_
    refine wi_call d_Layout_next_19 ci_Layout_26 cd_Layout_init ⟨by decide, by decide⟩ (ct_Layout_init q fr a1 (ep + 1) _ _ _ (mu_up_s _ _ _) hB) rfl rfl (Nat.le_of_ble_eq_true rfl) (Nat.le_of_ble_eq_true rfl) (Nat.le_of_ble_eq_true rfl) (fun v1 μ1 hq => ?_)
    obtain ⟨rfl, rfl⟩ := hq
    refine wp_goto (tgt := 43) d_Layout_next_22 (by decide) ?_
    refine wp_aret d_Layout_next_43 rfl (Or.inl ⟨_, rfl⟩) (by decide) (by decide) ⟨q, rfl, hB, by assumption, ?_⟩
    rw [mu_up_up, if_pos c1, if_pos c1]
/-- a work, new since μ0, at q in μ -/
def NW (G : mt_G) (μ0 μ : mu_M) (q : Nat) (f0 f1 f2 f3 : Nat → Int32) : Prop := ∃ q0 q1 q2 q3 : Nat, μ q = some (.inr (5, [.ref q0, .ref q1, .ref q2, .ref q3])) ∧ μ q0 = some (.inl (G.2.2.1 1, 4, .inl f0)) ∧ μ q1 = some (.inl (G.2.2.1 0, 4, .inl f1)) ∧ μ q2 = some (.inl (G.2.2.1 1, 4, .inl f2)) ∧ μ q3 = some (.inl (G.2.2.1 0, 4, .inl f3)) ∧
  (μ0 q0 = none ∧ μ0 q1 = none ∧ μ0 q2 = none ∧ μ0 q3 = none) ∧ (G.2.2.2 ≤ q0 ∧ G.2.2.2 ≤ q1 ∧ G.2.2.2 ≤ q2 ∧ G.2.2.2 ≤ q3) ∧ (q ≠ q0 ∧ q ≠ q1 ∧ q ≠ q2 ∧ q ≠ q3) ∧ (q1 ≠ q0 ∧ q2 ≠ q0 ∧ q3 ≠ q0 ∧ q2 ≠ q1 ∧ q3 ≠ q1 ∧ q3 ≠ q2)
set_option maxHeartbeats 1000000 in
set_option maxRecDepth 10000 in
theorem ct_Work_init (q : Nat) (x0 x1 x2 x3 : Value) (h : μ q = some (.inr (5, [x0, x1, x2, x3]))) (hB : G.2.2.2 ≤ q) : CTI G M_Work_init [.ref q] μ (fun v μ' => v = none ∧ NW G μ μ' q (fun _ => 0) (fun _ => 0) (fun _ => 0) (fun _ => 0) ∧ ∀ a e, a ≠ q → μ a = some e → μ' a = some e) := by
  refine CTI.of (by decide) rfl (Nat.le_of_ble_eq_true rfl) ?_
  refine wp_aload_n d_Work_init_0 rfl rfl ?_
  refine wp_objInit d_Work_init_1 oi_Work oi_i oi_c (by decide) (Nat.le_of_ble_eq_true rfl) ?_
  refine wp_aload_n d_Work_init_4 rfl rfl ?_
  refine wp_iconst (v := 4) d_Work_init_5 (by decide) ?_
  refine wp_newZ (N := 4) d_Work_init_6 ac_Z (by decide) (Nat.le_of_ble_eq_true rfl) (Nat.le_of_ble_eq_true rfl) (fun q0 b0 z0 => ?_)
  have n0 : q ≠ q0 := mu_some_ne h z0
  refine wp_putF d_Work_init_8 ff_Work_9 rfl (by exact (mu_up_n n0).trans h) (by exact hB) (by rfl) (by rfl) (Nat.le_of_ble_eq_true rfl) ?_
  refine wp_aload_n d_Work_init_11 rfl rfl ?_
  refine wp_iconst (v := 4) d_Work_init_12 (by decide) ?_
  refine wp_newI (N := 4) d_Work_init_13 ac_I (by decide) (Nat.le_of_ble_eq_true rfl) (Nat.le_of_ble_eq_true rfl) (fun q1 b1 z1 => ?_)
  obtain ⟨n1, z1⟩ := mu_none z1
  obtain ⟨n10, z1⟩ := mu_none z1
  refine wp_putF d_Work_init_15 ff_Work_15 rfl (by exact (mu_up_n n1.symm).trans (mu_up_s _ _ _)) (by exact hB) (by rfl) (by rfl) (Nat.le_of_ble_eq_true rfl) ?_
  refine wp_aload_n d_Work_init_18 rfl rfl ?_
  refine wp_iconst (v := 4) d_Work_init_19 (by decide) ?_
  refine wp_newZ (N := 4) d_Work_init_20 ac_Z (by decide) (Nat.le_of_ble_eq_true rfl) (Nat.le_of_ble_eq_true rfl) (fun q2 b2 z2 => ?_)
  obtain ⟨n2, z2⟩ := mu_none z2
  obtain ⟨n21, z2⟩ := mu_none z2
  obtain ⟨-, z2⟩ := mu_none z2
  obtain ⟨n20, z2⟩ := mu_none z2
  refine wp_putF d_Work_init_22 ff_Work_19 rfl (by exact (mu_up_n n2.symm).trans (mu_up_s _ _ _)) (by exact hB) (by rfl) (by rfl) (Nat.le_of_ble_eq_true rfl) ?_
  refine wp_aload_n d_Work_init_25 rfl rfl ?_
  refine wp_iconst (v := 4) d_Work_init_26 (by decide) ?_
  refine wp_newI (N := 4) d_Work_init_27 ac_I (by decide) (Nat.le_of_ble_eq_true rfl) (Nat.le_of_ble_eq_true rfl) (fun q3 b3 z3 => ?_)
  obtain ⟨n3, z3⟩ := mu_none z3
  obtain ⟨n32, z3⟩ := mu_none z3
  obtain ⟨-, z3⟩ := mu_none z3
  obtain ⟨n31, z3⟩ := mu_none z3
  obtain ⟨-, z3⟩ := mu_none z3
  obtain ⟨n30, z3⟩ := mu_none z3
  refine wp_putF d_Work_init_29 ff_Work_22 rfl (by exact (mu_up_n n3.symm).trans (mu_up_s _ _ _)) (by exact hB) (by rfl) (by rfl) (Nat.le_of_ble_eq_true rfl) ?_
  refine wp_vretI d_Work_init_32 rfl (by decide) (by decide) ⟨rfl, ⟨q0, q1, q2, q3, ?_, ?_, ?_, ?_, ?_, ⟨z0, z1, z2, z3⟩, ⟨b0, b1, b2, b3⟩, ⟨n0, n1.symm, n2.symm, n3.symm⟩, n10, n20, n30, n21, n31, n32⟩, fun a e ha he => ?_⟩
  · rw [mu_up_s]; rfl
  · rw [mu_up_n n0.symm, mu_up_n n30.symm, mu_up_n n0.symm, mu_up_n n20.symm, mu_up_n n0.symm, mu_up_n n10.symm, mu_up_n n0.symm, mu_up_s]
  · rw [mu_up_n n1, mu_up_n n31.symm, mu_up_n n1, mu_up_n n21.symm, mu_up_n n1, mu_up_s]
  · rw [mu_up_n n2, mu_up_n n32.symm, mu_up_n n2, mu_up_s]
  · rw [mu_up_n n3, mu_up_s]
  · rw [mu_up_n ha, mu_up_n (mu_some_ne he z3), mu_up_n ha, mu_up_n (mu_some_ne he z2), mu_up_n ha, mu_up_n (mu_some_ne he z1), mu_up_n ha, mu_up_n (mu_some_ne he z0)]
    exact he
/-- the first i places are copied -/
def cp (f : Nat → Int32) (i : Nat) : Nat → Int32 := fun j => if j < i then f j else 0
theorem cp_0 (f : Nat → Int32) : cp f 0 = fun _ => 0 := by funext j; exact if_neg (Nat.not_lt_zero j)
theorem cp_1 (f : Nat → Int32) (i : Nat) : upd (cp f i) i (f i) = cp f (i + 1) := by
  funext j
  unfold upd cp
  by_cases h : j = i
  · subst h; rw [if_pos rfl, if_pos (by omega)]
  · rw [if_neg h]
    by_cases h2 : j < i
    · rw [if_pos h2, if_pos (by omega)]
    · rw [if_neg h2, if_neg (by omega)]
set_option maxHeartbeats 4000000 in
set_option maxRecDepth 10000 in
theorem ct_Work_copy (w a0 a1 a2 a3 : Nat) (f0 f1 f2 f3 : Nat → Int32) (hw : μ w = some (.inr (5, [.ref a0, .ref a1, .ref a2, .ref a3]))) (h0 : μ a0 = some (.inl (G.2.2.1 1, 4, .inl f0))) (h1 : μ a1 = some (.inl (G.2.2.1 0, 4, .inl f1))) (h2 : μ a2 = some (.inl (G.2.2.1 1, 4, .inl f2))) (h3 : μ a3 = some (.inl (G.2.2.1 0, 4, .inl f3))) (hb : ∀ k, k < 4 → (f0 k = 0 ∨ f0 k = 1) ∧ (f2 k = 0 ∨ f2 k = 1)) :
    CT G M_Work_copy [.ref w] μ (fun v μ' => ∃ q, v = some (.ref q) ∧ μ q = none ∧ NW G μ μ' q (cp f0 4) (cp f1 4) (cp f2 4) (cp f3 4) ∧ sub μ μ') (fun _ _ => False) := by
  refine CT.of (by decide) rfl (Nat.le_of_ble_eq_true rfl) ?_
  refine wp_new d_Work_copy_0 nw_Work_10 (Nat.le_of_ble_eq_true rfl) (Nat.le_of_ble_eq_true rfl) (fun q hB hq => ?_)
  refine wp_dup d_Work_copy_3 rfl ?_
  refine wi_call d_Work_copy_4 ci_Work_25 cd_Work_init ⟨by decide, by decide⟩ (ct_Work_init q _ _ _ _ (mu_up_s _ _ _) hB) rfl rfl (Nat.le_of_ble_eq_true rfl) (Nat.le_of_ble_eq_true rfl) (Nat.le_of_ble_eq_true rfl) (fun v1 μ1 hq => ?_)
  obtain ⟨rfl, ⟨q0, q1, q2, q3, e, e0, e1, e2, e3, ⟨z0, z1, z2, z3⟩, ⟨b0, b1, b2, b3⟩, ⟨n0, n1, n2, n3⟩, n10, n20, n30, n21, n31, n32⟩, hk⟩ := hq
  have hqn : μ q = none := by assumption
  have y0 := (mu_none z0).2
  have y1 := (mu_none z1).2
  have y2 := (mu_none z2).2
  have y3 := (mu_none z3).2
  have hsub : sub μ μ1 := fun a x hx => hk a x (mu_some_ne hx hqn) ((mu_up_n (mu_some_ne hx hqn)).trans hx)
  refine wp_astore_n d_Work_copy_7 rfl (by decide) ?_
  refine wp_iconst (v := 0) d_Work_copy_8 (by decide) ?_
  refine wp_istore_n d_Work_copy_9 rfl (by decide) ?_
  have loop : ∀ (n i : Nat) (μ2 : mu_M), i + n = 4 → sub μ μ2 → μ2 q = some (.inr (5, [.ref q0, .ref q1, .ref q2, .ref q3])) → μ2 q0 = some (.inl (G.2.2.1 1, 4, .inl (cp f0 i))) → μ2 q1 = some (.inl (G.2.2.1 0, 4, .inl (cp f1 i))) → μ2 q2 = some (.inl (G.2.2.1 1, 4, .inl (cp f2 i))) → μ2 q3 = some (.inl (G.2.2.1 0, 4, .inl (cp f3 i))) →
      WP G M_Work_copy (EC G M_Work_copy (fun v μ' => ∃ q, v = some (.ref q) ∧ μ q = none ∧ NW G μ μ' q (cp f0 4) (cp f1 4) (cp f2 4) (cp f3 4) ∧ sub μ μ') (fun _ _ => False)) [(0, .ref w), (1, .ref q), (2, .int (nI i))] 10 [] μ2 5 20 := by
    intro n
    induction n with
    | zero =>
      intro i μ2 hi hs g g0 g1 g2 g3
      obtain rfl : i = 4 := by omega
      refine wp_iload_n d_Work_copy_10 rfl rfl ?_
      refine wp_iconst (v := 4) d_Work_copy_11 (by decide) ?_
      refine wp_icmp_ge (tgt := 69) d_Work_copy_12 (by decide) (fun c12 => ?_) (fun c12 => ?_)
      · refine wp_aload_n d_Work_copy_69 rfl rfl ?_
        exact wp_aret d_Work_copy_70 rfl (Or.inl ⟨_, rfl⟩) (by decide) (by decide) ⟨q, rfl, hqn, ⟨q0, q1, q2, q3, g, g0, g1, g2, g3, ⟨y0, y1, y2, y3⟩, ⟨b0, b1, b2, b3⟩, ⟨n0, n1, n2, n3⟩, n10, n20, n30, n21, n31, n32⟩, hs⟩
      · exact absurd (by decide) c12
    | succ n ih =>
      intro i μ2 hi hs g g0 g1 g2 g3
      have hbi := hb i (by omega)
      refine wp_iload_n d_Work_copy_10 rfl rfl ?_
      refine wp_iconst (v := 4) d_Work_copy_11 (by decide) ?_
      refine wp_icmp_ge (tgt := 69) d_Work_copy_12 (by decide) (fun c12 => ?_) (fun c12 => ?_)
      · exact absurd ((nI_leI (a := 4) (by omega) (by omega)).mp c12) (by omega)
      refine wp_aload_n d_Work_copy_15 rfl rfl ?_
      refine wp_get d_Work_copy_16 fl_Work_9 (by first | exact g | exact hs _ _ hw | exact hs _ _ h0 | exact hs _ _ h1 | exact hs _ _ h2 | exact hs _ _ h3) (by rfl) ?_
      refine wp_iload_n d_Work_copy_19 rfl rfl ?_
      refine wp_aload_n d_Work_copy_20 rfl rfl ?_
      refine wp_get d_Work_copy_21 fl_Work_9 (by first | exact g | exact hs _ _ hw | exact hs _ _ h0 | exact hs _ _ h1 | exact hs _ _ h2 | exact hs _ _ h3) (by rfl) ?_
      refine wp_iload_n d_Work_copy_24 rfl rfl ?_
      refine wp_zald d_Work_copy_25 (by first | exact g | exact hs _ _ hw | exact hs _ _ h0 | exact hs _ _ h1 | exact hs _ _ h2 | exact hs _ _ h3) (by rfl) (by omega) (by omega) ?_
      refine wp_zast d_Work_copy_26 g0 b0 rfl (by omega) (by omega) (by rcases hbi.1 with z | z <;> rw [z] <;> rfl) ?_
      rw [cp_1]
      have hs2 := sub_upd (e := .inl (G.2.2.1 1, 4, .inl (cp f0 (i + 1)))) hs y0
      refine wp_aload_n d_Work_copy_27 rfl rfl ?_
      refine wp_get d_Work_copy_28 fl_Work_15 (by first | exact (mu_up_n n0).trans g | exact hs2 _ _ hw | exact hs2 _ _ h0 | exact hs2 _ _ h1 | exact hs2 _ _ h2 | exact hs2 _ _ h3) (by rfl) ?_
      refine wp_iload_n d_Work_copy_31 rfl rfl ?_
      refine wp_aload_n d_Work_copy_32 rfl rfl ?_
      refine wp_get d_Work_copy_33 fl_Work_15 (by first | exact (mu_up_n n0).trans g | exact hs2 _ _ hw | exact hs2 _ _ h0 | exact hs2 _ _ h1 | exact hs2 _ _ h2 | exact hs2 _ _ h3) (by rfl) ?_
      refine wp_iload_n d_Work_copy_36 rfl rfl ?_
      refine wp_iald d_Work_copy_37 (by first | exact (mu_up_n n0).trans g | exact hs2 _ _ hw | exact hs2 _ _ h0 | exact hs2 _ _ h1 | exact hs2 _ _ h2 | exact hs2 _ _ h3) (by rfl) (by omega) (by omega) ?_
      refine wp_iast d_Work_copy_38 ((mu_up_n n10).trans g1) b1 rfl (by omega) (by omega) ?_
      rw [cp_1]
      have hs3 := sub_upd (e := .inl (G.2.2.1 0, 4, .inl (cp f1 (i + 1)))) hs2 y1
      refine wp_aload_n d_Work_copy_39 rfl rfl ?_
      refine wp_get d_Work_copy_40 fl_Work_19 (by first | exact (mu_up_n n1).trans ((mu_up_n n0).trans g) | exact hs3 _ _ hw | exact hs3 _ _ h0 | exact hs3 _ _ h1 | exact hs3 _ _ h2 | exact hs3 _ _ h3) (by rfl) ?_
      refine wp_iload_n d_Work_copy_43 rfl rfl ?_
      refine wp_aload_n d_Work_copy_44 rfl rfl ?_
      refine wp_get d_Work_copy_45 fl_Work_19 (by first | exact (mu_up_n n1).trans ((mu_up_n n0).trans g) | exact hs3 _ _ hw | exact hs3 _ _ h0 | exact hs3 _ _ h1 | exact hs3 _ _ h2 | exact hs3 _ _ h3) (by rfl) ?_
      refine wp_iload_n d_Work_copy_48 rfl rfl ?_
      refine wp_zald d_Work_copy_49 (by first | exact (mu_up_n n1).trans ((mu_up_n n0).trans g) | exact hs3 _ _ hw | exact hs3 _ _ h0 | exact hs3 _ _ h1 | exact hs3 _ _ h2 | exact hs3 _ _ h3) (by rfl) (by omega) (by omega) ?_
      refine wp_zast d_Work_copy_50 ((mu_up_n n21).trans ((mu_up_n n20).trans g2)) b2 rfl (by omega) (by omega) (by rcases hbi.2 with z | z <;> rw [z] <;> rfl) ?_
      rw [cp_1]
      have hs4 := sub_upd (e := .inl (G.2.2.1 1, 4, .inl (cp f2 (i + 1)))) hs3 y2
      refine wp_aload_n d_Work_copy_51 rfl rfl ?_
      refine wp_get d_Work_copy_52 fl_Work_22 (by first | exact (mu_up_n n2).trans ((mu_up_n n1).trans ((mu_up_n n0).trans g)) | exact hs4 _ _ hw | exact hs4 _ _ h0 | exact hs4 _ _ h1 | exact hs4 _ _ h2 | exact hs4 _ _ h3) (by rfl) ?_
      refine wp_iload_n d_Work_copy_55 rfl rfl ?_
      refine wp_aload_n d_Work_copy_56 rfl rfl ?_
      refine wp_get d_Work_copy_57 fl_Work_22 (by first | exact (mu_up_n n2).trans ((mu_up_n n1).trans ((mu_up_n n0).trans g)) | exact hs4 _ _ hw | exact hs4 _ _ h0 | exact hs4 _ _ h1 | exact hs4 _ _ h2 | exact hs4 _ _ h3) (by rfl) ?_
      refine wp_iload_n d_Work_copy_60 rfl rfl ?_
      refine wp_iald d_Work_copy_61 (by first | exact (mu_up_n n2).trans ((mu_up_n n1).trans ((mu_up_n n0).trans g)) | exact hs4 _ _ hw | exact hs4 _ _ h0 | exact hs4 _ _ h1 | exact hs4 _ _ h2 | exact hs4 _ _ h3) (by rfl) (by omega) (by omega) ?_
      refine wp_iast d_Work_copy_62 ((mu_up_n n32).trans ((mu_up_n n31).trans ((mu_up_n n30).trans g3))) b3 rfl (by omega) (by omega) ?_
      rw [cp_1]
      have hs5 := sub_upd (e := .inl (G.2.2.1 0, 4, .inl (cp f3 (i + 1)))) hs4 y3
      refine wp_iinc d_Work_copy_63 rfl rfl (by decide) ?_
      refine wp_goto (tgt := 10) d_Work_copy_66 (by decide) ?_
      refine WP.loc [(0, .ref w), (1, .ref q), (2, .int (nI (i + 1)))] (by rw [← nI_1 i]; rfl) (ih (i + 1) _ (by omega) hs5 ?_ ?_ ?_ ?_ ?_)
      · rw [mu_up_n n3, mu_up_n n2, mu_up_n n1, mu_up_n n0]; exact g
      · rw [mu_up_n n30.symm, mu_up_n n20.symm, mu_up_n n10.symm, mu_up_s]
      · rw [mu_up_n n31.symm, mu_up_n n21.symm, mu_up_s]
      · rw [mu_up_n n32.symm, mu_up_s]
      · rw [mu_up_s]
  refine WP.loc _ rfl (WP.widen (Nat.le_of_ble_eq_true rfl) (Nat.le_of_ble_eq_true rfl) (loop 4 0 μ1 rfl hsub e ?_ ?_ ?_ ?_))
  · rw [cp_0]; exact e0
  · rw [cp_0]; exact e1
  · rw [cp_0]; exact e2
  · rw [cp_0]; exact e3
end Make
end
section
/-! THE CLASS'S FACE: append, commit -/
/-- a frozen work out of a new one -/
theorem NW.froz {G : mt_G} {μ0 μ φ : mu_M} {q : Nat} {f0 f1 f2 f3 : Nat → Int32} {v : Nat → Int32} (h : NW G μ0 μ q f0 f1 f2 f3) (hq : μ0 q = none) (hv : ∀ k, k < 4 → f0 k = v (2 + k) ∧ f1 k = v (6 + k) ∧ f2 k = v (10 + k) ∧ f3 k = v (14 + k)) : FW G (frz μ0 μ φ) q v := by
  obtain ⟨q0, q1, q2, q3, e, e0, e1, e2, e3, ⟨z0, z1, z2, z3⟩, -⟩ := h
  exact ⟨q0, q1, q2, q3, f0, f1, f2, f3, (frz_n hq).trans e, (frz_n z0).trans e0, (frz_n z1).trans e1, (frz_n z2).trans e2, (frz_n z3).trans e3, hv⟩
theorem NW.mono {G : mt_G} {μ0 μ μ' : mu_M} {q : Nat} {f0 f1 f2 f3 : Nat → Int32} (h : NW G μ0 μ q f0 f1 f2 f3) (hs : sub μ μ') : NW G μ0 μ' q f0 f1 f2 f3 := by
  obtain ⟨q0, q1, q2, q3, e, e0, e1, e2, e3, r⟩ := h
  exact ⟨q0, q1, q2, q3, hs _ _ e, hs _ _ e0, hs _ _ e1, hs _ _ e2, hs _ _ e3, r⟩
theorem NW.of {G : mt_G} {μ0 μ1 μ : mu_M} {q : Nat} {f0 f1 f2 f3 : Nat → Int32} (h : NW G μ1 μ q f0 f1 f2 f3) (hs : ∀ a, μ1 a = none → μ0 a = none) : NW G μ0 μ q f0 f1 f2 f3 := by
  obtain ⟨q0, q1, q2, q3, e, e0, e1, e2, e3, ⟨z0, z1, z2, z3⟩, r⟩ := h
  exact ⟨q0, q1, q2, q3, e, e0, e1, e2, e3, ⟨hs _ z0, hs _ z1, hs _ z2, hs _ z3⟩, r⟩
def vPut (k : Nat) (x : Int32) : Nat → Int32 := fun i => if i = 0 then 1 else if i = 1 then x else if i = 10 + k then 1 else if i = 14 + k then x else 0
theorem vPut_ok {k : Nat} (hk : k < 4) (x : Int32) : ∀ j, j < 4 → (fun _ : Nat => (0 : Int32)) j = vPut k x (2 + j) ∧ (fun _ : Nat => (0 : Int32)) j = vPut k x (6 + j) ∧ upd (fun _ => 0) k 1 j = vPut k x (10 + j) ∧ upd (fun _ => 0) k x j = vPut k x (14 + j) := by
  intro j hj
  unfold vPut upd
  refine ⟨?_, ?_, ?_, ?_⟩
  · rw [if_neg (by omega), if_neg (by omega), if_neg (by omega), if_neg (by omega)]
  · rw [if_neg (by omega), if_neg (by omega), if_neg (by omega), if_neg (by omega)]
  · rw [if_neg (by omega : ¬ 10 + j = 0), if_neg (by omega : ¬ 10 + j = 1)]
    by_cases h : j = k
    · rw [if_pos h, if_pos (by omega)]
    · rw [if_neg h, if_neg (by omega), if_neg (by omega)]
  · rw [if_neg (by omega : ¬ 14 + j = 0), if_neg (by omega : ¬ 14 + j = 1), if_neg (by omega : ¬ 14 + j = 10 + k)]
    by_cases h : j = k
    · rw [if_pos h, if_pos (by omega)]
    · rw [if_neg h, if_neg (by omega)]
def exApp : Nat → String := fun n => if n = 1 then IAE else if n = 2 then ISE else if n = 3 then UOE else IOE
def apS (c k : Nat) (x : Int32) (m : Nat) (σ : sg) (δ : dg) : RS :=
  if ntk σ c = true then (2, 0, σ, δ) else if σ 3 2 < 60 then
    (match wrS c (σ 3 2).toNatClampNeg (vPut k x) (δ (1 + c) ((σ 3 2).toNatClampNeg % 2)) (min (ln (δ (1 + c) ((σ 3 2).toNatClampNeg % 2))) m) 0 (up2 σ 3 2 (σ 3 2 + 1)) with
     | (w, σ') => if w = 0 then (0, if m < ln (δ (1 + c) ((σ 3 2).toNatClampNeg % 2)) then σ 3 2 - 100 else σ 3 2, σ', δ) else (w + 1, 0, σ', δ))
  else (4, 0, σ, δ)
def S_append (x y v z : Int32) (σ : sg) (δ : dg) : RS := match ar x 4, ar y 4, ar z 4 with
  | some c, some k, some m => apS c k v m σ δ
  | _, _, _ => (1, 0, σ, δ)
section Pub4
variable {G : mt_G} {μ φ : mu_M} {ad : Nat → Nat} {g : dg} {σ : sg} {δ : dg}
set_option maxHeartbeats 4000000 in
set_option maxRecDepth 10000 in
theorem ct_append (hC : Cx G μ φ ad g σ δ) (hI : PI σ δ) (x y v z : Int32) : CT G M_Log_append [.ref (ad 0), .int x, .int y, .int v, .int z] μ (PostC G φ ad (S_append x y v z σ δ)) (PxC G φ ad exApp (S_append x y v z σ δ)) := by
  have hR := hC.R
  refine CT.of (by decide) rfl (Nat.le_of_ble_eq_true rfl) ?_
  refine wp_iload_n d_Log_append_0 rfl rfl ?_
  refine wp_iconst (v := 3) d_Log_append_1 (by decide) ?_
  refine wx_callS d_Log_append_2 cs_Log_65 cd_Log_requireWithin ⟨by decide, by decide⟩ (ct_requireWithin G μ x 3) rfl rfl (Nat.le_of_ble_eq_true rfl) (Nat.le_of_ble_eq_true rfl) (Nat.le_of_ble_eq_true rfl) (fun E1 μ1 hq => WX.out rfl (no_hd _) (Nat.le_of_ble_eq_true rfl) (Nat.le_of_ble_eq_true rfl) ?_) (fun v1 μ1 hq => ?_)
  · obtain ⟨rfl, rfl, hx⟩ := hq
    rw [S_append, ar_no (n := 3) rfl (by omega) hx]
    exact ⟨Nat.one_ne_zero, rfl, g, φ, hC, sub.rf φ⟩
  · obtain ⟨rfl, rfl, h1, h2⟩ := hq
    obtain ⟨c, hc, rfl⟩ := ar_ok (n := 3) rfl (by omega) h1 h2
    refine wp_iload_n d_Log_append_5 rfl rfl ?_
    refine wp_iconst (v := 3) d_Log_append_6 (by decide) ?_
    refine wx_callS d_Log_append_7 cs_Log_65 cd_Log_requireWithin ⟨by decide, by decide⟩ (ct_requireWithin G μ1 y 3) rfl rfl (Nat.le_of_ble_eq_true rfl) (Nat.le_of_ble_eq_true rfl) (Nat.le_of_ble_eq_true rfl) (fun E1 μ1 hq => WX.out rfl (no_hd _) (Nat.le_of_ble_eq_true rfl) (Nat.le_of_ble_eq_true rfl) ?_) (fun v1 μ1 hq => ?_)
    · obtain ⟨rfl, rfl, hx⟩ := hq
      rw [S_append, ar_nI hc (by omega), ar_no (n := 3) rfl (by omega) hx]
      exact ⟨Nat.one_ne_zero, rfl, g, φ, hC, sub.rf φ⟩
    · obtain ⟨rfl, rfl, h1, h2⟩ := hq
      obtain ⟨k, hk, rfl⟩ := ar_ok (n := 3) rfl (by omega) h1 h2
      refine wp_iload d_Log_append_10 rfl ?_
      refine wp_iconst (v := 3) d_Log_append_12 (by decide) ?_
      refine wx_callS d_Log_append_13 cs_Log_65 cd_Log_requireWithin ⟨by decide, by decide⟩ (ct_requireWithin G μ1 z 3) rfl rfl (Nat.le_of_ble_eq_true rfl) (Nat.le_of_ble_eq_true rfl) (Nat.le_of_ble_eq_true rfl) (fun E1 μ1 hq => WX.out rfl (no_hd _) (Nat.le_of_ble_eq_true rfl) (Nat.le_of_ble_eq_true rfl) ?_) (fun v1 μ1 hq => ?_)
      · obtain ⟨rfl, rfl, hx⟩ := hq
        rw [S_append, ar_nI hc (by omega), ar_nI hk (by omega), ar_no (n := 3) rfl (by omega) hx]
        exact ⟨Nat.one_ne_zero, rfl, g, φ, hC, sub.rf φ⟩
      · obtain ⟨rfl, rfl, h1, h2⟩ := hq
        obtain ⟨m, hm, rfl⟩ := ar_ok (n := 3) rfl (by omega) h1 h2
        have hS : S_append (nI c) (nI k) v (nI m) σ δ = apS c k v m σ δ := by rw [S_append, ar_nI hc (by omega), ar_nI hk (by omega), ar_nI hm (by omega)]
        rw [hS]
        obtain ⟨n, hn, hn2⟩ := hI.2.1
        have hcl : (σ 3 2).toNatClampNeg = n := by rw [hn2]; exact nI_clamp (by omega)
        refine wp_aload_n d_Log_append_16 rfl rfl ?_
        refine wp_get d_Log_append_17 fl_Log_17 (by first | exact hR.log | exact hR.car) (by rfl) ?_
        refine wp_iload_n d_Log_append_20 rfl rfl ?_
        refine wp_aald d_Log_append_21 (t := 4) (C := "SharedLog$Client") rfl (by first | exact hR.log | exact hR.car) (by rfl) (by assumption) (by omega) (by rfl) ?_
        refine wp_astore d_Log_append_22 (by decide) ?_
        refine wp_aload_n d_Log_append_24 rfl rfl ?_
        refine wp_aload d_Log_append_25 rfl ?_
        refine wx_callV d_Log_append_27 cv_Log_69 cd_Log_takeToken ⟨by decide, by decide⟩ (ct_takeToken hC hc) (by exact hR.log) rfl rfl (Nat.le_of_ble_eq_true rfl) (Nat.le_of_ble_eq_true rfl) (Nat.le_of_ble_eq_true rfl) (fun E1 μ1 hq => WX.out rfl (no_hd _) (Nat.le_of_ble_eq_true rfl) (Nat.le_of_ble_eq_true rfl) ?_) (fun v1 μ1 hq => ?_)
        · obtain ⟨rfl, hq | hq⟩ := hq
          · obtain ⟨rfl, q1⟩ := hq
            rw [apS, if_pos q1]
            exact ⟨by show 2 ≠ 0; decide, rfl, g, φ, hC, sub.rf φ⟩
          · obtain ⟨rfl, q1, q2⟩ := hq
            rw [apS, if_neg (by rw [q1]; decide), if_neg q2]
            exact ⟨by show 4 ≠ 0; decide, rfl, g, φ, hC, sub.rf φ⟩
        · obtain ⟨rfl, q1, q2, hC1⟩ := hq
          have hn6 : n < 60 := by
            rw [hn2] at q2
            exact (nI_ltI (b := 60) (by omega) (by omega)).mp q2
          have hvr := hI.1 (1 + c) (n % 2) (by omega) (by omega)
          rw [apS, if_neg (by rw [q1]; decide), if_pos q2, hcl]
          refine wp_istore d_Log_append_30 (by decide) ?_
          refine wp_new d_Log_append_32 nw_Log_28 (Nat.le_of_ble_eq_true rfl) (Nat.le_of_ble_eq_true rfl) (fun w hBw hw => ?_)
          refine wp_dup d_Log_append_35 rfl ?_
          refine wi_callN d_Log_append_36 cn_Log_30 cd_Work_init ⟨by decide, by decide⟩ (ct_Work_init w _ _ _ _ (mu_up_s _ _ _) hBw) rfl rfl (Nat.le_of_ble_eq_true rfl) (Nat.le_of_ble_eq_true rfl) (Nat.le_of_ble_eq_true rfl) (fun v1 μ2 hq => ?_)
          obtain ⟨rfl, hNW, hk2⟩ := hq
          have hs2 : sub μ1 μ2 := fun a x hx => hk2 a x (mu_some_ne hx hw) ((mu_up_n (mu_some_ne hx hw)).trans hx)
          have hNW : NW G μ1 μ2 w (fun _ => 0) (fun _ => 0) (fun _ => 0) (fun _ => 0) := hNW.of (fun a ha => (mu_none ha).2)
          refine wp_astore d_Log_append_39 (by decide) ?_
          refine wp_aload d_Log_append_41 rfl ?_
          refine wp_iload_n d_Log_append_43 rfl rfl ?_
          refine wp_iload_n d_Log_append_44 rfl rfl ?_
          obtain ⟨q0, q1', q2', q3, e, e0, e1, e2, e3, ⟨z0, z1, z2, z3⟩, ⟨b0, b1, b2, b3⟩, ⟨n0, n1, n2, n3⟩, n10, n20, n30, n21, n31, n32⟩ := hNW
          refine wx_callV d_Log_append_45 cv_Log_73 cd_Work_setPut ⟨by decide, by decide⟩ (ct_setPut G μ2 w _ _ k _ _ _ _ v hk e e2 e3 n32 n2 b2 b3) (by exact e) rfl rfl (Nat.le_of_ble_eq_true rfl) (Nat.le_of_ble_eq_true rfl) (Nat.le_of_ble_eq_true rfl) (fun E1 μ3 hq => WX.out rfl (no_hd _) (Nat.le_of_ble_eq_true rfl) (Nat.le_of_ble_eq_true rfl) ?_) (fun v1 μ3 hq => ?_)
          · exact hq.elim
          · obtain ⟨rfl, hμ3⟩ := hq
            have hs3 : sub μ1 μ3 := by rw [hμ3]; exact sub_upd (sub_upd hs2 z2) z3
            have hNW3 : NW G μ1 μ3 w (fun _ => 0) (fun _ => 0) (upd (fun _ => 0) k 1) (upd (fun _ => 0) k v) := by
              rw [hμ3]
              refine ⟨q0, q1', q2', q3, ?_, ?_, ?_, ?_, ?_, ⟨z0, z1, z2, z3⟩, ⟨b0, b1, b2, b3⟩, ⟨n0, n1, n2, n3⟩, n10, n20, n30, n21, n31, n32⟩
              · rw [mu_up_n n3, mu_up_n n2]; exact e
              · rw [mu_up_n n30.symm, mu_up_n n20.symm]; exact e0
              · rw [mu_up_n n31.symm, mu_up_n n21.symm]; exact e1
              · rw [mu_up_n n32.symm, mu_up_s]
              · rw [mu_up_s]
            refine wp_aload_n d_Log_append_48 rfl rfl ?_
            refine wp_aload d_Log_append_49 rfl ?_
            refine wp_iload d_Log_append_51 rfl ?_
            refine wp_new d_Log_append_53 nw_Log_31 (Nat.le_of_ble_eq_true rfl) (Nat.le_of_ble_eq_true rfl) (fun ea hBe hea => ?_)
            refine wp_dup d_Log_append_56 rfl ?_
            refine wp_iconst (v := 1) d_Log_append_57 (by decide) ?_
            refine wp_iload_n d_Log_append_58 rfl rfl ?_
            refine wp_aload d_Log_append_59 rfl ?_
            refine wi_call d_Log_append_61 ci_Log_33 cd_Entry_init ⟨by decide, by decide⟩ (ct_Entry_init ea w 1 v _ _ _ (mu_up_s _ _ _) hBe) rfl rfl (Nat.le_of_ble_eq_true rfl) (Nat.le_of_ble_eq_true rfl) (Nat.le_of_ble_eq_true rfl) (fun v1 μ4 hq => ?_)
            obtain ⟨rfl, hμ4⟩ := hq
            rw [mu_up_up] at hμ4
            have hea1 : μ1 ea = none := by
              cases hz : μ1 ea with
              | none => rfl
              | some x => rw [hs3 _ _ hz] at hea; cases hea
            have hs4 : sub μ3 μ4 := by rw [hμ4]; exact sub_up hea
            obtain ⟨hC4, hφ⟩ := hC1.freeze (hs3.tr hs4)
            have hFE : FE G (frz μ1 μ4 φ) ea (vPut k v) := ⟨w, (frz_n hea1).trans (by rw [hμ4, mu_up_s]; rfl), (hNW3.mono hs4).froz hw (vPut_ok hk v)⟩
            have hR4 := hC4.R
            refine wp_iload d_Log_append_64 rfl ?_
            rw [hn2]
            refine wx_callV d_Log_append_66 cv_Log_76 cd_Log_write ⟨by decide, by decide⟩ (ct_write hC4 (m := m) hc hn6 (by omega) hFE hvr) (by exact hR4.log) rfl rfl (Nat.le_of_ble_eq_true rfl) (Nat.le_of_ble_eq_true rfl) (Nat.le_of_ble_eq_true rfl) (fun E1 μ5 hq => WX.out rfl (no_hd _) (Nat.le_of_ble_eq_true rfl) (Nat.le_of_ble_eq_true rfl) ?_) (fun v1 μ5 hq => ?_)
            · obtain ⟨g5, σ5, w5, e5, hC5, h5⟩ := hq
              rw [hn2] at e5
              rw [e5]
              rcases h5 with ⟨rfl, rfl⟩ | ⟨rfl, rfl⟩
              · exact ⟨by show 2 ≠ 0; decide, rfl, g5, _, hC5, hφ⟩
              · exact ⟨by show 3 ≠ 0; decide, rfl, g5, _, hC5, hφ⟩
            · obtain ⟨rfl, g5, σ5, e5, hC5⟩ := hq
              rw [hn2] at e5
              rw [e5]
              have hR5 := hC5.R
              obtain ⟨a0, a1, rw, f, hk0, hrw, hrφ, hf⟩ := hC5.rowφ hc n
              refine wp_aload d_Log_append_69 rfl ?_
              refine wp_get d_Log_append_71 fl_Log_80 (by first | exact hR5.cli hc | exact hC5.at hk0 | exact hC5.at hrφ) (by rfl) ?_
              refine wp_iload d_Log_append_74 rfl ?_
              refine wx_callV d_Log_append_76 cv_Log_83 cd_Layout_chainOf ⟨by decide, by decide⟩ (ct_chainOf G μ5 _ a0 a1 n _ (by omega) (hC5.at hk0)) (by exact hC5.at hk0) rfl rfl (Nat.le_of_ble_eq_true rfl) (Nat.le_of_ble_eq_true rfl) (Nat.le_of_ble_eq_true rfl) (fun E1 μ6 hq => WX.out rfl (no_hd _) (Nat.le_of_ble_eq_true rfl) (Nat.le_of_ble_eq_true rfl) ?_) (fun v1 μ6 hq => ?_)
              · exact hq.elim
              · obtain ⟨rfl, rfl⟩ := hq
                rw [hrw]
                have hln := ln_pos (δ (1 + c) (n % 2))
                refine wp_alen d_Log_append_79 (by exact (rfl : (TYS G.2.2.1)[0]? = some (G.2.2.1 0, .int))) (by first | exact hR5.cli hc | exact hC5.at hk0 | exact hC5.at hrφ) ?_
                refine wp_iload d_Log_append_80 rfl ?_
                refine wp_icmp_le (tgt := 89) d_Log_append_82 (by decide) (fun c82 => ?_) (fun c82 => ?_)
                · rw [nI_leI (by omega) (by omega)] at c82
                  refine wp_iconst (v := 0) d_Log_append_89 (by decide) ?_
                  refine wp_istore d_Log_append_90 (by decide) ?_
                  refine wp_iload d_Log_append_92 rfl ?_
                  refine wp_if_eq (tgt := 105) d_Log_append_94 (by decide) (fun c94 => ?_) (fun c94 => ?_)
                  · refine wp_iload d_Log_append_105 rfl ?_
                    refine wp_iret d_Log_append_107 rfl (Nat.le_of_ble_eq_true rfl) (Nat.le_of_ble_eq_true rfl) ⟨rfl, ?_, g5, _, hC5, hφ⟩
                    show _ = some (Value.int (if m < ln (δ (1 + c) (n % 2)) then _ else _))
                    rw [if_neg (by omega)]
                  · exact absurd rfl c94
                · rw [nI_leI (by omega) (by omega)] at c82
                  refine wp_iconst (v := 1) d_Log_append_85 (by decide) ?_
                  refine wp_goto (tgt := 90) d_Log_append_86 (by decide) ?_
                  refine wp_istore d_Log_append_90 (by decide) ?_
                  refine wp_iload d_Log_append_92 rfl ?_
                  refine wp_if_eq (tgt := 105) d_Log_append_94 (by decide) (fun c94 => ?_) (fun c94 => ?_)
                  · exact absurd c94 (by decide)
                  · refine wp_iload d_Log_append_97 rfl ?_
                    refine wp_bipush (v := 100) d_Log_append_99 (by decide) ?_
                    refine wp_isub d_Log_append_101 ?_
                    refine wp_goto (tgt := 107) d_Log_append_102 (by decide) ?_
                    refine wp_iret d_Log_append_107 rfl (Nat.le_of_ble_eq_true rfl) (Nat.le_of_ble_eq_true rfl) ⟨rfl, ?_, g5, _, hC5, hφ⟩
                    show _ = some (Value.int (if m < ln (δ (1 + c) (n % 2)) then _ else _))
                    rw [if_pos (by omega)]
end Pub4
end
section
/-! THE CLASS'S FACE: commit -/
def vCom (σ : sg) (c : Nat) : Nat → Int32 := fun i => if i = 0 then 2 else if i = 1 then nI (pcN (σ (40 + c)) 4) else if i < 6 then σ (32 + c) (i - 2) else if i < 10 then σ (36 + c) (i - 6) else if i < 14 then σ (40 + c) (i - 10) else if i < 18 then σ (44 + c) (i - 14) else 0
theorem vCom_ok (σ : sg) (c : Nat) : ∀ j, j < 4 → cp (σ (32 + c)) 4 j = vCom σ c (2 + j) ∧ cp (σ (36 + c)) 4 j = vCom σ c (6 + j) ∧ cp (σ (40 + c)) 4 j = vCom σ c (10 + j) ∧ cp (σ (44 + c)) 4 j = vCom σ c (14 + j) := by
  intro j hj
  unfold vCom cp
  rw [if_pos hj, if_pos hj, if_pos hj, if_pos hj]
  refine ⟨?_, ?_, ?_, ?_⟩
  · rw [if_neg (by omega), if_neg (by omega), if_pos (by omega), show 2 + j - 2 = j by omega]
  · rw [if_neg (by omega), if_neg (by omega), if_neg (by omega), if_pos (by omega), show 6 + j - 6 = j by omega]
  · rw [if_neg (by omega), if_neg (by omega), if_neg (by omega), if_neg (by omega), if_pos (by omega), show 10 + j - 10 = j by omega]
  · rw [if_neg (by omega), if_neg (by omega), if_neg (by omega), if_neg (by omega), if_neg (by omega), if_pos (by omega), show 14 + j - 14 = j by omega]
theorem pcN_congr {f g : Nat → Int32} : ∀ (n : Nat), (∀ k, k < n → f k = g k) → pcN f n = pcN g n
  | 0, _ => rfl
  | n + 1, h => by
    unfold pcN
    rw [pcN_congr n (fun k hk => h k (by omega)), h n (by omega)]
theorem wrS_off (c o : Nat) (v : Nat → Int32) (d : Nat) {i : Nat} (hi : i < 100) : ∀ (n j : Nat) (σ : sg), (wrS c o v d n j σ).2 i = σ i
  | 0, _, _ => rfl
  | n + 1, j, σ => by
    unfold wrS
    split
    · split
      · rw [wrS_off c o v d hi n (j + 1), va_up_ne _ _ (by unfold eR; omega)]
      · rfl
    · rfl
/-- the write and the playing of a commit -/
def wpS (c : Nat) (σ : sg) (δ : dg) : RS :=
  if ntk σ c = true then (2, 0, σ, δ) else if σ 3 2 < 60 then
    (match wrS c (σ 3 2).toNatClampNeg (vCom σ c) (δ (1 + c) ((σ 3 2).toNatClampNeg % 2)) (min (ln (δ (1 + c) ((σ 3 2).toNatClampNeg % 2))) 3) 0 (up2 σ 3 2 (σ 3 2 + 1)) with
     | (w, σ') => if w = 0 then
         (match plS c δ ((σ 3 2).toNatClampNeg + 1 - (σ (16 + c) 4).toNatClampNeg) (σ (16 + c) 4).toNatClampNeg 0 σ' with
          | (k, t, σ2) => if k = 0 then (0, t, σ2, δ) else (if k = 1 then 2 else if k = 2 then 5 else 3, 0, σ2, δ))
       else (if w = 1 then 2 else 4, 0, σ', δ))
  else (5, 0, σ, δ)
section Pub5
variable {G : mt_G} {μ φ : mu_M} {ad : Nat → Nat} {g : dg} {σ : sg} {δ : dg}
def PostB (G : mt_G) (φ : mu_M) (ad : Nat → Nat) (r : RS) : Option Value → mu_M → Prop := fun v μ' => r.1 = 0 ∧ v = some (.int r.2.1) ∧ (r.2.1 = 0 ∨ r.2.1 = 1) ∧ ∃ g' φ', Cx G μ' φ' ad g' r.2.2.1 r.2.2.2 ∧ sub φ φ'
set_option maxHeartbeats 4000000 in
set_option maxRecDepth 10000 in
theorem ct_writeAndPlayCommit (hC : Cx G μ φ ad g σ δ) (hI : PI σ δ) {c : Nat} (hc : c < 4) : CT G M_Log_writeAndPlayCommit [.ref (ad 0), .ref (ad (16 + c))] μ (PostB G φ ad (wpS c σ δ)) (PxC G φ ad exRead (wpS c σ δ)) := by
  have hR := hC.R
  obtain ⟨n, hn, hn2⟩ := hI.2.1
  obtain ⟨p, hp, hp2⟩ := hI.2.2.1 c hc
  have hcl : (σ 3 2).toNatClampNeg = n := by rw [hn2]; exact nI_clamp (by omega)
  have hcl2 : (σ (16 + c) 4).toNatClampNeg = p := by rw [hp2]; exact nI_clamp (by omega)
  refine CT.of (by decide) rfl (Nat.le_of_ble_eq_true rfl) ?_
  refine wp_aload_n d_Log_writeAndPlayCommit_0 rfl rfl ?_
  refine wp_aload_n d_Log_writeAndPlayCommit_1 rfl rfl ?_
  refine wx_callV d_Log_writeAndPlayCommit_2 cv_Log_69 cd_Log_takeToken ⟨by decide, by decide⟩ (ct_takeToken hC hc) (by exact hR.log) rfl rfl (Nat.le_of_ble_eq_true rfl) (Nat.le_of_ble_eq_true rfl) (Nat.le_of_ble_eq_true rfl) (fun E1 μ1 hq => WX.out rfl (no_hd _) (Nat.le_of_ble_eq_true rfl) (Nat.le_of_ble_eq_true rfl) ?_) (fun v1 μ1 hq => ?_)
  · obtain ⟨rfl, hq | hq⟩ := hq
    · obtain ⟨rfl, q1⟩ := hq
      rw [wpS, if_pos q1]
      exact ⟨by show 2 ≠ 0; decide, rfl, g, φ, hC, sub.rf φ⟩
    · obtain ⟨rfl, q1, q2⟩ := hq
      rw [wpS, if_neg (by rw [q1]; decide), if_neg q2]
      exact ⟨by show 5 ≠ 0; decide, rfl, g, φ, hC, sub.rf φ⟩
  · obtain ⟨rfl, q1, q2, hC1⟩ := hq
    have hn6 : n < 60 := by
      rw [hn2] at q2
      exact (nI_ltI (b := 60) (by omega) (by omega)).mp q2
    have hvr := hI.1 (1 + c) (n % 2) (by omega) (by omega)
    rw [wpS, if_neg (by rw [q1]; decide), if_pos q2, hcl, hcl2]
    have hR1 := hC1.R
    have t0 := hR1.tr hc
    have t1 := hR1.ta hc
    have t2 := hR1.tp hc
    have t3 := hR1.tv hc
    rw [up2_n (by omega)] at t0 t1 t2 t3
    refine wp_istore_n d_Log_writeAndPlayCommit_5 rfl (by decide) ?_
    refine wp_aload_n d_Log_writeAndPlayCommit_6 rfl rfl ?_
    refine wp_get d_Log_writeAndPlayCommit_7 fl_Log_187 (by exact hR1.cli hc) (by rfl) ?_
    refine wx_callV d_Log_writeAndPlayCommit_10 cv_Log_260 cd_Work_copy ⟨by decide, by decide⟩ (ct_Work_copy _ _ _ _ _ _ _ _ _ (hR1.tx hc) t0 t1 t2 t3 (fun k hk => hI.2.2.2.2.2.2.1 c k hc hk)) (by exact hR1.tx hc) rfl rfl (Nat.le_of_ble_eq_true rfl) (Nat.le_of_ble_eq_true rfl) (Nat.le_of_ble_eq_true rfl) (fun E1 μ2 hq => WX.out rfl (no_hd _) (Nat.le_of_ble_eq_true rfl) (Nat.le_of_ble_eq_true rfl) ?_) (fun v1 μ2 hq => ?_)
    · exact hq.elim
    · obtain ⟨q, rfl, hqn, hNW, hs2⟩ := hq
      obtain ⟨q0, qa, qb, qc, e, e0, e1, e2, e3, -⟩ := id hNW
      refine wp_astore_n d_Log_writeAndPlayCommit_13 rfl (by decide) ?_
      refine wp_aload_n d_Log_writeAndPlayCommit_14 rfl rfl ?_
      refine wp_aload_n d_Log_writeAndPlayCommit_15 rfl rfl ?_
      refine wp_iload_n d_Log_writeAndPlayCommit_16 rfl rfl ?_
      refine wp_new d_Log_writeAndPlayCommit_17 nw_Log_31 (Nat.le_of_ble_eq_true rfl) (Nat.le_of_ble_eq_true rfl) (fun ea hBe hea => ?_)
      refine wp_dup d_Log_writeAndPlayCommit_20 rfl ?_
      refine wp_iconst (v := 2) d_Log_writeAndPlayCommit_21 (by decide) ?_
      refine wp_aload_n d_Log_writeAndPlayCommit_22 rfl rfl ?_
      refine wx_callV d_Log_writeAndPlayCommit_23 cv_Log_208 cd_Work_putCount ⟨by decide, by decide⟩ (ct_putCount G _ q qb _ _ _ _ ((mu_up_n (mu_some_ne e hea)).trans e) ((mu_up_n (mu_some_ne e2 hea)).trans e2)) (by exact (mu_up_n (mu_some_ne e hea)).trans e) rfl rfl (Nat.le_of_ble_eq_true rfl) (Nat.le_of_ble_eq_true rfl) (Nat.le_of_ble_eq_true rfl) (fun E1 μ3 hq => WX.out rfl (no_hd _) (Nat.le_of_ble_eq_true rfl) (Nat.le_of_ble_eq_true rfl) ?_) (fun v1 μ3 hq => ?_)
      · exact hq.elim
      · obtain ⟨rfl, rfl⟩ := hq
        refine wp_aload_n d_Log_writeAndPlayCommit_26 rfl rfl ?_
        refine wi_call d_Log_writeAndPlayCommit_27 ci_Log_33 cd_Entry_init ⟨by decide, by decide⟩ (ct_Entry_init ea q 2 (nI (pcN (cp (σ (40 + c)) 4) 4)) _ _ _ (mu_up_s _ _ _) hBe) rfl rfl (Nat.le_of_ble_eq_true rfl) (Nat.le_of_ble_eq_true rfl) (Nat.le_of_ble_eq_true rfl) (fun v1 μ4 hq => ?_)
        obtain ⟨rfl, hμ4⟩ := hq
        rw [mu_up_up, pcN_congr (f := cp (σ (40 + c)) 4) (g := σ (40 + c)) 4 (fun k hk => if_pos hk)] at hμ4
        have hea1 : μ1 ea = none := by
          cases hz : μ1 ea with
          | none => rfl
          | some x => rw [hs2 _ _ hz] at hea; cases hea
        have hs4 : sub μ2 μ4 := by rw [hμ4]; exact sub_up hea
        obtain ⟨hC4, hφ⟩ := hC1.freeze (hs2.tr hs4)
        have hFE : FE G (frz μ1 μ4 φ) ea (vCom σ c) := ⟨q, (frz_n hea1).trans (by rw [hμ4, mu_up_s]; rfl), (hNW.mono hs4).froz hqn (vCom_ok σ c)⟩
        have hR4 := hC4.R
        refine wp_iconst (v := 3) d_Log_writeAndPlayCommit_30 (by decide) ?_
        rw [hn2]
        refine wx_callV d_Log_writeAndPlayCommit_31 cv_Log_76 cd_Log_write ⟨by decide, by decide⟩ (ct_write hC4 (m := 3) hc hn6 (by omega) hFE hvr) (by exact hR4.log) rfl rfl (Nat.le_of_ble_eq_true rfl) (Nat.le_of_ble_eq_true rfl) (Nat.le_of_ble_eq_true rfl) (fun E1 μ5 hq => WX.out rfl (no_hd _) (Nat.le_of_ble_eq_true rfl) (Nat.le_of_ble_eq_true rfl) ?_) (fun v1 μ5 hq => ?_)
        · obtain ⟨g5, σ5, w5, e5, hC5, h5⟩ := hq
          rw [hn2] at e5
          rw [e5]
          rcases h5 with ⟨rfl, rfl⟩ | ⟨rfl, rfl⟩
          · exact ⟨by show 2 ≠ 0; decide, rfl, g5, _, hC5, hφ⟩
          · exact ⟨by show 4 ≠ 0; decide, rfl, g5, _, hC5, hφ⟩
        · obtain ⟨rfl, g5, σ5, e5, hC5⟩ := hq
          have hp5 : σ5 (16 + c) 4 = nI p := by
            have h9 := wrS_off c n (vCom σ c) (δ (1 + c) (n % 2)) (i := 16 + c) (by omega) (min (ln (δ (1 + c) (n % 2))) 3) 0 (up2 σ 3 2 (σ 3 2 + 1))
            rw [e5] at h9
            show σ5 (16 + c) 4 = nI p
            rw [show σ5 (16 + c) = _ from h9, up2_n (by omega), hp2]
          rw [hn2] at e5
          rw [e5]
          have hR5 := hC5.R
          refine wp_aload_n d_Log_writeAndPlayCommit_34 rfl rfl ?_
          refine wp_aload_n d_Log_writeAndPlayCommit_35 rfl rfl ?_
          refine wp_iload_n d_Log_writeAndPlayCommit_36 rfl rfl ?_
          refine wp_iconst (v := 1) d_Log_writeAndPlayCommit_37 (by decide) ?_
          refine wp_iadd d_Log_writeAndPlayCommit_38 ?_
          rw [nI_1 n]
          refine wx_callV d_Log_writeAndPlayCommit_39 cv_Log_168 cd_Log_play ⟨by decide, by decide⟩ (ct_play hC5 hc hp5 hp (show n + 1 ≤ 60 by omega) (fun ch hch => hI.1 (1 + c) ch (by omega) hch)) (by exact hR5.log) rfl rfl (Nat.le_of_ble_eq_true rfl) (Nat.le_of_ble_eq_true rfl) (Nat.le_of_ble_eq_true rfl) (fun E1 μ6 hq => WX.out rfl (no_hd _) (Nat.le_of_ble_eq_true rfl) (Nat.le_of_ble_eq_true rfl) ?_) (fun v1 μ6 hq => ?_)
          · obtain ⟨k, t, σ', e6, hC6, hk⟩ := hq
            dsimp only
            rw [if_pos rfl, e6]
            rcases hk with ⟨rfl, rfl⟩ | ⟨rfl, rfl⟩ | ⟨rfl, rfl⟩
            · exact ⟨by show 2 ≠ 0; decide, rfl, g5, _, hC6, hφ⟩
            · exact ⟨by show 5 ≠ 0; decide, rfl, g5, _, hC6, hφ⟩
            · exact ⟨by show 3 ≠ 0; decide, rfl, g5, _, hC6, hφ⟩
          · obtain ⟨t, σ', rfl, ht, e6, hC6⟩ := hq
            dsimp only
            rw [if_pos rfl, e6]
            exact wp_zret d_Log_writeAndPlayCommit_42 rfl (by rcases ht with rfl | rfl <;> rfl) (Nat.le_of_ble_eq_true rfl) (Nat.le_of_ble_eq_true rfl) ⟨rfl, rfl, ht, g5, _, hC6, hφ⟩
def coS (c : Nat) (σ : sg) (δ : dg) : RS :=
  if σ (16 + c) 3 = 0 then (2, 0, σ, δ) else if pcN (σ (40 + c)) 4 = 0 then (0, if am (σ (32 + c)) (σ (36 + c)) (σ (24 + c)) = true then 1 else 0, up2 σ (16 + c) 3 0, δ)
  else match wpS c σ δ with
    | (k, t, σ', δ') => if k = 0 then (0, t, up2 σ' (16 + c) 3 0, δ') else (k, 0, σ', δ')
def S_commit (x : Int32) (σ : sg) (δ : dg) : RS := match ar x 4 with
  | some c => coS c σ δ
  | none => (1, 0, σ, δ)
set_option maxHeartbeats 4000000 in
set_option maxRecDepth 10000 in
theorem ct_commit (hC : Cx G μ φ ad g σ δ) (hI : PI σ δ) (x : Int32) : CT G M_Log_commit [.ref (ad 0), .int x] μ (PostB G φ ad (S_commit x σ δ)) (PxC G φ ad exRead (S_commit x σ δ)) := by
  have hR := hC.R
  refine CT.of (by decide) rfl (Nat.le_of_ble_eq_true rfl) ?_
  refine wp_iload_n d_Log_commit_0 rfl rfl ?_
  refine wp_iconst (v := 3) d_Log_commit_1 (by decide) ?_
  refine wx_callS d_Log_commit_2 cs_Log_65 cd_Log_requireWithin ⟨by decide, by decide⟩ (ct_requireWithin G μ x 3) rfl rfl (Nat.le_of_ble_eq_true rfl) (Nat.le_of_ble_eq_true rfl) (Nat.le_of_ble_eq_true rfl) (fun E1 μ1 hq => WX.out rfl (no_hd _) (Nat.le_of_ble_eq_true rfl) (Nat.le_of_ble_eq_true rfl) ?_) (fun v1 μ1 hq => ?_)
  · obtain ⟨rfl, rfl, hx⟩ := hq
    rw [S_commit, ar_no (n := 3) rfl (by omega) hx]
    exact ⟨Nat.one_ne_zero, rfl, g, φ, hC, sub.rf φ⟩
  · obtain ⟨rfl, rfl, h1, h2⟩ := hq
    obtain ⟨c, hc, rfl⟩ := ar_ok (n := 3) rfl (by omega) h1 h2
    have hS : S_commit (nI c) σ δ = coS c σ δ := by rw [S_commit, ar_nI hc (by omega)]
    rw [hS]
    refine wp_aload_n d_Log_commit_5 rfl rfl ?_
    refine wp_get d_Log_commit_6 fl_Log_17 (by first | exact hR.log | exact hR.car | exact hR.cli hc) (by rfl) ?_
    refine wp_iload_n d_Log_commit_9 rfl rfl ?_
    refine wp_aald d_Log_commit_10 (t := 4) (C := "SharedLog$Client") rfl (by first | exact hR.log | exact hR.car | exact hR.cli hc) (by rfl) (by assumption) (by omega) (by rfl) ?_
    refine wp_astore_n d_Log_commit_11 rfl (by decide) ?_
    refine wp_aload_n d_Log_commit_12 rfl rfl ?_
    refine wx_callS d_Log_commit_13 cs_Log_194 cd_Log_requireTransaction ⟨by decide, by decide⟩ (ct_requireTransaction hC hc) rfl rfl (Nat.le_of_ble_eq_true rfl) (Nat.le_of_ble_eq_true rfl) (Nat.le_of_ble_eq_true rfl) (fun E1 μ1 hq => WX.out rfl (no_hd _) (Nat.le_of_ble_eq_true rfl) (Nat.le_of_ble_eq_true rfl) ?_) (fun v1 μ1 hq => ?_)
    · obtain ⟨rfl, rfl, ht⟩ := hq
      rw [coS, if_pos ht]
      exact ⟨by show 2 ≠ 0; decide, rfl, g, φ, hC, sub.rf φ⟩
    · obtain ⟨rfl, rfl, ht⟩ := hq
      rw [coS, if_neg ht]
      refine wp_aload_n d_Log_commit_16 rfl rfl ?_
      refine wp_get d_Log_commit_17 fl_Log_187 (by first | exact hR.log | exact hR.car | exact hR.cli hc) (by rfl) ?_
      refine wx_callV d_Log_commit_20 cv_Log_208 cd_Work_putCount ⟨by decide, by decide⟩ (ct_putCount G _ _ _ _ _ _ _ (hR.tx hc) (hR.tp hc)) (by exact hR.tx hc) rfl rfl (Nat.le_of_ble_eq_true rfl) (Nat.le_of_ble_eq_true rfl) (Nat.le_of_ble_eq_true rfl) (fun E1 μ1 hq => WX.out rfl (no_hd _) (Nat.le_of_ble_eq_true rfl) (Nat.le_of_ble_eq_true rfl) ?_) (fun v1 μ1 hq => ?_)
      · exact hq.elim
      · obtain ⟨rfl, rfl⟩ := hq
        have hpc := pcN_le (σ (40 + c)) 4
        refine wp_if_ne (tgt := 37) d_Log_commit_23 (by decide) (fun c23 => ?_) (fun c23 => ?_)
        · have hz : ¬ pcN (σ (40 + c)) 4 = 0 := fun e => c23 (by rw [e]; exact nI_0)
          rw [if_neg hz]
          refine wp_aload_n d_Log_commit_37 rfl rfl ?_
          refine wp_aload_n d_Log_commit_38 rfl rfl ?_
          refine wx_callV d_Log_commit_39 cv_Log_215 cd_Log_writeAndPlayCommit ⟨by decide, by decide⟩ (ct_writeAndPlayCommit hC hI hc) (by exact hR.log) rfl rfl (Nat.le_of_ble_eq_true rfl) (Nat.le_of_ble_eq_true rfl) (Nat.le_of_ble_eq_true rfl) (fun E1 μ1 hq => WX.out rfl (no_hd _) (Nat.le_of_ble_eq_true rfl) (Nat.le_of_ble_eq_true rfl) ?_) (fun v1 μ1 hq => ?_)
          · obtain ⟨r1, r2, r3⟩ := hq
            generalize wpS c σ δ = r at r1 r2 r3 ⊢
            obtain ⟨k, t, σ', δ'⟩ := r
            dsimp only at r1 r2 r3 ⊢
            rw [if_neg r1]
            exact ⟨r1, r2, r3⟩
          · obtain ⟨r1, rfl, r4, g3, φ3, hC3, hφ⟩ := hq
            generalize wpS c σ δ = r at r1 r4 hC3 ⊢
            obtain ⟨k, t, σ', δ'⟩ := r
            dsimp only at r1 r4 hC3 ⊢
            rw [if_pos r1]
            have hR3 := hC3.R
            refine wp_istore_n d_Log_commit_42 rfl (by decide) ?_
            refine wp_aload_n d_Log_commit_43 rfl rfl ?_
            refine wp_iconst (v := 0) d_Log_commit_44 (by decide) ?_
            refine wp_put d_Log_commit_45 fp_Log_179 (by exact hR3.cli hc) (by exact hC3.B (by omega)) (by rfl) (by rfl) (Nat.le_of_ble_eq_true rfl) ?_
            refine wp_iload_n d_Log_commit_48 rfl rfl ?_
            have hC4 := hC3.reg (by omega) (hR3.pTxn (x := 0) hc) (hC3.z.up (by omega))
            exact wp_zret d_Log_commit_49 rfl (by rcases r4 with rfl | rfl <;> rfl) (Nat.le_of_ble_eq_true rfl) (Nat.le_of_ble_eq_true rfl) ⟨rfl, rfl, r4, g3, φ3, hC4, hφ⟩
        · have hz : pcN (σ (40 + c)) 4 = 0 := by
            rcases Nat.eq_zero_or_pos (pcN (σ (40 + c)) 4) with e | e
            · exact e
            · exact absurd c23 (nI_ne0 e (by omega))
          rw [if_pos hz]
          refine wp_aload_n d_Log_commit_26 rfl rfl ?_
          refine wp_aload_n d_Log_commit_27 rfl rfl ?_
          refine wp_get d_Log_commit_28 fl_Log_187 (by exact hR.cli hc) (by rfl) ?_
          refine wx_callV d_Log_commit_31 cv_Log_211 cd_Client_agesMatch ⟨by decide, by decide⟩ (ct_agesMatch G _ _ 0 _ _ _ _ _ _ _ _ _ _ _ _ _ _ (hR.cli hc) (hR.age hc) (hR.tx hc) (hR.tr hc) (hR.ta hc)) (by exact hR.cli hc) rfl rfl (Nat.le_of_ble_eq_true rfl) (Nat.le_of_ble_eq_true rfl) (Nat.le_of_ble_eq_true rfl) (fun E1 μ1 hq => WX.out rfl (no_hd _) (Nat.le_of_ble_eq_true rfl) (Nat.le_of_ble_eq_true rfl) ?_) (fun v1 μ1 hq => ?_)
          · exact hq.elim
          · obtain ⟨rfl, rfl⟩ := hq
            refine wp_goto (tgt := 42) d_Log_commit_34 (by decide) ?_
            refine wp_istore_n d_Log_commit_42 rfl (by decide) ?_
            refine wp_aload_n d_Log_commit_43 rfl rfl ?_
            refine wp_iconst (v := 0) d_Log_commit_44 (by decide) ?_
            refine wp_put d_Log_commit_45 fp_Log_179 (by exact hR.cli hc) (by exact hC.B (by omega)) (by rfl) (by rfl) (Nat.le_of_ble_eq_true rfl) ?_
            refine wp_iload_n d_Log_commit_48 rfl rfl ?_
            have hC4 := hC.reg (by omega) (hR.pTxn (x := 0) hc) (hC.z.up (by omega))
            have h01 : (if am (σ (32 + c)) (σ (36 + c)) (σ (24 + c)) = true then (1 : Int32) else 0) = 0 ∨ (if am (σ (32 + c)) (σ (36 + c)) (σ (24 + c)) = true then (1 : Int32) else 0) = 1 := by
              split
              · exact Or.inr rfl
              · exact Or.inl rfl
            exact wp_zret d_Log_commit_49 rfl (by rcases h01 with e | e <;> rw [e] <;> rfl) (Nat.le_of_ble_eq_true rfl) (Nat.le_of_ble_eq_true rfl) ⟨rfl, rfl, h01, g, φ, hC4, sub.rf φ⟩
end Pub5
end
section
/-! THE CLASS: rows of units as digits; client, count -/
theorem i32_m1 (x : Int32) : x + Int32.ofInt (-1) = x - 1 := by rw [Int32.sub_eq_add_neg]; rfl
theorem nI_rem10 {r : Nat} (h : r < 2 ^ 31) : nI r - nI r / 10 * 10 = nI (r % 10) := pk_rem h (by decide) (by decide)
theorem nI_div10 {r : Nat} (h : r < 2 ^ 31) : nI r / 10 = nI (r / 10) := pk_div (d := 10) h (by decide) (by decide)
set_option maxRecDepth 100000 in
theorem vr_dig : ∀ d, d < 667 → vr d = true → ∀ i, i < 3 → i < ln d → d / 10 ^ (ln d - i) * 10 + un d i + 1 = d / 10 ^ (ln d - (i + 1)) := by decide +kernel
set_option maxRecDepth 100000 in
theorem vr_dig0 : ∀ d, d < 667 → d / 10 ^ ln d = 0 := by decide +kernel
set_option maxRecDepth 100000 in
theorem vr_pos : ∀ d, d < 667 → vr d = true → ∀ j, j < 3 → j < ln d → 1 ≤ d / 10 ^ j % 10 := by decide +kernel
set_option maxHeartbeats 4000000 in
set_option maxRecDepth 10000 in
theorem ct_rowOf (G : mt_G) (μ : mu_M) {d : Nat} (hd : vr d = true) : CT G M_Log_rowOf [.int (nI d)] μ (fun v μ' => ∃ q f, v = some (.ref q) ∧ G.2.2.2 ≤ q ∧ μ q = none ∧ μ' = mu_up μ q (.inl (G.2.2.1 0, ln d, .inl f)) ∧ ∀ i, i < ln d → f i = nI (un d i)) (fun _ _ => False) := by
  have hd6 := vr_le hd
  have hln := ln_pos d
  refine CT.of (by decide) rfl (Nat.le_of_ble_eq_true rfl) ?_
  have tail : WP G M_Log_rowOf (EC G M_Log_rowOf (fun v μ' => ∃ q f, v = some (.ref q) ∧ G.2.2.2 ≤ q ∧ μ q = none ∧ μ' = mu_up μ q (.inl (G.2.2.1 0, ln d, .inl f)) ∧ ∀ i, i < ln d → f i = nI (un d i)) (fun _ _ => False)) (lv_args 0 [.int (nI d)]) 21 [.int (nI (ln d))] μ 0 0 := by
    refine wp_istore_n d_Log_rowOf_21 rfl (by decide) ?_
    refine wp_iload_n d_Log_rowOf_22 rfl rfl ?_
    refine wp_newI (N := ln d) d_Log_rowOf_23 ac_I (by omega) (Nat.le_of_ble_eq_true rfl) (by show 0 + ln d ≤ 3; omega) (fun q hB hq => ?_)
    refine wp_astore_n d_Log_rowOf_25 rfl (by decide) ?_
    refine wp_iload_n d_Log_rowOf_26 rfl rfl ?_
    refine wp_istore_n d_Log_rowOf_27 rfl (by decide) ?_
    refine wp_iload_n d_Log_rowOf_28 rfl rfl ?_
    refine wp_iconst (v := 1) d_Log_rowOf_29 (by decide) ?_
    refine wp_isub d_Log_rowOf_30 ?_
    refine wp_istore d_Log_rowOf_31 (by decide) ?_
    have loop : ∀ (m j : Nat) (f : Nat → Int32), j + m = ln d → (∀ i, m ≤ i → i < ln d → f i = nI (un d i)) →
        WP G M_Log_rowOf (EC G M_Log_rowOf (fun v μ' => ∃ q f, v = some (.ref q) ∧ G.2.2.2 ≤ q ∧ μ q = none ∧ μ' = mu_up μ q (.inl (G.2.2.1 0, ln d, .inl f)) ∧ ∀ i, i < ln d → f i = nI (un d i)) (fun _ _ => False))
          [(2, .ref q), (3, .int (nI (d / 10 ^ j))), (4, .int (nI m - 1))] 33 [] (mu_up μ q (.inl (G.2.2.1 0, ln d, .inl f))) 1 3 := by
      intro m
      induction m with
      | zero =>
        intro j f hj hf
        refine wp_iload d_Log_rowOf_33 rfl ?_
        refine wp_if_lt (tgt := 59) d_Log_rowOf_35 (by decide) (fun c35 => ?_) (fun c35 => ?_)
        · refine wp_aload_n d_Log_rowOf_59 rfl rfl ?_
          exact wp_aret d_Log_rowOf_60 rfl (Or.inr ⟨_, rfl⟩) (by decide) (by decide) ⟨q, f, rfl, hB, hq, rfl, fun i hi => hf i (by omega) hi⟩
        · exact absurd (by decide) c35
      | succ m ih =>
        intro j f hj hf
        have e1 : nI (m + 1) - 1 = nI m := nI_pred m
        rw [e1]
        have hr : d / 10 ^ j < 2 ^ 31 := Nat.lt_of_le_of_lt (Nat.div_le_self _ _) (by omega)
        have hp := vr_pos d (by omega) hd j (by omega) (by omega)
        refine wp_iload d_Log_rowOf_33 rfl ?_
        refine wp_if_lt (tgt := 59) d_Log_rowOf_35 (by decide) (fun c35 => ?_) (fun c35 => ?_)
        · exact absurd c35 (nI_pos (by omega))
        refine wp_aload_n d_Log_rowOf_38 rfl rfl ?_
        refine wp_iload d_Log_rowOf_39 rfl ?_
        refine wp_iload_n d_Log_rowOf_41 rfl rfl ?_
        refine wp_bipush (v := 10) d_Log_rowOf_42 (by decide) ?_
        refine wp_irem d_Log_rowOf_44 (by decide) ?_
        refine wp_iconst (v := 1) d_Log_rowOf_45 (by decide) ?_
        refine wp_isub d_Log_rowOf_46 ?_
        rw [nI_rem10 hr, nI_m1 hp]
        have hu : un d m = d / 10 ^ j % 10 - 1 := by unfold un; rw [show ln d - 1 - m = j by omega]
        rw [← hu]
        refine wp_iast d_Log_rowOf_47 (mu_up_s _ _ _) hB rfl (show m < ln d by omega) (by omega) ?_
        rw [mu_up_up]
        refine wp_iload_n d_Log_rowOf_48 rfl rfl ?_
        refine wp_bipush (v := 10) d_Log_rowOf_49 (by decide) ?_
        refine wp_idiv d_Log_rowOf_51 (by decide) ?_
        rw [nI_div10 hr, Nat.div_div_eq_div_mul, ← Nat.pow_succ]
        refine wp_istore_n d_Log_rowOf_52 rfl (by decide) ?_
        refine wp_iinc d_Log_rowOf_53 rfl rfl (by decide) ?_
        refine wp_goto (tgt := 33) d_Log_rowOf_56 (by decide) ?_
        refine WP.loc [(2, .ref q), (3, .int (nI (d / 10 ^ (j + 1)))), (4, .int (nI m - 1))] (by rw [← i32_m1]; rfl) (ih (j + 1) _ (by omega) (fun i h1 h2 => ?_))
        unfold upd
        by_cases h : i = m
        · rw [if_pos h, h]
        · rw [if_neg h]; exact hf i (by omega) h2
    refine WP.loc [(2, .ref q), (3, .int (nI (d / 10 ^ 0))), (4, .int (nI (ln d) - 1))] (by rw [Nat.pow_zero, Nat.div_one]; rfl) (WP.widen (Nat.le_of_ble_eq_true rfl) (by show 0 + ln d ≤ 3; omega) (loop (ln d) 0 _ (by omega) (fun i h1 h2 => absurd h2 (by omega))))
  refine wp_iload_n d_Log_rowOf_0 rfl rfl ?_
  refine wp_bipush (v := 10) d_Log_rowOf_1 (by decide) ?_
  refine wp_icmp_ge (tgt := 10) d_Log_rowOf_3 (by decide) (fun c3 => ?_) (fun c3 => ?_)
  · have c3 : 10 ≤ d := (nI_leI (a := 10) (b := d) (by omega) (by omega)).mp c3
    refine wp_iload_n d_Log_rowOf_10 rfl rfl ?_
    refine wp_bipush (v := 100) d_Log_rowOf_11 (by decide) ?_
    refine wp_icmp_ge (tgt := 20) d_Log_rowOf_13 (by decide) (fun c13 => ?_) (fun c13 => ?_)
    · have c13 : 100 ≤ d := (nI_leI (a := 100) (b := d) (by omega) (by omega)).mp c13
      refine wp_iconst (v := 3) d_Log_rowOf_20 (by decide) ?_
      exact WP.at rfl (by rw [show ln d = 3 by unfold ln; rw [if_pos (by omega)]]; rfl) tail
    · have c13 : ¬ 100 ≤ d := fun h => c13 ((nI_leI (a := 100) (b := d) (by omega) (by omega)).mpr h)
      refine wp_iconst (v := 2) d_Log_rowOf_16 (by decide) ?_
      refine wp_goto (tgt := 21) d_Log_rowOf_17 (by decide) ?_
      exact WP.at rfl (by rw [show ln d = 2 by unfold ln; rw [if_neg (by omega), if_pos (by omega)]]; rfl) tail
  · have c3 : ¬ 10 ≤ d := fun h => c3 ((nI_leI (a := 10) (b := d) (by omega) (by omega)).mpr h)
    refine wp_iconst (v := 1) d_Log_rowOf_6 (by decide) ?_
    refine wp_goto (tgt := 21) d_Log_rowOf_7 (by decide) ?_
    exact WP.at rfl (by rw [show ln d = 1 by unfold ln; rw [if_neg (by omega), if_neg (by omega)]]; rfl) tail
set_option maxHeartbeats 4000000 in
set_option maxRecDepth 10000 in
theorem ct_digitsOf (G : mt_G) (μ : mu_M) {d a : Nat} {f : Nat → Int32} (hd : vr d = true) (ha : μ a = some (.inl (G.2.2.1 0, ln d, .inl f))) (hf : ∀ i, i < ln d → f i = nI (un d i)) : CT G M_Log_digitsOf [.ref a] μ (fun v μ' => v = some (.int (nI d)) ∧ μ' = μ) (fun _ _ => False) := by
  have hd6 := vr_le hd
  have hln := ln_pos d
  refine CT.of (by decide) rfl (Nat.le_of_ble_eq_true rfl) ?_
  refine wp_iconst (v := 0) d_Log_digitsOf_0 (by decide) ?_
  refine wp_istore_n d_Log_digitsOf_1 rfl (by decide) ?_
  refine wp_iconst (v := 0) d_Log_digitsOf_2 (by decide) ?_
  refine wp_istore_n d_Log_digitsOf_3 rfl (by decide) ?_
  have loop : ∀ (n i : Nat), i + n = ln d → WP G M_Log_digitsOf (EC G M_Log_digitsOf (fun v μ' => v = some (.int (nI d)) ∧ μ' = μ) (fun _ _ => False)) [(0, .ref a), (1, .int (nI (d / 10 ^ (ln d - i)))), (2, .int (nI i))] 4 [] μ 0 0 := by
    intro n
    induction n with
    | zero =>
      intro i hi
      refine wp_iload_n d_Log_digitsOf_4 rfl rfl ?_
      refine wp_aload_n d_Log_digitsOf_5 rfl rfl ?_
      refine wp_alen d_Log_digitsOf_6 (by exact (rfl : (TYS G.2.2.1)[0]? = some (G.2.2.1 0, .int))) (by exact ha) ?_
      refine wp_icmp_ge (tgt := 27) d_Log_digitsOf_7 (by decide) (fun c7 => ?_) (fun c7 => ?_)
      · refine wp_iload_n d_Log_digitsOf_27 rfl rfl ?_
        exact wp_iret d_Log_digitsOf_28 rfl (by decide) (by decide) ⟨by rw [show ln d - i = 0 by omega, Nat.pow_zero, Nat.div_one], rfl⟩
      · rw [nI_leI (by omega) (by omega)] at c7
        omega
    | succ n ih =>
      intro i hi
      refine wp_iload_n d_Log_digitsOf_4 rfl rfl ?_
      refine wp_aload_n d_Log_digitsOf_5 rfl rfl ?_
      refine wp_alen d_Log_digitsOf_6 (by exact (rfl : (TYS G.2.2.1)[0]? = some (G.2.2.1 0, .int))) (by exact ha) ?_
      refine wp_icmp_ge (tgt := 27) d_Log_digitsOf_7 (by decide) (fun c7 => ?_) (fun c7 => ?_)
      · exact absurd ((nI_leI (by omega) (by omega)).mp c7) (by omega)
      refine wp_iload_n d_Log_digitsOf_10 rfl rfl ?_
      refine wp_bipush (v := 10) d_Log_digitsOf_11 (by decide) ?_
      refine wp_imul d_Log_digitsOf_13 ?_
      refine wp_aload_n d_Log_digitsOf_14 rfl rfl ?_
      refine wp_iload_n d_Log_digitsOf_15 rfl rfl ?_
      refine wp_iald d_Log_digitsOf_16 (by exact ha) (by rfl) (by omega) (by omega) ?_
      refine wp_iadd d_Log_digitsOf_17 ?_
      refine wp_iconst (v := 1) d_Log_digitsOf_18 (by decide) ?_
      refine wp_iadd d_Log_digitsOf_19 ?_
      have e : nI (d / 10 ^ (ln d - i)) * 10 + f i + 1 = nI (d / 10 ^ (ln d - (i + 1))) := by
        rw [hf i (by omega), show (10 : Int32) = nI 10 from rfl, pk_mul, nI_add, nI_1, vr_dig d (by omega) hd i (by omega) (by omega)]
      rw [e]
      refine wp_istore_n d_Log_digitsOf_20 rfl (by decide) ?_
      refine wp_iinc d_Log_digitsOf_21 rfl rfl (by decide) ?_
      refine wp_goto (tgt := 4) d_Log_digitsOf_24 (by decide) ?_
      exact WP.loc [(0, .ref a), (1, .int (nI (d / 10 ^ (ln d - (i + 1))))), (2, .int (nI (i + 1)))] (by rw [← nI_1 i]; rfl) (ih (i + 1) (by omega))
  exact WP.loc [(0, .ref a), (1, .int (nI (d / 10 ^ (ln d - 0)))), (2, .int (nI 0))] (by rw [Nat.sub_zero, vr_dig0 d (by omega)]; rfl) (loop (ln d) 0 (by omega))
/-- the class's own test of a row, by its last digit first -/
def isr : Nat → Nat → (Nat → Int32) → Bool
  | 0, _, _ => true
  | n + 1, r, f => if r = 0 then true else if r % 10 = 0 then false else if 7 ≤ r % 10 then false else if f (r % 10 - 1) = 0 then isr n (r / 10) (upd f (r % 10 - 1) 1) else false
set_option maxRecDepth 100000 in
theorem isr_vr : ∀ d, d < 667 → 1 ≤ d → isr 3 d (fun _ => 0) = vr d := by decide +kernel
def vrI (x : Int32) : Bool := if x < 1 ∨ 666 < x then false else vr x.toNatClampNeg
set_option maxHeartbeats 4000000 in
set_option maxRecDepth 10000 in
theorem ct_isRow (G : mt_G) (μ : mu_M) (x : Int32) : CT G M_Log_isRow [.int x] μ (fun v μ' => v = some (.int (if vrI x = true then 1 else 0)) ∧ sub μ μ') (fun _ _ => False) := by
  refine CT.of (by decide) rfl (Nat.le_of_ble_eq_true rfl) ?_
  refine wp_iload_n d_Log_isRow_0 rfl rfl ?_
  refine wp_iconst (v := 1) d_Log_isRow_1 (by decide) ?_
  refine wp_icmp_lt (tgt := 12) d_Log_isRow_2 (by decide) (fun c2 => ?_) (fun c2 => ?_)
  · refine wp_iconst (v := 0) d_Log_isRow_12 (by decide) ?_
    exact wp_zret d_Log_isRow_13 rfl rfl (by decide) (by decide) ⟨by rw [vrI, if_pos (Or.inl c2)]; rfl, sub.rf μ⟩
  · refine wp_iload_n d_Log_isRow_5 rfl rfl ?_
    refine wp_sipush (v := 666) d_Log_isRow_6 (by decide) ?_
    refine wp_icmp_le (tgt := 14) d_Log_isRow_9 (by decide) (fun c9 => ?_) (fun c9 => ?_)
    · have h0 : ¬ x < 0 := fun h => c2 (Int32.lt_trans h (by decide))
      obtain ⟨d, hd, rfl⟩ := nI_of2 (n := 666) (M := 666) (by decide) h0 c9
      have hd1 : 1 ≤ d := by
        rcases Nat.eq_zero_or_pos d with e | e
        · subst e; exact absurd (by decide) c2
        · exact e
      have hv : vrI (nI d) = isr 3 d (fun _ => 0) := by
        rw [isr_vr d (by omega) hd1, vrI, if_neg, nI_clamp (by omega)]
        intro h
        rcases h with h | h
        · exact c2 h
        · exact absurd c9 (Int32.not_le.mpr h)
      rw [hv]
      refine wp_bipush (v := 6) d_Log_isRow_14 (by decide) ?_
      refine wp_newZ (N := 6) d_Log_isRow_16 ac_Z (by decide) (by decide) (by decide) (fun q hB hq => ?_)
      refine wp_astore_n d_Log_isRow_18 rfl (by decide) ?_
      refine wp_iload_n d_Log_isRow_19 rfl rfl ?_
      refine wp_istore_n d_Log_isRow_20 rfl (by decide) ?_
      have loop : ∀ (n r : Nat) (f : Nat → Int32), r < 10 ^ n → n ≤ 3 → isr n r f = isr 3 d (fun _ => 0) → WP G M_Log_isRow (EC G M_Log_isRow (fun v μ' => v = some (.int (if isr 3 d (fun _ => 0) = true then 1 else 0)) ∧ sub μ μ') (fun _ _ => False)) [(1, .ref q), (2, .int (nI r))] 21 [] (mu_up μ q (.inl (G.2.2.1 1, 6, .inl f))) 1 6 := by
        intro n
        induction n with
        | zero =>
          intro r f hr hn hi
          obtain rfl : r = 0 := by simpa using hr
          refine wp_iload_n d_Log_isRow_21 rfl rfl ?_
          refine wp_if_le (tgt := 62) d_Log_isRow_22 (by decide) (fun c22 => ?_) (fun c22 => ?_)
          · refine wp_iconst (v := 1) d_Log_isRow_62 (by decide) ?_
            exact wp_zret d_Log_isRow_63 rfl rfl (by decide) (by decide) ⟨by rw [← hi]; rfl, sub_up hq⟩
          · exact absurd (by decide) c22
        | succ n ih =>
          intro r f hr hn hi
          have hr3 : r < 1000 := Nat.lt_of_lt_of_le hr (by rcases (show n = 0 ∨ n = 1 ∨ n = 2 by omega) with rfl | rfl | rfl <;> decide)
          refine wp_iload_n d_Log_isRow_21 rfl rfl ?_
          refine wp_if_le (tgt := 62) d_Log_isRow_22 (by decide) (fun c22 => ?_) (fun c22 => ?_)
          · have hr0 : r = 0 := by
              rcases Nat.eq_zero_or_pos r with e | e
              · exact e
              · exact absurd c22 (nI_nle e (by omega))
            refine wp_iconst (v := 1) d_Log_isRow_62 (by decide) ?_
            exact wp_zret d_Log_isRow_63 rfl rfl (by decide) (by decide) ⟨by rw [← hi, isr, if_pos hr0]; rfl, sub_up hq⟩
          · have hr0 : ¬ r = 0 := fun e => c22 (by rw [e]; decide)
            rw [isr, if_neg hr0] at hi
            refine wp_iload_n d_Log_isRow_25 rfl rfl ?_
            refine wp_bipush (v := 10) d_Log_isRow_26 (by decide) ?_
            refine wp_irem d_Log_isRow_28 (by decide) ?_
            refine wp_iconst (v := 1) d_Log_isRow_29 (by decide) ?_
            refine wp_isub d_Log_isRow_30 ?_
            rw [nI_rem10 (by omega)]
            refine wp_istore_n d_Log_isRow_31 rfl (by decide) ?_
            refine wp_iload_n d_Log_isRow_32 rfl rfl ?_
            have h10 : r % 10 < 10 := Nat.mod_lt _ (by decide)
            have out : isr 3 d (fun _ => 0) = false → ∀ lo, WP G M_Log_isRow (EC G M_Log_isRow (fun v μ' => v = some (.int (if isr 3 d (fun _ => 0) = true then 1 else 0)) ∧ sub μ μ') (fun _ _ => False)) lo 48 [] (mu_up μ q (.inl (G.2.2.1 1, 6, .inl f))) 1 6 := by
              intro hz lo
              refine wp_iconst (v := 0) d_Log_isRow_48 (by decide) ?_
              exact wp_zret d_Log_isRow_49 rfl rfl (by decide) (by decide) ⟨by rw [hz]; rfl, sub_up hq⟩
            refine wp_if_lt (tgt := 48) d_Log_isRow_33 (by decide) (fun c33 => ?_) (fun c33 => ?_)
            · refine out ?_ _
              have hz : r % 10 = 0 := by
                rcases Nat.eq_zero_or_pos (r % 10) with e | e
                · exact e
                · rw [nI_m1 e] at c33; exact absurd c33 (nI_pos (by omega))
              rw [← hi, if_pos hz]
            · have hz : ¬ r % 10 = 0 := fun e => c33 (by rw [e]; decide)
              rw [if_neg hz] at hi
              rw [nI_m1 (by omega)] at c33 ⊢
              refine wp_iload_n d_Log_isRow_36 rfl rfl ?_
              refine wp_bipush (v := 6) d_Log_isRow_37 (by decide) ?_
              refine wp_icmp_ge (tgt := 48) d_Log_isRow_39 (by decide) (fun c39 => ?_) (fun c39 => ?_)
              · refine out ?_ _
                have c39 : 6 ≤ r % 10 - 1 := (nI_leI (a := 6) (b := r % 10 - 1) (by omega) (by omega)).mp c39
                rw [← hi, if_pos (by omega)]
              · have c39 : ¬ 6 ≤ r % 10 - 1 := fun h => c39 ((nI_leI (a := 6) (b := r % 10 - 1) (by omega) (by omega)).mpr h)
                rw [if_neg (by omega)] at hi
                refine wp_aload_n d_Log_isRow_42 rfl rfl ?_
                refine wp_iload_n d_Log_isRow_43 rfl rfl ?_
                refine wp_zald d_Log_isRow_44 (by exact mu_up_s _ _ _) (by rfl) (by omega) (by omega) ?_
                refine wp_if_eq (tgt := 50) d_Log_isRow_45 (by decide) (fun c45 => ?_) (fun c45 => ?_)
                · rw [if_pos c45] at hi
                  refine wp_aload_n d_Log_isRow_50 rfl rfl ?_
                  refine wp_iload_n d_Log_isRow_51 rfl rfl ?_
                  refine wp_iconst (v := 1) d_Log_isRow_52 (by decide) ?_
                  refine wp_zast d_Log_isRow_53 (by exact mu_up_s _ _ _) (by exact hB) (by rfl) (by omega) (by omega) (by rfl) ?_
                  rw [mu_up_up]
                  refine wp_iload_n d_Log_isRow_54 rfl rfl ?_
                  refine wp_bipush (v := 10) d_Log_isRow_55 (by decide) ?_
                  refine wp_idiv d_Log_isRow_57 (by decide) ?_
                  rw [nI_div10 (by omega)]
                  refine wp_istore_n d_Log_isRow_58 rfl (by decide) ?_
                  refine wp_goto (tgt := 21) d_Log_isRow_59 (by decide) ?_
                  exact WP.loc [(1, .ref q), (2, .int (nI (r / 10)))] rfl (ih (r / 10) _ (by rw [Nat.pow_succ] at hr; omega) (by omega) hi)
                · rw [if_neg c45] at hi
                  exact out hi.symm _
      exact WP.loc _ rfl (WP.widen (Nat.le_of_ble_eq_true rfl) (Nat.le_of_ble_eq_true rfl) (loop 3 d _ (by omega) (by omega) rfl))
    · refine wp_iconst (v := 0) d_Log_isRow_12 (by decide) ?_
      exact wp_zret d_Log_isRow_13 rfl rfl (by decide) (by decide) ⟨by rw [vrI, if_pos (Or.inr (Int32.not_le.mp c9))]; rfl, sub.rf μ⟩
set_option maxHeartbeats 1000000 in
set_option maxRecDepth 10000 in
theorem ct_requireRow (G : mt_G) (μ : mu_M) (x : Int32) : CT G M_Log_requireRow [.int x] μ (fun v μ' => v = none ∧ sub μ μ' ∧ vrI x = true) (fun E μ' => E = IAE ∧ sub μ μ' ∧ vrI x = false) := by
  refine CT.of (by decide) rfl (Nat.le_of_ble_eq_true rfl) ?_
  refine wp_iload_n d_Log_requireRow_0 rfl rfl ?_
  refine wx_callS d_Log_requireRow_1 cs_Log_229 cd_Log_isRow ⟨by decide, by decide⟩ (ct_isRow G μ x) rfl rfl (Nat.le_of_ble_eq_true rfl) (Nat.le_of_ble_eq_true rfl) (Nat.le_of_ble_eq_true rfl) (fun E1 μ1 hq => WX.out rfl (no_hd _) (Nat.le_of_ble_eq_true rfl) (Nat.le_of_ble_eq_true rfl) ?_) (fun v1 μ1 hq => ?_)
  · exact hq.elim
  · obtain ⟨rfl, hs⟩ := hq
    refine wp_if_ne (tgt := 17) d_Log_requireRow_4 (by decide) (fun c4 => ?_) (fun c4 => ?_)
    · refine wp_vret d_Log_requireRow_17 rfl (by decide) (by decide) ⟨rfl, hs, ?_⟩
      cases hz : vrI x with
      | true => rfl
      | false => rw [hz] at c4; exact absurd rfl c4
    · have hz : vrI x = false := by
        cases hz : vrI x with
        | true => rw [hz] at c4; exact absurd c4 (by decide)
        | false => rfl
      exact wp_throw th_Log_224_232 rfl (no_hd _) d_Log_requireRow_7 d_Log_requireRow_10 d_Log_requireRow_11 d_Log_requireRow_13 d_Log_requireRow_16 (Nat.le_of_ble_eq_true rfl) (Nat.le_of_ble_eq_true rfl) (Nat.le_of_ble_eq_true rfl) (Nat.le_of_ble_eq_true rfl) ⟨rfl, hs, hz⟩
section Pub6
variable {G : mt_G} {μ φ : mu_M} {ad : Nat → Nat} {g : dg} {σ : sg} {δ : dg}
def ciS (c w : Nat) (σ : sg) (δ : dg) : Int32 := if w = 0 then σ (501 + c) 0 else if w = 1 then σ (16 + c) 4 else if w < 6 then σ (24 + c) (w - 2) else if w < 8 then nI (δ (1 + c) (w - 6)) else if σ (16 + c) 3 = 0 then 0 else 1
def S_client (x y : Int32) (σ : sg) (δ : dg) : RS := match ar x 4, ar y 9 with
  | some c, some w => (0, ciS c w σ δ, σ, δ)
  | _, _ => (1, 0, σ, δ)
set_option maxHeartbeats 4000000 in
set_option maxRecDepth 10000 in
theorem ct_client (hC : Cx G μ φ ad g σ δ) (hI : PI σ δ) (x y : Int32) : CT G M_Log_client [.ref (ad 0), .int x, .int y] μ (PostC G φ ad (S_client x y σ δ)) (PxC G φ ad ex1 (S_client x y σ δ)) := by
  have hR := hC.R
  refine CT.of (by decide) rfl (Nat.le_of_ble_eq_true rfl) ?_
  refine wp_iload_n d_Log_client_0 rfl rfl ?_
  refine wp_iconst (v := 3) d_Log_client_1 (by decide) ?_
  refine wx_callS d_Log_client_2 cs_Log_65 cd_Log_requireWithin ⟨by decide, by decide⟩ (ct_requireWithin G μ x 3) rfl rfl (Nat.le_of_ble_eq_true rfl) (Nat.le_of_ble_eq_true rfl) (Nat.le_of_ble_eq_true rfl) (fun E1 μ1 hq => WX.out rfl (no_hd _) (Nat.le_of_ble_eq_true rfl) (Nat.le_of_ble_eq_true rfl) ?_) (fun v1 μ1 hq => ?_)
  · obtain ⟨rfl, rfl, hx⟩ := hq
    rw [S_client, ar_no (n := 3) rfl (by omega) hx]
    exact ⟨Nat.one_ne_zero, rfl, g, φ, hC, sub.rf φ⟩
  · obtain ⟨rfl, rfl, h1, h2⟩ := hq
    obtain ⟨c, hc, rfl⟩ := ar_ok (n := 3) rfl (by omega) h1 h2
    refine wp_iload_n d_Log_client_5 rfl rfl ?_
    refine wp_bipush (v := 8) d_Log_client_6 (by decide) ?_
    refine wx_callS d_Log_client_8 cs_Log_65 cd_Log_requireWithin ⟨by decide, by decide⟩ (ct_requireWithin G μ1 y 8) rfl rfl (Nat.le_of_ble_eq_true rfl) (Nat.le_of_ble_eq_true rfl) (Nat.le_of_ble_eq_true rfl) (fun E1 μ1 hq => WX.out rfl (no_hd _) (Nat.le_of_ble_eq_true rfl) (Nat.le_of_ble_eq_true rfl) ?_) (fun v1 μ1 hq => ?_)
    · obtain ⟨rfl, rfl, hx⟩ := hq
      rw [S_client, ar_nI hc (by omega), ar_no (n := 8) rfl (by omega) hx]
      exact ⟨Nat.one_ne_zero, rfl, g, φ, hC, sub.rf φ⟩
    · obtain ⟨rfl, rfl, h1, h2⟩ := hq
      obtain ⟨w, hw, rfl⟩ := ar_ok (n := 8) rfl (by omega) h1 h2
      have hS : S_client (nI c) (nI w) σ δ = (0, ciS c w σ δ, σ, δ) := by rw [S_client, ar_nI hc (by omega), ar_nI hw (by omega)]
      rw [hS]
      obtain ⟨a0, a1, f0, f1, k0, k1, k2, k3, k4⟩ := hC.kn hc
      refine wp_aload_n d_Log_client_11 rfl rfl ?_
      refine wp_get d_Log_client_12 fl_Log_17 (by first | exact hR.log | exact hR.car | exact hR.cli hc | exact k0 | exact hR.age hc) (by rfl) ?_
      refine wp_iload_n d_Log_client_15 rfl rfl ?_
      refine wp_aald d_Log_client_16 (t := 4) (C := "SharedLog$Client") rfl (by first | exact hR.log | exact hR.car | exact hR.cli hc | exact k0 | exact hR.age hc) (by rfl) (by assumption) (by omega) (by rfl) ?_
      refine wp_astore_n d_Log_client_17 rfl (by decide) ?_
      refine wp_iload_n d_Log_client_18 rfl rfl ?_
      rcases (show w = 0 ∨ w = 1 ∨ (2 ≤ w ∧ w < 6) ∨ w = 6 ∨ w = 7 ∨ w = 8 by omega) with rfl | rfl | hw2 | rfl | rfl | rfl
      · refine wp_tableIn (off := 49) (tgt := 68) d_Log_client_19 (by decide) (by decide) (by decide) (by decide) ?_
        refine wp_aload_n d_Log_client_68 rfl rfl ?_
        refine wp_get d_Log_client_69 fl_Log_80 (by first | exact hR.log | exact hR.car | exact hR.cli hc | exact k0 | exact hR.age hc) (by rfl) ?_
        refine wp_get d_Log_client_72 fl_Log_119 (by first | exact hR.log | exact hR.car | exact hR.cli hc | exact k0 | exact hR.age hc) (by rfl) ?_
        exact wp_iret d_Log_client_75 rfl (by decide) (by decide) ⟨rfl, rfl, g, φ, hC, sub.rf φ⟩
      · refine wp_tableIn (off := 57) (tgt := 76) d_Log_client_19 (by decide) (by decide) (by decide) (by decide) ?_
        refine wp_aload_n d_Log_client_76 rfl rfl ?_
        refine wp_get d_Log_client_77 fl_Log_172 (by first | exact hR.log | exact hR.car | exact hR.cli hc | exact k0 | exact hR.age hc) (by rfl) ?_
        exact wp_iret d_Log_client_80 rfl (by decide) (by decide) ⟨rfl, rfl, g, φ, hC, sub.rf φ⟩
      · have hj : WP G M_Log_client (EC G M_Log_client (PostC G φ ad (0, ciS c w σ δ, σ, δ)) (PxC G φ ad ex1 (0, ciS c w σ δ, σ, δ))) [(2, .int (nI w)), (3, .ref (ad (16 + c)))] 109 [] μ1 2 12 := by
          refine wp_aload_n d_Log_client_109 rfl rfl ?_
          refine wp_get d_Log_client_110 fl_Log_202 (by first | exact hR.log | exact hR.car | exact hR.cli hc | exact k0 | exact hR.age hc) (by rfl) ?_
          refine wp_iload_n d_Log_client_113 rfl rfl ?_
          refine wp_iconst (v := 2) d_Log_client_114 (by decide) ?_
          refine wp_isub d_Log_client_115 ?_
          refine wp_iald d_Log_client_116 (by first | exact hR.log | exact hR.car | exact hR.cli hc | exact k0 | exact hR.age hc) (by exact pk_sub (b := 2) (by omega)) (by omega) (by omega) ?_
          refine wp_iret d_Log_client_117 rfl (by decide) (by decide) ⟨rfl, ?_, g, φ, hC, sub.rf φ⟩
          show _ = some (Value.int (ciS c w σ δ))
          unfold ciS
          rw [if_neg (by omega), if_neg (by omega), if_pos (by omega)]
        rcases (show w = 2 ∨ w = 3 ∨ w = 4 ∨ w = 5 by omega) with rfl | rfl | rfl | rfl
        · exact wp_tableIn (off := 90) (tgt := 109) d_Log_client_19 (by decide) (by decide) (by decide) (by decide) (WP.loc _ rfl hj)
        · exact wp_tableIn (off := 90) (tgt := 109) d_Log_client_19 (by decide) (by decide) (by decide) (by decide) (WP.loc _ rfl hj)
        · exact wp_tableIn (off := 90) (tgt := 109) d_Log_client_19 (by decide) (by decide) (by decide) (by decide) (WP.loc _ rfl hj)
        · exact wp_tableIn (off := 90) (tgt := 109) d_Log_client_19 (by decide) (by decide) (by decide) (by decide) (WP.loc _ rfl hj)
      · refine wp_tableIn (off := 62) (tgt := 81) d_Log_client_19 (by decide) (by decide) (by decide) (by decide) ?_
        refine wp_aload_n d_Log_client_81 rfl rfl ?_
        refine wp_get d_Log_client_82 fl_Log_80 (by first | exact hR.log | exact hR.car | exact hR.cli hc | exact k0 | exact hR.age hc) (by rfl) ?_
        refine wp_iload_n d_Log_client_85 rfl rfl ?_
        refine wp_bipush (v := 6) d_Log_client_86 (by decide) ?_
        refine wp_isub d_Log_client_88 ?_
        refine wx_callV d_Log_client_89 cv_Log_138 cd_Layout_chain ⟨by decide, by decide⟩ (ct_chain G μ1 _ a0 a1 _ _ k0) (by exact k0) rfl rfl (Nat.le_of_ble_eq_true rfl) (Nat.le_of_ble_eq_true rfl) (Nat.le_of_ble_eq_true rfl) (fun E1 μ1 hq => WX.out rfl (no_hd _) (Nat.le_of_ble_eq_true rfl) (Nat.le_of_ble_eq_true rfl) ?_) (fun v1 μ1 hq => ?_)
        · exact hq.elim
        · obtain ⟨rfl, rfl⟩ := hq
          rw [if_pos (by decide)]
          refine wx_callS d_Log_client_92 cs_Log_219 cd_Log_digitsOf ⟨by decide, by decide⟩ (ct_digitsOf G μ1 (hI.1 (1 + c) 0 (by omega) (by omega)) k1 k3) rfl rfl (Nat.le_of_ble_eq_true rfl) (Nat.le_of_ble_eq_true rfl) (Nat.le_of_ble_eq_true rfl) (fun E1 μ1 hq => WX.out rfl (no_hd _) (Nat.le_of_ble_eq_true rfl) (Nat.le_of_ble_eq_true rfl) ?_) (fun v1 μ1 hq => ?_)
          · exact hq.elim
          · obtain ⟨rfl, rfl⟩ := hq
            exact wp_iret d_Log_client_95 rfl (by decide) (by decide) ⟨rfl, rfl, g, φ, hC, sub.rf φ⟩
      · refine wp_tableIn (off := 62) (tgt := 81) d_Log_client_19 (by decide) (by decide) (by decide) (by decide) ?_
        refine wp_aload_n d_Log_client_81 rfl rfl ?_
        refine wp_get d_Log_client_82 fl_Log_80 (by first | exact hR.log | exact hR.car | exact hR.cli hc | exact k0 | exact hR.age hc) (by rfl) ?_
        refine wp_iload_n d_Log_client_85 rfl rfl ?_
        refine wp_bipush (v := 6) d_Log_client_86 (by decide) ?_
        refine wp_isub d_Log_client_88 ?_
        refine wx_callV d_Log_client_89 cv_Log_138 cd_Layout_chain ⟨by decide, by decide⟩ (ct_chain G μ1 _ a0 a1 _ _ k0) (by exact k0) rfl rfl (Nat.le_of_ble_eq_true rfl) (Nat.le_of_ble_eq_true rfl) (Nat.le_of_ble_eq_true rfl) (fun E1 μ1 hq => WX.out rfl (no_hd _) (Nat.le_of_ble_eq_true rfl) (Nat.le_of_ble_eq_true rfl) ?_) (fun v1 μ1 hq => ?_)
        · exact hq.elim
        · obtain ⟨rfl, rfl⟩ := hq
          rw [if_neg (by decide)]
          refine wx_callS d_Log_client_92 cs_Log_219 cd_Log_digitsOf ⟨by decide, by decide⟩ (ct_digitsOf G μ1 (hI.1 (1 + c) 1 (by omega) (by omega)) k2 k4) rfl rfl (Nat.le_of_ble_eq_true rfl) (Nat.le_of_ble_eq_true rfl) (Nat.le_of_ble_eq_true rfl) (fun E1 μ1 hq => WX.out rfl (no_hd _) (Nat.le_of_ble_eq_true rfl) (Nat.le_of_ble_eq_true rfl) ?_) (fun v1 μ1 hq => ?_)
          · exact hq.elim
          · obtain ⟨rfl, rfl⟩ := hq
            exact wp_iret d_Log_client_95 rfl (by decide) (by decide) ⟨rfl, rfl, g, φ, hC, sub.rf φ⟩
      · refine wp_tableIn (off := 77) (tgt := 96) d_Log_client_19 (by decide) (by decide) (by decide) (by decide) ?_
        refine wp_aload_n d_Log_client_96 rfl rfl ?_
        refine wp_get d_Log_client_97 fl_Log_179 (by first | exact hR.log | exact hR.car | exact hR.cli hc | exact k0 | exact hR.age hc) (by rfl) ?_
        refine wp_if_eq (tgt := 107) d_Log_client_100 (by decide) (fun c100 => ?_) (fun c100 => ?_)
        · refine wp_iconst (v := 0) d_Log_client_107 (by decide) ?_
          exact wp_iret d_Log_client_108 rfl (by decide) (by decide) ⟨rfl, by show _ = some (Value.int (if σ (16 + c) 3 = 0 then 0 else 1)); rw [if_pos c100], g, φ, hC, sub.rf φ⟩
        · refine wp_iconst (v := 1) d_Log_client_103 (by decide) ?_
          refine wp_goto (tgt := 108) d_Log_client_104 (by decide) ?_
          exact wp_iret d_Log_client_108 rfl (by decide) (by decide) ⟨rfl, by show _ = some (Value.int (if σ (16 + c) 3 = 0 then 0 else 1)); rw [if_neg c100], g, φ, hC, sub.rf φ⟩
def cnS (w : Nat) (σ : sg) : Int32 := if w = 0 then σ 500 0 else if w = 1 then σ 3 1 else if w = 2 then σ 3 2 else if w = 3 then (if σ 3 0 = 0 then 0 else 1) else σ w 2
def S_count (y : Int32) (σ : sg) (δ : dg) : RS := match ar y 10 with
  | some w => (0, cnS w σ, σ, δ)
  | none => (1, 0, σ, δ)
set_option maxHeartbeats 4000000 in
set_option maxRecDepth 10000 in
theorem ct_count (hC : Cx G μ φ ad g σ δ) (y : Int32) : CT G M_Log_count [.ref (ad 0), .int y] μ (PostC G φ ad (S_count y σ δ)) (PxC G φ ad ex1 (S_count y σ δ)) := by
  have hR := hC.R
  refine CT.of (by decide) rfl (Nat.le_of_ble_eq_true rfl) ?_
  refine wp_iload_n d_Log_count_0 rfl rfl ?_
  refine wp_bipush (v := 9) d_Log_count_1 (by decide) ?_
  refine wx_callS d_Log_count_3 cs_Log_65 cd_Log_requireWithin ⟨by decide, by decide⟩ (ct_requireWithin G μ y 9) rfl rfl (Nat.le_of_ble_eq_true rfl) (Nat.le_of_ble_eq_true rfl) (Nat.le_of_ble_eq_true rfl) (fun E1 μ1 hq => WX.out rfl (no_hd _) (Nat.le_of_ble_eq_true rfl) (Nat.le_of_ble_eq_true rfl) ?_) (fun v1 μ1 hq => ?_)
  · obtain ⟨rfl, rfl, hx⟩ := hq
    rw [S_count, ar_no (n := 9) rfl (by omega) hx]
    exact ⟨Nat.one_ne_zero, rfl, g, φ, hC, sub.rf φ⟩
  · obtain ⟨rfl, rfl, h1, h2⟩ := hq
    obtain ⟨w, hw, rfl⟩ := ar_ok (n := 9) rfl (by omega) h1 h2
    have hS : S_count (nI w) σ δ = (0, cnS w σ, σ, δ) := by rw [S_count, ar_nI hw (by omega)]
    rw [hS]
    obtain ⟨a0, a1, f0, f1, k0, -⟩ := hC.2.2.2.2.2.2.1
    refine wp_iload_n d_Log_count_6 rfl rfl ?_
    rcases (show w = 0 ∨ w = 1 ∨ w = 2 ∨ w = 3 ∨ 4 ≤ w by omega) with rfl | rfl | rfl | rfl | hw4
    · refine wp_tableIn (off := 29) (tgt := 36) d_Log_count_7 (by decide) (by decide) (by decide) (by decide) ?_
      refine wp_aload_n d_Log_count_36 rfl rfl ?_
      refine wp_get d_Log_count_37 fl_Log_55 (by first | exact hR.log | exact hR.seq | exact hC.at k0 | exact hR.uar) (by rfl) ?_
      refine wp_get d_Log_count_40 fl_Log_119 (by first | exact hR.log | exact hR.seq | exact hC.at k0 | exact hR.uar) (by rfl) ?_
      exact wp_iret d_Log_count_43 rfl (by decide) (by decide) ⟨rfl, rfl, g, φ, hC, sub.rf φ⟩
    · refine wp_tableIn (off := 37) (tgt := 44) d_Log_count_7 (by decide) (by decide) (by decide) (by decide) ?_
      refine wp_aload_n d_Log_count_44 rfl rfl ?_
      refine wp_get d_Log_count_45 fl_Log_24 (by first | exact hR.log | exact hR.seq | exact hC.at k0 | exact hR.uar) (by rfl) ?_
      refine wp_get d_Log_count_48 fl_Log_223 (by first | exact hR.log | exact hR.seq | exact hC.at k0 | exact hR.uar) (by rfl) ?_
      exact wp_iret d_Log_count_51 rfl (by decide) (by decide) ⟨rfl, rfl, g, φ, hC, sub.rf φ⟩
    · refine wp_tableIn (off := 45) (tgt := 52) d_Log_count_7 (by decide) (by decide) (by decide) (by decide) ?_
      refine wp_aload_n d_Log_count_52 rfl rfl ?_
      refine wp_get d_Log_count_53 fl_Log_24 (by first | exact hR.log | exact hR.seq | exact hC.at k0 | exact hR.uar) (by rfl) ?_
      refine wp_get d_Log_count_56 fl_Log_152 (by first | exact hR.log | exact hR.seq | exact hC.at k0 | exact hR.uar) (by rfl) ?_
      exact wp_iret d_Log_count_59 rfl (by decide) (by decide) ⟨rfl, rfl, g, φ, hC, sub.rf φ⟩
    · refine wp_tableIn (off := 53) (tgt := 60) d_Log_count_7 (by decide) (by decide) (by decide) (by decide) ?_
      refine wp_aload_n d_Log_count_60 rfl rfl ?_
      refine wp_get d_Log_count_61 fl_Log_24 (by first | exact hR.log | exact hR.seq | exact hC.at k0 | exact hR.uar) (by rfl) ?_
      refine wp_get d_Log_count_64 fl_Log_161 (by first | exact hR.log | exact hR.seq | exact hC.at k0 | exact hR.uar) (by rfl) ?_
      refine wp_if_eq (tgt := 74) d_Log_count_67 (by decide) (fun c67 => ?_) (fun c67 => ?_)
      · refine wp_iconst (v := 0) d_Log_count_74 (by decide) ?_
        exact wp_iret d_Log_count_75 rfl (by decide) (by decide) ⟨rfl, by show _ = some (Value.int (if σ 3 0 = 0 then 0 else 1)); rw [if_pos c67], g, φ, hC, sub.rf φ⟩
      · refine wp_iconst (v := 1) d_Log_count_70 (by decide) ?_
        refine wp_goto (tgt := 75) d_Log_count_71 (by decide) ?_
        exact wp_iret d_Log_count_75 rfl (by decide) (by decide) ⟨rfl, by show _ = some (Value.int (if σ 3 0 = 0 then 0 else 1)); rw [if_neg c67], g, φ, hC, sub.rf φ⟩
    · refine wp_tableOut (tgt := 76) d_Log_count_7 (Or.inr (by rw [nI_toInt (by omega)]; omega)) (by decide) ?_
      obtain ⟨u, rfl⟩ : ∃ u, w = 4 + u := ⟨w - 4, by omega⟩
      have hu : u < 6 := by omega
      refine wp_aload_n d_Log_count_76 rfl rfl ?_
      refine wp_get d_Log_count_77 fl_Log_11 (by first | exact hR.log | exact hR.seq | exact hC.at k0 | exact hR.uar) (by rfl) ?_
      refine wp_iload_n d_Log_count_80 rfl rfl ?_
      refine wp_iconst (v := 4) d_Log_count_81 (by decide) ?_
      refine wp_isub d_Log_count_82 ?_
      refine wp_aald d_Log_count_83 (t := 3) (C := "SharedLog$Unit") rfl (by first | exact hR.log | exact hR.seq | exact hC.at k0 | exact hR.uar) (by exact (pk_sub (b := 4) (by omega)).trans (by rw [show 4 + u - 4 = u by omega])) (by exact hu) (by omega) (by rfl) ?_
      refine wp_get d_Log_count_84 fl_Log_158 (by exact hR.unit hu) (by rfl) ?_
      refine wp_iret d_Log_count_87 rfl (by decide) (by decide) ⟨rfl, ?_, g, φ, hC, sub.rf φ⟩
      show _ = some (Value.int (cnS (4 + u) σ))
      unfold cnS
      rw [if_neg (by omega), if_neg (by omega), if_neg (by omega), if_neg (by omega)]
end Pub6
end
section
/-! THE CLASS'S FACE: change -/
def RwA (G : mt_G) (μ : mu_M) (a d : Nat) : Prop := ∃ f : Nat → Int32, μ a = some (.inl (G.2.2.1 0, ln d, .inl f)) ∧ ∀ i, i < ln d → f i = nI (un d i)
theorem RwA.mono {G : mt_G} {μ μ' : mu_M} {a d : Nat} (h : RwA G μ a d) (hs : sub μ μ') : RwA G μ' a d := by
  obtain ⟨f, h1, h2⟩ := h
  exact ⟨f, hs _ _ h1, h2⟩
/-- how many of the first n units of a row are up -/
def ucS (σ : sg) (d : Nat) : Nat → Nat
  | 0 => 0
  | i + 1 => if σ (4 + un d i) 1 = 0 then ucS σ d i else ucS σ d i + 1
theorem ucS_le (σ : sg) (d : Nat) : ∀ n, ucS σ d n ≤ n
  | 0 => Nat.le_refl 0
  | n + 1 => by
    have := ucS_le σ d n
    unfold ucS
    split <;> omega
section Chg
variable {G : mt_G} {μ φ : mu_M} {ad : Nat → Nat} {g : dg} {σ : sg} {δ : dg}
set_option maxHeartbeats 4000000 in
set_option maxRecDepth 10000 in
theorem ct_upCount (hC : Cx G μ φ ad g σ δ) {a d : Nat} (hd : vr d = true) (ha : RwA G μ a d) : CT G M_Log_upCount [.ref (ad 0), .ref a] μ (fun v μ' => v = some (.int (nI (ucS σ d (ln d)))) ∧ μ' = μ) (fun _ _ => False) := by
  obtain ⟨f, ha, hf⟩ := ha
  have hR := hC.R
  have hln := ln_pos d
  refine CT.of (by decide) rfl (Nat.le_of_ble_eq_true rfl) ?_
  refine wp_iconst (v := 0) d_Log_upCount_0 (by decide) ?_
  refine wp_istore_n d_Log_upCount_1 rfl (by decide) ?_
  refine wp_iconst (v := 0) d_Log_upCount_2 (by decide) ?_
  refine wp_istore_n d_Log_upCount_3 rfl (by decide) ?_
  have loop : ∀ (n i : Nat), i + n = ln d → WP G M_Log_upCount (EC G M_Log_upCount (fun v μ' => v = some (.int (nI (ucS σ d (ln d)))) ∧ μ' = μ) (fun _ _ => False)) [(0, .ref (ad 0)), (1, .ref a), (2, .int (nI (ucS σ d i))), (3, .int (nI i))] 4 [] μ 0 0 := by
    intro n
    induction n with
    | zero =>
      intro i hi
      obtain rfl : i = ln d := by omega
      refine wp_iload_n d_Log_upCount_4 rfl rfl ?_
      refine wp_aload_n d_Log_upCount_5 rfl rfl ?_
      refine wp_alen d_Log_upCount_6 (by exact (rfl : (TYS G.2.2.1)[0]? = some (G.2.2.1 0, .int))) (by first | exact ha | exact hR.log | exact hR.uar) ?_
      refine wp_icmp_ge (tgt := 33) d_Log_upCount_7 (by decide) (fun c7 => ?_) (fun c7 => ?_)
      · refine wp_iload_n d_Log_upCount_33 rfl rfl ?_
        exact wp_iret d_Log_upCount_34 rfl (by decide) (by decide) ⟨rfl, rfl⟩
      · exact absurd ((nI_leI (by omega) (by omega)).mpr (Nat.le_refl _)) c7
    | succ n ih =>
      intro i hi
      have hil : i < ln d := by omega
      have hu : un d i < 6 := vr_un hd hil
      refine wp_iload_n d_Log_upCount_4 rfl rfl ?_
      refine wp_aload_n d_Log_upCount_5 rfl rfl ?_
      refine wp_alen d_Log_upCount_6 (by exact (rfl : (TYS G.2.2.1)[0]? = some (G.2.2.1 0, .int))) (by first | exact ha | exact hR.log | exact hR.uar) ?_
      refine wp_icmp_ge (tgt := 33) d_Log_upCount_7 (by decide) (fun c7 => ?_) (fun c7 => ?_)
      · exact absurd ((nI_leI (by omega) (by omega)).mp c7) (by omega)
      refine wp_aload_n d_Log_upCount_10 rfl rfl ?_
      refine wp_get d_Log_upCount_11 fl_Log_11 (by first | exact ha | exact hR.log | exact hR.uar) (by rfl) ?_
      refine wp_aload_n d_Log_upCount_14 rfl rfl ?_
      refine wp_iload_n d_Log_upCount_15 rfl rfl ?_
      refine wp_iald d_Log_upCount_16 (by first | exact ha | exact hR.log | exact hR.uar) (by rfl) (by exact hil) (by omega) ?_
      rw [hf i hil]
      refine wp_aald d_Log_upCount_17 (t := 3) (C := "SharedLog$Unit") rfl (by first | exact ha | exact hR.log | exact hR.uar) (by rfl) (by exact hu) (by omega) (by rfl) ?_
      refine wp_get d_Log_upCount_18 fl_Log_154 (by exact hR.unit hu) (by rfl) ?_
      refine wp_if_eq (tgt := 27) d_Log_upCount_21 (by decide) (fun c21 => ?_) (fun c21 => ?_)
      · refine wp_iinc d_Log_upCount_27 rfl rfl (by decide) ?_
        refine wp_goto (tgt := 4) d_Log_upCount_30 (by decide) ?_
        exact WP.loc [(0, .ref (ad 0)), (1, .ref a), (2, .int (nI (ucS σ d (i + 1)))), (3, .int (nI (i + 1)))] (by rw [← nI_1 i, ucS, if_pos c21]; rfl) (ih (i + 1) (by omega))
      · refine wp_iinc d_Log_upCount_24 rfl rfl (by decide) ?_
        refine wp_iinc d_Log_upCount_27 rfl rfl (by decide) ?_
        refine wp_goto (tgt := 4) d_Log_upCount_30 (by decide) ?_
        exact WP.loc [(0, .ref (ad 0)), (1, .ref a), (2, .int (nI (ucS σ d (i + 1)))), (3, .int (nI (i + 1)))] (by rw [← nI_1 i, ucS, if_neg c21, ← nI_1 (ucS σ d i)]; rfl) (ih (i + 1) (by omega))
  exact WP.loc _ rfl (loop (ln d) 0 (by omega))
/-- the up units of a row are sealed -/
def slS (d : Nat) (e : Int32) : Nat → sg → sg
  | 0, σ => σ
  | i + 1, σ => if slS d e i σ (4 + un d i) 1 = 0 then slS d e i σ else up2 (slS d e i σ) (4 + un d i) 2 e
set_option maxHeartbeats 4000000 in
set_option maxRecDepth 10000 in
theorem ct_sealRow (hC : Cx G μ φ ad g σ δ) {a d : Nat} {e : Int32} (hd : vr d = true) (ha : RwA G φ a d) : CT G M_Log_sealRow [.ref (ad 0), .ref a, .int e] μ (fun v μ' => v = none ∧ Cx G μ' φ ad g (slS d e (ln d) σ) δ) (fun _ _ => False) := by
  obtain ⟨f, ha, hf⟩ := ha
  have hln := ln_pos d
  refine CT.of (by decide) rfl (Nat.le_of_ble_eq_true rfl) ?_
  refine wp_iconst (v := 0) d_Log_sealRow_0 (by decide) ?_
  refine wp_istore_n d_Log_sealRow_1 rfl (by decide) ?_
  have loop : ∀ (n i : Nat) (μ1 : mu_M), i + n = ln d → Cx G μ1 φ ad g (slS d e i σ) δ → WP G M_Log_sealRow (EC G M_Log_sealRow (fun v μ' => v = none ∧ Cx G μ' φ ad g (slS d e (ln d) σ) δ) (fun _ _ => False)) [(0, .ref (ad 0)), (1, .ref a), (2, .int e), (3, .int (nI i))] 2 [] μ1 0 0 := by
    intro n
    induction n with
    | zero =>
      intro i μ1 hi hC1
      obtain rfl : i = ln d := by omega
      refine wp_iload_n d_Log_sealRow_2 rfl rfl ?_
      refine wp_aload_n d_Log_sealRow_3 rfl rfl ?_
      refine wp_alen d_Log_sealRow_4 (by exact (rfl : (TYS G.2.2.1)[0]? = some (G.2.2.1 0, .int))) (by exact hC1.at ha) ?_
      refine wp_icmp_ge (tgt := 38) d_Log_sealRow_5 (by decide) (fun c5 => ?_) (fun c5 => ?_)
      · exact wp_vret d_Log_sealRow_38 rfl (by decide) (by decide) ⟨rfl, hC1⟩
      · exact absurd ((nI_leI (by omega) (by omega)).mpr (Nat.le_refl _)) c5
    | succ n ih =>
      intro i μ1 hi hC1
      have hR1 := hC1.R
      have hil : i < ln d := by omega
      have hu : un d i < 6 := vr_un hd hil
      refine wp_iload_n d_Log_sealRow_2 rfl rfl ?_
      refine wp_aload_n d_Log_sealRow_3 rfl rfl ?_
      refine wp_alen d_Log_sealRow_4 (by exact (rfl : (TYS G.2.2.1)[0]? = some (G.2.2.1 0, .int))) (by first | exact hC1.at ha | exact hR1.log | exact hR1.uar) ?_
      refine wp_icmp_ge (tgt := 38) d_Log_sealRow_5 (by decide) (fun c5 => ?_) (fun c5 => ?_)
      · exact absurd ((nI_leI (by omega) (by omega)).mp c5) (by omega)
      refine wp_aload_n d_Log_sealRow_8 rfl rfl ?_
      refine wp_get d_Log_sealRow_9 fl_Log_11 (by first | exact hC1.at ha | exact hR1.log | exact hR1.uar) (by rfl) ?_
      refine wp_aload_n d_Log_sealRow_12 rfl rfl ?_
      refine wp_iload_n d_Log_sealRow_13 rfl rfl ?_
      refine wp_iald d_Log_sealRow_14 (by first | exact hC1.at ha | exact hR1.log | exact hR1.uar) (by rfl) (by exact hil) (by omega) ?_
      rw [hf i hil]
      refine wp_aald d_Log_sealRow_15 (t := 3) (C := "SharedLog$Unit") rfl (by first | exact hC1.at ha | exact hR1.log | exact hR1.uar) (by rfl) (by exact hu) (by omega) (by rfl) ?_
      refine wp_astore d_Log_sealRow_16 (by decide) ?_
      refine wp_aload d_Log_sealRow_18 rfl ?_
      refine wp_get d_Log_sealRow_20 fl_Log_154 (by exact hR1.unit hu) (by rfl) ?_
      refine wp_if_eq (tgt := 32) d_Log_sealRow_23 (by decide) (fun c23 => ?_) (fun c23 => ?_)
      · refine wp_iinc d_Log_sealRow_32 rfl rfl (by decide) ?_
        refine wp_goto (tgt := 2) d_Log_sealRow_35 (by decide) ?_
        refine WP.loc [(0, .ref (ad 0)), (1, .ref a), (2, .int e), (3, .int (nI (i + 1)))] (by rw [← nI_1 i]; rfl) (ih (i + 1) μ1 (by omega) ?_)
        rw [slS, if_pos c23]; exact hC1
      · refine wp_aload d_Log_sealRow_26 rfl ?_
        refine wp_iload_n d_Log_sealRow_28 rfl rfl ?_
        refine wp_put d_Log_sealRow_29 fp_Log_158 (by exact hR1.unit hu) (by exact hC1.B (by omega)) (by rfl) (by rfl) (Nat.le_of_ble_eq_true rfl) ?_
        refine wp_iinc d_Log_sealRow_32 rfl rfl (by decide) ?_
        refine wp_goto (tgt := 2) d_Log_sealRow_35 (by decide) ?_
        have hC2 := hC1.reg (by omega) (hR1.pSeal (x := e) hu) (hC1.z.up (by omega))
        refine WP.loc [(0, .ref (ad 0)), (1, .ref a), (2, .int e), (3, .int (nI (i + 1)))] (by rw [← nI_1 i]; rfl) (ih (i + 1) _ (by omega) ?_)
        rw [slS, if_neg c23]; exact hC2
  exact WP.loc _ rfl (loop (ln d) 0 μ (by omega) hC)
set_option maxHeartbeats 4000000 in
set_option maxRecDepth 10000 in
theorem ct_sealAll (hC : Cx G μ φ ad g σ δ) {la b d : Nat} {ep e : Int32} {dl : Nat → Nat} (hL : FL G φ la ep dl) (hdl : ∀ ch, ch < 2 → vr (dl ch) = true) (hd : vr d = true) (hb : RwA G φ b d) :
    CT G M_Log_sealAll [.ref (ad 0), .ref la, .ref b, .int e] μ (fun v μ' => v = none ∧ Cx G μ' φ ad g (slS d e (ln d) (slS (dl 1) e (ln (dl 1)) (slS (dl 0) e (ln (dl 0)) σ))) δ) (fun _ _ => False) := by
  obtain ⟨a0, a1, f0, f1, l0, l1, l2, l3, l4⟩ := hL
  refine CT.of (by decide) rfl (Nat.le_of_ble_eq_true rfl) ?_
  refine wp_iconst (v := 0) d_Log_sealAll_0 (by decide) ?_
  refine wp_istore d_Log_sealAll_1 (by decide) ?_
  refine wp_iload d_Log_sealAll_3 rfl ?_
  refine wp_iconst (v := 2) d_Log_sealAll_5 (by decide) ?_
  refine wp_icmp_ge (tgt := 26) d_Log_sealAll_6 (by decide) (fun c6 => ?_) (fun c6 => ?_)
  · exact absurd c6 (by decide)
  refine wp_aload_n d_Log_sealAll_9 rfl rfl ?_
  refine wp_aload_n d_Log_sealAll_10 rfl rfl ?_
  refine wp_iload d_Log_sealAll_11 rfl ?_
  refine wx_callV d_Log_sealAll_13 cv_Log_138 cd_Layout_chain ⟨by decide, by decide⟩ (ct_chain G μ la a0 a1 _ _ (hC.at l0)) (by exact hC.at l0) rfl rfl (Nat.le_of_ble_eq_true rfl) (Nat.le_of_ble_eq_true rfl) (Nat.le_of_ble_eq_true rfl) (fun E1 μ1 hq => WX.out rfl (no_hd _) (Nat.le_of_ble_eq_true rfl) (Nat.le_of_ble_eq_true rfl) ?_) (fun v1 μ1 hq => ?_)
  · exact hq.elim
  obtain ⟨rfl, rfl⟩ := hq
  rw [if_pos rfl]
  refine wp_iload_n d_Log_sealAll_16 rfl rfl ?_
  refine wx_callV d_Log_sealAll_17 cv_Log_273 cd_Log_sealRow ⟨by decide, by decide⟩ (ct_sealRow hC (hdl 0 (by decide)) ⟨f0, l1, l3⟩) (by exact hC.R.log) rfl rfl (Nat.le_of_ble_eq_true rfl) (Nat.le_of_ble_eq_true rfl) (Nat.le_of_ble_eq_true rfl) (fun E1 μ2 hq => WX.out rfl (no_hd _) (Nat.le_of_ble_eq_true rfl) (Nat.le_of_ble_eq_true rfl) ?_) (fun v1 μ2 hq => ?_)
  · exact hq.elim
  obtain ⟨rfl, hC1⟩ := hq
  refine wp_iinc d_Log_sealAll_20 rfl rfl (by decide) ?_
  refine wp_goto (tgt := 3) d_Log_sealAll_23 (by decide) ?_
  refine wp_iload d_Log_sealAll_3 rfl ?_
  refine wp_iconst (v := 2) d_Log_sealAll_5 (by decide) ?_
  refine wp_icmp_ge (tgt := 26) d_Log_sealAll_6 (by decide) (fun c6 => ?_) (fun c6 => ?_)
  · exact absurd c6 (by decide)
  refine wp_aload_n d_Log_sealAll_9 rfl rfl ?_
  refine wp_aload_n d_Log_sealAll_10 rfl rfl ?_
  refine wp_iload d_Log_sealAll_11 rfl ?_
  refine wx_callV d_Log_sealAll_13 cv_Log_138 cd_Layout_chain ⟨by decide, by decide⟩ (ct_chain G μ2 la a0 a1 _ _ (hC1.at l0)) (by exact hC1.at l0) rfl rfl (Nat.le_of_ble_eq_true rfl) (Nat.le_of_ble_eq_true rfl) (Nat.le_of_ble_eq_true rfl) (fun E1 μ3 hq => WX.out rfl (no_hd _) (Nat.le_of_ble_eq_true rfl) (Nat.le_of_ble_eq_true rfl) ?_) (fun v1 μ3 hq => ?_)
  · exact hq.elim
  obtain ⟨rfl, rfl⟩ := hq
  rw [if_neg (by decide)]
  refine wp_iload_n d_Log_sealAll_16 rfl rfl ?_
  refine wx_callV d_Log_sealAll_17 cv_Log_273 cd_Log_sealRow ⟨by decide, by decide⟩ (ct_sealRow hC1 (hdl 1 (by decide)) ⟨f1, l2, l4⟩) (by exact hC1.R.log) rfl rfl (Nat.le_of_ble_eq_true rfl) (Nat.le_of_ble_eq_true rfl) (Nat.le_of_ble_eq_true rfl) (fun E1 μ4 hq => WX.out rfl (no_hd _) (Nat.le_of_ble_eq_true rfl) (Nat.le_of_ble_eq_true rfl) ?_) (fun v1 μ4 hq => ?_)
  · exact hq.elim
  obtain ⟨rfl, hC2⟩ := hq
  refine wp_iinc d_Log_sealAll_20 rfl rfl (by decide) ?_
  refine wp_goto (tgt := 3) d_Log_sealAll_23 (by decide) ?_
  refine wp_iload d_Log_sealAll_3 rfl ?_
  refine wp_iconst (v := 2) d_Log_sealAll_5 (by decide) ?_
  refine wp_icmp_ge (tgt := 26) d_Log_sealAll_6 (by decide) (fun c6 => ?_) (fun c6 => ?_)
  · refine wp_aload_n d_Log_sealAll_26 rfl rfl ?_
    refine wp_aload_n d_Log_sealAll_27 rfl rfl ?_
    refine wp_iload_n d_Log_sealAll_28 rfl rfl ?_
    refine wx_callV d_Log_sealAll_29 cv_Log_273 cd_Log_sealRow ⟨by decide, by decide⟩ (ct_sealRow hC2 hd hb) (by exact hC2.R.log) rfl rfl (Nat.le_of_ble_eq_true rfl) (Nat.le_of_ble_eq_true rfl) (Nat.le_of_ble_eq_true rfl) (fun E1 μ5 hq => WX.out rfl (no_hd _) (Nat.le_of_ble_eq_true rfl) (Nat.le_of_ble_eq_true rfl) ?_) (fun v1 μ5 hq => ?_)
    · exact hq.elim
    obtain ⟨rfl, hC3⟩ := hq
    exact wp_vret d_Log_sealAll_32 rfl (by decide) (by decide) ⟨rfl, hC3⟩
  · exact absurd (by decide) c6
/-- the first up unit of a row, from place i on, that has something at o -/
def fh (σ : sg) (d o : Nat) : Nat → Nat → Option Nat
  | 0, _ => none
  | n + 1, i => if σ (4 + un d i) 1 = 0 then fh σ d o n (i + 1) else if σ (eR (un d i) o) 0 = 0 then fh σ d o n (i + 1) else some (un d i)
def fhV (σ : sg) (d o : Nat) : Nat → Int32 := match fh σ d o (ln d) 0 with
  | some u => σ (eR u o)
  | none => vNone
set_option maxHeartbeats 4000000 in
set_option maxRecDepth 10000 in
theorem ct_firstHeld (hC : Cx G μ φ ad g σ δ) {a d o : Nat} (hd : vr d = true) (ho : o < 60) (ha : RwA G φ a d) : CT G M_Log_firstHeld [.ref (ad 0), .ref a, .int (nI o)] μ (fun v μ' => ∃ ea, v = some (.ref ea) ∧ FE G φ ea (fhV σ d o) ∧ μ' = μ) (fun _ _ => False) := by
  obtain ⟨f, ha, hf⟩ := ha
  have hln := ln_pos d
  have hR := hC.R
  refine CT.of (by decide) rfl (Nat.le_of_ble_eq_true rfl) ?_
  refine wp_iconst (v := 0) d_Log_firstHeld_0 (by decide) ?_
  refine wp_istore_n d_Log_firstHeld_1 rfl (by decide) ?_
  have loop : ∀ (n i : Nat), i + n = ln d → fh σ d o n i = fh σ d o (ln d) 0 → WP G M_Log_firstHeld (EC G M_Log_firstHeld (fun v μ' => ∃ ea, v = some (.ref ea) ∧ FE G φ ea (fhV σ d o) ∧ μ' = μ) (fun _ _ => False)) [(0, .ref (ad 0)), (1, .ref a), (2, .int (nI o)), (3, .int (nI i))] 2 [] μ 0 0 := by
    intro n
    induction n with
    | zero =>
      intro i hi hh
      obtain rfl : i = ln d := by omega
      refine wp_iload_n d_Log_firstHeld_2 rfl rfl ?_
      refine wp_aload_n d_Log_firstHeld_3 rfl rfl ?_
      refine wp_alen d_Log_firstHeld_4 (by exact (rfl : (TYS G.2.2.1)[0]? = some (G.2.2.1 0, .int))) (by first | exact hC.at ha | exact hR.log | exact hR.uar) ?_
      refine wp_icmp_ge (tgt := 49) d_Log_firstHeld_5 (by decide) (fun c5 => ?_) (fun c5 => ?_)
      · refine wp_aload_n d_Log_firstHeld_49 rfl rfl ?_
        refine wp_get d_Log_firstHeld_50 fl_Log_36 (by first | exact hC.at ha | exact hR.log | exact hR.uar) (by rfl) ?_
        refine wp_aret d_Log_firstHeld_53 rfl (Or.inl ⟨_, rfl⟩) (by decide) (by decide) ⟨_, rfl, ?_, rfl⟩
        unfold fhV
        rw [← hh]
        exact hC.2.2.2.1
      · exact absurd ((nI_leI (by omega) (by omega)).mpr (Nat.le_refl _)) c5
    | succ n ih =>
      intro i hi hh
      have hil : i < ln d := by omega
      have hu : un d i < 6 := vr_un hd hil
      obtain ⟨w1, he1, -⟩ := hC.ent hu ho
      refine wp_iload_n d_Log_firstHeld_2 rfl rfl ?_
      refine wp_aload_n d_Log_firstHeld_3 rfl rfl ?_
      refine wp_alen d_Log_firstHeld_4 (by exact (rfl : (TYS G.2.2.1)[0]? = some (G.2.2.1 0, .int))) (by first | exact hC.at ha | exact hR.log | exact hR.uar) ?_
      refine wp_icmp_ge (tgt := 49) d_Log_firstHeld_5 (by decide) (fun c5 => ?_) (fun c5 => ?_)
      · exact absurd ((nI_leI (by omega) (by omega)).mp c5) (by omega)
      refine wp_aload_n d_Log_firstHeld_8 rfl rfl ?_
      refine wp_get d_Log_firstHeld_9 fl_Log_11 (by first | exact hC.at ha | exact hR.log | exact hR.uar) (by rfl) ?_
      refine wp_aload_n d_Log_firstHeld_12 rfl rfl ?_
      refine wp_iload_n d_Log_firstHeld_13 rfl rfl ?_
      refine wp_iald d_Log_firstHeld_14 (by first | exact hC.at ha | exact hR.log | exact hR.uar) (by rfl) (by exact hil) (by omega) ?_
      rw [hf i hil]
      refine wp_aald d_Log_firstHeld_15 (t := 3) (C := "SharedLog$Unit") rfl (by first | exact hC.at ha | exact hR.log | exact hR.uar) (by rfl) (by exact hu) (by omega) (by rfl) ?_
      refine wp_astore d_Log_firstHeld_16 (by decide) ?_
      refine wp_aload d_Log_firstHeld_18 rfl ?_
      refine wp_get d_Log_firstHeld_20 fl_Log_154 (by first | exact hR.unit hu | exact hR.cells hu) (by rfl) ?_
      have next : fh σ d o n (i + 1) = fh σ d o (ln d) 0 → ∀ x4, WP G M_Log_firstHeld (EC G M_Log_firstHeld (fun v μ' => ∃ ea, v = some (.ref ea) ∧ FE G φ ea (fhV σ d o) ∧ μ' = μ) (fun _ _ => False)) [(4, x4), (3, .int (nI i)), (0, .ref (ad 0)), (1, .ref a), (2, .int (nI o))] 43 [] μ 0 0 := by
        intro h9 x4
        refine wp_iinc d_Log_firstHeld_43 rfl rfl (by decide) ?_
        refine wp_goto (tgt := 2) d_Log_firstHeld_46 (by decide) ?_
        exact WP.loc [(0, .ref (ad 0)), (1, .ref a), (2, .int (nI o)), (3, .int (nI (i + 1)))] (by rw [← nI_1 i]; rfl) (ih (i + 1) (by omega) h9)
      refine wp_if_eq (tgt := 43) d_Log_firstHeld_23 (by decide) (fun c23 => ?_) (fun c23 => ?_)
      · exact WP.loc _ rfl (next (by rw [← hh, fh, if_pos c23]) (.ref (ad (4 + un d i))))
      · refine wp_aload d_Log_firstHeld_26 rfl ?_
        refine wp_iload_n d_Log_firstHeld_28 rfl rfl ?_
        refine wx_callV d_Log_firstHeld_29 cv_Log_107 cd_Unit_holds ⟨by decide, by decide⟩ (ct_holds G μ _ _ o _ _ _ _ _ _ _ ho (hR.unit hu) (hR.cells hu) rfl he1) (by exact hR.unit hu) rfl rfl (Nat.le_of_ble_eq_true rfl) (Nat.le_of_ble_eq_true rfl) (Nat.le_of_ble_eq_true rfl) (fun E1 μ1 hq => WX.out rfl (no_hd _) (Nat.le_of_ble_eq_true rfl) (Nat.le_of_ble_eq_true rfl) ?_) (fun v1 μ1 hq => ?_)
        · exact hq.elim
        obtain ⟨rfl, rfl⟩ := hq
        refine wp_if_eq (tgt := 43) d_Log_firstHeld_32 (by decide) (fun c32 => ?_) (fun c32 => ?_)
        · have hz : σ (eR (un d i) o) 0 = 0 := by
            by_cases hz : σ (eR (un d i) o) 0 = 0
            · exact hz
            · rw [if_neg hz] at c32; exact absurd c32 (by decide)
          exact WP.loc _ rfl (next (by rw [← hh, fh, if_neg c23, if_pos hz]) (.ref (ad (4 + un d i))))
        · have hz : ¬ σ (eR (un d i) o) 0 = 0 := fun hz => c32 (by rw [if_pos hz])
          refine wp_aload d_Log_firstHeld_35 rfl ?_
          refine wp_get d_Log_firstHeld_37 fl_Log_111 (by first | exact hR.unit hu | exact hR.cells hu) (by rfl) ?_
          refine wp_iload_n d_Log_firstHeld_40 rfl rfl ?_
          refine wp_aald d_Log_firstHeld_41 (t := 5) (C := "SharedLog$Entry") rfl (by first | exact hR.unit hu | exact hR.cells hu) (by rfl) (by exact ho) (by omega) (by rfl) ?_
          refine wp_aret d_Log_firstHeld_42 rfl (Or.inl ⟨_, rfl⟩) (by decide) (by decide) ⟨_, rfl, ?_, rfl⟩
          unfold fhV
          rw [← hh, fh, if_neg c23, if_neg hz]
          exact hC.2.2.1 _ _ hu ho
  exact WP.loc _ rfl (loop (ln d) 0 (by omega) rfl)
/-- an entry is given to the first i units of a row -/
def mg1 (d o : Nat) (v : Nat → Int32) : Nat → sg → sg
  | 0, σ => σ
  | i + 1, σ => va_up (mg1 d o v i σ) (eR (un d i) o) v
/-- merging: n more offsets from o on, every second -/
def mgS (od d : Nat) : Nat → Nat → sg → sg
  | 0, _, σ => σ
  | n + 1, o, σ => mgS od d n (o + 2) (mg1 d o (fhV σ od o) (ln d) σ)
set_option maxHeartbeats 4000000 in
set_option maxRecDepth 10000 in
theorem ct_merge (hC : Cx G μ φ ad g σ δ) {a b od d ch : Nat} (hod : vr od = true) (hd : vr d = true) (hch : ch < 2) (ha : RwA G φ a od) (hb : RwA G φ b d) : CT G M_Log_merge [.ref (ad 0), .ref a, .ref b, .int (nI ch)] μ (fun v μ' => v = none ∧ ∃ g', Cx G μ' φ ad g' (mgS od d 30 ch σ) δ ∧ g' 0 = g 0 ∧ ∀ c, c < 4 → g' (16 + c) = g (16 + c)) (fun _ _ => False) := by
  have hln := ln_pos d
  obtain ⟨f, hb1, hf⟩ := id hb
  refine CT.of (by decide) rfl (Nat.le_of_ble_eq_true rfl) ?_
  refine wp_iload_n d_Log_merge_0 rfl rfl ?_
  refine wp_istore d_Log_merge_1 (by decide) ?_
  have loop : ∀ (n o : Nat) (σ1 : sg) (g1 : dg) (μ1 : mu_M), o + 2 * n = 60 + ch → Cx G μ1 φ ad g1 σ1 δ → g1 0 = g 0 → (∀ c, c < 4 → g1 (16 + c) = g (16 + c)) → mgS od d n o σ1 = mgS od d 30 ch σ →
      WP G M_Log_merge (EC G M_Log_merge (fun v μ' => v = none ∧ ∃ g', Cx G μ' φ ad g' (mgS od d 30 ch σ) δ ∧ g' 0 = g 0 ∧ ∀ c, c < 4 → g' (16 + c) = g (16 + c)) (fun _ _ => False)) [(0, .ref (ad 0)), (1, .ref a), (2, .ref b), (4, .int (nI o))] 3 [] μ1 0 0 := by
    intro n
    induction n with
    | zero =>
      intro o σ1 g1 μ1 hi hC1 hg0 hgc hm
      refine wp_iload d_Log_merge_3 rfl ?_
      refine wp_bipush (v := 60) d_Log_merge_5 (by decide) ?_
      refine wp_icmp_ge (tgt := 58) d_Log_merge_7 (by decide) (fun c7 => ?_) (fun c7 => ?_)
      · exact wp_vret d_Log_merge_58 rfl (by decide) (by decide) ⟨rfl, g1, by rw [← hm]; exact hC1, hg0, hgc⟩
      · exact absurd ((nI_leI (a := 60) (by omega) (by omega)).mpr (by omega)) c7
    | succ n ih =>
      intro o σ1 g1 μ1 hi hC1 hg0 hgc hm
      have ho : o < 60 := by omega
      refine wp_iload d_Log_merge_3 rfl ?_
      refine wp_bipush (v := 60) d_Log_merge_5 (by decide) ?_
      refine wp_icmp_ge (tgt := 58) d_Log_merge_7 (by decide) (fun c7 => ?_) (fun c7 => ?_)
      · exact absurd ((nI_leI (a := 60) (by omega) (by omega)).mp c7) (by omega)
      refine wp_aload_n d_Log_merge_10 rfl rfl ?_
      refine wp_aload_n d_Log_merge_11 rfl rfl ?_
      refine wp_iload d_Log_merge_12 rfl ?_
      refine wx_callV d_Log_merge_14 cv_Log_277 cd_Log_firstHeld ⟨by decide, by decide⟩ (ct_firstHeld hC1 hod ho ha) (by exact hC1.R.log) rfl rfl (Nat.le_of_ble_eq_true rfl) (Nat.le_of_ble_eq_true rfl) (Nat.le_of_ble_eq_true rfl) (fun E1 μ2 hq => WX.out rfl (no_hd _) (Nat.le_of_ble_eq_true rfl) (Nat.le_of_ble_eq_true rfl) ?_) (fun v1 μ2 hq => ?_)
      · exact hq.elim
      obtain ⟨ea, rfl, hE, rfl⟩ := hq
      refine wp_astore d_Log_merge_17 (by decide) ?_
      refine wp_iconst (v := 0) d_Log_merge_19 (by decide) ?_
      refine wp_istore d_Log_merge_20 (by decide) ?_
      rw [mgS] at hm
      generalize fhV σ1 od o = v at hE hm
      have inner : ∀ (k i : Nat) (g2 : dg) (μ3 : mu_M), i + k = ln d → Cx G μ3 φ ad g2 (mg1 d o v i σ1) δ → g2 0 = g 0 → (∀ c, c < 4 → g2 (16 + c) = g (16 + c)) →
          WP G M_Log_merge (EC G M_Log_merge (fun v μ' => v = none ∧ ∃ g', Cx G μ' φ ad g' (mgS od d 30 ch σ) δ ∧ g' 0 = g 0 ∧ ∀ c, c < 4 → g' (16 + c) = g (16 + c)) (fun _ _ => False)) [(0, .ref (ad 0)), (1, .ref a), (2, .ref b), (4, .int (nI o)), (5, .ref ea), (6, .int (nI i))] 22 [] μ3 0 0 := by
        intro k
        induction k with
        | zero =>
          intro i g2 μ3 hi2 hC3 hg0 hgc
          obtain rfl : i = ln d := by omega
          refine wp_iload d_Log_merge_22 rfl ?_
          refine wp_aload_n d_Log_merge_24 rfl rfl ?_
          refine wp_alen d_Log_merge_25 (by exact (rfl : (TYS G.2.2.1)[0]? = some (G.2.2.1 0, .int))) (by exact hC3.at hb1) ?_
          refine wp_icmp_ge (tgt := 52) d_Log_merge_26 (by decide) (fun c26 => ?_) (fun c26 => ?_)
          · refine wp_iinc d_Log_merge_52 rfl rfl (by decide) ?_
            refine wp_goto (tgt := 3) d_Log_merge_55 (by decide) ?_
            exact WP.loc [(0, .ref (ad 0)), (1, .ref a), (2, .ref b), (4, .int (nI (o + 2)))] (by rw [← nI_add o 2]; rfl) (ih (o + 2) _ g2 μ3 (by omega) hC3 hg0 hgc hm)
          · exact absurd ((nI_leI (by omega) (by omega)).mpr (Nat.le_refl _)) c26
        | succ k ihk =>
          intro i g2 μ3 hi2 hC3 hg0 hgc
          have hR3 := hC3.R
          have hil : i < ln d := by omega
          have hu : un d i < 6 := vr_un hd hil
          refine wp_iload d_Log_merge_22 rfl ?_
          refine wp_aload_n d_Log_merge_24 rfl rfl ?_
          refine wp_alen d_Log_merge_25 (by exact (rfl : (TYS G.2.2.1)[0]? = some (G.2.2.1 0, .int))) (by first | exact hC3.at hb1 | exact hR3.log | exact hR3.uar) ?_
          refine wp_icmp_ge (tgt := 52) d_Log_merge_26 (by decide) (fun c26 => ?_) (fun c26 => ?_)
          · exact absurd ((nI_leI (by omega) (by omega)).mp c26) (by omega)
          refine wp_aload_n d_Log_merge_29 rfl rfl ?_
          refine wp_get d_Log_merge_30 fl_Log_11 (by first | exact hC3.at hb1 | exact hR3.log | exact hR3.uar) (by rfl) ?_
          refine wp_aload_n d_Log_merge_33 rfl rfl ?_
          refine wp_iload d_Log_merge_34 rfl ?_
          refine wp_iald d_Log_merge_36 (by first | exact hC3.at hb1 | exact hR3.log | exact hR3.uar) (by rfl) (by exact hil) (by omega) ?_
          rw [hf i hil]
          refine wp_aald d_Log_merge_37 (t := 3) (C := "SharedLog$Unit") rfl (by first | exact hC3.at hb1 | exact hR3.log | exact hR3.uar) (by rfl) (by exact hu) (by omega) (by rfl) ?_
          refine wp_get d_Log_merge_38 fl_Log_111 (by exact hR3.unit hu) (by rfl) ?_
          refine wp_iload d_Log_merge_41 rfl ?_
          refine wp_aload d_Log_merge_43 rfl ?_
          obtain ⟨w2, hE2, -⟩ := id hE
          refine wp_aast d_Log_merge_45 (t := 5) (ci := 2) (r := ("SharedLog$Entry", F_Entry, 3)) rfl rfl (hR3.cells hu) (hC3.B (by omega)) (hC3.at hE2) rfl ho (by omega) ?_
          refine wp_iinc d_Log_merge_46 rfl rfl (by decide) ?_
          refine wp_goto (tgt := 22) d_Log_merge_49 (by decide) ?_
          have hC4 := hC3.cell hu ho (hR3.pCell (k := o) (x := ea) hu) (hC3.z.up (by omega)) hE
          exact WP.loc [(0, .ref (ad 0)), (1, .ref a), (2, .ref b), (4, .int (nI o)), (5, .ref ea), (6, .int (nI (i + 1)))] (by rw [← nI_1 i]; rfl) (ihk (i + 1) _ _ (by omega) hC4 ((up2_n (by omega)).trans hg0) (fun c hc => (up2_n (by omega)).trans (hgc c hc)))
      exact WP.loc _ rfl (inner (ln d) 0 g1 _ (by omega) hC1 hg0 hgc)
  exact WP.loc [(0, .ref (ad 0)), (1, .ref a), (2, .ref b), (4, .int (nI ch))] rfl (loop 30 ch σ g μ (by omega) hC rfl (fun _ _ => rfl) rfl)
/-- one more than the greatest offset below n that is held by an up unit of its chain -/
def ffS (σ : sg) (dl : Nat → Nat) : Nat → Nat
  | 0 => 0
  | n + 1 => if fhV σ (dl (n % 2)) n 0 = 0 then ffS σ dl n else n + 1
theorem ffS_le (σ : sg) (dl : Nat → Nat) : ∀ n, ffS σ dl n ≤ n
  | 0 => Nat.le_refl 0
  | n + 1 => by
    have := ffS_le σ dl n
    unfold ffS
    split <;> omega
set_option maxHeartbeats 4000000 in
set_option maxRecDepth 10000 in
theorem ct_firstFreeOffset (hC : Cx G μ φ ad g σ δ) (hdl : ∀ ch, ch < 2 → vr (δ 0 ch) = true) : CT G M_Log_firstFreeOffset [.ref (ad 0)] μ (fun v μ' => v = some (.int (nI (ffS σ (δ 0) 60))) ∧ μ' = μ) (fun _ _ => False) := by
  obtain ⟨a0, a1, f0, f1, l0, l1, l2, l3, l4⟩ := hC.2.2.2.2.2.2.1
  have hR := hC.R
  refine CT.of (by decide) rfl (Nat.le_of_ble_eq_true rfl) ?_
  refine wp_bipush (v := 59) d_Log_firstFreeOffset_0 (by decide) ?_
  refine wp_istore_n d_Log_firstFreeOffset_2 rfl (by decide) ?_
  have loop : ∀ (n : Nat), n ≤ 60 → ffS σ (δ 0) n = ffS σ (δ 0) 60 → WP G M_Log_firstFreeOffset (EC G M_Log_firstFreeOffset (fun v μ' => v = some (.int (nI (ffS σ (δ 0) 60))) ∧ μ' = μ) (fun _ _ => False)) [(0, .ref (ad 0)), (1, .int (nI n - 1))] 3 [] μ 0 0 := by
    intro n
    induction n with
    | zero =>
      intro hn he
      refine wp_iload_n d_Log_firstFreeOffset_3 rfl rfl ?_
      refine wp_if_lt (tgt := 36) d_Log_firstFreeOffset_4 (by decide) (fun c4 => ?_) (fun c4 => ?_)
      · refine wp_iconst (v := 0) d_Log_firstFreeOffset_36 (by decide) ?_
        exact wp_iret d_Log_firstFreeOffset_37 rfl (by decide) (by decide) ⟨by rw [← he]; rfl, rfl⟩
      · exact absurd (by decide) c4
    | succ n ih =>
      intro hn he
      rw [show nI (n + 1) - 1 = nI n from nI_pred n]
      refine wp_iload_n d_Log_firstFreeOffset_3 rfl rfl ?_
      refine wp_if_lt (tgt := 36) d_Log_firstFreeOffset_4 (by decide) (fun c4 => ?_) (fun c4 => ?_)
      · exact absurd c4 (nI_pos (by omega))
      refine wp_aload_n d_Log_firstFreeOffset_7 rfl rfl ?_
      refine wp_aload_n d_Log_firstFreeOffset_8 rfl rfl ?_
      refine wp_get d_Log_firstFreeOffset_9 fl_Log_55 (by first | exact hR.log) (by rfl) ?_
      refine wp_iload_n d_Log_firstFreeOffset_12 rfl rfl ?_
      refine wx_callV d_Log_firstFreeOffset_13 cv_Log_83 cd_Layout_chainOf ⟨by decide, by decide⟩ (ct_chainOf G μ _ a0 a1 n _ (by omega) (hC.at l0)) (by exact hC.at l0) rfl rfl (Nat.le_of_ble_eq_true rfl) (Nat.le_of_ble_eq_true rfl) (Nat.le_of_ble_eq_true rfl) (fun E1 μ1 hq => WX.out rfl (no_hd _) (Nat.le_of_ble_eq_true rfl) (Nat.le_of_ble_eq_true rfl) ?_) (fun v1 μ1 hq => ?_)
      · exact hq.elim
      obtain ⟨rfl, rfl⟩ := hq
      refine wp_iload_n d_Log_firstFreeOffset_16 rfl rfl ?_
      have hrw : RwA G φ (if n % 2 = 0 then a0 else a1) (δ 0 (n % 2)) := by
        rcases (show n % 2 = 0 ∨ n % 2 = 1 by omega) with e | e
        · rw [if_pos e, e]; exact ⟨f0, l1, l3⟩
        · rw [if_neg (by omega), e]; exact ⟨f1, l2, l4⟩
      refine wx_callV d_Log_firstFreeOffset_17 cv_Log_277 cd_Log_firstHeld ⟨by decide, by decide⟩ (ct_firstHeld hC (hdl (n % 2) (by omega)) (show n < 60 by omega) hrw) (by exact hR.log) rfl rfl (Nat.le_of_ble_eq_true rfl) (Nat.le_of_ble_eq_true rfl) (Nat.le_of_ble_eq_true rfl) (fun E1 μ2 hq => WX.out rfl (no_hd _) (Nat.le_of_ble_eq_true rfl) (Nat.le_of_ble_eq_true rfl) ?_) (fun v1 μ2 hq => ?_)
      · exact hq.elim
      obtain ⟨ea, rfl, hE, rfl⟩ := hq
      obtain ⟨w1, hE1, -⟩ := hE
      refine wp_get d_Log_firstFreeOffset_20 fl_Log_90 (by exact hC.at hE1) (by rfl) ?_
      rw [ffS] at he
      refine wp_if_eq (tgt := 30) d_Log_firstFreeOffset_23 (by decide) (fun c23 => ?_) (fun c23 => ?_)
      · rw [if_pos c23] at he
        refine wp_iinc d_Log_firstFreeOffset_30 rfl rfl (by decide) ?_
        refine wp_goto (tgt := 3) d_Log_firstFreeOffset_33 (by decide) ?_
        exact WP.loc [(0, .ref (ad 0)), (1, .int (nI n - 1))] (by rw [← i32_m1]; rfl) (ih (by omega) he)
      · rw [if_neg c23] at he
        refine wp_iload_n d_Log_firstFreeOffset_26 rfl rfl ?_
        refine wp_iconst (v := 1) d_Log_firstFreeOffset_27 (by decide) ?_
        refine wp_iadd d_Log_firstFreeOffset_28 ?_
        exact wp_iret d_Log_firstFreeOffset_29 rfl (by decide) (by decide) ⟨by rw [← he, nI_1], rfl⟩
  exact WP.loc [(0, .ref (ad 0)), (1, .int (nI 60 - 1))] rfl (loop 60 (by decide) rfl)
def rcS (c d : Nat) (σ : sg) (δ : dg) : Bool := decide (σ (501 + c) 0 = σ 500 0) && decide (ucS σ d (ln d) = ln d) && decide (ucS σ (δ 0 0) (ln (δ 0 0)) ≠ 0) && decide (ucS σ (δ 0 1) (ln (δ 0 1)) ≠ 0)
set_option maxHeartbeats 4000000 in
set_option maxRecDepth 10000 in
theorem ct_requireChangeable (hC : Cx G μ φ ad g σ δ) {b c d : Nat} (hc : c < 4) (hdl : ∀ ch, ch < 2 → vr (δ 0 ch) = true) (hd : vr d = true) (hb : RwA G μ b d) :
    CT G M_Log_requireChangeable [.ref (ad 0), .ref (ad (16 + c)), .ref b] μ (fun v μ' => v = none ∧ μ' = μ ∧ rcS c d σ δ = true) (fun E μ' => E = ISE ∧ μ' = μ ∧ rcS c d σ δ = false) := by
  obtain ⟨a0, a1, f0, f1, l0, l1, l2, l3, l4⟩ := hC.2.2.2.2.2.2.1
  obtain ⟨k0, k1, -, -, kk, -⟩ := hC.kn hc
  obtain ⟨fb, hb1, -⟩ := id hb
  have hR := hC.R
  have hln := ln_pos d
  have hle := ucS_le σ d (ln d)
  have hl0 := ucS_le σ (δ 0 0) (ln (δ 0 0))
  have hl1 := ucS_le σ (δ 0 1) (ln (δ 0 1))
  have hp0 := ln_pos (δ 0 0)
  have hp1 := ln_pos (δ 0 1)
  refine CT.of (by decide) rfl (Nat.le_of_ble_eq_true rfl) ?_
  refine wp_aload_n d_Log_requireChangeable_0 rfl rfl ?_
  refine wp_get d_Log_requireChangeable_1 fl_Log_80 (by first | exact hR.cli hc | exact kk | exact hR.log | exact hC.at l0 | exact hb1) (by rfl) ?_
  refine wp_get d_Log_requireChangeable_4 fl_Log_119 (by first | exact hR.cli hc | exact kk | exact hR.log | exact hC.at l0 | exact hb1) (by rfl) ?_
  refine wp_aload_n d_Log_requireChangeable_7 rfl rfl ?_
  refine wp_get d_Log_requireChangeable_8 fl_Log_55 (by first | exact hR.cli hc | exact kk | exact hR.log | exact hC.at l0 | exact hb1) (by rfl) ?_
  refine wp_get d_Log_requireChangeable_11 fl_Log_119 (by first | exact hR.cli hc | exact kk | exact hR.log | exact hC.at l0 | exact hb1) (by rfl) ?_
  refine wp_icmp_eq (tgt := 28) d_Log_requireChangeable_14 (by decide) (fun c14 => ?_) (fun c14 => ?_)
  · refine wp_aload_n d_Log_requireChangeable_28 rfl rfl ?_
    refine wp_aload_n d_Log_requireChangeable_29 rfl rfl ?_
    refine wx_callV d_Log_requireChangeable_30 cv_Log_266 cd_Log_upCount ⟨by decide, by decide⟩ (ct_upCount hC hd hb) (by exact hR.log) rfl rfl (Nat.le_of_ble_eq_true rfl) (Nat.le_of_ble_eq_true rfl) (Nat.le_of_ble_eq_true rfl) (fun E1 μ1 hq => WX.out rfl (no_hd _) (Nat.le_of_ble_eq_true rfl) (Nat.le_of_ble_eq_true rfl) ?_) (fun v1 μ1 hq => ?_)
    · exact hq.elim
    obtain ⟨rfl, rfl⟩ := hq
    refine wp_aload_n d_Log_requireChangeable_33 rfl rfl ?_
    refine wp_alen d_Log_requireChangeable_34 (by exact (rfl : (TYS G.2.2.1)[0]? = some (G.2.2.1 0, .int))) (by first | exact hR.cli hc | exact kk | exact hR.log | exact hC.at l0 | exact hb1) ?_
    refine wp_icmp_ge (tgt := 49) d_Log_requireChangeable_35 (by decide) (fun c35 => ?_) (fun c35 => ?_)
    · have c35 := (nI_leI (by omega) (by omega)).mp c35
      refine wp_iconst (v := 0) d_Log_requireChangeable_49 (by decide) ?_
      refine wp_istore_n d_Log_requireChangeable_50 rfl (by decide) ?_
      refine wp_iload_n d_Log_requireChangeable_51 rfl rfl ?_
      refine wp_iconst (v := 2) d_Log_requireChangeable_52 (by decide) ?_
      refine wp_icmp_ge (tgt := 88) d_Log_requireChangeable_53 (by decide) (fun c53 => ?_) (fun c53 => ?_)
      · exact absurd c53 (by decide)
      refine wp_aload_n d_Log_requireChangeable_56 rfl rfl ?_
      refine wp_aload_n d_Log_requireChangeable_57 rfl rfl ?_
      refine wp_get d_Log_requireChangeable_58 fl_Log_55 (by first | exact hR.cli hc | exact kk | exact hR.log | exact hC.at l0 | exact hb1) (by rfl) ?_
      refine wp_iload_n d_Log_requireChangeable_61 rfl rfl ?_
      refine wx_callV d_Log_requireChangeable_62 cv_Log_138 cd_Layout_chain ⟨by decide, by decide⟩ (ct_chain G μ1 _ a0 a1 _ _ (hC.at l0)) (by exact hC.at l0) rfl rfl (Nat.le_of_ble_eq_true rfl) (Nat.le_of_ble_eq_true rfl) (Nat.le_of_ble_eq_true rfl) (fun E1 μ2 hq => WX.out rfl (no_hd _) (Nat.le_of_ble_eq_true rfl) (Nat.le_of_ble_eq_true rfl) ?_) (fun v1 μ2 hq => ?_)
      · exact hq.elim
      obtain ⟨rfl, rfl⟩ := hq
      rw [if_pos rfl]
      refine wx_callV d_Log_requireChangeable_65 cv_Log_266 cd_Log_upCount ⟨by decide, by decide⟩ (ct_upCount hC (hdl 0 (by decide)) ⟨f0, hC.at l1, l3⟩) (by exact hR.log) rfl rfl (Nat.le_of_ble_eq_true rfl) (Nat.le_of_ble_eq_true rfl) (Nat.le_of_ble_eq_true rfl) (fun E1 μ3 hq => WX.out rfl (no_hd _) (Nat.le_of_ble_eq_true rfl) (Nat.le_of_ble_eq_true rfl) ?_) (fun v1 μ3 hq => ?_)
      · exact hq.elim
      obtain ⟨rfl, rfl⟩ := hq
      refine wp_if_ne (tgt := 82) d_Log_requireChangeable_68 (by decide) (fun c68 => ?_) (fun c68 => ?_)
      · have h0 : ucS σ (δ 0 0) (ln (δ 0 0)) ≠ 0 := fun e => c68 (by rw [e]; exact nI_0)
        refine wp_iinc d_Log_requireChangeable_82 rfl rfl (by decide) ?_
        refine wp_goto (tgt := 51) d_Log_requireChangeable_85 (by decide) ?_
        refine wp_iload_n d_Log_requireChangeable_51 rfl rfl ?_
        refine wp_iconst (v := 2) d_Log_requireChangeable_52 (by decide) ?_
        refine wp_icmp_ge (tgt := 88) d_Log_requireChangeable_53 (by decide) (fun c53 => ?_) (fun c53 => ?_)
        · exact absurd c53 (by decide)
        refine wp_aload_n d_Log_requireChangeable_56 rfl rfl ?_
        refine wp_aload_n d_Log_requireChangeable_57 rfl rfl ?_
        refine wp_get d_Log_requireChangeable_58 fl_Log_55 (by first | exact hR.cli hc | exact kk | exact hR.log | exact hC.at l0 | exact hb1) (by rfl) ?_
        refine wp_iload_n d_Log_requireChangeable_61 rfl rfl ?_
        refine wx_callV d_Log_requireChangeable_62 cv_Log_138 cd_Layout_chain ⟨by decide, by decide⟩ (ct_chain G μ3 _ a0 a1 _ _ (hC.at l0)) (by exact hC.at l0) rfl rfl (Nat.le_of_ble_eq_true rfl) (Nat.le_of_ble_eq_true rfl) (Nat.le_of_ble_eq_true rfl) (fun E1 μ2 hq => WX.out rfl (no_hd _) (Nat.le_of_ble_eq_true rfl) (Nat.le_of_ble_eq_true rfl) ?_) (fun v1 μ2 hq => ?_)
        · exact hq.elim
        obtain ⟨rfl, rfl⟩ := hq
        rw [if_neg (by decide)]
        refine wx_callV d_Log_requireChangeable_65 cv_Log_266 cd_Log_upCount ⟨by decide, by decide⟩ (ct_upCount hC (hdl 1 (by decide)) ⟨f1, hC.at l2, l4⟩) (by exact hR.log) rfl rfl (Nat.le_of_ble_eq_true rfl) (Nat.le_of_ble_eq_true rfl) (Nat.le_of_ble_eq_true rfl) (fun E1 μ4 hq => WX.out rfl (no_hd _) (Nat.le_of_ble_eq_true rfl) (Nat.le_of_ble_eq_true rfl) ?_) (fun v1 μ4 hq => ?_)
        · exact hq.elim
        obtain ⟨rfl, rfl⟩ := hq
        refine wp_if_ne (tgt := 82) d_Log_requireChangeable_68 (by decide) (fun c68 => ?_) (fun c68 => ?_)
        · have h1 : ucS σ (δ 0 1) (ln (δ 0 1)) ≠ 0 := fun e => c68 (by rw [e]; exact nI_0)
          refine wp_iinc d_Log_requireChangeable_82 rfl rfl (by decide) ?_
          refine wp_goto (tgt := 51) d_Log_requireChangeable_85 (by decide) ?_
          refine wp_iload_n d_Log_requireChangeable_51 rfl rfl ?_
          refine wp_iconst (v := 2) d_Log_requireChangeable_52 (by decide) ?_
          refine wp_icmp_ge (tgt := 88) d_Log_requireChangeable_53 (by decide) (fun c53 => ?_) (fun c53 => ?_)
          · exact wp_vret d_Log_requireChangeable_88 rfl (by decide) (by decide) ⟨rfl, rfl, by simp only [rcS, Bool.and_eq_true, decide_eq_true_eq]; exact ⟨⟨⟨c14, by omega⟩, h0⟩, h1⟩⟩
          · exact absurd (by decide) c53
        · have h1 : ucS σ (δ 0 1) (ln (δ 0 1)) = 0 := by
            rcases Nat.eq_zero_or_pos (ucS σ (δ 0 1) (ln (δ 0 1))) with e | e
            · exact e
            · exact absurd c68 (nI_ne0 e (by omega))
          exact wp_throwW th_Log_182_271 rfl (no_hd _) d_Log_requireChangeable_71 d_Log_requireChangeable_74 d_Log_requireChangeable_75 d_Log_requireChangeable_78 d_Log_requireChangeable_81 (Nat.le_of_ble_eq_true rfl) (Nat.le_of_ble_eq_true rfl) (Nat.le_of_ble_eq_true rfl) (Nat.le_of_ble_eq_true rfl) ⟨rfl, rfl, by simp [rcS, h1]⟩
      · have h0 : ucS σ (δ 0 0) (ln (δ 0 0)) = 0 := by
          rcases Nat.eq_zero_or_pos (ucS σ (δ 0 0) (ln (δ 0 0))) with e | e
          · exact e
          · exact absurd c68 (nI_ne0 e (by omega))
        exact wp_throwW th_Log_182_271 rfl (no_hd _) d_Log_requireChangeable_71 d_Log_requireChangeable_74 d_Log_requireChangeable_75 d_Log_requireChangeable_78 d_Log_requireChangeable_81 (Nat.le_of_ble_eq_true rfl) (Nat.le_of_ble_eq_true rfl) (Nat.le_of_ble_eq_true rfl) (Nat.le_of_ble_eq_true rfl) ⟨rfl, rfl, by simp [rcS, h0]⟩
    · have h0 : ¬ ucS σ d (ln d) = ln d := fun e => c35 ((nI_leI (by omega) (by omega)).mpr (by omega))
      exact wp_throwW th_Log_182_269 rfl (no_hd _) d_Log_requireChangeable_38 d_Log_requireChangeable_41 d_Log_requireChangeable_42 d_Log_requireChangeable_45 d_Log_requireChangeable_48 (Nat.le_of_ble_eq_true rfl) (Nat.le_of_ble_eq_true rfl) (Nat.le_of_ble_eq_true rfl) (Nat.le_of_ble_eq_true rfl) ⟨rfl, rfl, by simp [rcS, h0]⟩
  · exact wp_throwW th_Log_182_264 rfl (no_hd _) d_Log_requireChangeable_17 d_Log_requireChangeable_20 d_Log_requireChangeable_21 d_Log_requireChangeable_24 d_Log_requireChangeable_27 (Nat.le_of_ble_eq_true rfl) (Nat.le_of_ble_eq_true rfl) (Nat.le_of_ble_eq_true rfl) (Nat.le_of_ble_eq_true rfl) ⟨rfl, rfl, by simp [rcS, c14]⟩
end Chg
end
section
/-! THE CLASS'S FACE: change -/
section Chg2
variable {G : mt_G} {μ φ : mu_M} {ad : Nat → Nat} {g : dg} {σ : sg} {δ : dg}
theorem Cx.low {μ' : mu_M} {σ' : sg} (h : Cx G μ φ ad g σ δ) (hR : Rp G μ' ad σ' g) (hz : Fz μ' φ ad) (hs : ∀ i, 48 ≤ i → σ' i = σ i) : Cx G μ' φ ad g σ' δ := by
  obtain ⟨-, -, h3, h4, h5, h6, h7, h8⟩ := h
  refine ⟨hR, hz, fun u o hu ho => ?_, h4, h5, h6, ?_, fun c hc => ?_⟩
  · rw [hs _ (by unfold eR; omega)]; exact h3 u o hu ho
  · rw [hs _ (by omega)]; exact h7
  · rw [hs _ (by omega)]; exact h8 c hc
theorem Cx.inst {μ' : mu_M} {a : Nat} {ep : Int32} {dl : Nat → Nat} (h : Cx G μ φ ad g σ δ) (hR : Rp G μ' ad σ (up2 g 0 6 a)) (hz : Fz μ' φ ad) (hL : FL G φ a ep dl) : Cx G μ' φ ad (up2 g 0 6 a) (up2 σ 500 0 ep) (va_up δ 0 dl) := by
  obtain ⟨-, -, h3, h4, h5, h6, h7, h8⟩ := h
  refine ⟨⟨fun i hi => ?_, hR.2.1, hR.2.2⟩, hz, fun u o hu ho => ?_, ?_, ?_, ?_, ?_, fun c1 hc1 => ?_⟩
  · rw [hR.1 i hi]; exact congrArg some (sh_congr (up2_n (by omega)) rfl)
  · rw [up2_n (by omega), up2_n (by unfold eR; omega)]; exact h3 u o hu ho
  · rw [up2_s, va_up_ne _ _ (by decide)]; exact h4
  · rw [up2_s, va_up_ne _ _ (by decide)]; exact h5
  · rw [up2_s, va_up_ne _ _ (by decide)]; exact h6
  · rw [up2_s, up2_s, va_up_self, va_up_self, va_up_self]; exact hL
  · rw [up2_n (by omega), up2_n (by omega), va_up_ne _ _ (by omega)]
    exact h8 c1 hc1
theorem Rp.pSeqA {x y z : Int32} {r : sg} (h : Rp G μ ad r g) : Rp G (mu_up μ (ad 3) (.inr (4, [.int x, .int y, .int z]))) ad (up2 (up2 (up2 r 3 0 x) 3 1 y) 3 2 z) g :=
  h.set (by omega) (by rw [sh_seq (by omega) (by omega), up2_s, up2_s, up2_s]; rfl) (fun j hj => by rw [up2_n hj, up2_n hj, up2_n hj]) (fun _ _ => rfl)
def chS (c ch d : Nat) (σ : sg) (δ : dg) : RS :=
  if rcS c d σ δ = true then
    (0, nI (ffS (up2 (up2 (mgS (δ 0 ch) d 30 ch (slS d (σ 500 0 + 1) (ln d) (slS (δ 0 1) (σ 500 0 + 1) (ln (δ 0 1)) (slS (δ 0 0) (σ 500 0 + 1) (ln (δ 0 0)) σ)))) 500 0 (σ 500 0 + 1)) (501 + c) 0 (σ 500 0 + 1)) (va_up (δ 0) ch d) 60),
     up2 (up2 (up2 (up2 (up2 (mgS (δ 0 ch) d 30 ch (slS d (σ 500 0 + 1) (ln d) (slS (δ 0 1) (σ 500 0 + 1) (ln (δ 0 1)) (slS (δ 0 0) (σ 500 0 + 1) (ln (δ 0 0)) σ)))) 500 0 (σ 500 0 + 1)) (501 + c) 0 (σ 500 0 + 1)) 3 0 0) 3 1 (σ 500 0 + 1)) 3 2
      (nI (ffS (up2 (up2 (mgS (δ 0 ch) d 30 ch (slS d (σ 500 0 + 1) (ln d) (slS (δ 0 1) (σ 500 0 + 1) (ln (δ 0 1)) (slS (δ 0 0) (σ 500 0 + 1) (ln (δ 0 0)) σ)))) 500 0 (σ 500 0 + 1)) (501 + c) 0 (σ 500 0 + 1)) (va_up (δ 0) ch d) 60)),
     va_up (va_up δ 0 (va_up (δ 0) ch d)) (1 + c) (va_up (δ 0) ch d))
  else (2, 0, σ, δ)
def S_change (x y r : Int32) (σ : sg) (δ : dg) : RS := match ar x 4, ar y 2 with
  | some c, some ch => if vrI r = true then chS c ch r.toNatClampNeg σ δ else (1, 0, σ, δ)
  | _, _ => (1, 0, σ, δ)
theorem vrI_ok {x : Int32} (h : vrI x = true) : ∃ d, x = nI d ∧ vr d = true ∧ x.toNatClampNeg = d := by
  unfold vrI at h
  split at h
  · cases h
  next hx =>
    have h1 : ¬ x < 1 := fun q => hx (Or.inl q)
    have h2 : x ≤ 666 := Int32.not_lt.mp (fun q => hx (Or.inr q))
    obtain ⟨d, hd, rfl⟩ := nI_of2 (n := 666) (M := 666) (by decide) (fun q => h1 (Int32.lt_trans q (by decide))) h2
    rw [nI_clamp (by omega)] at h
    exact ⟨d, rfl, h, nI_clamp (by omega)⟩
set_option maxHeartbeats 4000000 in
set_option maxRecDepth 10000 in
theorem ct_change (hC : Cx G μ φ ad g σ δ) (hI : PI σ δ) (x y r : Int32) : CT G M_Log_change [.ref (ad 0), .int x, .int y, .int r] μ (PostC G φ ad (S_change x y r σ δ)) (PxC G φ ad ex2 (S_change x y r σ δ)) := by
  have hR := hC.R
  refine CT.of (by decide) rfl (Nat.le_of_ble_eq_true rfl) ?_
  refine wp_iload_n d_Log_change_0 rfl rfl ?_
  refine wp_iconst (v := 3) d_Log_change_1 (by decide) ?_
  refine wx_callS d_Log_change_2 cs_Log_65 cd_Log_requireWithin ⟨by decide, by decide⟩ (ct_requireWithin G μ x 3) rfl rfl (Nat.le_of_ble_eq_true rfl) (Nat.le_of_ble_eq_true rfl) (Nat.le_of_ble_eq_true rfl) (fun E1 μ1 hq => WX.out rfl (no_hd _) (Nat.le_of_ble_eq_true rfl) (Nat.le_of_ble_eq_true rfl) ?_) (fun v1 μ1 hq => ?_)
  · obtain ⟨rfl, rfl, hx⟩ := hq
    rw [S_change, ar_no (n := 3) rfl (by omega) hx]
    exact ⟨Nat.one_ne_zero, rfl, g, φ, hC, sub.rf φ⟩
  obtain ⟨rfl, rfl, h1, h2⟩ := hq
  obtain ⟨c, hc, rfl⟩ := ar_ok (n := 3) rfl (by omega) h1 h2
  refine wp_iload_n d_Log_change_5 rfl rfl ?_
  refine wp_iconst (v := 1) d_Log_change_6 (by decide) ?_
  refine wx_callS d_Log_change_7 cs_Log_65 cd_Log_requireWithin ⟨by decide, by decide⟩ (ct_requireWithin G μ1 y 1) rfl rfl (Nat.le_of_ble_eq_true rfl) (Nat.le_of_ble_eq_true rfl) (Nat.le_of_ble_eq_true rfl) (fun E1 μ2 hq => WX.out rfl (no_hd _) (Nat.le_of_ble_eq_true rfl) (Nat.le_of_ble_eq_true rfl) ?_) (fun v1 μ2 hq => ?_)
  · obtain ⟨rfl, rfl, hx⟩ := hq
    rw [S_change, ar_nI hc (by omega), ar_no (n := 1) rfl (by omega) hx]
    exact ⟨Nat.one_ne_zero, rfl, g, φ, hC, sub.rf φ⟩
  obtain ⟨rfl, rfl, h1, h2⟩ := hq
  obtain ⟨ch, hch, rfl⟩ := ar_ok (n := 1) rfl (by omega) h1 h2
  have hS : S_change (nI c) (nI ch) r σ δ = if vrI r = true then chS c ch r.toNatClampNeg σ δ else (1, 0, σ, δ) := by rw [S_change, ar_nI hc (by omega), ar_nI hch (by omega)]
  rw [hS]
  refine wp_iload_n d_Log_change_10 rfl rfl ?_
  refine wx_callS d_Log_change_11 cs_Log_122 cd_Log_requireRow ⟨by decide, by decide⟩ (ct_requireRow G μ2 r) rfl rfl (Nat.le_of_ble_eq_true rfl) (Nat.le_of_ble_eq_true rfl) (Nat.le_of_ble_eq_true rfl) (fun E1 μ3 hq => WX.out rfl (no_hd _) (Nat.le_of_ble_eq_true rfl) (Nat.le_of_ble_eq_true rfl) ?_) (fun v1 μ3 hq => ?_)
  · obtain ⟨rfl, hs, hr⟩ := hq
    rw [if_neg (by rw [hr]; decide)]
    exact ⟨Nat.one_ne_zero, rfl, g, φ, hC.mono hs, sub.rf φ⟩
  obtain ⟨rfl, hs3, hr⟩ := hq
  rw [if_pos hr]
  obtain ⟨d, rfl, hd, hcl⟩ := vrI_ok hr
  rw [hcl]
  have hC3 := hC.mono hs3
  have hR3 := hC3.R
  have hdl : ∀ ch, ch < 2 → vr (δ 0 ch) = true := fun ch hch => hI.1 0 ch (by omega) hch
  refine wp_aload_n d_Log_change_14 rfl rfl ?_
  refine wp_get d_Log_change_15 fl_Log_17 (by first | exact hR3.log | exact hR3.car) (by rfl) ?_
  refine wp_iload_n d_Log_change_18 rfl rfl ?_
  refine wp_aald d_Log_change_19 (t := 4) (C := "SharedLog$Client") rfl (by first | exact hR3.log | exact hR3.car) (by rfl) (by assumption) (by omega) (by rfl) ?_
  refine wp_astore d_Log_change_20 (by decide) ?_
  refine wp_aload_n d_Log_change_22 rfl rfl ?_
  refine wp_get d_Log_change_23 fl_Log_55 (by first | exact hR3.log | exact hR3.car) (by rfl) ?_
  refine wp_astore d_Log_change_26 (by decide) ?_
  refine wp_iload_n d_Log_change_28 rfl rfl ?_
  refine wx_callS d_Log_change_29 cs_Log_48 cd_Log_rowOf ⟨by decide, by decide⟩ (ct_rowOf G μ3 hd) rfl rfl (Nat.le_of_ble_eq_true rfl) (Nat.le_of_ble_eq_true rfl) (Nat.le_of_ble_eq_true rfl) (fun E1 μ4 hq => WX.out rfl (no_hd _) (Nat.le_of_ble_eq_true rfl) (Nat.le_of_ble_eq_true rfl) ?_) (fun v1 μ4 hq => ?_)
  · exact hq.elim
  obtain ⟨b, fb, rfl, hBb, hbn, hμ4, hfb⟩ := hq
  have hs4 : sub μ3 μ4 := by rw [hμ4]; exact sub_up hbn
  have hb4 : μ4 b = some (.inl (G.2.2.1 0, ln d, .inl fb)) := by rw [hμ4, mu_up_s]
  have hC4 := hC3.mono hs4
  refine wp_astore d_Log_change_32 (by decide) ?_
  refine wp_aload_n d_Log_change_34 rfl rfl ?_
  refine wp_aload d_Log_change_35 rfl ?_
  refine wp_aload d_Log_change_37 rfl ?_
  refine wx_callV d_Log_change_39 cv_Log_126 cd_Log_requireChangeable ⟨by decide, by decide⟩ (ct_requireChangeable hC4 hc hdl hd ⟨fb, hb4, hfb⟩) (by exact hC4.R.log) rfl rfl (Nat.le_of_ble_eq_true rfl) (Nat.le_of_ble_eq_true rfl) (Nat.le_of_ble_eq_true rfl) (fun E1 μ5 hq => WX.out rfl (no_hd _) (Nat.le_of_ble_eq_true rfl) (Nat.le_of_ble_eq_true rfl) ?_) (fun v1 μ5 hq => ?_)
  · obtain ⟨rfl, rfl, hrc⟩ := hq
    rw [chS, if_neg (by rw [hrc]; decide)]
    exact ⟨by show 2 ≠ 0; decide, rfl, g, φ, hC4, sub.rf φ⟩
  obtain ⟨rfl, rfl, hrc⟩ := hq
  rw [chS, if_pos hrc]
  obtain ⟨a0, a1, f0, f1, l0, l1, l2, l3, l4⟩ := hC.2.2.2.2.2.2.1
  refine wp_aload d_Log_change_42 rfl ?_
  refine wp_iload_n d_Log_change_44 rfl rfl ?_
  refine wp_aload d_Log_change_45 rfl ?_
  refine wx_callV d_Log_change_47 cv_Log_130 cd_Layout_next ⟨by decide, by decide⟩ (ct_Layout_next _ a0 a1 b _ (nI ch) (hC4.at l0)) (by exact hC4.at l0) rfl rfl (Nat.le_of_ble_eq_true rfl) (Nat.le_of_ble_eq_true rfl) (Nat.le_of_ble_eq_true rfl) (fun E1 μ6 hq => WX.out rfl (no_hd _) (Nat.le_of_ble_eq_true rfl) (Nat.le_of_ble_eq_true rfl) ?_) (fun v1 μ6 hq => ?_)
  · exact hq.elim
  obtain ⟨q, rfl, hBq, hqn, hμ6⟩ := hq
  have hs6 : sub μ5 μ6 := by rw [hμ6]; exact sub_up hqn
  have hq6 : μ6 q = some (.inr (3, [.int (σ 500 0 + 1), .ref (if nI ch = 0 then b else a0), .ref (if nI ch = 0 then a1 else b)])) := by rw [hμ6, mu_up_s]
  have hb6 : μ6 b = some (.inl (G.2.2.1 0, ln d, .inl fb)) := hs6 _ _ hb4
  have hb2 : μ2 b = none := by
    cases hz : μ2 b with
    | none => rfl
    | some z => rw [hs3 _ _ hz] at hbn; cases hbn
  have hq2 : μ2 q = none := by
    cases hz : μ2 q with
    | none => rfl
    | some z => rw [hs4 _ _ (hs3 _ _ hz)] at hqn; cases hqn
  obtain ⟨hC6, hφ⟩ := hC.freeze ((hs3.tr hs4).tr hs6)
  generalize hφ3 : frz μ2 μ6 φ = φ3 at hC6 hφ
  have hbφ : φ3 b = some (.inl (G.2.2.1 0, ln d, .inl fb)) := by rw [← hφ3]; exact (frz_n hb2).trans hb6
  have hqφ : φ3 q = some (.inr (3, [.int (σ 500 0 + 1), .ref (if nI ch = 0 then b else a0), .ref (if nI ch = 0 then a1 else b)])) := by rw [← hφ3]; exact (frz_n hq2).trans hq6
  have hRb : RwA G φ3 b d := ⟨fb, hbφ, hfb⟩
  have hLq : FL G φ3 q (σ 500 0 + 1) (va_up (δ 0) ch d) := by
    rcases (show ch = 0 ∨ ch = 1 by omega) with rfl | rfl
    · refine ⟨b, a1, fb, f1, hqφ, ?_, ?_, ?_, ?_⟩
      · rw [va_up_self]; exact hbφ
      · rw [va_up_ne _ _ (by decide)]; exact hφ _ _ l2
      · rw [va_up_self]; exact hfb
      · rw [va_up_ne _ _ (by decide)]; exact l4
    · refine ⟨a0, b, f0, fb, hqφ, ?_, ?_, ?_, ?_⟩
      · rw [va_up_ne _ _ (by decide)]; exact hφ _ _ l1
      · rw [va_up_self]; exact hbφ
      · rw [va_up_ne _ _ (by decide)]; exact l3
      · rw [va_up_self]; exact hfb
  have hvd : ∀ k, k < 2 → vr (va_up (δ 0) ch d k) = true := by
    intro k hk
    by_cases e : k = ch
    · subst e; rw [va_up_self]; exact hd
    · rw [va_up_ne _ _ e]; exact hdl k hk
  refine wp_astore d_Log_change_50 (by decide) ?_
  refine wp_aload_n d_Log_change_52 rfl rfl ?_
  refine wp_aload d_Log_change_53 rfl ?_
  refine wp_aload d_Log_change_55 rfl ?_
  refine wp_aload d_Log_change_57 rfl ?_
  refine wp_get d_Log_change_59 fl_Log_119 (by exact hC6.at hqφ) (by rfl) ?_
  refine wx_callV d_Log_change_62 cv_Log_134 cd_Log_sealAll ⟨by decide, by decide⟩ (ct_sealAll hC6 (FL.mono ⟨a0, a1, f0, f1, l0, l1, l2, l3, l4⟩ hφ) hdl hd hRb) (by exact hC6.R.log) rfl rfl (Nat.le_of_ble_eq_true rfl) (Nat.le_of_ble_eq_true rfl) (Nat.le_of_ble_eq_true rfl) (fun E1 μ7 hq => WX.out rfl (no_hd _) (Nat.le_of_ble_eq_true rfl) (Nat.le_of_ble_eq_true rfl) ?_) (fun v1 μ7 hq => ?_)
  · exact hq.elim
  obtain ⟨rfl, hC7⟩ := hq
  refine wp_aload_n d_Log_change_65 rfl rfl ?_
  refine wp_aload d_Log_change_66 rfl ?_
  refine wp_iload_n d_Log_change_68 rfl rfl ?_
  refine wx_callV d_Log_change_69 cv_Log_138 cd_Layout_chain ⟨by decide, by decide⟩ (ct_chain G μ7 _ a0 a1 _ _ (hC7.at (hφ _ _ l0))) (by exact hC7.at (hφ _ _ l0)) rfl rfl (Nat.le_of_ble_eq_true rfl) (Nat.le_of_ble_eq_true rfl) (Nat.le_of_ble_eq_true rfl) (fun E1 μ8 hq => WX.out rfl (no_hd _) (Nat.le_of_ble_eq_true rfl) (Nat.le_of_ble_eq_true rfl) ?_) (fun v1 μ8 hq => ?_)
  · exact hq.elim
  obtain ⟨rfl, rfl⟩ := hq
  have hRa : RwA G φ3 (if nI ch = 0 then a0 else a1) (δ 0 ch) := by
    rcases (show ch = 0 ∨ ch = 1 by omega) with rfl | rfl
    · exact ⟨f0, hφ _ _ l1, l3⟩
    · exact ⟨f1, hφ _ _ l2, l4⟩
  refine wp_aload d_Log_change_72 rfl ?_
  refine wp_iload_n d_Log_change_74 rfl rfl ?_
  refine wx_callV d_Log_change_75 cv_Log_141 cd_Log_merge ⟨by decide, by decide⟩ (ct_merge hC7 (hdl ch hch) hd hch hRa hRb) (by exact hC7.R.log) rfl rfl (Nat.le_of_ble_eq_true rfl) (Nat.le_of_ble_eq_true rfl) (Nat.le_of_ble_eq_true rfl) (fun E1 μ9 hq => WX.out rfl (no_hd _) (Nat.le_of_ble_eq_true rfl) (Nat.le_of_ble_eq_true rfl) ?_) (fun v1 μ9 hq => ?_)
  · exact hq.elim
  obtain ⟨rfl, g9, hC9, hg0, hgc⟩ := hq
  generalize mgS (δ 0 ch) d 30 ch _ = σ9 at hC9 ⊢
  have hR9 := hC9.R
  refine wp_aload_n d_Log_change_78 rfl rfl ?_
  refine wp_aload d_Log_change_79 rfl ?_
  refine wp_put d_Log_change_81 fp_Log_55 (by exact hR9.log) (by exact hC9.B (by omega)) (by rfl) (by rfl) (Nat.le_of_ble_eq_true rfl) ?_
  have hC10 := hC9.inst (hR9.pIns (x := q)) (hC9.z.up (by omega)) hLq
  have hR10 := hC10.R
  refine wp_aload d_Log_change_84 rfl ?_
  refine wp_aload d_Log_change_86 rfl ?_
  refine wp_put d_Log_change_88 fp_Log_80 (by exact hR10.cli hc) (by exact hC10.B (by omega)) (by rfl) (by rfl) (Nat.le_of_ble_eq_true rfl) ?_
  have hC11 := hC10.know hc (hR10.pKn (x := q) hc) (hC10.z.up (by omega)) hLq
  have hR11 := hC11.R
  refine wp_aload_n d_Log_change_91 rfl rfl ?_
  refine wp_get d_Log_change_92 fl_Log_24 (by first | exact hR11.log | exact hC11.at hqφ) (by rfl) ?_
  refine wp_aload d_Log_change_95 rfl ?_
  refine wp_get d_Log_change_97 fl_Log_119 (by first | exact hR11.log | exact hC11.at hqφ) (by rfl) ?_
  refine wp_aload_n d_Log_change_100 rfl rfl ?_
  have e0 : (va_up (va_up δ 0 (va_up (δ 0) ch d)) (1 + c) (va_up (δ 0) ch d)) 0 = va_up (δ 0) ch d := by rw [va_up_ne _ _ (by omega), va_up_self]
  refine wx_callV d_Log_change_101 cv_Log_145 cd_Log_firstFreeOffset ⟨by decide, by decide⟩ (ct_firstFreeOffset hC11 (fun k hk => by rw [e0]; exact hvd k hk)) (by exact hR11.log) rfl rfl (Nat.le_of_ble_eq_true rfl) (Nat.le_of_ble_eq_true rfl) (Nat.le_of_ble_eq_true rfl) (fun E1 μ12 hq => WX.out rfl (no_hd _) (Nat.le_of_ble_eq_true rfl) (Nat.le_of_ble_eq_true rfl) ?_) (fun v1 μ12 hq => ?_)
  · exact hq.elim
  obtain ⟨rfl, rfl⟩ := hq
  rw [e0]
  refine wx_callV d_Log_change_104 cv_Log_149 cd_Seq_restart ⟨by decide, by decide⟩ (ct_restart G _ _ _ _ _ _ _ hR11.seq (hC11.B (by omega))) (by exact hR11.seq) rfl rfl (Nat.le_of_ble_eq_true rfl) (Nat.le_of_ble_eq_true rfl) (Nat.le_of_ble_eq_true rfl) (fun E1 μ13 hq => WX.out rfl (no_hd _) (Nat.le_of_ble_eq_true rfl) (Nat.le_of_ble_eq_true rfl) ?_) (fun v1 μ13 hq => ?_)
  · exact hq.elim
  obtain ⟨rfl, rfl⟩ := hq
  have hC13 := hC11.low (hR11.pSeqA (x := 0) (y := σ 500 0 + 1) (z := nI (ffS (up2 (up2 σ9 500 0 (σ 500 0 + 1)) (501 + c) 0 (σ 500 0 + 1)) (va_up (δ 0) ch d) 60))) (hC11.z.up (by omega)) (fun i hi => by rw [up2_n (by omega), up2_n (by omega), up2_n (by omega)])
  have hR13 := hC13.R
  refine wp_aload_n d_Log_change_107 rfl rfl ?_
  refine wp_get d_Log_change_108 fl_Log_24 (by first | exact hR13.log | exact hR13.seq) (by rfl) ?_
  refine wp_get d_Log_change_111 fl_Log_152 (by first | exact hR13.log | exact hR13.seq) (by rfl) ?_
  refine wp_iret d_Log_change_114 rfl (Nat.le_of_ble_eq_true rfl) (Nat.le_of_ble_eq_true rfl) ⟨rfl, ?_, _, φ3, hC13, hφ⟩
  rw [up2_s, va_up_self]
end Chg2
end
section
/-! THE CLASS'S CONSTRUCTORS -/
theorem arrV_congr {cI : ClassId} {N : Nat} {f f' : Nat → Value} (h : ∀ j, j < N → f j = f' j) : arrV cI N f = arrV cI N f' := by
  have e : (fun j : Fin N => f j.val) = fun j : Fin N => f' j.val := funext fun j => h j.val j.isLt
  unfold arrV
  rw [e]
/-- an array's picture beyond its length is free -/
theorem WP.arrq {G : mt_G} {M : mt_M} {QE : mt_Q} {lo : List (Nat × Value)} {pc : Nat} {st : List Value} {μ : mu_M} {cn sn a n : Nat} {cA : ClassId} {f f' : Nat → Option Nat} (h : μ a = some (.inl (cA, n, .inr (.inr (.inr (.inr f)))))) (hf : ∀ j, j < n → f j = f' j) (k : WP G M QE lo pc st (mu_up μ a (.inl (cA, n, .inr (.inr (.inr (.inr f')))))) cn sn) : WP G M QE lo pc st μ cn sn := by
  intro hg p e s m args below meth c H locs ls hM hV hS hL
  refine k hg p e s m args below meth c H locs ls hM (hV.set ?_ (fun _ _ => rfl)) hS hL
  have h1 : H[a]? = some (vp_cell cA (n, .inr (.inr (.inr (.inr f))))) := hV a _ h
  show H[a]? = some (vp_cell cA (n, .inr (.inr (.inr (.inr f')))))
  rw [h1, vp_cell_q, vp_cell_q, arrV_congr (fun j hj => by rw [hf j hj])]
/-- all but the cell x stays -/
def kp (x : Nat) (μ μ' : mu_M) : Prop := ∀ a e, a ≠ x → μ a = some e → μ' a = some e
theorem kp.rf (x : Nat) (μ : mu_M) : kp x μ μ := fun _ _ _ h => h
theorem kp.tr {x : Nat} {μ μ1 μ2 : mu_M} (h : kp x μ μ1) (h2 : kp x μ1 μ2) : kp x μ μ2 := fun a e n q => h2 a e n (h a e n q)
theorem kp.new {x q : Nat} {μ : mu_M} {e : va_E} (hq : μ q = none) : kp x μ (mu_up μ q e) := fun a z _ hz => (mu_up_n (mu_some_ne hz hq)).trans hz
theorem kp.put {x : Nat} {μ : mu_M} {e : va_E} : kp x μ (mu_up μ x e) := fun _ _ n hz => (mu_up_n n).trans hz
theorem kp.sub {x : Nat} {μ μ' : mu_M} (h : sub μ μ') : kp x μ μ' := fun a e _ hz => h a e hz
section Ini
variable {G : mt_G} {μ : mu_M}
set_option maxHeartbeats 1000000 in
set_option maxRecDepth 10000 in
theorem ct_Seq_init (q : Nat) (x0 x1 x2 : Value) (h : μ q = some (.inr (4, [x0, x1, x2]))) (hB : G.2.2.2 ≤ q) : CTI G M_Seq_init [.ref q] μ (fun v μ' => v = none ∧ μ' = mu_up μ q (.inr (4, [.int 0, .int 1, .int 0]))) := by
  refine CTI.of (by decide) rfl (Nat.le_of_ble_eq_true rfl) ?_
  refine wp_aload_n d_Seq_init_0 rfl rfl ?_
  refine wp_objInit d_Seq_init_1 oi_Seq oi_i oi_c (by decide) (Nat.le_of_ble_eq_true rfl) ?_
  refine wp_aload_n d_Seq_init_4 rfl rfl ?_
  refine wp_iconst (v := 0) d_Seq_init_5 (by decide) ?_
  refine wp_put d_Seq_init_6 fp_Seq_9 (by first | exact mu_up_s _ _ _ | exact h) (by exact hB) (by rfl) (by rfl) (Nat.le_of_ble_eq_true rfl) ?_
  refine wp_aload_n d_Seq_init_9 rfl rfl ?_
  refine wp_iconst (v := 1) d_Seq_init_10 (by decide) ?_
  refine wp_put d_Seq_init_11 fp_Seq_15 (by first | exact mu_up_s _ _ _ | exact h) (by exact hB) (by rfl) (by rfl) (Nat.le_of_ble_eq_true rfl) ?_
  refine wp_aload_n d_Seq_init_14 rfl rfl ?_
  refine wp_iconst (v := 0) d_Seq_init_15 (by decide) ?_
  refine wp_put d_Seq_init_16 fp_Seq_19 (by first | exact mu_up_s _ _ _ | exact h) (by exact hB) (by rfl) (by rfl) (Nat.le_of_ble_eq_true rfl) ?_
  exact wp_vretI d_Seq_init_19 rfl (by decide) (by decide) ⟨rfl, by rw [mu_up_up, mu_up_up]; rfl⟩
set_option maxHeartbeats 4000000 in
set_option maxRecDepth 10000 in
theorem ct_Unit_init (q en : Nat) (x0 x1 x2 : Value) (vs : List Value) (h : μ q = some (.inr (1, [x0, x1, x2]))) (hB : G.2.2.2 ≤ q) (hen : μ en = some (.inr (2, vs))) : CTI G M_Unit_init [.ref q, .ref en] μ (fun v μ' => v = none ∧ ∃ ca, μ ca = none ∧ G.2.2.2 ≤ ca ∧ μ' q = some (.inr (1, [.ref ca, .int 1, .int 0])) ∧ μ' ca = some (.inl (G.2.2.1 5, 60, .inr (.inr (.inr (.inr (fun _ => some en)))))) ∧ kp q μ μ') := by
  refine CTI.of (by decide) rfl (Nat.le_of_ble_eq_true rfl) ?_
  refine wp_aload_n d_Unit_init_0 rfl rfl ?_
  refine wp_objInit d_Unit_init_1 oi_Unit oi_i oi_c (by decide) (Nat.le_of_ble_eq_true rfl) ?_
  refine wp_aload_n d_Unit_init_4 rfl rfl ?_
  refine wp_bipush (v := 60) d_Unit_init_5 (by decide) ?_
  refine wp_newq (N := 60) (t := 5) d_Unit_init_7 al_Unit_9 (by decide) rfl (by decide) (Nat.le_of_ble_eq_true rfl) (Nat.le_of_ble_eq_true rfl) (fun ca hBc hc => ?_)
  have nq : q ≠ ca := mu_some_ne h hc
  have ne : en ≠ ca := mu_some_ne hen hc
  have neq : en ≠ q := fun z => by rw [z, h] at hen; cases hen
  refine wp_putF d_Unit_init_10 ff_Unit_11 rfl (by first | exact mu_up_s _ _ _ | exact (mu_up_n nq).trans h) (by exact hB) (by rfl) (by rfl) (Nat.le_of_ble_eq_true rfl) ?_
  refine wp_aload_n d_Unit_init_13 rfl rfl ?_
  refine wp_iconst (v := 1) d_Unit_init_14 (by decide) ?_
  refine wp_put d_Unit_init_15 fp_Unit_17 (by first | exact mu_up_s _ _ _ | exact (mu_up_n nq).trans h) (by exact hB) (by rfl) (by rfl) (Nat.le_of_ble_eq_true rfl) ?_
  refine wp_aload_n d_Unit_init_18 rfl rfl ?_
  refine wp_iconst (v := 0) d_Unit_init_19 (by decide) ?_
  refine wp_put d_Unit_init_20 fp_Unit_21 (by first | exact mu_up_s _ _ _ | exact (mu_up_n nq).trans h) (by exact hB) (by rfl) (by rfl) (Nat.le_of_ble_eq_true rfl) ?_
  refine wp_iconst (v := 0) d_Unit_init_23 (by decide) ?_
  refine wp_istore_n d_Unit_init_24 rfl (by decide) ?_
  have loop : ∀ (n i : Nat) (μ1 : mu_M), i + n = 60 → μ1 q = some (.inr (1, [.ref ca, .int 1, .int 0])) → μ1 ca = some (.inl (G.2.2.1 5, 60, .inr (.inr (.inr (.inr (fun o => if o < i then some en else none)))))) → kp q μ μ1 →
      WP G M_Unit_init (ECI G M_Unit_init (fun v μ' => v = none ∧ ∃ ca, μ ca = none ∧ G.2.2.2 ≤ ca ∧ μ' q = some (.inr (1, [.ref ca, .int 1, .int 0])) ∧ μ' ca = some (.inl (G.2.2.1 5, 60, .inr (.inr (.inr (.inr (fun _ => some en)))))) ∧ kp q μ μ')) [(0, .ref q), (1, .ref en), (2, .int (nI i))] 25 [] μ1 1 60 := by
    intro n
    induction n with
    | zero =>
      intro i μ1 hi h1 h2 hk
      obtain rfl : i = 60 := by omega
      refine wp_iload_n d_Unit_init_25 rfl rfl ?_
      refine wp_bipush (v := 60) d_Unit_init_26 (by decide) ?_
      refine wp_icmp_ge (tgt := 44) d_Unit_init_28 (by decide) (fun c28 => ?_) (fun c28 => ?_)
      · refine WP.arrq (f' := fun _ => some en) h2 (fun j hj => if_pos hj) ?_
        exact wp_vretI d_Unit_init_44 rfl (by decide) (by decide) ⟨rfl, ca, hc, hBc, (mu_up_n nq).trans h1, mu_up_s _ _ _, fun a e n9 h9 => (mu_up_n (mu_some_ne h9 hc)).trans (hk a e n9 h9)⟩
      · exact absurd (by decide) c28
    | succ n ih =>
      intro i μ1 hi h1 h2 hk
      refine wp_iload_n d_Unit_init_25 rfl rfl ?_
      refine wp_bipush (v := 60) d_Unit_init_26 (by decide) ?_
      refine wp_icmp_ge (tgt := 44) d_Unit_init_28 (by decide) (fun c28 => ?_) (fun c28 => ?_)
      · exact absurd ((nI_leI (a := 60) (by omega) (by omega)).mp c28) (by omega)
      refine wp_aload_n d_Unit_init_31 rfl rfl ?_
      refine wp_get d_Unit_init_32 fl_Unit_11 (by exact h1) (by rfl) ?_
      refine wp_iload_n d_Unit_init_35 rfl rfl ?_
      refine wp_aload_n d_Unit_init_36 rfl rfl ?_
      refine wp_aast d_Unit_init_37 (t := 5) (ci := 2) (r := ("SharedLog$Entry", F_Entry, 3)) rfl rfl h2 hBc (hk _ _ neq hen) rfl (show i < 60 by omega) (by omega) ?_
      refine wp_iinc d_Unit_init_38 rfl rfl (by decide) ?_
      refine wp_goto (tgt := 25) d_Unit_init_41 (by decide) ?_
      refine WP.loc [(0, .ref q), (1, .ref en), (2, .int (nI (i + 1)))] (by rw [← nI_1 i]; rfl) (ih (i + 1) _ (by omega) ((mu_up_n nq).trans h1) ?_ (fun a e n9 h9 => (mu_up_n (mu_some_ne h9 hc)).trans (hk a e n9 h9)))
      rw [mu_up_s]
      congr 8
      funext o
      by_cases ho : o = i
      · rw [ho, va_up_self, if_pos (by omega)]
      · rw [va_up_ne _ _ ho]
        by_cases h9 : o < i
        · rw [if_pos h9, if_pos (by omega)]
        · rw [if_neg h9, if_neg (by omega)]
  refine WP.loc [(0, .ref q), (1, .ref en), (2, .int (nI 0))] rfl (WP.widen (Nat.le_of_ble_eq_true rfl) (Nat.le_of_ble_eq_true rfl) (loop 60 0 _ rfl (mu_up_s _ _ _) ?_ (fun a e n9 h9 => by rw [mu_up_n n9, mu_up_n n9, mu_up_n n9, mu_up_n (mu_some_ne h9 hc)]; exact h9)))
  rw [mu_up_n nq.symm, mu_up_n nq.symm, mu_up_n nq.symm, mu_up_s]
  congr 7
set_option maxHeartbeats 4000000 in
set_option maxRecDepth 10000 in
/-- a client: eight new cells, its own, values, ages, and its work's five -/
theorem ct_Client_init (q la : Nat) (x0 x1 x2 x3 x4 x5 : Value) (h : μ q = some (.inr (6, [x0, x1, x2, x3, x4, x5]))) (hB : G.2.2.2 ≤ q) : CTI G M_Client_init [.ref q, .ref la] μ (fun v μ' => v = none ∧ ∃ nb : Nat → Nat, nb 0 = q ∧ (∀ k, 0 < k → k < 8 → μ (nb k) = none ∧ G.2.2.2 ≤ nb k) ∧ (∀ j k, j < 8 → k < 8 → nb j = nb k → j = k) ∧ μ' q = some (.inr (6, [.ref (nb 1), .ref (nb 2), .ref (nb 3), .int 0, .int 0, .ref la])) ∧
    μ' (nb 1) = some (.inl (G.2.2.1 0, 4, .inl (fun _ => 0))) ∧ μ' (nb 2) = some (.inl (G.2.2.1 0, 4, .inl (fun _ => 0))) ∧ μ' (nb 3) = some (.inr (5, [.ref (nb 4), .ref (nb 5), .ref (nb 6), .ref (nb 7)])) ∧ μ' (nb 4) = some (.inl (G.2.2.1 1, 4, .inl (fun _ => 0))) ∧ μ' (nb 5) = some (.inl (G.2.2.1 0, 4, .inl (fun _ => 0))) ∧ μ' (nb 6) = some (.inl (G.2.2.1 1, 4, .inl (fun _ => 0))) ∧ μ' (nb 7) = some (.inl (G.2.2.1 0, 4, .inl (fun _ => 0))) ∧ kp q μ μ') := by
  refine CTI.of (by decide) rfl (Nat.le_of_ble_eq_true rfl) ?_
  refine wp_aload_n d_Client_init_0 rfl rfl ?_
  refine wp_objInit d_Client_init_1 oi_Client oi_i oi_c (by decide) (Nat.le_of_ble_eq_true rfl) ?_
  refine wp_aload_n d_Client_init_4 rfl rfl ?_
  refine wp_iconst (v := 4) d_Client_init_5 (by decide) ?_
  refine wp_newI (N := 4) d_Client_init_6 ac_I (by decide) (Nat.le_of_ble_eq_true rfl) (Nat.le_of_ble_eq_true rfl) (fun va bv zv => ?_)
  have nv : q ≠ va := mu_some_ne h zv
  refine wp_putF d_Client_init_8 ff_Client_9 rfl (by exact (mu_up_n nv).trans h) (by exact hB) (by rfl) (by rfl) (Nat.le_of_ble_eq_true rfl) ?_
  refine wp_aload_n d_Client_init_11 rfl rfl ?_
  refine wp_iconst (v := 4) d_Client_init_12 (by decide) ?_
  refine wp_newI (N := 4) d_Client_init_13 ac_I (by decide) (Nat.le_of_ble_eq_true rfl) (Nat.le_of_ble_eq_true rfl) (fun aa ba za => ?_)
  obtain ⟨na, za⟩ := mu_none za
  obtain ⟨nav, za⟩ := mu_none za
  refine wp_putF d_Client_init_15 ff_Client_15 rfl (by exact (mu_up_n na.symm).trans (mu_up_s _ _ _)) (by exact hB) (by rfl) (by rfl) (Nat.le_of_ble_eq_true rfl) ?_
  refine wp_aload_n d_Client_init_18 rfl rfl ?_
  refine wp_new d_Client_init_19 nw_Client_18 (Nat.le_of_ble_eq_true rfl) (Nat.le_of_ble_eq_true rfl) (fun w bw zw => ?_)
  obtain ⟨nw, zw⟩ := mu_none zw
  obtain ⟨nwa, zw⟩ := mu_none zw
  obtain ⟨-, zw⟩ := mu_none zw
  obtain ⟨nwv, zw⟩ := mu_none zw
  refine wp_dup d_Client_init_22 rfl ?_
  refine wi_callN d_Client_init_23 cn_Client_20 cd_Work_init ⟨by decide, by decide⟩ (ct_Work_init w _ _ _ _ (mu_up_s _ _ _) bw) rfl rfl (Nat.le_of_ble_eq_true rfl) (Nat.le_of_ble_eq_true rfl) (Nat.le_of_ble_eq_true rfl) (fun v1 μ2 hq => ?_)
  obtain ⟨rfl, ⟨w0, w1, w2, w3, e, e0, e1, e2, e3, ⟨z0, z1, z2, z3⟩, ⟨b0, b1, b2, b3⟩, ⟨m0, m1, m2, m3⟩, m10, m20, m30, m21, m31, m32⟩, hk⟩ := hq
  have hq2 : μ2 q = some (.inr (6, [.ref va, .ref aa, x2, x3, x4, x5])) := by
    refine hk _ _ nw.symm ?_
    rw [mu_up_n nw.symm, mu_up_s]; rfl
  have hv2 : μ2 va = some (.inl (G.2.2.1 0, 4, .inl (fun _ => 0))) := by
    refine hk _ _ nwv.symm ?_
    rw [mu_up_n nwv.symm, mu_up_n nv.symm, mu_up_n nav.symm, mu_up_n nv.symm, mu_up_s]
  have ha2 : μ2 aa = some (.inl (G.2.2.1 0, 4, .inl (fun _ => 0))) := by
    refine hk _ _ nwa.symm ?_
    rw [mu_up_n nwa.symm, mu_up_n na, mu_up_s]
  have hz : ∀ {x : Nat}, mu_up (mu_up (mu_up (mu_up (mu_up μ va (.inl (G.2.2.1 0, 4, .inl (fun _ => 0)))) q (.inr (6, [x0, x1, x2, x3, x4, x5].set 0 (.ref va)))) aa (.inl (G.2.2.1 0, 4, .inl (fun _ => 0)))) q (.inr (6, ([x0, x1, x2, x3, x4, x5].set 0 (.ref va)).set 1 (.ref aa)))) w (.inr (5, [.null, .null, .null, .null])) x = none → x ≠ w ∧ x ≠ q ∧ x ≠ aa ∧ x ≠ va ∧ μ x = none := by
    intro x hx
    obtain ⟨t1, hx⟩ := mu_none hx
    obtain ⟨t2, hx⟩ := mu_none hx
    obtain ⟨t3, hx⟩ := mu_none hx
    obtain ⟨-, hx⟩ := mu_none hx
    obtain ⟨t4, hx⟩ := mu_none hx
    exact ⟨t1, t2, t3, t4, hx⟩
  obtain ⟨p01, p02, p03, p04, y0⟩ := hz z0
  obtain ⟨p11, p12, p13, p14, y1⟩ := hz z1
  obtain ⟨p21, p22, p23, p24, y2⟩ := hz z2
  obtain ⟨p31, p32, p33, p34, y3⟩ := hz z3
  have hkq : kp q μ μ2 := by
    intro a e9 n9 h9
    refine hk a e9 (mu_some_ne h9 zw) ?_
    rw [mu_up_n (mu_some_ne h9 zw), mu_up_n n9, mu_up_n (mu_some_ne h9 za), mu_up_n n9, mu_up_n (mu_some_ne h9 zv)]
    exact h9
  refine wp_putF d_Client_init_26 ff_Client_21 rfl (by first | exact mu_up_s _ _ _ | exact hq2) (by exact hB) (by rfl) (by rfl) (Nat.le_of_ble_eq_true rfl) ?_
  refine wp_aload_n d_Client_init_29 rfl rfl ?_
  refine wp_iconst (v := 0) d_Client_init_30 (by decide) ?_
  refine wp_put d_Client_init_31 fp_Client_25 (by first | exact mu_up_s _ _ _ | exact hq2) (by exact hB) (by rfl) (by rfl) (Nat.le_of_ble_eq_true rfl) ?_
  refine wp_aload_n d_Client_init_34 rfl rfl ?_
  refine wp_iconst (v := 0) d_Client_init_35 (by decide) ?_
  refine wp_put d_Client_init_36 fp_Client_29 (by first | exact mu_up_s _ _ _ | exact hq2) (by exact hB) (by rfl) (by rfl) (Nat.le_of_ble_eq_true rfl) ?_
  refine wp_aload_n d_Client_init_39 rfl rfl ?_
  refine wp_aload_n d_Client_init_40 rfl rfl ?_
  refine wp_put d_Client_init_41 fp_Client_33 (by first | exact mu_up_s _ _ _ | exact hq2) (by exact hB) (by rfl) (by rfl) (Nat.le_of_ble_eq_true rfl) ?_
  let nb : Nat → Nat := fun k => match k with
    | 0 => q
    | 1 => va
    | 2 => aa
    | 3 => w
    | 4 => w0
    | 5 => w1
    | 6 => w2
    | _ => w3
  refine wp_vretI d_Client_init_44 rfl (by decide) (by decide) ⟨rfl, nb, rfl, ?_, ?_, ?_, ?_, ?_, ?_, ?_, ?_, ?_, ?_, ?_⟩
  · intro k h0 hk8
    rcases (show k = 1 ∨ k = 2 ∨ k = 3 ∨ k = 4 ∨ k = 5 ∨ k = 6 ∨ k = 7 by omega) with rfl | rfl | rfl | rfl | rfl | rfl | rfl
    · exact ⟨zv, bv⟩
    · exact ⟨za, ba⟩
    · exact ⟨zw, bw⟩
    · exact ⟨y0, b0⟩
    · exact ⟨y1, b1⟩
    · exact ⟨y2, b2⟩
    · exact ⟨y3, b3⟩
  · have hnd : List.Nodup [q, va, aa, w, w0, w1, w2, w3] := by
      simp only [List.nodup_cons, List.mem_cons, List.not_mem_nil, or_false, not_or, not_false_eq_true, List.nodup_nil, and_true]
      exact ⟨⟨nv, na.symm, nw.symm, p02.symm, p12.symm, p22.symm, p32.symm⟩, ⟨nav.symm, nwv.symm, p04.symm, p14.symm, p24.symm, p34.symm⟩, ⟨nwa.symm, p03.symm, p13.symm, p23.symm, p33.symm⟩, ⟨p01.symm, p11.symm, p21.symm, p31.symm⟩, ⟨m10.symm, m20.symm, m30.symm⟩, ⟨m21.symm, m31.symm⟩, m32.symm⟩
    have hget : ∀ k, k < 8 → [q, va, aa, w, w0, w1, w2, w3][k]? = some (nb k) := by
      intro k hk8
      rcases (show k = 0 ∨ k = 1 ∨ k = 2 ∨ k = 3 ∨ k = 4 ∨ k = 5 ∨ k = 6 ∨ k = 7 by omega) with rfl | rfl | rfl | rfl | rfl | rfl | rfl | rfl <;> rfl
    intro j k hj hk8 e9
    have g1 := hget j hj
    have g2 := hget k hk8
    rw [e9, ← g2] at g1
    exact (List.getElem?_inj (by simpa using hj) hnd).mp g1
  · rw [mu_up_s]; rfl
  · show mu_up _ q _ va = _
    rw [mu_up_n nv.symm, mu_up_n nv.symm, mu_up_n nv.symm, mu_up_n nv.symm]; exact hv2
  · show mu_up _ q _ aa = _
    rw [mu_up_n na, mu_up_n na, mu_up_n na, mu_up_n na]; exact ha2
  · show mu_up _ q _ w = _
    rw [mu_up_n nw, mu_up_n nw, mu_up_n nw, mu_up_n nw]; exact e
  · show mu_up _ q _ w0 = _
    rw [mu_up_n p02, mu_up_n p02, mu_up_n p02, mu_up_n p02]; exact e0
  · show mu_up _ q _ w1 = _
    rw [mu_up_n p12, mu_up_n p12, mu_up_n p12, mu_up_n p12]; exact e1
  · show mu_up _ q _ w2 = _
    rw [mu_up_n p22, mu_up_n p22, mu_up_n p22, mu_up_n p22]; exact e2
  · show mu_up _ q _ w3 = _
    rw [mu_up_n p32, mu_up_n p32, mu_up_n p32, mu_up_n p32]; exact e3
  · intro a e9 n9 h9
    rw [mu_up_n n9, mu_up_n n9, mu_up_n n9, mu_up_n n9]
    exact hkq a e9 n9 h9
end Ini
end
section
/-! THE CLASS'S CONSTRUCTOR: the first state -/
def σ0 : sg := fun i k => if i = 3 ∧ k = 1 then 1 else if 4 ≤ i ∧ i < 10 ∧ k = 1 then 1 else if 500 ≤ i ∧ i < 505 ∧ k = 0 then 1 else 0
def δ0 : dg := fun _ ch => if ch = 0 then 12 else 34
theorem vr12 : vr 12 = true := by decide +kernel
theorem vr34 : vr 34 = true := by decide +kernel
/-- the places of the roles in the order of their making: 0 .. 3, two a unit, eight a client -/
def pi0 (r : Nat) : Nat := if r < 4 then r else if r < 10 then 4 + 2 * (r - 4) else if r < 16 then 5 + 2 * (r - 10) else 16 + 8 * ((r - 16) % 4) + (r - 16) / 4
theorem pi0_lt {r : Nat} (h : r < 48) : pi0 r < 48 := by
  unfold pi0
  split
  · omega
  · split
    · omega
    · split <;> omega
theorem pi0_inj {r s : Nat} (hr : r < 48) (hs : s < 48) (h : pi0 r = pi0 s) : r = s := by
  unfold pi0 at h
  split at h <;> split at h <;> (try split at h) <;> (try split at h) <;> (try split at h) <;> (try split at h) <;> omega
/-- the made cells: apart, there, and of the run's own -/
def Made (G : mt_G) (μ φ : mu_M) (AL : Nat → Nat) (N : Nat) : Prop := (∀ m n, m < N → n < N → AL m = AL n → m = n) ∧ (∀ n, n < N → (∃ e, μ (AL n) = some e) ∧ G.2.2.2 ≤ AL n ∧ φ (AL n) = none) ∧ sub φ μ
theorem Made.more {G : mt_G} {μ μ' φ : mu_M} {AL nb : Nat → Nat} {N m : Nat} (h : Made G μ φ AL N) (hs : ∀ n, n < N → ∃ e, μ' (AL n) = some e) (hφ : sub φ μ') (h1 : ∀ k, k < m → μ (nb k) = none ∧ G.2.2.2 ≤ nb k) (h2 : ∀ j k, j < m → k < m → nb j = nb k → j = k) (h3 : ∀ k, k < m → ∃ e, μ' (nb k) = some e) : Made G μ' φ (fun n => if n < N then AL n else nb (n - N)) (N + m) := by
  obtain ⟨g1, g2, g3⟩ := h
  refine ⟨fun a b ha hb e => ?_, fun n hn => ?_, hφ⟩
  · dsimp only at e
    by_cases h4 : a < N <;> by_cases h5 : b < N
    · rw [if_pos h4, if_pos h5] at e; exact g1 a b h4 h5 e
    · rw [if_pos h4, if_neg h5] at e
      obtain ⟨x, hx⟩ := (g2 a h4).1
      rw [e, (h1 (b - N) (by omega)).1] at hx; cases hx
    · rw [if_neg h4, if_pos h5] at e
      obtain ⟨x, hx⟩ := (g2 b h5).1
      rw [← e, (h1 (a - N) (by omega)).1] at hx; cases hx
    · rw [if_neg h4, if_neg h5] at e
      have := h2 (a - N) (b - N) (by omega) (by omega) e
      omega
  · dsimp only
    by_cases h4 : n < N
    · rw [if_pos h4]; exact ⟨hs n h4, (g2 n h4).2⟩
    · rw [if_neg h4]
      obtain ⟨k1, k2⟩ := h1 (n - N) (by omega)
      refine ⟨h3 (n - N) (by omega), k2, ?_⟩
      cases hz : φ (nb (n - N)) with
      | none => rfl
      | some x => rw [g3 _ _ hz] at k1; cases k1
theorem Made.ct {G : mt_G} {μ φ : mu_M} {AL : Nat → Nat} {N N' : Nat} (h : Made G μ φ AL N) (e : N = N') : Made G μ φ AL N' := e ▸ h
section Ini2
variable {G : mt_G} {μ : mu_M}
/-- the first stretch: what stands when the units are made -/
def Pre1 (G : mt_G) (μ μ1 : mu_M) (a0 ua ca sq en ej et la : Nat) (φ : mu_M) : Prop :=
  μ1 a0 = some (.inr (0, [.ref ua, .ref ca, .ref sq, .ref en, .ref ej, .ref et, .ref la])) ∧ μ1 ua = some (.inl (G.2.2.1 3, 6, .inr (.inr (.inr (.inr (fun _ => none)))))) ∧ μ1 ca = some (.inl (G.2.2.1 4, 4, .inr (.inr (.inr (.inr (fun _ => none)))))) ∧ μ1 sq = some (.inr (4, [.int 0, .int 1, .int 0])) ∧
  Made G μ1 φ (fun n => if n = 0 then a0 else if n = 1 then ua else if n = 2 then ca else sq) 4 ∧ FE G φ en vNone ∧ FE G φ ej vJunk ∧ FE G φ et vTrim ∧ FL G φ la 1 (δ0 0) ∧ ∀ a e, a ≠ a0 → μ a = some e → φ a = some e
set_option maxHeartbeats 8000000 in
set_option maxRecDepth 10000 in
theorem wp_Log_init1 (QE : mt_Q) (a0 : Nat) (x0 x1 x2 x3 x4 x5 x6 : Value) (h : μ a0 = some (.inr (0, [x0, x1, x2, x3, x4, x5, x6]))) (hB : G.2.2.2 ≤ a0)
    (kk : ∀ (ua ca sq en ej et la : Nat) (μ1 φ : mu_M) (lo : List (Nat × Value)), lkp lo 0 = some (.ref a0) → Pre1 G μ μ1 a0 ua ca sq en ej et la φ → WP G M_Log_init QE [(0, .ref a0)] 104 [] μ1 14 100) : WP G M_Log_init QE (lv_args 0 [.ref a0]) 0 [] μ 0 0 := by
  refine wp_aload_n d_Log_init_0 rfl rfl ?_
  refine wp_objInit d_Log_init_1 oi_Log oi_i oi_c (by decide) (Nat.le_of_ble_eq_true rfl) ?_
  refine wp_aload_n d_Log_init_4 rfl rfl ?_
  refine wp_bipush (v := 6) d_Log_init_5 (by decide) ?_
  refine wp_newq (N := 6) (t := 3) d_Log_init_7 al_Log_9 (by decide) rfl (by decide) (Nat.le_of_ble_eq_true rfl) (Nat.le_of_ble_eq_true rfl) (fun ua bua zua => ?_)
  have n1 : a0 ≠ ua := mu_some_ne h zua
  refine wp_putF d_Log_init_10 ff_Log_11 rfl (by exact (mu_up_n n1).trans h) (by exact hB) (by rfl) (by rfl) (Nat.le_of_ble_eq_true rfl) ?_
  generalize hM1 : mu_up (mu_up μ ua _) a0 _ = M1
  have A1 : M1 a0 = some (.inr (0, [.ref ua, x1, x2, x3, x4, x5, x6])) := by rw [← hM1, mu_up_s]; rfl
  have K1 : kp a0 μ M1 := by rw [← hM1]; exact (kp.new zua).tr kp.put
  have U1 : M1 ua = some (.inl (G.2.2.1 3, 6, .inr (.inr (.inr (.inr (fun _ => none)))))) := by rw [← hM1, mu_up_n n1.symm, mu_up_s]
  refine wp_aload_n d_Log_init_13 rfl rfl ?_
  refine wp_iconst (v := 4) d_Log_init_14 (by decide) ?_
  refine wp_newq (N := 4) (t := 4) d_Log_init_15 al_Log_15 (by decide) rfl (by decide) (Nat.le_of_ble_eq_true rfl) (Nat.le_of_ble_eq_true rfl) (fun ca bca zca => ?_)
  have n2 : a0 ≠ ca := mu_some_ne A1 zca
  refine wp_putF d_Log_init_18 ff_Log_17 rfl (by exact (mu_up_n n2).trans A1) (by exact hB) (by rfl) (by rfl) (Nat.le_of_ble_eq_true rfl) ?_
  generalize hM2 : mu_up (mu_up M1 ca _) a0 _ = M2
  have A2 : M2 a0 = some (.inr (0, [.ref ua, .ref ca, x2, x3, x4, x5, x6])) := by rw [← hM2, mu_up_s]; rfl
  have K2 : kp a0 M1 M2 := by rw [← hM2]; exact (kp.new zca).tr kp.put
  have C2 : M2 ca = some (.inl (G.2.2.1 4, 4, .inr (.inr (.inr (.inr (fun _ => none)))))) := by rw [← hM2, mu_up_n n2.symm, mu_up_s]
  refine wp_aload_n d_Log_init_21 rfl rfl ?_
  refine wp_new d_Log_init_22 nw_Log_21 (Nat.le_of_ble_eq_true rfl) (Nat.le_of_ble_eq_true rfl) (fun sq bsq zsq => ?_)
  have n3 : a0 ≠ sq := mu_some_ne A2 zsq
  refine wp_dup d_Log_init_25 rfl ?_
  refine wi_callN d_Log_init_26 cn_Log_23 cd_Seq_init ⟨by decide, by decide⟩ (ct_Seq_init sq _ _ _ (mu_up_s _ _ _) bsq) rfl rfl (Nat.le_of_ble_eq_true rfl) (Nat.le_of_ble_eq_true rfl) (Nat.le_of_ble_eq_true rfl) (fun v1 M9 hq => ?_)
  obtain ⟨rfl, rfl⟩ := hq
  rw [mu_up_up]
  refine wp_putF d_Log_init_29 ff_Log_24 rfl (by exact (mu_up_n n3).trans A2) (by exact hB) (by rfl) (by rfl) (Nat.le_of_ble_eq_true rfl) ?_
  generalize hM3 : mu_up (mu_up M2 sq _) a0 _ = M3
  have A3 : M3 a0 = some (.inr (0, [.ref ua, .ref ca, .ref sq, x3, x4, x5, x6])) := by rw [← hM3, mu_up_s]; rfl
  have K3 : kp a0 M2 M3 := by rw [← hM3]; exact (kp.new zsq).tr kp.put
  have S3 : M3 sq = some (.inr (4, [.int 0, .int 1, .int 0])) := by rw [← hM3, mu_up_n n3.symm, mu_up_s]
  refine wp_new d_Log_init_32 nw_Log_28 (Nat.le_of_ble_eq_true rfl) (Nat.le_of_ble_eq_true rfl) (fun w bw zw => ?_)
  refine wp_dup d_Log_init_35 rfl ?_
  refine wi_callN d_Log_init_36 cn_Log_30 cd_Work_init ⟨by decide, by decide⟩ (ct_Work_init w _ _ _ _ (mu_up_s _ _ _) bw) rfl rfl (Nat.le_of_ble_eq_true rfl) (Nat.le_of_ble_eq_true rfl) (Nat.le_of_ble_eq_true rfl) (fun v1 M4 hq => ?_)
  obtain ⟨rfl, hNW, hk4⟩ := hq
  have nw : a0 ≠ w := mu_some_ne A3 zw
  have sub4 : sub M3 M4 := fun a x hx => hk4 a x (mu_some_ne hx zw) ((mu_up_n (mu_some_ne hx zw)).trans hx)
  have A4 : M4 a0 = some (.inr (0, [.ref ua, .ref ca, .ref sq, x3, x4, x5, x6])) := sub4 _ _ A3
  have hNW : NW G M3 M4 w (fun _ => 0) (fun _ => 0) (fun _ => 0) (fun _ => 0) := hNW.of (fun a ha => (mu_none ha).2)
  refine wp_astore_n d_Log_init_39 rfl (by decide) ?_
  refine wp_aload_n d_Log_init_40 rfl rfl ?_
  refine wp_new d_Log_init_41 nw_Log_31 (Nat.le_of_ble_eq_true rfl) (Nat.le_of_ble_eq_true rfl) (fun en ben zen => ?_)
  have n5 : a0 ≠ en := mu_some_ne A4 zen
  refine wp_dup d_Log_init_44 rfl ?_
  refine wp_iconst (v := 0) d_Log_init_45 (by decide) ?_
  refine wp_iconst (v := 0) d_Log_init_46 (by decide) ?_
  refine wp_aload_n d_Log_init_47 rfl rfl ?_
  refine wi_call d_Log_init_48 ci_Log_33 cd_Entry_init ⟨by decide, by decide⟩ (ct_Entry_init en w 0 0 _ _ _ (mu_up_s _ _ _) ben) rfl rfl (Nat.le_of_ble_eq_true rfl) (Nat.le_of_ble_eq_true rfl) (Nat.le_of_ble_eq_true rfl) (fun v1 M9 hq => ?_)
  obtain ⟨rfl, rfl⟩ := hq
  rw [mu_up_up]
  refine wp_putF d_Log_init_51 ff_Log_36 rfl (by exact (mu_up_n n5).trans A4) (by exact hB) (by rfl) (by rfl) (Nat.le_of_ble_eq_true rfl) ?_
  generalize hM5 : mu_up (mu_up M4 en _) a0 _ = M5
  have A5 : M5 a0 = some (.inr (0, [.ref ua, .ref ca, .ref sq, .ref en, x4, x5, x6])) := by rw [← hM5, mu_up_s]; rfl
  have K5 : kp a0 M4 M5 := by rw [← hM5]; exact (kp.new zen).tr kp.put
  have E5 : M5 en = some (.inr (2, [.int 0, .int 0, .ref w])) := by rw [← hM5, mu_up_n n5.symm, mu_up_s]
  refine wp_aload_n d_Log_init_54 rfl rfl ?_
  refine wp_new d_Log_init_55 nw_Log_31 (Nat.le_of_ble_eq_true rfl) (Nat.le_of_ble_eq_true rfl) (fun ej bej zej => ?_)
  have n6 : a0 ≠ ej := mu_some_ne A5 zej
  refine wp_dup d_Log_init_58 rfl ?_
  refine wp_iconst (v := 3) d_Log_init_59 (by decide) ?_
  refine wp_iconst (v := 0) d_Log_init_60 (by decide) ?_
  refine wp_aload_n d_Log_init_61 rfl rfl ?_
  refine wi_call d_Log_init_62 ci_Log_33 cd_Entry_init ⟨by decide, by decide⟩ (ct_Entry_init ej w 3 0 _ _ _ (mu_up_s _ _ _) bej) rfl rfl (Nat.le_of_ble_eq_true rfl) (Nat.le_of_ble_eq_true rfl) (Nat.le_of_ble_eq_true rfl) (fun v1 M9 hq => ?_)
  obtain ⟨rfl, rfl⟩ := hq
  rw [mu_up_up]
  refine wp_putF d_Log_init_65 ff_Log_40 rfl (by exact (mu_up_n n6).trans A5) (by exact hB) (by rfl) (by rfl) (Nat.le_of_ble_eq_true rfl) ?_
  generalize hM6 : mu_up (mu_up M5 ej _) a0 _ = M6
  have A6 : M6 a0 = some (.inr (0, [.ref ua, .ref ca, .ref sq, .ref en, .ref ej, x5, x6])) := by rw [← hM6, mu_up_s]; rfl
  have K6 : kp a0 M5 M6 := by rw [← hM6]; exact (kp.new zej).tr kp.put
  have E6 : M6 ej = some (.inr (2, [.int 3, .int 0, .ref w])) := by rw [← hM6, mu_up_n n6.symm, mu_up_s]
  refine wp_aload_n d_Log_init_68 rfl rfl ?_
  refine wp_new d_Log_init_69 nw_Log_31 (Nat.le_of_ble_eq_true rfl) (Nat.le_of_ble_eq_true rfl) (fun et bet zet => ?_)
  have n7 : a0 ≠ et := mu_some_ne A6 zet
  refine wp_dup d_Log_init_72 rfl ?_
  refine wp_iconst (v := 4) d_Log_init_73 (by decide) ?_
  refine wp_iconst (v := 0) d_Log_init_74 (by decide) ?_
  refine wp_aload_n d_Log_init_75 rfl rfl ?_
  refine wi_call d_Log_init_76 ci_Log_33 cd_Entry_init ⟨by decide, by decide⟩ (ct_Entry_init et w 4 0 _ _ _ (mu_up_s _ _ _) bet) rfl rfl (Nat.le_of_ble_eq_true rfl) (Nat.le_of_ble_eq_true rfl) (Nat.le_of_ble_eq_true rfl) (fun v1 M9 hq => ?_)
  obtain ⟨rfl, rfl⟩ := hq
  rw [mu_up_up]
  refine wp_putF d_Log_init_79 ff_Log_43 rfl (by exact (mu_up_n n7).trans A6) (by exact hB) (by rfl) (by rfl) (Nat.le_of_ble_eq_true rfl) ?_
  generalize hM7 : mu_up (mu_up M6 et _) a0 _ = M7
  have A7 : M7 a0 = some (.inr (0, [.ref ua, .ref ca, .ref sq, .ref en, .ref ej, .ref et, x6])) := by rw [← hM7, mu_up_s]; rfl
  have K7 : kp a0 M6 M7 := by rw [← hM7]; exact (kp.new zet).tr kp.put
  have E7 : M7 et = some (.inr (2, [.int 4, .int 0, .ref w])) := by rw [← hM7, mu_up_n n7.symm, mu_up_s]
  refine wp_aload_n d_Log_init_82 rfl rfl ?_
  refine wp_new d_Log_init_83 nw_Log_46 (Nat.le_of_ble_eq_true rfl) (Nat.le_of_ble_eq_true rfl) (fun la bla zla => ?_)
  have n8 : a0 ≠ la := mu_some_ne A7 zla
  refine wp_dup d_Log_init_86 rfl ?_
  refine wp_iconst (v := 1) d_Log_init_87 (by decide) ?_
  refine wp_bipush (v := 12) d_Log_init_88 (by decide) ?_
  refine wx_callS d_Log_init_90 cs_Log_48 cd_Log_rowOf ⟨by decide, by decide⟩ (ct_rowOf G _ (d := 12) vr12) rfl rfl (Nat.le_of_ble_eq_true rfl) (Nat.le_of_ble_eq_true rfl) (Nat.le_of_ble_eq_true rfl) (fun E1 M8 hq => hq.elim) (fun v1 M8 hq => ?_)
  obtain ⟨r0, f0, rfl, br0, zr0, hM8, hf0⟩ := hq
  refine wp_bipush (v := 34) d_Log_init_93 (by decide) ?_
  refine wx_callS d_Log_init_95 cs_Log_48 cd_Log_rowOf ⟨by decide, by decide⟩ (ct_rowOf G _ (d := 34) vr34) rfl rfl (Nat.le_of_ble_eq_true rfl) (Nat.le_of_ble_eq_true rfl) (Nat.le_of_ble_eq_true rfl) (fun E1 M9 hq => hq.elim) (fun v1 M9 hq => ?_)
  obtain ⟨r1, f1, rfl, br1, zr1, hM9, hf1⟩ := hq
  have L9 : M9 la = some (.inr (3, [.int 0, .null, .null])) := by
    rw [hM8] at zr1
    obtain ⟨t1, zr1⟩ := mu_none zr1
    obtain ⟨t2, zr1⟩ := mu_none zr1
    obtain ⟨t3, zr0⟩ := mu_none zr0
    rw [hM9, hM8, mu_up_n t2.symm, mu_up_n t3.symm, mu_up_s]
  refine wi_call d_Log_init_98 ci_Log_52 cd_Layout_init ⟨by decide, by decide⟩ (ct_Layout_init la r0 r1 1 _ _ _ L9 bla) rfl rfl (Nat.le_of_ble_eq_true rfl) (Nat.le_of_ble_eq_true rfl) (Nat.le_of_ble_eq_true rfl) (fun v1 M10 hq => ?_)
  obtain ⟨rfl, hM10⟩ := hq
  have nlr0 : la ≠ r0 := (mu_none zr0).1.symm
  have zr0 := (mu_none zr0).2
  rw [hM8] at zr1
  have nr10 : r1 ≠ r0 := (mu_none zr1).1
  have zr1 := (mu_none zr1).2
  have nlr1 : la ≠ r1 := (mu_none zr1).1.symm
  have zr1 := (mu_none zr1).2
  have s10 : sub M7 M10 := by
    rw [hM10, hM9, hM8]
    exact sub_upd (sub_upd (sub_upd (sub_up zla) zr0) zr1) zla
  have A10 := s10 _ _ A7
  have L10 : M10 la = some (.inr (3, [.int 1, .ref r0, .ref r1])) := by rw [hM10, mu_up_s]
  have R0 : M10 r0 = some (.inl (G.2.2.1 0, ln 12, .inl f0)) := by rw [hM10, mu_up_n nlr0.symm, hM9, hM8, mu_up_n nr10.symm, mu_up_s]
  have R1 : M10 r1 = some (.inl (G.2.2.1 0, ln 34, .inl f1)) := by rw [hM10, mu_up_n nlr1.symm, hM9, mu_up_s]
  refine wp_put d_Log_init_101 fp_Log_55 (by exact A10) (by exact hB) (by rfl) (by rfl) (Nat.le_of_ble_eq_true rfl) ?_
  generalize hM11 : mu_up M10 a0 _ = M11
  have A11 : M11 a0 = some (.inr (0, [.ref ua, .ref ca, .ref sq, .ref en, .ref ej, .ref et, .ref la])) := by rw [← hM11, mu_up_s]; rfl
  have K11 : kp a0 M10 M11 := by rw [← hM11]; exact kp.put
  have k7 : kp a0 M7 M11 := (kp.sub s10).tr K11
  have k6 := K7.tr k7
  have k5 := K6.tr k6
  have k4 := K5.tr k5
  have k3 := (kp.sub sub4).tr k4
  have k2 := K3.tr k3
  have k1 := K2.tr k2
  have k0 := K1.tr k1
  -- apartness from the first four
  have fr : ∀ x, M3 x = none → x ≠ a0 ∧ x ≠ ua ∧ x ≠ ca ∧ x ≠ sq := by
    intro x hx
    refine ⟨fun z => ?_, fun z => ?_, fun z => ?_, fun z => ?_⟩
    · rw [z, A3] at hx; cases hx
    · rw [z, K3 _ _ n1.symm (K2 _ _ n1.symm U1)] at hx; cases hx
    · rw [z, K3 _ _ n2.symm C2] at hx; cases hx
    · rw [z, S3] at hx; cases hx
  have nn : ∀ {μa μb : mu_M} {x : Nat}, kp a0 μa μb → x ≠ a0 → μb x = none → μa x = none := by
    intro μa μb x hk hx hz
    cases h9 : μa x with
    | none => rfl
    | some e => rw [hk _ _ hx h9] at hz; cases hz
  let φ : mu_M := fun a => if a = a0 ∨ a = ua ∨ a = ca ∨ a = sq then none else M11 a
  have φn : ∀ {x}, M3 x = none → φ x = M11 x := fun {x} hx => by
    obtain ⟨t1, t2, t3, t4⟩ := fr x hx
    exact if_neg (fun z => by rcases z with z | z | z | z <;> contradiction)
  have k43 : kp a0 M3 M4 := kp.sub sub4
  have k53 := k43.tr K5
  have k63 := k53.tr K6
  have k73 := k63.tr K7
  obtain ⟨w0, w1, w2, w3, ew, e0, e1, e2, e3, ⟨y0, y1, y2, y3⟩, -⟩ := hNW
  have hFW : ∀ v : Nat → Int32, (∀ i, 2 ≤ i → v i = 0) → FW G φ w v := by
    intro v hv
    refine ⟨w0, w1, w2, w3, _, _, _, _, (φn zw).trans (k4 _ _ (fr w zw).1 ew), (φn y0).trans (k4 _ _ (fr _ y0).1 e0), (φn y1).trans (k4 _ _ (fr _ y1).1 e1), (φn y2).trans (k4 _ _ (fr _ y2).1 e2), (φn y3).trans (k4 _ _ (fr _ y3).1 e3), fun k hk => ⟨(hv _ (by omega)).symm, (hv _ (by omega)).symm, (hv _ (by omega)).symm, (hv _ (by omega)).symm⟩⟩
  have zen3 := nn k43 n5.symm zen
  have zej3 := nn k53 n6.symm zej
  have zet3 := nn k63 n7.symm zet
  have zla3 := nn k73 n8.symm zla
  have zr03 := nn k73 (fun z => by rw [z, A7] at zr0; cases zr0) zr0
  have zr13 := nn k73 (fun z => by rw [z, A7] at zr1; cases zr1) zr1
  refine WP.loc [(0, .ref a0)] rfl (WP.widen (k := 14) (n := 100) (Nat.le_of_ble_eq_true rfl) (Nat.le_of_ble_eq_true rfl) (kk ua ca sq en ej et la M11 φ [(0, .ref a0)] rfl ⟨A11, k1 _ _ n1.symm U1, k2 _ _ n2.symm C2, k3 _ _ n3.symm S3, ?_, ?_, ?_, ?_, ?_, ?_⟩))
  · have U3 := K3 _ _ n1.symm (K2 _ _ n1.symm U1)
    have nuc : ua ≠ ca := mu_some_ne U1 zca
    have nus : ua ≠ sq := mu_some_ne (K2 _ _ n1.symm U1) zsq
    have ncs : ca ≠ sq := mu_some_ne C2 zsq
    refine ⟨fun m n hm hn e => ?_, fun n hn => ?_, fun a e he => ?_⟩
    · rcases (show m = 0 ∨ m = 1 ∨ m = 2 ∨ m = 3 by omega) with rfl | rfl | rfl | rfl <;> rcases (show n = 0 ∨ n = 1 ∨ n = 2 ∨ n = 3 by omega) with rfl | rfl | rfl | rfl <;> first | rfl | exact absurd e n1 | exact absurd e n2 | exact absurd e n3 | exact absurd e n1.symm | exact absurd e n2.symm | exact absurd e n3.symm | exact absurd e nuc | exact absurd e nus | exact absurd e ncs | exact absurd e nuc.symm | exact absurd e nus.symm | exact absurd e ncs.symm
    · rcases (show n = 0 ∨ n = 1 ∨ n = 2 ∨ n = 3 by omega) with rfl | rfl | rfl | rfl
      · exact ⟨⟨_, A11⟩, hB, if_pos (Or.inl rfl)⟩
      · exact ⟨⟨_, k1 _ _ n1.symm U1⟩, bua, if_pos (Or.inr (Or.inl rfl))⟩
      · exact ⟨⟨_, k2 _ _ n2.symm C2⟩, bca, if_pos (Or.inr (Or.inr (Or.inl rfl)))⟩
      · exact ⟨⟨_, k3 _ _ n3.symm S3⟩, bsq, if_pos (Or.inr (Or.inr (Or.inr rfl)))⟩
    · by_cases hz : a = a0 ∨ a = ua ∨ a = ca ∨ a = sq
      · rw [show φ a = none from if_pos hz] at he; cases he
      · rw [show φ a = M11 a from if_neg hz] at he; exact he
  · exact ⟨w, (φn zen3).trans (k5 _ _ n5.symm E5), hFW _ (fun _ _ => rfl)⟩
  · exact ⟨w, (φn zej3).trans (k6 _ _ n6.symm E6), hFW _ (fun i hi => if_neg (by omega))⟩
  · exact ⟨w, (φn zet3).trans (k7 _ _ n7.symm E7), hFW _ (fun i hi => if_neg (by omega))⟩
  · exact ⟨r0, r1, f0, f1, (φn zla3).trans (K11 _ _ n8.symm L10), (φn zr03).trans (K11 _ _ (fr _ zr03).1 R0), (φn zr13).trans (K11 _ _ (fr _ zr13).1 R1), hf0, hf1⟩
  · intro a e na he
    have t1 : a ≠ ua := mu_some_ne he zua
    have t2 : a ≠ ca := mu_some_ne (K1 _ _ na he) zca
    have t3 : a ≠ sq := mu_some_ne (K2 _ _ na (K1 _ _ na he)) zsq
    rw [show φ a = M11 a from if_neg (fun z => by rcases z with z | z | z | z <;> contradiction)]
    exact k0 _ _ na he
end Ini2
end
section
/-! THE CLASS'S CONSTRUCTOR: units and clients -/
section Ini3
variable {G : mt_G}
/-- eight cells of client c, from place b -/
def Blk (G : mt_G) (μ : mu_M) (nb : Nat → Nat) (la : Nat) : Prop := μ (nb 0) = some (.inr (6, [.ref (nb 1), .ref (nb 2), .ref (nb 3), .int 0, .int 0, .ref la])) ∧ μ (nb 1) = some (.inl (G.2.2.1 0, 4, .inl (fun _ => 0))) ∧ μ (nb 2) = some (.inl (G.2.2.1 0, 4, .inl (fun _ => 0))) ∧ μ (nb 3) = some (.inr (5, [.ref (nb 4), .ref (nb 5), .ref (nb 6), .ref (nb 7)])) ∧ μ (nb 4) = some (.inl (G.2.2.1 1, 4, .inl (fun _ => 0))) ∧ μ (nb 5) = some (.inl (G.2.2.1 0, 4, .inl (fun _ => 0))) ∧ μ (nb 6) = some (.inl (G.2.2.1 1, 4, .inl (fun _ => 0))) ∧ μ (nb 7) = some (.inl (G.2.2.1 0, 4, .inl (fun _ => 0)))
def IU (G : mt_G) (μ : mu_M) (AL : Nat → Nat) (en : Nat) (u : Nat) : Prop := μ (AL (4 + 2 * u)) = some (.inr (1, [.ref (AL (5 + 2 * u)), .int 1, .int 0])) ∧ μ (AL (5 + 2 * u)) = some (.inl (G.2.2.1 5, 60, .inr (.inr (.inr (.inr (fun _ => some en))))))
def IC (G : mt_G) (μ : mu_M) (AL : Nat → Nat) (la c : Nat) : Prop := Blk G μ (fun k => AL (16 + 8 * c + k)) la
def Iv (G : mt_G) (μ φ : mu_M) (AL : Nat → Nat) (en ej et la nu nc : Nat) : Prop :=
  Made G μ φ AL (4 + 2 * nu + 8 * nc) ∧ μ (AL 0) = some (.inr (0, [.ref (AL 1), .ref (AL 2), .ref (AL 3), .ref en, .ref ej, .ref et, .ref la])) ∧ μ (AL 1) = some (.inl (G.2.2.1 3, 6, .inr (.inr (.inr (.inr (fun u => if u < nu then some (AL (4 + 2 * u)) else none)))))) ∧ μ (AL 2) = some (.inl (G.2.2.1 4, 4, .inr (.inr (.inr (.inr (fun c => if c < nc then some (AL (16 + 8 * c)) else none)))))) ∧ μ (AL 3) = some (.inr (4, [.int 0, .int 1, .int 0])) ∧
  (∀ u, u < nu → IU G μ AL en u) ∧ (∀ c, c < nc → IC G μ AL la c) ∧ FE G φ en vNone ∧ FE G φ ej vJunk ∧ FE G φ et vTrim ∧ FL G φ la 1 (δ0 0)
/-- a client's or a unit's cells made: all else but the list of them stays -/
theorem keepL {μ1 μ2 : mu_M} {q b : Nat} {e0 eb : va_E} (hq : μ1 q = none) (hk : kp q (mu_up μ1 q e0) μ2) : ∀ a e, a ≠ b → μ1 a = some e → (mu_up μ2 b eb) a = some e := fun a e hab ha => by
  have n := mu_some_ne ha hq
  rw [mu_up_n hab]
  exact hk a e n ((mu_up_n n).trans ha)
theorem arr_if {nu u x : Nat} {AL AL' : Nat → Nat} (p : Nat → Nat) (hu : u = nu) (h1 : ∀ j, j < nu → AL' (p j) = AL (p j)) (h2 : AL' (p nu) = x) : va_up (fun j => if j < nu then some (AL (p j)) else none) u (some x) = fun j => if j < nu + 1 then some (AL' (p j)) else none := by
  subst hu
  funext o
  by_cases ho : o = u
  · rw [ho, va_up_self, if_pos (by omega), h2]
  · rw [va_up_ne _ _ ho]
    by_cases h9 : o < u
    · rw [if_pos h9, if_pos (by omega), h1 o h9]
    · rw [if_neg h9, if_neg (by omega)]
theorem Iv.unit {μ1 μ2 φ : mu_M} {AL : Nat → Nat} {en ej et la nu q ca : Nat} {e0 : va_E} (h : Iv G μ1 φ AL en ej et la nu 0) (hn : nu < 6) (zq : μ1 q = none) (bq : G.2.2.2 ≤ q) (zc : mu_up μ1 q e0 ca = none) (bc : G.2.2.2 ≤ ca) (hq : μ2 q = some (.inr (1, [.ref ca, .int 1, .int 0]))) (hc : μ2 ca = some (.inl (G.2.2.1 5, 60, .inr (.inr (.inr (.inr (fun _ => some en))))))) (hk : kp q (mu_up μ1 q e0) μ2) :
    ∃ AL', AL' 0 = AL 0 ∧ Iv G (mu_up μ2 (AL 1) (.inl (G.2.2.1 3, 6, .inr (.inr (.inr (.inr (va_up (fun u => if u < nu then some (AL (4 + 2 * u)) else none) nu (some q)))))))) φ AL' en ej et la (nu + 1) 0 := by
  obtain ⟨hM, i0, i1, i2, i3, iu, -, f1, f2, f3, f4⟩ := h
  have hM0 := hM
  obtain ⟨g1, g2, g3⟩ := hM0
  have kL := fun eb => keepL (b := AL 1) (eb := eb) zq hk
  obtain ⟨ncq, zc1⟩ := mu_none zc
  have hq1 : q ≠ AL 1 := fun z => by rw [z, i1] at zq; cases zq
  have hc1 : ca ≠ AL 1 := fun z => by rw [z, i1] at zc1; cases zc1
  let nb : Nat → Nat := fun k => if k = 0 then q else ca
  let AL' : Nat → Nat := fun n => if n < 4 + 2 * nu then AL n else nb (n - (4 + 2 * nu))
  have a1 : ∀ n, n < 4 + 2 * nu → AL' n = AL n := fun n hn => if_pos hn
  have a2 : AL' (4 + 2 * nu) = q := by
    show (if _ then _ else nb _) = q
    rw [if_neg (by omega), Nat.sub_self]; rfl
  have a3 : AL' (5 + 2 * nu) = ca := by
    show (if _ then _ else nb _) = ca
    rw [if_neg (by omega), show 5 + 2 * nu - (4 + 2 * nu) = 1 by omega]; rfl
  have al : ∀ n, n < 4 + 2 * nu → n ≠ 1 → AL n ≠ AL 1 := fun n hn h1 z => h1 (g1 n 1 (by omega) (by omega) z)
  refine ⟨AL', a1 0 (by omega), ?_, ?_, ?_, ?_, ?_, ?_, fun c hc => absurd hc (by omega), f1, f2, f3, f4⟩
  · refine (hM.more (m := 2) (nb := nb) (fun n hn => ?_) (fun a e ha => ?_) (fun k hk => ?_) (fun j k hj hk e => ?_) (fun k hk => ?_)).ct (by omega)
    · obtain ⟨e, he⟩ := (g2 n hn).1
      by_cases hn1 : n = 1
      · rw [hn1]; exact ⟨_, mu_up_s _ _ _⟩
      · exact ⟨e, kL _ _ _ (al n hn hn1) he⟩
    · refine kL _ a e (fun z => ?_) (g3 a e ha)
      rw [z, (g2 1 (by omega)).2.2] at ha; cases ha
    · rcases (show k = 0 ∨ k = 1 by omega) with rfl | rfl
      · exact ⟨zq, bq⟩
      · exact ⟨zc1, bc⟩
    · rcases (show j = 0 ∨ j = 1 by omega) with rfl | rfl <;> rcases (show k = 0 ∨ k = 1 by omega) with rfl | rfl
      · rfl
      · exact absurd e.symm ncq
      · exact absurd e ncq
      · rfl
    · rcases (show k = 0 ∨ k = 1 by omega) with rfl | rfl
      · exact ⟨_, (mu_up_n hq1).trans hq⟩
      · exact ⟨_, (mu_up_n hc1).trans hc⟩
  · rw [a1 0 (by omega), a1 1 (by omega), a1 2 (by omega), a1 3 (by omega)]
    exact kL _ _ _ (al 0 (by omega) (by omega)) i0
  · rw [a1 1 (by omega), mu_up_s, arr_if (AL := AL) (AL' := AL') (fun u => 4 + 2 * u) rfl (fun j hj => a1 _ (by omega)) a2]
  · rw [a1 2 (by omega), kL _ _ _ (al 2 (by omega) (by omega)) i2]
    congr 8
  · rw [a1 3 (by omega)]; exact kL _ _ _ (al 3 (by omega) (by omega)) i3
  · intro u hu
    by_cases h9 : u < nu
    · obtain ⟨j1, j2⟩ := iu u h9
      unfold IU
      rw [a1 (4 + 2 * u) (by omega), a1 (5 + 2 * u) (by omega)]
      exact ⟨kL _ _ _ (al _ (by omega) (by omega)) j1, kL _ _ _ (al _ (by omega) (by omega)) j2⟩
    · obtain rfl : u = nu := by omega
      unfold IU
      rw [a2, a3]
      exact ⟨(mu_up_n hq1).trans hq, (mu_up_n hc1).trans hc⟩
theorem Iv.cli {μ1 μ2 φ : mu_M} {AL nb : Nat → Nat} {en ej et la nc q : Nat} {e0 : va_E} (h : Iv G μ1 φ AL en ej et la 6 nc) (hn : nc < 4) (n0 : nb 0 = q) (zq : μ1 q = none) (bq : G.2.2.2 ≤ q) (zn : ∀ k, 0 < k → k < 8 → mu_up μ1 q e0 (nb k) = none ∧ G.2.2.2 ≤ nb k) (inj : ∀ j k, j < 8 → k < 8 → nb j = nb k → j = k) (hb : Blk G μ2 nb la) (hk : kp q (mu_up μ1 q e0) μ2) :
    ∃ AL', AL' 0 = AL 0 ∧ Iv G (mu_up μ2 (AL 2) (.inl (G.2.2.1 4, 4, .inr (.inr (.inr (.inr (va_up (fun c => if c < nc then some (AL (16 + 8 * c)) else none) nc (some q)))))))) φ AL' en ej et la 6 (nc + 1) := by
  obtain ⟨hM, i0, i1, i2, i3, iu, ic, f1, f2, f3, f4⟩ := h
  have hM0 := hM
  obtain ⟨g1, g2, g3⟩ := hM0
  have kL := fun eb => keepL (b := AL 2) (eb := eb) zq hk
  have zz : ∀ k, k < 8 → μ1 (nb k) = none ∧ G.2.2.2 ≤ nb k := by
    intro k hk
    by_cases hk0 : k = 0
    · rw [hk0, n0]; exact ⟨zq, bq⟩
    · exact ⟨(mu_none (zn k (by omega) hk).1).2, (zn k (by omega) hk).2⟩
  have hc2 : ∀ k, k < 8 → nb k ≠ AL 2 := fun k hk z => by have := (zz k hk).1; rw [z, i2] at this; cases this
  let AL' : Nat → Nat := fun n => if n < 4 + 2 * 6 + 8 * nc then AL n else nb (n - (4 + 2 * 6 + 8 * nc))
  have a1 : ∀ n, n < 4 + 2 * 6 + 8 * nc → AL' n = AL n := fun n hn => if_pos hn
  have a2 : ∀ k, k < 8 → AL' (16 + 8 * nc + k) = nb k := fun k hk => by
    show (if _ then _ else nb _) = nb k
    rw [if_neg (by omega), show 16 + 8 * nc + k - (4 + 2 * 6 + 8 * nc) = k by omega]
  have al : ∀ n, n < 4 + 2 * 6 + 8 * nc → n ≠ 2 → AL n ≠ AL 2 := fun n hn h1 z => h1 (g1 n 2 (by omega) (by omega) z)
  obtain ⟨b0, b1, b2, b3, b4, b5, b6, b7⟩ := hb
  refine ⟨AL', a1 0 (by omega), ?_, ?_, ?_, ?_, ?_, ?_, ?_, f1, f2, f3, f4⟩
  · refine (hM.more (m := 8) (nb := nb) (fun n hn => ?_) (fun a e ha => ?_) zz inj (fun k hk => ?_)).ct (by omega)
    · obtain ⟨e, he⟩ := (g2 n hn).1
      by_cases hn1 : n = 2
      · rw [hn1]; exact ⟨_, mu_up_s _ _ _⟩
      · exact ⟨e, kL _ _ _ (al n hn hn1) he⟩
    · refine kL _ a e (fun z => ?_) (g3 a e ha)
      rw [z, (g2 2 (by omega)).2.2] at ha; cases ha
    · have hx : ∃ e, μ2 (nb k) = some e := by
        rcases (show k = 0 ∨ k = 1 ∨ k = 2 ∨ k = 3 ∨ k = 4 ∨ k = 5 ∨ k = 6 ∨ k = 7 by omega) with rfl | rfl | rfl | rfl | rfl | rfl | rfl | rfl
        · exact ⟨_, b0⟩
        · exact ⟨_, b1⟩
        · exact ⟨_, b2⟩
        · exact ⟨_, b3⟩
        · exact ⟨_, b4⟩
        · exact ⟨_, b5⟩
        · exact ⟨_, b6⟩
        · exact ⟨_, b7⟩
      obtain ⟨e, he⟩ := hx
      exact ⟨e, (mu_up_n (hc2 k hk)).trans he⟩
  · rw [a1 0 (by omega), a1 1 (by omega), a1 2 (by omega), a1 3 (by omega)]
    exact kL _ _ _ (al 0 (by omega) (by omega)) i0
  · rw [a1 1 (by omega), kL _ _ _ (al 1 (by omega) (by omega)) i1]
    congr 8
    funext u
    by_cases h9 : u < 6
    · rw [if_pos h9, if_pos h9, a1 _ (by omega)]
    · rw [if_neg h9, if_neg h9]
  · rw [a1 2 (by omega), mu_up_s, arr_if (AL := AL) (AL' := AL') (fun u => 16 + 8 * u) rfl (fun j hj => a1 _ (by omega)) ((a2 0 (by omega)).trans n0)]
  · rw [a1 3 (by omega)]; exact kL _ _ _ (al 3 (by omega) (by omega)) i3
  · intro u hu
    obtain ⟨j1, j2⟩ := iu u hu
    unfold IU
    rw [a1 (4 + 2 * u) (by omega), a1 (5 + 2 * u) (by omega)]
    exact ⟨kL _ _ _ (al _ (by omega) (by omega)) j1, kL _ _ _ (al _ (by omega) (by omega)) j2⟩
  · intro c hc
    by_cases h9 : c < nc
    · obtain ⟨j0, j1, j2, j3, j4, j5, j6, j7⟩ := ic c h9
      unfold IC Blk
      dsimp only
      rw [a1 (16 + 8 * c + 0) (by omega), a1 (16 + 8 * c + 1) (by omega), a1 (16 + 8 * c + 2) (by omega), a1 (16 + 8 * c + 3) (by omega), a1 (16 + 8 * c + 4) (by omega), a1 (16 + 8 * c + 5) (by omega), a1 (16 + 8 * c + 6) (by omega), a1 (16 + 8 * c + 7) (by omega)]
      exact ⟨kL _ _ _ (al _ (by omega) (by omega)) j0, kL _ _ _ (al _ (by omega) (by omega)) j1, kL _ _ _ (al _ (by omega) (by omega)) j2, kL _ _ _ (al _ (by omega) (by omega)) j3, kL _ _ _ (al _ (by omega) (by omega)) j4, kL _ _ _ (al _ (by omega) (by omega)) j5, kL _ _ _ (al _ (by omega) (by omega)) j6, kL _ _ _ (al _ (by omega) (by omega)) j7⟩
    · obtain rfl : c = nc := by omega
      unfold IC Blk
      dsimp only
      rw [a2 0 (by omega), a2 1 (by omega), a2 2 (by omega), a2 3 (by omega), a2 4 (by omega), a2 5 (by omega), a2 6 (by omega), a2 7 (by omega)]
      exact ⟨(mu_up_n (hc2 0 (by omega))).trans b0, (mu_up_n (hc2 1 (by omega))).trans b1, (mu_up_n (hc2 2 (by omega))).trans b2, (mu_up_n (hc2 3 (by omega))).trans b3, (mu_up_n (hc2 4 (by omega))).trans b4, (mu_up_n (hc2 5 (by omega))).trans b5, (mu_up_n (hc2 6 (by omega))).trans b6, (mu_up_n (hc2 7 (by omega))).trans b7⟩
def g0 (en ej et la : Nat) : dg := fun i k => if i = 0 then (if k = 3 then en else if k = 4 then ej else if k = 5 then et else la) else if i < 16 then en else la
theorem g0_0 (en ej et la : Nat) : (g0 en ej et la 0 3 = en ∧ g0 en ej et la 0 4 = ej) ∧ g0 en ej et la 0 5 = et ∧ g0 en ej et la 0 6 = la := ⟨⟨rfl, rfl⟩, rfl, rfl⟩
theorem g0_e {en ej et la i k : Nat} (h : 0 < i) (h2 : i < 16) : g0 en ej et la i k = en := by unfold g0; rw [if_neg (by omega), if_pos h2]
theorem g0_l {en ej et la i k : Nat} (h : 16 ≤ i) : g0 en ej et la i k = la := by unfold g0; rw [if_neg (by omega), if_neg (by omega)]
theorem σ0_z {i k : Nat} (h : 10 ≤ i) (h2 : i < 500 ∨ 505 ≤ i) : σ0 i k = 0 := by unfold σ0; rw [if_neg (by omega), if_neg (by omega), if_neg (by omega)]
theorem σ0_zf {i : Nat} (h : 10 ≤ i) (h2 : i < 500 ∨ 505 ≤ i) : σ0 i = fun _ => 0 := funext fun _ => σ0_z h h2
theorem σ0_u1 {u : Nat} (h : u < 6) : σ0 (4 + u) 1 = 1 := by unfold σ0; rw [if_neg (by omega), if_pos (by omega)]
theorem σ0_u2 {u : Nat} (h : u < 6) : σ0 (4 + u) 2 = 0 := by unfold σ0; rw [if_neg (by omega), if_neg (by omega), if_neg (by omega)]
theorem σ0_e {i : Nat} (h : 500 ≤ i) (h2 : i < 505) : σ0 i 0 = 1 := by unfold σ0; rw [if_neg (by omega), if_neg (by omega), if_pos (by omega)]
def ad0 (AL : Nat → Nat) (r : Nat) : Nat := AL (pi0 r)
set_option maxHeartbeats 2000000 in
theorem Iv.cx {μ φ : mu_M} {AL : Nat → Nat} {en ej et la : Nat} (h : Iv G μ φ AL en ej et la 6 4) : Cx G (mu_up (mu_up μ (AL 1) (.inl (G.2.2.1 3, 6, .inr (.inr (.inr (.inr (fun u => some (ad0 AL (4 + u))))))))) (AL 2) (.inl (G.2.2.1 4, 4, .inr (.inr (.inr (.inr (fun c => some (ad0 AL (16 + c))))))))) φ (ad0 AL) (g0 en ej et la) σ0 δ0 := by
  obtain ⟨⟨g1, g2, g3⟩, i0, i1, i2, i3, iu, ic, f1, f2, f3, f4⟩ := h
  have p4 : ∀ u, u < 6 → pi0 (4 + u) = 4 + 2 * u := fun u hu => by unfold pi0; rw [if_neg (by omega), if_pos (by omega)]; omega
  have p10 : ∀ u, u < 6 → pi0 (10 + u) = 5 + 2 * u := fun u hu => by unfold pi0; rw [if_neg (by omega), if_neg (by omega), if_pos (by omega)]; omega
  have p16 : ∀ c k, c < 4 → k < 8 → pi0 (16 + 4 * k + c) = 16 + 8 * c + k := fun c k hc hk => by
    unfold pi0
    rw [if_neg (by omega), if_neg (by omega), if_neg (by omega)]
    omega
  have q16 : ∀ c k i, c < 4 → k < 8 → i = 16 + 4 * k + c → ad0 AL i = AL (16 + 8 * c + k) := fun c k i hc hk e => by rw [e, ad0, p16 c k hc hk]
  have al : ∀ {e1 e2 : va_E} {n : Nat}, n < 48 → n ≠ 1 → n ≠ 2 → mu_up (mu_up μ (AL 1) e1) (AL 2) e2 (AL n) = μ (AL n) := fun {e1 e2 n} hn h1 h2 => by
    rw [mu_up_n (fun z => h2 (g1 n 2 hn (by omega) z)), mu_up_n (fun z => h1 (g1 n 1 hn (by omega) z))]
  have n12 : AL 1 ≠ AL 2 := fun z => absurd (g1 1 2 (by omega) (by omega) z) (by omega)
  refine ⟨⟨fun i hi => ?_, fun i j hi hj e => pi0_inj hi hj (g1 _ _ (pi0_lt hi) (pi0_lt hj) e), fun i hi => (g2 _ (pi0_lt hi)).2.1⟩, fun a e he => ⟨?_, fun i hi z => ?_⟩, fun u o hu ho => ?_, f1, f2, f3, f4, fun c hc => ?_⟩
  · rcases (show i < 4 ∨ (4 ≤ i ∧ i < 10) ∨ (10 ≤ i ∧ i < 16) ∨ 16 ≤ i by omega) with h | h | h | h
    · rcases (show i = 0 ∨ i = 1 ∨ i = 2 ∨ i = 3 by omega) with rfl | rfl | rfl | rfl
      · exact (al (n := 0) (by omega) (by omega) (by omega)).trans i0
      · rw [sh_uar (by omega) (by omega)]
        show mu_up _ _ _ (AL 1) = _
        rw [mu_up_n n12, mu_up_s]
      · rw [sh_car (by omega) (by omega)]
        exact mu_up_s _ _ _
      · exact (al (n := 3) (by omega) (by omega) (by omega)).trans i3
    · obtain ⟨u, rfl⟩ : ∃ u, i = 4 + u := ⟨i - 4, by omega⟩
      rw [sh_unit (by omega) (by omega), show 4 + u + 6 = 10 + u by omega, ad0, p4 u (by omega), al (by omega) (by omega) (by omega), (iu u (by omega)).1, ad0, p10 u (by omega), σ0_u1 (by omega), σ0_u2 (by omega)]
    · obtain ⟨u, rfl⟩ : ∃ u, i = 10 + u := ⟨i - 10, by omega⟩
      rw [sh_cells (by omega) (by omega), ad0, p10 u (by omega), al (by omega) (by omega) (by omega), (iu u (by omega)).2]
      congr 8
      funext o
      rw [g0_e (by omega) (by omega)]
    · have hc : (i - 16) % 4 < 4 := by omega
      have hk : (i - 16) / 4 < 8 := by omega
      generalize hcc : (i - 16) % 4 = c at hc
      generalize hkk : (i - 16) / 4 = k at hk
      obtain ⟨b0, b1, b2, b3, b4, b5, b6, b7⟩ := ic c hc
      rw [q16 c k i hc hk (by omega), al (by omega) (by omega) (by omega)]
      rcases (show k = 0 ∨ k = 1 ∨ k = 2 ∨ k = 3 ∨ k = 4 ∨ k = 5 ∨ k = 6 ∨ k = 7 by omega) with rfl | rfl | rfl | rfl | rfl | rfl | rfl | rfl
      · rw [b0, sh_cli (by omega) (by omega), q16 c 1 (i + 4) hc (by omega) (by omega), q16 c 2 (i + 8) hc (by omega) (by omega), q16 c 3 (i + 12) hc (by omega) (by omega), σ0_z (by omega) (by omega), σ0_z (by omega) (by omega), g0_l (by omega)]
      · rw [b1, sh_val (by omega) (by omega), σ0_zf (by omega) (by omega)]
      · rw [b2, sh_age (by omega) (by omega), σ0_zf (by omega) (by omega)]
      · rw [b3, sh_tx (by omega) (by omega), q16 c 4 (i + 4) hc (by omega) (by omega), q16 c 5 (i + 8) hc (by omega) (by omega), q16 c 6 (i + 12) hc (by omega) (by omega), q16 c 7 (i + 16) hc (by omega) (by omega)]
      · rw [b4, sh_tr (by omega) (by omega), σ0_zf (by omega) (by omega)]
      · rw [b5, sh_ta (by omega) (by omega), σ0_zf (by omega) (by omega)]
      · rw [b6, sh_tp (by omega) (by omega), σ0_zf (by omega) (by omega)]
      · rw [b7, sh_tv (by omega) (by omega), σ0_zf (by omega) (by omega)]
  · have hx : ∀ n, n < 48 → a ≠ AL n := fun n hn z => by rw [z, (g2 n hn).2.2] at he; cases he
    rw [mu_up_n (hx 2 (by omega)), mu_up_n (hx 1 (by omega))]
    exact g3 a e he
  · rw [z, ad0, (g2 _ (pi0_lt hi)).2.2] at he; cases he
  · rw [g0_e (by omega) (by omega), σ0_zf (by unfold eR; omega) (by unfold eR; omega)]
    exact f1
  · rw [g0_l (by omega), σ0_e (by omega) (by omega)]
    exact f4
def PNew (G : mt_G) (μ : mu_M) (a0 : Nat) : Option Value → mu_M → Prop := fun v μ' => v = none ∧ ∃ (ad : Nat → Nat) (φ : mu_M) (g : dg), ad 0 = a0 ∧ Cx G μ' φ ad g σ0 δ0 ∧ ∀ a e, a ≠ a0 → μ a = some e → φ a = some e
set_option maxHeartbeats 8000000 in
set_option maxRecDepth 10000 in
theorem ct_Log_init {μ : mu_M} (a0 : Nat) (x0 x1 x2 x3 x4 x5 x6 : Value) (h : μ a0 = some (.inr (0, [x0, x1, x2, x3, x4, x5, x6]))) (hB : G.2.2.2 ≤ a0) : CTI G M_Log_init [.ref a0] μ (PNew G μ a0) := by
  refine CTI.of (by decide) rfl (Nat.le_of_ble_eq_true rfl) (wp_Log_init1 _ a0 _ _ _ _ _ _ _ h hB (fun ua ca sq en ej et la μ1 φ lo hlo hP => ?_))
  obtain ⟨p0, p1, p2, p3, pM, f1, f2, f3, f4, hφ⟩ := hP
  have hI : Iv G μ1 φ (fun n => if n = 0 then a0 else if n = 1 then ua else if n = 2 then ca else sq) en ej et la 0 0 := ⟨pM, p0, p1, p2, p3, fun u hu => absurd hu (by omega), fun u hu => absurd hu (by omega), f1, f2, f3, f4⟩
  have cl : ∀ (n c : Nat) (AL : Nat → Nat) (μ1 : mu_M), c + n = 4 → AL 0 = a0 → Iv G μ1 φ AL en ej et la 6 c → WP G M_Log_init (ECI G M_Log_init (PNew G μ a0)) [(0, .ref a0), (2, .int (nI c))] 137 [] μ1 (26 + 8 * c) (478 + 34 * c) := by
    intro n
    induction n with
    | zero =>
      intro c AL μ1 hc h0 hI
      obtain rfl : c = 4 := by omega
      have i1 := hI.2.2.1
      have i2 := hI.2.2.2.1
      have n12 : AL 2 ≠ AL 1 := fun z => absurd (hI.1.1 2 1 (by omega) (by omega) z) (by omega)
      have p4 : ∀ u, u < 6 → pi0 (4 + u) = 4 + 2 * u := fun u hu => by unfold pi0; rw [if_neg (by omega), if_pos (by omega)]; omega
      have p16 : ∀ c, c < 4 → pi0 (16 + c) = 16 + 8 * c := fun c hc => by unfold pi0; rw [if_neg (by omega), if_neg (by omega), if_neg (by omega)]; omega
      refine wp_iload_n d_Log_init_137 rfl rfl ?_
      refine wp_iconst (v := 4) d_Log_init_138 (by decide) ?_
      refine wp_icmp_ge (tgt := 165) d_Log_init_139 (by decide) (fun c139 => ?_) (fun c139 => ?_)
      · refine WP.arrq (f' := fun u => some (ad0 AL (4 + u))) i1 (fun j hj => by rw [if_pos hj, ad0, p4 j hj]) ?_
        refine WP.arrq (f' := fun u => some (ad0 AL (16 + u))) ((mu_up_n n12).trans i2) (fun j hj => by rw [if_pos hj, ad0, p16 j hj]) ?_
        exact wp_vretI d_Log_init_165 rfl (by decide) (by decide) ⟨rfl, ad0 AL, φ, g0 en ej et la, h0, hI.cx, hφ⟩
      · exact absurd (by decide) c139
    | succ n ih =>
      intro c AL μ1 hc h0 hI
      have i0 := hI.2.1
      rw [h0] at i0
      have i2 := hI.2.2.2.1
      have b2 := (hI.1.2.1 2 (by omega)).2.1
      refine wp_iload_n d_Log_init_137 rfl rfl ?_
      refine wp_iconst (v := 4) d_Log_init_138 (by decide) ?_
      refine wp_icmp_ge (tgt := 165) d_Log_init_139 (by decide) (fun c139 => ?_) (fun c139 => ?_)
      · exact absurd ((nI_leI (a := 4) (by omega) (by omega)).mp c139) (by omega)
      refine wp_aload_n d_Log_init_142 rfl rfl ?_
      refine wp_get d_Log_init_143 fl_Log_17 (by exact i0) (by rfl) ?_
      refine wp_iload_n d_Log_init_146 rfl rfl ?_
      refine wp_new d_Log_init_147 nw_Log_15 (show 26 + 8 * c + 1 ≤ 71 by omega) (show 478 + 34 * c + 6 ≤ 800 by omega) (fun q bq zq => ?_)
      refine wp_dup d_Log_init_150 rfl ?_
      refine wp_aload_n d_Log_init_151 rfl rfl ?_
      refine wp_get d_Log_init_152 fl_Log_55 (by exact (mu_up_n (mu_some_ne i0 zq)).trans i0) (by rfl) ?_
      refine wi_call d_Log_init_155 ci_Log_62 cd_Client_init ⟨by decide, by decide⟩ (ct_Client_init q la _ _ _ _ _ _ (mu_up_s _ _ _) bq) rfl rfl (Nat.le_of_ble_eq_true rfl) (show 26 + 8 * c + 1 + 7 ≤ 71 by omega) (show 478 + 34 * c + 6 + 28 ≤ 800 by omega) (fun v1 μ2 hq => ?_)
      obtain ⟨rfl, nb, n0, zn, inj, b0, b1, b2', b3, b4, b5, b6, b7, hk⟩ := hq
      have nq2 : AL 2 ≠ q := mu_some_ne i2 zq
      have i2' : μ2 (AL 2) = _ := hk _ _ nq2 ((mu_up_n nq2).trans i2)
      refine wp_aast d_Log_init_158 (t := 4) (ci := 6) (r := ("SharedLog$Client", F_Client, 6)) rfl rfl i2' b2 b0 rfl (show c < 4 by omega) (by omega) ?_
      refine wp_iinc d_Log_init_159 rfl rfl (by decide) ?_
      refine wp_goto (tgt := 137) d_Log_init_162 (by decide) ?_
      obtain ⟨AL', h0', hI'⟩ := hI.cli (by omega) n0 zq bq zn inj ⟨n0 ▸ b0, b1, b2', b3, b4, b5, b6, b7⟩ hk
      refine WP.loc [(0, .ref a0), (2, .int (nI (c + 1)))] (by rw [← nI_1 c]; rfl) (WP.widen (show 26 + 8 * c + 1 + 7 ≤ 26 + 8 * (c + 1) by omega) (show 478 + 34 * c + 6 + 28 ≤ 478 + 34 * (c + 1) by omega) (ih (c + 1) AL' _ (by omega) (h0'.trans h0) hI'))
  have un : ∀ (n u : Nat) (AL : Nat → Nat) (μ1 : mu_M), u + n = 6 → AL 0 = a0 → Iv G μ1 φ AL en ej et la u 0 → WP G M_Log_init (ECI G M_Log_init (PNew G μ a0)) [(0, .ref a0), (2, .int (nI u))] 106 [] μ1 (14 + 2 * u) (100 + 63 * u) := by
    intro n
    induction n with
    | zero =>
      intro u AL μ1 hu h0 hI
      obtain rfl : u = 6 := by omega
      refine wp_iload_n d_Log_init_106 rfl rfl ?_
      refine wp_bipush (v := 6) d_Log_init_107 (by decide) ?_
      refine wp_icmp_ge (tgt := 135) d_Log_init_109 (by decide) (fun c109 => ?_) (fun c109 => ?_)
      · refine wp_iconst (v := 0) d_Log_init_135 (by decide) ?_
        refine wp_istore_n d_Log_init_136 rfl (by decide) ?_
        exact WP.loc [(0, .ref a0), (2, .int (nI 0))] rfl (cl 4 0 AL μ1 rfl h0 hI)
      · exact absurd (by decide) c109
    | succ n ih =>
      intro u AL μ1 hu h0 hI
      have i0 := hI.2.1
      rw [h0] at i0
      have i1 := hI.2.2.1
      have b1 := (hI.1.2.1 1 (by omega)).2.1
      refine wp_iload_n d_Log_init_106 rfl rfl ?_
      refine wp_bipush (v := 6) d_Log_init_107 (by decide) ?_
      refine wp_icmp_ge (tgt := 135) d_Log_init_109 (by decide) (fun c109 => ?_) (fun c109 => ?_)
      · exact absurd ((nI_leI (a := 6) (by omega) (by omega)).mp c109) (by omega)
      refine wp_aload_n d_Log_init_112 rfl rfl ?_
      refine wp_get d_Log_init_113 fl_Log_11 (by exact i0) (by rfl) ?_
      refine wp_iload_n d_Log_init_116 rfl rfl ?_
      refine wp_new d_Log_init_117 nw_Log_9 (show 14 + 2 * u + 1 ≤ 71 by omega) (show 100 + 63 * u + 3 ≤ 800 by omega) (fun q bq zq => ?_)
      refine wp_dup d_Log_init_120 rfl ?_
      refine wp_aload_n d_Log_init_121 rfl rfl ?_
      refine wp_get d_Log_init_122 fl_Log_36 (by exact (mu_up_n (mu_some_ne i0 zq)).trans i0) (by rfl) ?_
      obtain ⟨w, hen, -⟩ := hI.2.2.2.2.2.2.2.1
      have hen1 := hI.1.2.2 _ _ hen
      refine wi_call d_Log_init_125 ci_Log_59 cd_Unit_init ⟨by decide, by decide⟩ (ct_Unit_init q en _ _ _ _ (mu_up_s _ _ _) bq ((mu_up_n (mu_some_ne hen1 zq)).trans hen1)) rfl rfl (Nat.le_of_ble_eq_true rfl) (show 14 + 2 * u + 1 + 1 ≤ 71 by omega) (show 100 + 63 * u + 3 + 60 ≤ 800 by omega) (fun v1 μ2 hq => ?_)
      obtain ⟨rfl, ca', zc, bc, hq1, hq2, hk⟩ := hq
      have nq2 : AL 1 ≠ q := mu_some_ne i1 zq
      have i1' : μ2 (AL 1) = _ := hk _ _ nq2 ((mu_up_n nq2).trans i1)
      refine wp_aast d_Log_init_128 (t := 3) (ci := 1) (r := ("SharedLog$Unit", F_Unit, 3)) rfl rfl i1' b1 hq1 rfl (show u < 6 by omega) (by omega) ?_
      refine wp_iinc d_Log_init_129 rfl rfl (by decide) ?_
      refine wp_goto (tgt := 106) d_Log_init_132 (by decide) ?_
      obtain ⟨AL', h0', hI'⟩ := hI.unit (by omega) zq bq zc bc hq1 hq2 hk
      refine WP.loc [(0, .ref a0), (2, .int (nI (u + 1)))] (by rw [← nI_1 u]; rfl) (WP.widen (show 14 + 2 * u + 1 + 1 ≤ 14 + 2 * (u + 1) by omega) (show 100 + 63 * u + 3 + 60 ≤ 100 + 63 * (u + 1) by omega) (ih (u + 1) AL' _ (by omega) (h0'.trans h0) hI'))
  refine wp_iconst (v := 0) d_Log_init_104 (by decide) ?_
  refine wp_istore_n d_Log_init_105 rfl (by decide) ?_
  exact WP.loc [(0, .ref a0), (2, .int (nI 0))] rfl (un 6 0 _ μ1 rfl rfl hI)
end Ini3
end
