/-! THE LAW'S ROWS: arrays of longs, their compare, catches, calls of methods that catch -/
section LR
variable {G : mt_G} {M : mt_M} {QE : mt_Q} {lo : List (Nat × Value)} {pc : Nat} {rest : List Value} {μ : mu_M} {cn sn : Nat}
theorem wp_last {a n j : Nat} {f : Nat → Int64} {i : Int32} {x : Int64} (hdg : decode (mt_c M) pc = .ok (.lastore, 1)) (he : μ a = some (.inl (G.2.2.1 2, n, .inr (.inl f)))) (hB : G.2.2.2.1 ≤ a) (hi : i = nI j) (hj : j < n) (hn : n < 2 ^ 31) (kk : WP G M QE lo (pc + 1) rest (mu_up μ a (.inl (G.2.2.1 2, n, .inr (.inl (vp_updL f j x))))) cn sn) : WP G M QE lo pc (.long x :: .int i :: .ref a :: rest) μ cn sn := by
  subst hi
  intro hg p e s m args below meth c H locs ls hM hV hS hL
  refine W.last hM.1 hM.2.1 (hV a _ he) ((hM.2.2.2.2.2.2.2.2.1.2 2 _ rfl).1 n (fun j => .long (f j))) (fun q => by cases q) (by show ¬ (_ < 0 ∨ (arrV _ _ _).slots.size ≤ _); rw [arrV_size]; exact vp_in_nI hj hn) rfl rfl hdg fun H1 e1 z oq => ?_
  refine kk hg p e s m args below meth c H1 _ ls hM (hV.set ?_ oq) (hS.put z oq hB) hL
  show H1[a]? = some (vp_cell _ _)
  rw [e1]
  rw [vp_cell_l, vp_cell_l, arrV_store, nI_clamp (Nat.lt_trans hj hn)]
  congr 2
  funext q
  by_cases hq : q = j
  · subst hq
    simp [updV, vp_updL]
  · simp [updV, vp_updL, hq]
theorem wp_lcmp {x y : Int64} (hdg : decode (mt_c M) pc = .ok (.lcmp, 1)) (kk : WP G M QE lo (pc + 1) (.int (lg_cmp x y) :: rest) μ cn sn) : WP G M QE lo pc (.long y :: .long x :: rest) μ cn sn :=
  fun hg p e s m args below meth c H locs ls hM hV hS hL => W.lcmp hM.1 hM.2.1 hdg (kk hg p e s m args below meth c H locs ls hM hV hS hL)
theorem wp_newL {N : Nat} (hdg : decode (mt_c M) pc = .ok (.newarray .long, 2)) (hw : Cond.arrayClass .long ∈ WALL) (hN : N < 10000) (hc : cn + 1 ≤ (mt_R M).cells) (hs : sn + N ≤ (mt_R M).slots) (kk : ∀ q : Nat, G.2.2.2.1 ≤ q → μ q = none → WP G M QE lo (pc + 2) (.ref q :: rest) (mu_up μ q (.inl (G.2.2.1 2, N, .inr (.inl (fun _ => 0))))) (cn + 1) (sn + N)) : WP G M QE lo pc (.int (nI N) :: rest) μ cn sn := by
  intro hg p e s m args below meth c H locs ls hM hV hS hL
  have hAm := hM.2.2.2.2.2.2.2.2
  exact mv_newa (atype := .long) (ty := .long) (a0 := (N, .inr (.inl (fun _ => 0)))) hM.1 hM.2.1 hw (hAm.ts args) rfl hAm.1 hV hS 2 rfl (fun _ h => h) (fun _ => rfl) (nI_pos (by omega)) (nI_clamp (by omega)) (by show N * 8 ≤ _; omega) hc hs hdg (fun q H h1 h2 hV hS => kk q (Nat.le_trans hAm.2.2.2.2.2.2.2.2.2 h1) h2 hg p e s m args below meth c H locs ls hM hV hS hL)
/-- the law's catch types by their pool numbers -/
def cty (n : Nat) : String := if n = 13 then IAE else if n = 15 then ISE else if n = 17 then UOE else if n = 19 then IOE else NSE
theorem lk_13 : Cond.classLink "SharedLogLaw" 13 IAE ∈ WALL := List.mem_filter.mpr ⟨List.mem_append_right _ (List.mem_of_getElem? (i := 196) (by decide +kernel)), by decide +kernel⟩
theorem lk_15 : Cond.classLink "SharedLogLaw" 15 ISE ∈ WALL := List.mem_filter.mpr ⟨List.mem_append_right _ (List.mem_of_getElem? (i := 197) (by decide +kernel)), by decide +kernel⟩
theorem lk_17 : Cond.classLink "SharedLogLaw" 17 UOE ∈ WALL := List.mem_filter.mpr ⟨List.mem_append_right _ (List.mem_of_getElem? (i := 198) (by decide +kernel)), by decide +kernel⟩
theorem lk_19 : Cond.classLink "SharedLogLaw" 19 IOE ∈ WALL := List.mem_filter.mpr ⟨List.mem_append_right _ (List.mem_of_getElem? (i := 199) (by decide +kernel)), by decide +kernel⟩
theorem lk_25 : Cond.classLink "SharedLogLaw" 25 NSE ∈ WALL := List.mem_filter.mpr ⟨List.mem_append_right _ (List.mem_of_getElem? (i := 361) (by decide +kernel)), by decide +kernel⟩
theorem ca_13 : Cond.castable IAE IAE ∈ WBAD := List.mem_filter.mpr ⟨List.mem_append_right _ (List.mem_of_getElem? (i := 209) (by decide +kernel)), by decide +kernel⟩
theorem ca_15 : Cond.castable ISE ISE ∈ WBAD := List.mem_filter.mpr ⟨List.mem_append_right _ (List.mem_of_getElem? (i := 287) (by decide +kernel)), by decide +kernel⟩
theorem ca_17 : Cond.castable UOE UOE ∈ WBAD := List.mem_filter.mpr ⟨List.mem_append_right _ (List.mem_of_getElem? (i := 344) (by decide +kernel)), by decide +kernel⟩
theorem ca_19 : Cond.castable IOE IOE ∈ WBAD := List.mem_filter.mpr ⟨List.mem_append_right _ (List.mem_of_getElem? (i := 303) (by decide +kernel)), by decide +kernel⟩
theorem ca_25 : Cond.castable NSE NSE ∈ WBAD := List.mem_filter.mpr ⟨List.mem_append_right _ (List.mem_of_getElem? (i := 373) (by decide +kernel)), by decide +kernel⟩
def okc (n : Nat) : Bool := n == 13 || n == 15 || n == 17 || n == 19 || n == 25
theorem okc_of {n : Nat} (h : okc n = true) : n = 13 ∨ n = 15 ∨ n = 17 ∨ n = 19 ∨ n = 25 := by
  simp only [okc, Bool.or_eq_true, beq_iff_eq] at h
  omega
theorem okc_lk {n : Nat} (h : okc n = true) : Cond.classLink "SharedLogLaw" n (cty n) ∈ WALL := by
  rcases okc_of h with rfl | rfl | rfl | rfl | rfl
  · exact lk_13
  · exact lk_15
  · exact lk_17
  · exact lk_19
  · exact lk_25
theorem okc_ca {n : Nat} (h : okc n = true) : Cond.castable (cty n) (cty n) ∈ WBAD := by
  rcases okc_of h with rfl | rfl | rfl | rfl | rfl
  · exact ca_13
  · exact ca_15
  · exact ca_17
  · exact ca_19
  · exact ca_25
/-- the rows ahead of this one are other types -/
def prX (t : Nat) (hh : List (Nat × Nat × Nat × Nat)) : Bool := hh.all (fun q => okc q.2.2.2 && NCS.contains (cty t, cty q.2.2.2))
theorem okc_0 {n : Nat} (h : okc n = true) : n ≠ 0 := by
  have := okc_of h
  omega
theorem WX.cat {st : List Value} {E : String} (hp : List (Nat × Nat × Nat × Nat)) (a b tgt t : Nat) (hs : List (Nat × Nat × Nat × Nat)) (hh0 : mt_h M = some (hp ++ (a, b, tgt, t) :: hs)) (hcls : (mt_y M).cls = "SharedLogLaw") (hx : covers ⟨a, b, tgt, t⟩ pc = true) (ht : okc t = true) (hpr : prX t hp = true) (hE : E = cty t) (kk : ∀ q : Nat, WP G M QE lo tgt [.ref q] μ cn sn) : WX G M QE lo pc st E μ cn sn := by
  subst hE
  intro hg p e s m args below meth c H locs ls ce q9 hM hV hS hL h1 h2 h3
  have hAm := hM.2.2.2.2.2.2.2.2
  have hown := hM.2.2.2.2.1
  rw [hcls] at hown
  refine vx_catch hown (tableOf hp) ⟨a, b, tgt, t⟩ (tableOf hs) ?_ ?_ hx (okc_0 ht) (hAm.ts args _ (okc_lk ht)) (bad_use (List.mem_filter.mp (okc_ca ht)).2 (hAm.2.2.2.2.2.2.2.1 _ (okc_ca ht))) h1 h2 h3 (kk q9 hg p e s m args below meth c H locs ls hM hV hS hL)
  · rw [hM.2.2.2.2.2.2.1 _ hh0]
    simp [tableOf]
  · intro z hz
    obtain ⟨q, hq, rfl⟩ := List.mem_map.mp hz
    have h9 := List.all_eq_true.mp hpr q hq
    simp only [Bool.and_eq_true] at h9
    exact Or.inr ⟨okc_0 h9.1, _, hAm.ts args _ (okc_lk h9.1), hAm.2.2.2.2.2.2.2.2.1 _ (List.contains_iff_mem.mp h9.2)⟩
theorem wx_callSH {M' : mt_M} {st As : List Value} {n idx : Nat} {post : Option Value → mu_M → Prop} {px : String → mu_M → Prop} {hh : List (Nat × Nat × Nat × Nat)} (hdg : decode (mt_c M) pc = .ok (.invokestatic idx, 3)) (hw : cs_P (mt_y M).cls idx M' n) (hcd : Cond.codeWith (mt_y M') (mt_c M') (mt_l M') (mt_r M') hh ∈ WALL) (hR : rf_P M' M) (hM' : CTH G M' hh As μ post px) (hn : As.length = n) (hst : st = As.reverse ++ rest) (hroom : (rest.map fun v => v.category).sum ≤ 8) (hc : cn + (mt_R M').cells ≤ (mt_R M).cells) (hs : sn + (mt_R M').slots ≤ (mt_R M).slots)
    (kx : ∀ (E : String) (μ' : mu_M), px E μ' → WX G M QE lo pc rest E μ' (cn + (mt_R M').cells) (sn + (mt_R M').slots))
    (kk : ∀ (v : Option Value) (μ' : mu_M), post v μ' → WP G M QE lo (pc + 3) (v.toList ++ rest) μ' (cn + (mt_R M').cells) (sn + (mt_R M').slots)) : WP G M QE lo pc st μ cn sn := by
  obtain ⟨⟨hl, hi, hy, hd⟩, w2⟩ := hw
  intro hg p e s m args below meth c H locs ls hM hV hS hL
  have hAm := hM.2.2.2.2.2.2.2.2
  refine mc_call (vx_runSX (As := As) (rest := rest) (hh := hh) ⟨hM.1, hM.2.1, hM.2.2.2.1, hM.2.2.2.2.1, hAm.ts args⟩ (hM' hg) ⟨⟨rfl, rfl, hR.1, hR.2, fun w hw a' U hW => ?_, List.mem_cons_self⟩, hAm.ts _ _ hcd, hAm.ts _ _ hi, hy, fun sig h => ?_, hAm.ts _ _ hl, hAm.ts _ _ w2⟩ ⟨mc_blind _ _ _ _ μ, mc_pre hAm hV hS⟩ rfl hn hL.1 hst (lv_room hroom) hdg ⟨hc, hs⟩) hS (fun E ce q9 μ' H1 locs1 h1 h2 h3 h4 h5 h6 => kx E μ' h1 hg p e s m args below meth c H1 locs1 ls ce q9 hM h2 h3 hL h4 h5 h6) (fun v μ' H locs h1 hV hS => kk v μ' h1 hg p e s m args below meth c H locs ls hM hV hS hL)
  · rw [List.mem_singleton.mp hw]
    exact word_at hW (good_of_word (List.all_eq_true.mp WALL_good _ hcd)) (hAm.2.1 _ hcd)
  · rw [h] at hd
    exact (Option.some.inj hd).symm
end LR
section HW
theorem cw_append : Cond.codeWith (mt_y M_Law_append) (mt_c M_Law_append) (mt_l M_Law_append) (mt_r M_Law_append) hh_Law_append ∈ WALL := List.mem_filter.mpr ⟨List.mem_append_right _ (List.mem_of_getElem? (i := 195) (by decide +kernel)), by decide +kernel⟩
theorem cw_read : Cond.codeWith (mt_y M_Law_read) (mt_c M_Law_read) (mt_l M_Law_read) (mt_r M_Law_read) hh_Law_read ∈ WALL := List.mem_filter.mpr ⟨List.mem_append_right _ (List.mem_of_getElem? (i := 360) (by decide +kernel)), by decide +kernel⟩
theorem cw_fill : Cond.codeWith (mt_y M_Law_fill) (mt_c M_Law_fill) (mt_l M_Law_fill) (mt_r M_Law_fill) hh_Law_fill ∈ WALL := List.mem_filter.mpr ⟨List.mem_append_right _ (List.mem_of_getElem? (i := 390) (by decide +kernel)), by decide +kernel⟩
theorem cw_trim : Cond.codeWith (mt_y M_Law_trim) (mt_c M_Law_trim) (mt_l M_Law_trim) (mt_r M_Law_trim) hh_Law_trim ∈ WALL := List.mem_filter.mpr ⟨List.mem_append_right _ (List.mem_of_getElem? (i := 397) (by decide +kernel)), by decide +kernel⟩
theorem cw_learn : Cond.codeWith (mt_y M_Law_learn) (mt_c M_Law_learn) (mt_l M_Law_learn) (mt_r M_Law_learn) hh_Law_learn ∈ WALL := List.mem_filter.mpr ⟨List.mem_append_right _ (List.mem_of_getElem? (i := 408) (by decide +kernel)), by decide +kernel⟩
theorem cw_change : Cond.codeWith (mt_y M_Law_change) (mt_c M_Law_change) (mt_l M_Law_change) (mt_r M_Law_change) hh_Law_change ∈ WALL := List.mem_filter.mpr ⟨List.mem_append_right _ (List.mem_of_getElem? (i := 415) (by decide +kernel)), by decide +kernel⟩
theorem cw_up : Cond.codeWith (mt_y M_Law_up) (mt_c M_Law_up) (mt_l M_Law_up) (mt_r M_Law_up) hh_Law_up ∈ WALL := List.mem_filter.mpr ⟨List.mem_append_right _ (List.mem_of_getElem? (i := 471) (by decide +kernel)), by decide +kernel⟩
theorem cw_sync : Cond.codeWith (mt_y M_Law_sync) (mt_c M_Law_sync) (mt_l M_Law_sync) (mt_r M_Law_sync) hh_Law_sync ∈ WALL := List.mem_filter.mpr ⟨List.mem_append_right _ (List.mem_of_getElem? (i := 478) (by decide +kernel)), by decide +kernel⟩
theorem cw_get : Cond.codeWith (mt_y M_Law_get) (mt_c M_Law_get) (mt_l M_Law_get) (mt_r M_Law_get) hh_Law_get ∈ WALL := List.mem_filter.mpr ⟨List.mem_append_right _ (List.mem_of_getElem? (i := 497) (by decide +kernel)), by decide +kernel⟩
theorem cw_begin : Cond.codeWith (mt_y M_Law_begin) (mt_c M_Law_begin) (mt_l M_Law_begin) (mt_r M_Law_begin) hh_Law_begin ∈ WALL := List.mem_filter.mpr ⟨List.mem_append_right _ (List.mem_of_getElem? (i := 504) (by decide +kernel)), by decide +kernel⟩
theorem cw_see : Cond.codeWith (mt_y M_Law_see) (mt_c M_Law_see) (mt_l M_Law_see) (mt_r M_Law_see) hh_Law_see ∈ WALL := List.mem_filter.mpr ⟨List.mem_append_right _ (List.mem_of_getElem? (i := 516) (by decide +kernel)), by decide +kernel⟩
theorem cw_put : Cond.codeWith (mt_y M_Law_put) (mt_c M_Law_put) (mt_l M_Law_put) (mt_r M_Law_put) hh_Law_put ∈ WALL := List.mem_filter.mpr ⟨List.mem_append_right _ (List.mem_of_getElem? (i := 531) (by decide +kernel)), by decide +kernel⟩
theorem cw_commit : Cond.codeWith (mt_y M_Law_commit) (mt_c M_Law_commit) (mt_l M_Law_commit) (mt_r M_Law_commit) hh_Law_commit ∈ WALL := List.mem_filter.mpr ⟨List.mem_append_right _ (List.mem_of_getElem? (i := 542) (by decide +kernel)), by decide +kernel⟩
theorem cw_drop : Cond.codeWith (mt_y M_Law_drop) (mt_c M_Law_drop) (mt_l M_Law_drop) (mt_r M_Law_drop) hh_Law_drop ∈ WALL := List.mem_filter.mpr ⟨List.mem_append_right _ (List.mem_of_getElem? (i := 560) (by decide +kernel)), by decide +kernel⟩
theorem cw_look : Cond.codeWith (mt_y M_Law_look) (mt_c M_Law_look) (mt_l M_Law_look) (mt_r M_Law_look) hh_Law_look ∈ WALL := List.mem_filter.mpr ⟨List.mem_append_right _ (List.mem_of_getElem? (i := 567) (by decide +kernel)), by decide +kernel⟩
theorem cw_client : Cond.codeWith (mt_y M_Law_client) (mt_c M_Law_client) (mt_l M_Law_client) (mt_r M_Law_client) hh_Law_client ∈ WALL := List.mem_filter.mpr ⟨List.mem_append_right _ (List.mem_of_getElem? (i := 574) (by decide +kernel)), by decide +kernel⟩
theorem cw_count : Cond.codeWith (mt_y M_Law_count) (mt_c M_Law_count) (mt_l M_Law_count) (mt_r M_Law_count) hh_Law_count ∈ WALL := List.mem_filter.mpr ⟨List.mem_append_right _ (List.mem_of_getElem? (i := 584) (by decide +kernel)), by decide +kernel⟩
theorem ac_J0 : Cond.arrayClass .long ∈ WALL := List.mem_filter.mpr ⟨List.mem_append_right _ (List.mem_of_getElem? (i := 830) (by decide +kernel)), by decide +kernel⟩
end HW
