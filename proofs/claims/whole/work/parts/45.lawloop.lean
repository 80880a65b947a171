/-! THE LAW'S LOOP, AND ITS WHOLE WALK -/
section LLP
variable {G : mt_G} {ad ma : Nat → Nat} {oa b L : Nat} {xs : Nat → Int32}
set_option maxHeartbeats 4000000 in
set_option maxRecDepth 10000 in
theorem law_loop (hL : L ≤ 2560) : ∀ (n i : Nat) (μ : mu_M) (σ : sg) (δ : dg) (cn sn : Nat), L ≤ i + 5 * n → i ≤ 2565 → LI G μ ad ma oa σ δ → cn + 182 * n ≤ (mt_R M_law).cells → sn + 1092 * n ≤ (mt_R M_law).slots →
    WP G M_law (QL G b L xs) [(0, .ref b), (1, .ref (ad 0)), (2, .ref (ma 0)), (3, .ref oa), (4, .int (nI i))] 23 [] μ cn sn := by
  intro n
  induction n with
  | zero =>
    intro i μ σ δ cn sn hn hi2 hLI hc hs
    refine wp_iload d_Law_law_23 rfl ?_
    refine wp_aload_n d_Law_law_25 rfl rfl ?_
    refine wl_slen d_Law_law_26 ?_
    refine wp_iconst (v := 5) d_Law_law_27 (by decide) ?_
    refine wp_isub d_Law_law_28 ?_
    refine wp_icmp_gt (tgt := 1298) d_Law_law_29 (by decide) (fun _ => ?_) (fun z => absurd (len5 hL hi2 z) (by omega))
    refine wp_iconst (v := 1) d_Law_law_1298 (by decide) ?_
    exact wl_ret d_Law_law_1299 hc hs
  | succ n ih =>
    intro i μ σ δ cn sn hn hi2 hLI hc hs
    have hc1 : cn + 182 ≤ (mt_R M_law).cells := Nat.le_trans (by omega) hc
    have hs1 : sn + 1092 ≤ (mt_R M_law).slots := Nat.le_trans (by omega) hs
    refine wp_iload d_Law_law_23 rfl ?_
    refine wp_aload_n d_Law_law_25 rfl rfl ?_
    refine wl_slen d_Law_law_26 ?_
    refine wp_iconst (v := 5) d_Law_law_27 (by decide) ?_
    refine wp_isub d_Law_law_28 ?_
    refine wp_icmp_gt (tgt := 1298) d_Law_law_29 (by decide) (fun _ => ?_) (fun z => ?_)
    · refine wp_iconst (v := 1) d_Law_law_1298 (by decide) ?_
      exact wl_ret d_Law_law_1299 (Nat.le_trans (by omega) hc1) (Nat.le_trans (by omega) hs1)
    have hi := len5 hL hi2 z
    have kk : ∀ μ' σ' δ', LI G μ' ad ma oa σ' δ' → WP G M_law (QL G b L xs) [(0, .ref b), (1, .ref (ad 0)), (2, .ref (ma 0)), (3, .ref oa), (4, .int (nI i))] 1292 [] μ' (cn + 182) (sn + 1092) := by
      intro μ' σ' δ' h'
      refine wp_iinc (v := nI (i + 5)) d_Law_law_1292 rfl (nI_k 5 rfl) (Nat.le_of_ble_eq_true rfl) ?_
      refine wp_goto (tgt := 23) d_Law_law_1295 (by decide) ?_
      exact WP.loc _ rfl (ih (i + 5) μ' σ' δ' (cn + 182) (sn + 1092) (by omega) (by omega) h' (Nat.le_trans (by omega) hc) (Nat.le_trans (by omega) hs))
    refine wp_aload_n d_Law_law_32 rfl rfl ?_
    refine wp_iload d_Law_law_33 rfl ?_
    refine wl_sld (j := i) d_Law_law_35 rfl (by omega) (by omega) ?_
    refine wp_bipush (v := 31) d_Law_law_36 (by decide) ?_
    refine wp_iand d_Law_law_38 ?_
    obtain ⟨k, hk, hx⟩ := i31 (xs i)
    rw [hx]
    by_cases h17 : 17 < k
    · refine wp_tableOut (tgt := 1292) d_Law_law_39 (Or.inr (by rw [nI_toInt (by omega)]; omega)) (by decide) ?_
      exact WP.widen (by omega) (by omega) (kk μ σ δ hLI)
    rcases (show k = 0 ∨ k = 1 ∨ k = 2 ∨ k = 3 ∨ k = 4 ∨ k = 5 ∨ k = 6 ∨ k = 7 ∨ k = 8 ∨ k = 9 ∨ k = 10 ∨ k = 11 ∨ k = 12 ∨ k = 13 ∨ k = 14 ∨ k = 15 ∨ k = 16 ∨ k = 17 by omega) with rfl | rfl | rfl | rfl | rfl | rfl | rfl | rfl | rfl | rfl | rfl | rfl | rfl | rfl | rfl | rfl | rfl | rfl
    · exact wp_tableIn (tgt := 124) d_Law_law_39 (by decide) (by decide) rfl (by decide) (lc_append hLI hi hL hc1 hs1 kk)
    · exact wp_tableIn (tgt := 216) d_Law_law_39 (by decide) (by decide) rfl (by decide) (lc_read hLI hi hL hc1 hs1 kk)
    · exact wp_tableIn (tgt := 284) d_Law_law_39 (by decide) (by decide) rfl (by decide) (lc_fill hLI hi hL hc1 hs1 kk)
    · exact wp_tableIn (tgt := 352) d_Law_law_39 (by decide) (by decide) rfl (by decide) (lc_trim hLI hi hL hc1 hs1 kk)
    · exact wp_tableIn (tgt := 420) d_Law_law_39 (by decide) (by decide) rfl (by decide) (lc_learn hLI hi hL hc1 hs1 kk)
    · exact wp_tableIn (tgt := 476) d_Law_law_39 (by decide) (by decide) rfl (by decide) (lc_change hLI hi hL hc1 hs1 kk)
    · exact wp_tableIn (tgt := 556) d_Law_law_39 (by decide) (by decide) rfl (by decide) (lc_up hLI hi hL hc1 hs1 kk)
    · exact wp_tableIn (tgt := 640) d_Law_law_39 (by decide) (by decide) rfl (by decide) (lc_lose hLI hi hL hc1 hs1 kk)
    · exact wp_tableIn (tgt := 653) d_Law_law_39 (by decide) (by decide) rfl (by decide) (lc_sync hLI hi hL hc1 hs1 kk)
    · exact wp_tableIn (tgt := 709) d_Law_law_39 (by decide) (by decide) rfl (by decide) (lc_get hLI hi hL hc1 hs1 kk)
    · exact wp_tableIn (tgt := 777) d_Law_law_39 (by decide) (by decide) rfl (by decide) (lc_begin hLI hi hL hc1 hs1 kk)
    · exact wp_tableIn (tgt := 833) d_Law_law_39 (by decide) (by decide) rfl (by decide) (lc_see hLI hi hL hc1 hs1 kk)
    · exact wp_tableIn (tgt := 901) d_Law_law_39 (by decide) (by decide) rfl (by decide) (lc_put hLI hi hL hc1 hs1 kk)
    · exact wp_tableIn (tgt := 981) d_Law_law_39 (by decide) (by decide) rfl (by decide) (lc_commit hLI hi hL hc1 hs1 kk)
    · exact wp_tableIn (tgt := 1044) d_Law_law_39 (by decide) (by decide) rfl (by decide) (lc_drop hLI hi hL hc1 hs1 kk)
    · exact wp_tableIn (tgt := 1100) d_Law_law_39 (by decide) (by decide) rfl (by decide) (lc_look hLI hi hL hc1 hs1 kk)
    · exact wp_tableIn (tgt := 1168) d_Law_law_39 (by decide) (by decide) rfl (by decide) (lc_client hLI hi hL hc1 hs1 kk)
    · exact wp_tableIn (tgt := 1236) d_Law_law_39 (by decide) (by decide) rfl (by decide) (lc_count hLI hi hL hc1 hs1 kk)
/-- what the law's start leaves: both sides new, the array of one long -/
theorem LI.start {μ1 μ2 μ3 φ : mu_M} {ad ma : Nat → Nat} {g : dg} {τ : sg} {oa qm : Nat} (hC : Cx G μ1 φ ad g σ0 δ0) (hψ : ∀ a, G.2.2.2.2 a = none) (hμ2 : μ2 = mu_up μ1 qm (.inr (7, [.int 0, .null, .null, .null, .null, .null, .null, .null, .null, .null, .int 0, .null, .int 0, .int 0, .int 0, .null, .null, .null, .null, .null, .null, .null, .null, .null, .null, .int 0]))) (hq : μ1 qm = none) (hm0 : ma 0 = qm) (hM : Mx G μ2 μ3 ma τ) (hR : RP τ σ0 δ0) (hf : ∀ i, 0 < i → i < 21 → μ2 (ma i) = none) (ho : μ3 oa = none) (hB : G.2.2.2.1 ≤ oa) : LI G (mu_up μ3 oa (.inl (G.2.2.1 2, 1, .inr (.inl (fun _ => 0))))) ad ma oa σ0 δ0 := by
  have hfr : ∀ i, i < 21 → μ1 (ma i) = none := fun i hi => by
    rcases Nat.eq_zero_or_pos i with rfl | h0
    · rw [hm0]; exact hq
    · have h9 := hf i h0 hi
      rw [hμ2] at h9
      exact (mu_none h9).2
  have hk3 : ∀ a e, μ1 a = some e → μ3 a = some e := fun a e he => by
    refine hM.2.2.2 a e (fun i hi z => by rw [z, hfr i hi] at he; cases he) ?_
    rw [hμ2, mu_up_n (mu_some_ne he hq)]
    exact he
  have hne : ∀ i, i < 21 → oa ≠ ma i := fun i hi z => by
    have h9 := hM.1 i hi
    rw [← z, ho] at h9
    cases h9
  have hko : ∀ a e, μ3 a = some e → mu_up μ3 oa (.inl (G.2.2.1 2, 1, .inr (.inl (fun _ => 0)))) a = some e := fun a e he => by
    rw [mu_up_n (mu_some_ne he ho)]
    exact he
  have hkx : ∀ a e, μ1 a = some e → xb ma oa a = false := fun a e he => by
    cases hx : xb ma oa a with
    | false => rfl
    | true =>
      rcases xb_t hx with rfl | ⟨i, hi, rfl⟩
      · have h9 := hk3 _ _ he
        rw [ho] at h9
        cases h9
      · rw [hfr i hi] at he
        cases he
  refine ⟨⟨φ, g, ⟨fun i hi => hko _ _ (hk3 _ _ (hC.1.1 i hi)), hC.1.2⟩, ⟨fun a e he => ?_, fun a e he => ?_⟩, hC.2.2⟩, ⟨τ, ⟨fun i hi => hko _ _ (hM.1 i hi), hM.2.1, hM.2.2.1, fun a e _ q => q⟩, hR⟩, ⟨_, mu_up_s _ _ _⟩, hB, hne⟩
  · have h9 := (hC.z.1 a e he).1
    exact ⟨⟨hko _ _ (hk3 _ _ h9.1), h9.2⟩, pX_f (hkx a e h9.1)⟩
  · cases hx : xb ma oa a with
    | false => exact absurd ((pX_f hx).symm.trans he) (by intro q; cases q)
    | true =>
      refine ⟨(pX_t hx).symm.trans he, fun i hi z => ?_⟩
      rw [z, hkx _ _ (hC.1.1 i hi)] at hx
      cases hx
set_option maxHeartbeats 4000000 in
set_option maxRecDepth 10000 in
theorem law_walk (hL : L ≤ 2560) (hψ : ∀ a, G.2.2.2.2 a = none) : WP G M_law (QL G b L xs) [(0, .ref b)] 0 [] (fun _ => none) 0 0 := by
  refine wp_new d_Law_law_0 nw_Law_8 (Nat.le_of_ble_eq_true rfl) (Nat.le_of_ble_eq_true rfl) (fun q bq zq => ?_)
  refine wp_dup d_Law_law_3 rfl ?_
  refine wi_call d_Law_law_4 ci_Law_76 cd_Log_init ⟨by decide, by decide⟩ (ct_Log_init q _ _ _ _ _ _ _ (mu_up_s _ _ _) bq hψ) rfl rfl (Nat.le_of_ble_eq_true rfl) (Nat.le_of_ble_eq_true rfl) (Nat.le_of_ble_eq_true rfl) (fun v1 μ1 hq => ?_)
  obtain ⟨rfl, ad, φ, g, rfl, hC, -⟩ := hq
  refine wp_astore_n d_Law_law_7 rfl (by decide) ?_
  refine wp_new d_Law_law_8 nw_Law_77 (Nat.le_of_ble_eq_true rfl) (Nat.le_of_ble_eq_true rfl) (fun qm bm zm => ?_)
  refine wp_dup d_Law_law_11 rfl ?_
  refine wi_call d_Law_law_12 ci_Law_79 cd_Model_init ⟨by decide, by decide⟩ (ct_Model_init qm (mu_up_s _ _ _) bm) rfl rfl (Nat.le_of_ble_eq_true rfl) (Nat.le_of_ble_eq_true rfl) (Nat.le_of_ble_eq_true rfl) (fun v2 μ3 hq => ?_)
  obtain ⟨rfl, ma, τ, rfl, hM, hR, hf⟩ := hq
  refine wp_astore_n d_Law_law_15 rfl (by decide) ?_
  refine wp_iconst (v := nI 1) d_Law_law_16 (by decide) ?_
  refine wp_newL d_Law_law_17 ac_J0 (by decide) (Nat.le_of_ble_eq_true rfl) (Nat.le_of_ble_eq_true rfl) (fun oa bo zo => ?_)
  refine wp_astore_n d_Law_law_19 rfl (by decide) ?_
  refine wp_iconst (v := nI 0) d_Law_law_20 (by decide) ?_
  refine wp_istore d_Law_law_21 (Nat.le_of_ble_eq_true rfl) ?_
  exact WP.loc _ rfl (law_loop hL 512 0 _ σ0 δ0 _ _ (by omega) (by omega) (LI.start hC hψ rfl zm rfl hM hR hf zo bo) (Nat.le_of_ble_eq_true rfl) (Nat.le_of_ble_eq_true rfl))
end LLP
