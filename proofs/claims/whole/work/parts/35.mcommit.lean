/-! THE REFERENCE: commit -/
theorem mk_pc (f : Nat → Int32) : mk f = 0 ↔ pcN f 4 = 0 := by
  unfold mk
  simp only [pcN]
  by_cases h0 : f 0 = 0 <;> by_cases h1 : f 1 = 0 <;> by_cases h2 : f 2 = 0 <;> by_cases h3 : f 3 = 0 <;> simp [h0, h1, h2, h3]
theorem wrS_keep (c o : Nat) (v : Nat → Int32) (d u : Nat) : ∀ (n i : Nat) (σ : sg), σ (eR u o) = v → (wrS c o v d n i σ).2 (eR u o) = v
  | 0, _, _, h => h
  | n + 1, i, σ, h => by
    unfold wrS
    split
    · split
      · refine wrS_keep c o v d u n _ _ ?_
        by_cases e : eR u o = eR (un d i) o
        · rw [e, va_up_self]
        · rw [va_up_ne _ _ e]; exact h
      · exact h
    · exact h
theorem wrS_ok (c o : Nat) (v : Nat → Int32) (d : Nat) : ∀ (n i : Nat) (σ : sg), (wrS c o v d n i σ).1 = 0 → ∀ j, i ≤ j → j < i + n → (wrS c o v d n i σ).2 (eR (un d j) o) = v
  | 0, i, σ, _, j, h1, h2 => absurd h2 (by omega)
  | n + 1, i, σ, h, j, h1, h2 => by
    unfold wrS at h ⊢
    split at h
    · rename_i q1
      split at h
      · rename_i q2
        rw [if_pos q1, if_pos q2]
        by_cases e : j = i
        · subst e
          exact wrS_keep c o v d _ n _ _ (va_up_self _ _ _)
        · exact wrS_ok c o v d n _ _ h j (by omega) (by omega)
      · exact absurd h (show ¬ 2 = 0 by decide)
    · exact absurd h (show ¬ 1 = 0 by decide)
theorem plS_t (c : Nat) (δ : dg) : ∀ (n p : Nat) (t : Int32) (σ : sg), (t = 0 ∨ t = 1) → (plS c δ n p t σ).2.1 = 0 ∨ (plS c δ n p t σ).2.1 = 1
  | 0, _, _, _, h => h
  | n + 1, p, t, σ, h => by
    unfold plS
    repeat' split
    · exact h
    · exact h
    · exact plS_t c δ n _ _ _ (Or.inr rfl)
    · exact plS_t c δ n _ _ _ (Or.inl rfl)
    · exact h
theorem vCom_k {σ : sg} {c : Nat} {j : Nat} (hj : j < 4) : vCom σ c (2 + j) = σ (32 + c) j ∧ vCom σ c (6 + j) = σ (36 + c) j ∧ vCom σ c (10 + j) = σ (40 + c) j ∧ vCom σ c (14 + j) = σ (44 + c) j := by
  obtain ⟨a, b, c9, d⟩ := vCom_ok σ c j hj
  unfold cp at a b c9 d
  rw [if_pos hj] at a b c9 d
  exact ⟨a.symm, b.symm, c9.symm, d.symm⟩
section MCommit
variable {G : mt_G} {μ0 μ : mu_M} {ma : Nat → Nat} {τ σ : sg} {δ : dg}
theorem vCom_B {c : Nat} (hR : RP τ σ δ) (hc : c < 4) : vB (vCom σ c) := fun k hk => by
  obtain ⟨a, -, b, -⟩ := vCom_k (σ := σ) (c := c) hk
  rw [a, b]
  exact hR.p7 c k hc hk
theorem vCom_E {c : Nat} {τ' : sg} (h1 : τ' 1 360 = 2) (h4 : τ' 4 360 = nI (mk (σ (32 + c)))) (h5 : τ' 5 360 = nI (mk (σ (40 + c)))) (h6 : ∀ k, k < 4 → τ' 6 (1440 + k) = σ (36 + c) k ∧ τ' 7 (1440 + k) = σ (44 + c) k) : Ent τ' 360 (vCom σ c) := by
  refine Or.inr (Or.inr (Or.inl ⟨h1, rfl, ?_, ?_, ?_, fun k hk => ?_⟩))
  · rw [h4, mk_congr (fun k hk => (vCom_k (σ := σ) (c := c) hk).1)]
  · rw [h5, mk_congr (fun k hk => (vCom_k (σ := σ) (c := c) hk).2.2.1)]
  · rw [pcN_congr 4 (fun k hk => (vCom_k (σ := σ) (c := c) hk).2.2.1)]; rfl
  · obtain ⟨-, b, -, d⟩ := vCom_k (σ := σ) (c := c) hk
    rw [b, d]
    exact h6 k hk
theorem ix1 (k : Nat) : (1440 : Int32) + nI k = nI (1440 + k) := by rw [show (1440 : Int32) = nI 1440 from rfl, nI_add]
set_option maxHeartbeats 8000000 in
set_option maxRecDepth 10000 in
theorem cm_commit (hM : Mx G μ0 μ ma τ) (hR : RP τ σ δ) (x : Int32) : CT G M_Model_commit [.ref (ma 0), .int x] μ (PM G μ0 ma (S_commit x σ δ)) (fun _ _ => False) := by
  refine CT.of (by decide) rfl (Nat.le_of_ble_eq_true rfl) ?_
  refine wp_aload_n d_Model_commit_0 rfl rfl ?_
  refine wp_iconst (v := 0) d_Model_commit_1 (by decide) ?_
  refine wm_put0 hM d_Model_commit_2 fp_Model_82 (fun μ1 hM => ?_)
  refine wp_aload_n d_Model_commit_5 rfl rfl ?_
  refine wp_iload_n d_Model_commit_6 rfl rfl ?_
  refine wp_iconst (v := 4) d_Model_commit_7 (by decide) ?_
  have hR := hR.f0 0
  have h00 : up2 τ 0 0 0 0 0 = 0 := rfl
  generalize up2 τ 0 0 0 = τ at hM hR h00
  refine wx_callV d_Model_commit_8 cv_Model_111 cd_Model_out ⟨by decide, by decide⟩ (cm_out G _ (ma 0) x 4) hM.obj rfl rfl (Nat.le_of_ble_eq_true rfl) (Nat.le_of_ble_eq_true rfl) (Nat.le_of_ble_eq_true rfl) (fun E1 μ1 hq => hq.elim) (fun v1 μ1 hq => ?_)
  obtain ⟨rfl, rfl⟩ := hq
  rcases ar_c (x := x) (y := 4) (n := 4) rfl (by decide) with ⟨c, hc, rfl, ha, h⟩ | ⟨ha, h⟩
  · rw [S_commit, ha, if_neg h]
    dsimp only
    refine wp_if_eq (tgt := 22) d_Model_commit_11 (by decide) (fun _ => ?_) (fun z9 => absurd z9 (by decide))
    rw [coS]
    have hop := hR.op c hc
    refine wp_aload_n d_Model_commit_22 rfl rfl ?_
    refine wp_get d_Model_commit_23 fl_Model_63 hM.obj (by rfl) ?_
    refine wp_iload_n d_Model_commit_26 rfl rfl ?_
    refine wm_zld (i := 16) (n := 4) hM (by decide) (by decide) rfl rfl d_Model_commit_27 (by first | with_reducible exact ixc0 | with_reducible exact ixc1 | with_reducible exact ixc360 | with_reducible rfl | with_reducible exact ix4 _ _ | with_reducible exact ix21 _ | with_reducible exact ix2 _ | with_reducible exact ix4a _ | assumption) (by omega) ?_
    refine wp_if_ne (tgt := 36) d_Model_commit_28 (by decide) (fun c28 => ?_) (fun c28 => ?_)
    · rw [hop] at c28
      rw [if_neg c28]
      refine wp_aload_n d_Model_commit_36 rfl rfl ?_
      refine wp_get d_Model_commit_37 fl_Model_82 hM.obj (by rfl) ?_
      rw [h00]
      refine wp_if_le (tgt := 45) d_Model_commit_40 (by decide) (fun _ => ?_) (fun z9 => absurd z9 (by decide))
      refine wp_aload_n d_Model_commit_45 rfl rfl ?_
      refine wp_get d_Model_commit_46 fl_Model_72 hM.obj (by rfl) ?_
      refine wp_iload_n d_Model_commit_49 rfl rfl ?_
      refine wm_ald (i := 19) (n := 4) hM (by decide) (by decide) rfl rfl d_Model_commit_50 (by first | with_reducible exact ixc0 | with_reducible exact ixc1 | with_reducible exact ixc360 | with_reducible rfl | with_reducible exact ix4 _ _ | with_reducible exact ix21 _ | with_reducible exact ix2 _ | with_reducible exact ix4a _ | assumption) (by omega) ?_
      rw [hR.gi c hc]
      have hpc := mk_pc (σ (40 + c))
      have hlt := mk_lt (σ (40 + c))
      refine wp_if_ne (tgt := 80) d_Model_commit_51 (by decide) (fun c51 => ?_) (fun c51 => ?_)
      · have hne : ¬ pcN (σ (40 + c)) 4 = 0 := fun z => c51 (by rw [hpc.mpr z]; rfl)
        rw [if_neg hne, wpS]
        obtain ⟨n, hn, hn2⟩ := hR.p2
        obtain ⟨p, hp, hp2⟩ := hR.p3 c hc
        rw [hn2, hp2, nI_clamp (by omega), nI_clamp (by omega)]
        refine wp_aload_n d_Model_commit_80 rfl rfl ?_
        refine wp_iload_n d_Model_commit_81 rfl rfl ?_
        refine wx_callV d_Model_commit_82 cv_Model_117 cd_Model_noToken ⟨by decide, by decide⟩ (cm_noToken hM hR hc) hM.obj rfl rfl (Nat.le_of_ble_eq_true rfl) (Nat.le_of_ble_eq_true rfl) (Nat.le_of_ble_eq_true rfl) (fun E1 μ1 hq => hq.elim) (fun v1 μ1 hq => ?_)
        obtain ⟨rfl, rfl⟩ := hq
        refine wp_if_eq (tgt := 96) d_Model_commit_85 (by decide) (fun c85 => ?_) (fun c85 => ?_)
        · rw [if_neg (ifz' c85)]
          refine wp_aload_n d_Model_commit_96 rfl rfl ?_
          refine wp_get d_Model_commit_97 fl_Model_121 hM.obj (by rfl) ?_
          refine wp_bipush (v := 60) d_Model_commit_100 (by decide) ?_
          rw [hR.nx, hn2]
          refine wp_icmp_ne (tgt := 110) d_Model_commit_102 (by decide) (fun c102 => ?_) (fun c102 => ?_)
          · have hn6 : n < 60 := by
              have q : n ≠ 60 := fun q => c102 (by rw [q]; rfl)
              omega
            rw [if_pos (show nI n < 60 from nI_lt (b := 60) hn6 (by decide))]
            refine wp_aload_n d_Model_commit_110 rfl rfl ?_
            refine wp_get d_Model_commit_111 fl_Model_82 hM.obj (by rfl) ?_
            rw [h00]
            refine wp_if_le (tgt := 119) d_Model_commit_114 (by decide) (fun _ => ?_) (fun z9 => absurd z9 (by decide))
            refine wp_aload_n d_Model_commit_119 rfl rfl ?_
            refine wp_get d_Model_commit_120 fl_Model_121 hM.obj (by rfl) ?_
            rw [hR.nx, hn2]
            refine wp_istore_n d_Model_commit_123 rfl (by decide) ?_
            refine wp_aload_n d_Model_commit_124 rfl rfl ?_
            refine wp_dup d_Model_commit_125 rfl ?_
            refine wp_get d_Model_commit_126 fl_Model_121 hM.obj (by rfl) ?_
            rw [hR.nx, hn2]
            refine wp_iconst (v := 1) d_Model_commit_129 (by decide) ?_
            refine wp_iadd d_Model_commit_130 ?_
            refine wm_put4 hM d_Model_commit_131 fp_Model_121 (fun μ1 hM => ?_)
            refine wp_aload_n d_Model_commit_134 rfl rfl ?_
            refine wp_get d_Model_commit_135 fl_Model_7 hM.obj (by rfl) ?_
            refine wp_sipush (v := 360) d_Model_commit_138 (by decide) ?_
            refine wp_iconst (v := 2) d_Model_commit_141 (by decide) ?_
            refine wm_ast (i := 1) (n := 361) hM (by decide) (by decide) rfl rfl d_Model_commit_142 (by first | with_reducible exact ixc0 | with_reducible exact ixc1 | with_reducible exact ixc360 | with_reducible rfl | with_reducible exact ix4 _ _ | with_reducible exact ix21 _ | with_reducible exact ix2 _ | with_reducible exact ix4a _ | assumption) (by omega) (fun μ1 hM => ?_)
            refine wp_aload_n d_Model_commit_143 rfl rfl ?_
            refine wp_get d_Model_commit_144 fl_Model_19 hM.obj (by rfl) ?_
            refine wp_sipush (v := 360) d_Model_commit_147 (by decide) ?_
            refine wp_aload_n d_Model_commit_150 rfl rfl ?_
            refine wp_get d_Model_commit_151 fl_Model_66 hM.obj (by rfl) ?_
            refine wp_iload_n d_Model_commit_154 rfl rfl ?_
            refine wm_ald (i := 17) (n := 4) hM (by decide) (by decide) rfl rfl d_Model_commit_155 (by first | with_reducible exact ixc0 | with_reducible exact ixc1 | with_reducible exact ixc360 | with_reducible rfl | with_reducible exact ix4 _ _ | with_reducible exact ix21 _ | with_reducible exact ix2 _ | with_reducible exact ix4a _ | assumption) (by omega) ?_
            refine wm_ast (i := 4) (n := 361) hM (by decide) (by decide) rfl rfl d_Model_commit_156 (by first | with_reducible exact ixc0 | with_reducible exact ixc1 | with_reducible exact ixc360 | with_reducible rfl | with_reducible exact ix4 _ _ | with_reducible exact ix21 _ | with_reducible exact ix2 _ | with_reducible exact ix4a _ | assumption) (by omega) (fun μ1 hM => ?_)
            refine wp_aload_n d_Model_commit_157 rfl rfl ?_
            refine wp_get d_Model_commit_158 fl_Model_22 hM.obj (by rfl) ?_
            refine wp_sipush (v := 360) d_Model_commit_161 (by decide) ?_
            refine wp_aload_n d_Model_commit_164 rfl rfl ?_
            refine wp_get d_Model_commit_165 fl_Model_72 hM.obj (by rfl) ?_
            refine wp_iload_n d_Model_commit_168 rfl rfl ?_
            refine wm_ald (i := 19) (n := 4) hM (by decide) (by decide) rfl rfl d_Model_commit_169 (by first | with_reducible exact ixc0 | with_reducible exact ixc1 | with_reducible exact ixc360 | with_reducible rfl | with_reducible exact ix4 _ _ | with_reducible exact ix21 _ | with_reducible exact ix2 _ | with_reducible exact ix4a _ | assumption) (by omega) ?_
            refine wm_ast (i := 5) (n := 361) hM (by decide) (by decide) rfl rfl d_Model_commit_170 (by first | with_reducible exact ixc0 | with_reducible exact ixc1 | with_reducible exact ixc360 | with_reducible rfl | with_reducible exact ix4 _ _ | with_reducible exact ix21 _ | with_reducible exact ix2 _ | with_reducible exact ix4a _ | assumption) (by omega) (fun μ1 hM => ?_)
            rw [nI_1] at hM
            have h0R := hR.next (n := n + 1) (by omega)
            generalize hτa : up2 τ 0 4 (nI (n + 1)) = τa at hM h0R
            have ha17 : τa 17 c = nI (mk (σ (32 + c))) := by rw [← hτa]; exact hR.se c hc
            have ha19 : τa 19 c = nI (mk (σ (40 + c))) := by rw [← hτa]; exact hR.gi c hc
            have ha18 : ∀ k, k < 4 → τa 18 (4 * c + k) = σ (36 + c) k := fun k hk => by rw [← hτa]; exact hR.sa c k hc hk
            have ha20 : ∀ k, k < 4 → τa 20 (4 * c + k) = σ (44 + c) k := fun k hk => by rw [← hτa]; exact hR.gv c k hc hk
            have ha00 : τa 0 0 = 0 := by rw [← hτa]; exact h00
            have loop : ∀ (m k : Nat) (τ1 : sg) (μ1 : mu_M) (Q : Option Value → mu_M → Prop), k + m = 4 → Mx G μ0 μ1 ma τ1 → (∀ i, i = 0 ∨ 8 ≤ i → τ1 i = τa i) → (∀ i j, 1 ≤ i → i ≤ 5 → j < 360 → τ1 i j = τa i j) → (∀ j, j < 1440 → τ1 6 j = τa 6 j ∧ τ1 7 j = τa 7 j) → τ1 1 360 = 2 → τ1 4 360 = nI (mk (σ (32 + c))) → τ1 5 360 = nI (mk (σ (40 + c))) → (∀ j, j < k → τ1 6 (1440 + j) = σ (36 + c) j ∧ τ1 7 (1440 + j) = σ (44 + c) j) →
                (∀ (τ2 : sg) (μ2 : mu_M), Mx G μ0 μ2 ma τ2 → RP τ2 (up2 σ 3 2 (nI (n + 1))) δ → τ2 0 0 = 0 → Ent τ2 360 (vCom σ c) → WP G M_Model_commit (EC G M_Model_commit Q (fun _ _ => False)) [(0, .ref (ma 0)), (1, .int (nI c)), (2, .int (nI n))] 224 [] μ2 0 0) → WP G M_Model_commit (EC G M_Model_commit Q (fun _ _ => False)) [(0, .ref (ma 0)), (1, .int (nI c)), (2, .int (nI n)), (3, .int (nI k))] 173 [] μ1 0 0 := by
              intro m
              induction m with
              | zero =>
                intro k τ1 μ1 Q hk hM g0 g1 g6 e1 e4 e5 e6 kk
                obtain rfl : k = 4 := by omega
                refine wp_iload_n d_Model_commit_173 rfl rfl ?_
                refine wp_iconst (v := 4) d_Model_commit_174 (by decide) ?_
                refine wp_icmp_ge (tgt := 224) d_Model_commit_175 (by decide) (fun c175 => ?_) (fun c175 => ?_)
                · exact WP.loc [(0, .ref (ma 0)), (1, .int (nI c)), (2, .int (nI n))] rfl (kk τ1 _ hM (h0R.low g0 g1 g6) (by rw [g0 0 (Or.inl rfl)]; exact ha00) (vCom_E e1 e4 e5 e6))
                · exact absurd (by decide) c175
              | succ m ih =>
                intro k τ1 μ1 Q hk hM g0 g1 g6 e1 e4 e5 e6 kk
                refine wp_iload_n d_Model_commit_173 rfl rfl ?_
                refine wp_iconst (v := 4) d_Model_commit_174 (by decide) ?_
                refine wp_icmp_ge (tgt := 224) d_Model_commit_175 (by decide) (fun c175 => ?_) (fun c175 => ?_)
                · exact absurd ((nI_leI (a := 4) (by omega) (by omega)).mp c175) (by omega)
                have x18 : τ1 18 (4 * c + k) = σ (36 + c) k := by rw [g0 18 (by omega)]; exact ha18 k (by omega)
                have x20 : up2 τ1 6 (1440 + k) (τ1 18 (4 * c + k)) 20 (4 * c + k) = σ (44 + c) k := by rw [up2_n (by decide), g0 20 (by omega)]; exact ha20 k (by omega)
                refine wp_aload_n d_Model_commit_178 rfl rfl ?_
                refine wp_get d_Model_commit_179 fl_Model_25 hM.obj (by rfl) ?_
                refine wp_sipush (v := 1440) d_Model_commit_182 (by decide) ?_
                refine wp_iload_n d_Model_commit_185 rfl rfl ?_
                refine wp_iadd d_Model_commit_186 ?_
                refine wp_aload_n d_Model_commit_187 rfl rfl ?_
                refine wp_get d_Model_commit_188 fl_Model_69 hM.obj (by rfl) ?_
                refine wp_iconst (v := 4) d_Model_commit_191 (by decide) ?_
                refine wp_iload_n d_Model_commit_192 rfl rfl ?_
                refine wp_imul d_Model_commit_193 ?_
                refine wp_iload_n d_Model_commit_194 rfl rfl ?_
                refine wp_iadd d_Model_commit_195 ?_
                refine wm_ald (i := 18) (n := 16) hM (by decide) (by decide) rfl rfl d_Model_commit_196 (by first | with_reducible exact ix4 _ _ | with_reducible exact ix1 _) (by omega) ?_
                refine wm_ast (i := 6) (n := 1444) hM (by decide) (by decide) rfl rfl d_Model_commit_197 (by first | with_reducible exact ix4 _ _ | with_reducible exact ix1 _) (by omega) (fun μ1 hM => ?_)
                refine wp_aload_n d_Model_commit_198 rfl rfl ?_
                refine wp_get d_Model_commit_199 fl_Model_28 hM.obj (by rfl) ?_
                refine wp_sipush (v := 1440) d_Model_commit_202 (by decide) ?_
                refine wp_iload_n d_Model_commit_205 rfl rfl ?_
                refine wp_iadd d_Model_commit_206 ?_
                refine wp_aload_n d_Model_commit_207 rfl rfl ?_
                refine wp_get d_Model_commit_208 fl_Model_75 hM.obj (by rfl) ?_
                refine wp_iconst (v := 4) d_Model_commit_211 (by decide) ?_
                refine wp_iload_n d_Model_commit_212 rfl rfl ?_
                refine wp_imul d_Model_commit_213 ?_
                refine wp_iload_n d_Model_commit_214 rfl rfl ?_
                refine wp_iadd d_Model_commit_215 ?_
                refine wm_ald (i := 20) (n := 16) hM (by decide) (by decide) rfl rfl d_Model_commit_216 (by first | with_reducible exact ix4 _ _ | with_reducible exact ix1 _) (by omega) ?_
                refine wm_ast (i := 7) (n := 1444) hM (by decide) (by decide) rfl rfl d_Model_commit_217 (by first | with_reducible exact ix4 _ _ | with_reducible exact ix1 _) (by omega) (fun μ1 hM => ?_)
                refine wp_iinc d_Model_commit_218 rfl rfl (by decide) ?_
                refine wp_goto (tgt := 173) d_Model_commit_221 (by decide) ?_
                rw [x20, x18] at hM
                refine WP.loc [(0, .ref (ma 0)), (1, .int (nI c)), (2, .int (nI n)), (3, .int (nI (k + 1)))] (by rw [← nI_1 k]; rfl) (ih (k + 1) _ _ Q (by omega) hM (fun i hi => ?_) (fun i j a b hj => ?_) (fun j hj => ?_) e1 e4 e5 (fun j hj => ?_) kk)
                · rw [up2_n (by omega), up2_n (by omega)]; exact g0 i hi
                · rw [up2_n (by omega), up2_n (by omega)]; exact g1 i j a b hj
                · show va_up (τ1 6) _ _ j = _ ∧ va_up (τ1 7) _ _ j = _
                  rw [va_up_ne _ _ (by omega), va_up_ne _ _ (by omega)]; exact g6 j hj
                · show va_up (τ1 6) _ _ (1440 + j) = _ ∧ va_up (τ1 7) _ _ (1440 + j) = _
                  by_cases e : j = k
                  · rw [e, va_up_self, va_up_self]; exact ⟨rfl, rfl⟩
                  · rw [va_up_ne _ _ (by omega), va_up_ne _ _ (by omega)]; exact e6 j (by omega)
            refine wp_iconst (v := 0) d_Model_commit_171 (by decide) ?_
            refine wp_istore_n d_Model_commit_172 rfl (by decide) ?_
            refine WP.loc [(0, .ref (ma 0)), (1, .int (nI c)), (2, .int (nI n)), (3, .int (nI 0))] rfl (WP.widen (Nat.le_of_ble_eq_true rfl) (Nat.le_of_ble_eq_true rfl) (loop 4 0 _ _ _ rfl hM (fun i hi => ?_) (fun i j a b hj => ?_) (fun j hj => ⟨rfl, rfl⟩) rfl ha17 ha19 (fun j hj => absurd hj (by omega)) (fun τ2 μ2 hM hR2 h002 hE => ?_)))
            · rw [up2_n (by omega), up2_n (by omega), up2_n (by omega)]
            · rcases (show i = 1 ∨ i = 2 ∨ i = 3 ∨ i = 4 ∨ i = 5 by omega) with rfl | rfl | rfl | rfl | rfl
              · show va_up (τa 1) 360 _ j = _; rw [va_up_ne _ _ (by omega)]
              · rfl
              · rfl
              · show va_up (τa 4) 360 _ j = _; rw [va_up_ne _ _ (by omega)]
              · show va_up (τa 5) 360 _ j = _; rw [va_up_ne _ _ (by omega)]
            refine wp_aload_n d_Model_commit_224 rfl rfl ?_
            refine wp_iload_n d_Model_commit_225 rfl rfl ?_
            refine wp_iload_n d_Model_commit_226 rfl rfl ?_
            refine wp_iconst (v := 3) d_Model_commit_227 (by decide) ?_
            refine wx_callV d_Model_commit_228 cv_Model_124 cd_Model_write ⟨by decide, by decide⟩ (cm_write hM hR2 hc hn6 (m := 3) (by omega) hE (vCom_B hR hc)) hM.obj rfl rfl (Nat.le_of_ble_eq_true rfl) (Nat.le_of_ble_eq_true rfl) (Nat.le_of_ble_eq_true rfl) (fun E1 μ3 hq => hq.elim) (fun v1 μ3 hq => ?_)
            obtain ⟨τ3, rfl, hM, hR3, h03⟩ := hq
            rw [nI_1]
            have h003 : τ3 0 0 = 0 := by rw [h03]; exact h002
            have hdv := hR.p1 (1 + c) (n % 2) (by omega) (by omega)
            have hln := ln_pos (δ (1 + c) (n % 2))
            generalize hwr : wrS c n (vCom σ c) (δ (1 + c) (n % 2)) (min (ln (δ (1 + c) (n % 2))) 3) 0 (up2 σ 3 2 (nI (n + 1))) = r at hR3 ⊢
            have hw3 : r.1 < 3 := by rw [← hwr]; exact wrS_lt _ _ _ _ _ _ _
            have hwo : ∀ i, i < 100 → r.2 i = up2 σ 3 2 (nI (n + 1)) i := fun i hi => by rw [← hwr]; exact wrS_off _ _ _ _ hi _ _ _
            have hwk : r.1 = 0 → r.2 (eR (uL (δ (1 + c) (n % 2))) n) = vCom σ c := fun z => by
              rw [← hwr] at z ⊢
              exact wrS_ok _ _ _ _ _ _ _ z _ (by omega) (by omega)
            obtain ⟨q, σ'⟩ := r
            dsimp only at hR3 hw3 hwo hwk ⊢
            have hR := hR3
            refine wp_istore_n d_Model_commit_231 rfl (by decide) ?_
            refine wp_iload_n d_Model_commit_232 rfl rfl ?_
            refine wp_if_le (tgt := 252) d_Model_commit_233 (by decide) (fun c233 => ?_) (fun c233 => ?_)
            · obtain rfl : q = 0 := by
                have z : ¬ 0 < q := fun z => nI_nle z (by omega) c233
                omega
              rw [if_pos rfl]
              have hp3 : σ' (16 + c) 4 = nI p := by rw [hwo _ (by omega), up2_n (by omega)]; exact hp2
              refine wp_aload_n d_Model_commit_252 rfl rfl ?_
              refine wp_iconst (v := 0) d_Model_commit_253 (by decide) ?_
              refine wm_put5 hM d_Model_commit_254 fp_Model_151 (by first | exact Or.inl rfl | exact Or.inr rfl) (fun μ1 hM => ?_)
              refine wp_aload_n d_Model_commit_257 rfl rfl ?_
              refine wp_iload_n d_Model_commit_258 rfl rfl ?_
              refine wp_iload_n d_Model_commit_259 rfl rfl ?_
              refine wp_iconst (v := 1) d_Model_commit_260 (by decide) ?_
              refine wp_iadd d_Model_commit_261 ?_
              rw [nI_1]
              refine wx_callV d_Model_commit_262 cv_Model_157 cd_Model_play ⟨by decide, by decide⟩ (cm_play hM (hR.f5 0) 0 hc hp3 hp (e := n + 1) (by omega)) hM.obj rfl rfl (Nat.le_of_ble_eq_true rfl) (Nat.le_of_ble_eq_true rfl) (Nat.le_of_ble_eq_true rfl) (fun E1 μ4 hq => hq.elim) (fun v1 μ4 hq => ?_)
              obtain ⟨τ4, rfl, hM, hR4, h004, htk⟩ := hq
              have ht1 := plS_t c δ (n + 1 - p) p 0 σ' (Or.inl rfl)
              have hpl0 : ¬ p < n + 1 → (plS c δ (n + 1 - p) p 0 σ').2.1 = 0 := fun z => by rw [show n + 1 - p = 0 by omega]; rfl
              have hk4 := plS_lt c δ (n + 1 - p) p 0 σ'
              generalize hpl : plS c δ (n + 1 - p) p 0 σ' = r at hR4 htk ht1 hpl0 hk4 ⊢
              obtain ⟨k, t, σ2⟩ := r
              dsimp only at hR4 htk ht1 hpl0 hk4 ⊢
              have hR := hR4
              have h005 : τ4 0 0 = 0 := h004.trans h003
              refine wp_istore d_Model_commit_265 (by decide) ?_
              refine wp_iload d_Model_commit_267 rfl ?_
              refine wp_if_le (tgt := 299) d_Model_commit_269 (by decide) (fun c269 => ?_) (fun c269 => ?_)
              · obtain rfl : k = 0 := by
                  have z : ¬ 0 < k := fun z => nI_nle z (by omega) c269
                  omega
                have htt : τ4 0 5 = t := by
                  by_cases hpn : p < n + 1
                  · refine (htk rfl).2 (decide_eq_true hpn) ?_
                    show σ' (eR (uL (δ (1 + c) (n % 2))) n) 0 = 2
                    rw [hwk rfl]; rfl
                  · rw [(htk rfl).1 (decide_eq_false hpn), hpl0 hpn]; rfl
                rw [if_pos rfl]
                refine wp_aload_n d_Model_commit_299 rfl rfl ?_
                refine wp_get d_Model_commit_300 fl_Model_63 hM.obj (by rfl) ?_
                refine wp_iload_n d_Model_commit_303 rfl rfl ?_
                refine wp_iconst (v := 0) d_Model_commit_304 (by decide) ?_
                refine wm_zst (i := 16) (n := 4) hM (by decide) (by decide) rfl rfl d_Model_commit_305 (by first | with_reducible exact ixc0 | with_reducible exact ixc1 | with_reducible exact ixc360 | with_reducible rfl | with_reducible exact ix4 _ _ | with_reducible exact ix21 _ | with_reducible exact ix2 _ | with_reducible exact ix4a _ | assumption) (by omega) (by rfl) (fun μ1 hM => ?_)
                refine wp_aload_n d_Model_commit_306 rfl rfl ?_
                refine wp_get d_Model_commit_307 fl_Model_151 hM.obj (by rfl) ?_
                refine wp_zret d_Model_commit_310 rfl ?_ (by decide) (by decide) ⟨_, _, rfl, hM, hR.opn hc (Or.inl rfl), h005, fun _ => htt⟩
                show narrow .boolean (.int (τ4 0 5)) = .int (τ4 0 5)
                rw [htt]
                rcases ht1 with rfl | rfl <;> rfl
              · have k0 : k ≠ 0 := fun z => c269 (by rw [z]; decide)
                rw [if_neg k0]
                rcases (show k = 1 ∨ k = 2 ∨ k = 3 by omega) with rfl | rfl | rfl
                · refine wp_aload_n d_Model_commit_272 rfl rfl ?_
                  refine wp_iload d_Model_commit_273 rfl ?_
                  refine wp_iconst (v := 1) d_Model_commit_275 (by decide) ?_
                  refine wp_icmp_ne (tgt := 283) d_Model_commit_276 (by decide) (fun z9 => absurd z9 (by decide)) (fun _ => ?_)
                  refine wp_iconst (v := 2) d_Model_commit_279 (by decide) ?_
                  refine wp_goto (tgt := 294) d_Model_commit_280 (by decide) ?_
                  refine wm_put0 hM d_Model_commit_294 fp_Model_82 (fun μ1 hM => ?_)
                  refine wp_iconst (v := 0) d_Model_commit_297 (by decide) ?_
                  exact wp_zret d_Model_commit_298 rfl rfl (by decide) (by decide) ⟨_, _, rfl, hM, hR.f0 _, rfl, fun z => absurd z (show ¬ 2 = 0 by decide)⟩
                · refine wp_aload_n d_Model_commit_272 rfl rfl ?_
                  refine wp_iload d_Model_commit_273 rfl ?_
                  refine wp_iconst (v := 1) d_Model_commit_275 (by decide) ?_
                  refine wp_icmp_ne (tgt := 283) d_Model_commit_276 (by decide) (fun _ => ?_) (fun z9 => absurd z9 (by decide))
                  refine wp_iload d_Model_commit_283 rfl ?_
                  refine wp_iconst (v := 2) d_Model_commit_285 (by decide) ?_
                  refine wp_icmp_ne (tgt := 293) d_Model_commit_286 (by decide) (fun z9 => absurd z9 (by decide)) (fun _ => ?_)
                  refine wp_iconst (v := 5) d_Model_commit_289 (by decide) ?_
                  refine wp_goto (tgt := 294) d_Model_commit_290 (by decide) ?_
                  refine wm_put0 hM d_Model_commit_294 fp_Model_82 (fun μ1 hM => ?_)
                  refine wp_iconst (v := 0) d_Model_commit_297 (by decide) ?_
                  exact wp_zret d_Model_commit_298 rfl rfl (by decide) (by decide) ⟨_, _, rfl, hM, hR.f0 _, rfl, fun z => absurd z (show ¬ 5 = 0 by decide)⟩
                · refine wp_aload_n d_Model_commit_272 rfl rfl ?_
                  refine wp_iload d_Model_commit_273 rfl ?_
                  refine wp_iconst (v := 1) d_Model_commit_275 (by decide) ?_
                  refine wp_icmp_ne (tgt := 283) d_Model_commit_276 (by decide) (fun _ => ?_) (fun z9 => absurd z9 (by decide))
                  refine wp_iload d_Model_commit_283 rfl ?_
                  refine wp_iconst (v := 2) d_Model_commit_285 (by decide) ?_
                  refine wp_icmp_ne (tgt := 293) d_Model_commit_286 (by decide) (fun _ => ?_) (fun z9 => absurd z9 (by decide))
                  refine wp_iconst (v := 3) d_Model_commit_293 (by decide) ?_
                  refine wm_put0 hM d_Model_commit_294 fp_Model_82 (fun μ1 hM => ?_)
                  refine wp_iconst (v := 0) d_Model_commit_297 (by decide) ?_
                  exact wp_zret d_Model_commit_298 rfl rfl (by decide) (by decide) ⟨_, _, rfl, hM, hR.f0 _, rfl, fun z => absurd z (show ¬ 3 = 0 by decide)⟩
            · have k0 : q ≠ 0 := fun z => c233 (by rw [z]; decide)
              rw [if_neg k0]
              rcases (show q = 1 ∨ q = 2 by omega) with rfl | rfl
              · refine wp_aload_n d_Model_commit_236 rfl rfl ?_
                refine wp_iload_n d_Model_commit_237 rfl rfl ?_
                refine wp_iconst (v := 1) d_Model_commit_238 (by decide) ?_
                refine wp_icmp_ne (tgt := 246) d_Model_commit_239 (by decide) (fun z9 => absurd z9 (by decide)) (fun _ => ?_)
                refine wp_iconst (v := 2) d_Model_commit_242 (by decide) ?_
                refine wp_goto (tgt := 247) d_Model_commit_243 (by decide) ?_
                refine wm_put0 hM d_Model_commit_247 fp_Model_82 (fun μ1 hM => ?_)
                refine wp_iconst (v := 0) d_Model_commit_250 (by decide) ?_
                exact wp_zret d_Model_commit_251 rfl rfl (by decide) (by decide) ⟨_, _, rfl, hM, hR.f0 _, rfl, fun z => absurd z (show ¬ 2 = 0 by decide)⟩
              · refine wp_aload_n d_Model_commit_236 rfl rfl ?_
                refine wp_iload_n d_Model_commit_237 rfl rfl ?_
                refine wp_iconst (v := 1) d_Model_commit_238 (by decide) ?_
                refine wp_icmp_ne (tgt := 246) d_Model_commit_239 (by decide) (fun _ => ?_) (fun z9 => absurd z9 (by decide))
                refine wp_iconst (v := 4) d_Model_commit_246 (by decide) ?_
                refine wm_put0 hM d_Model_commit_247 fp_Model_82 (fun μ1 hM => ?_)
                refine wp_iconst (v := 0) d_Model_commit_250 (by decide) ?_
                exact wp_zret d_Model_commit_251 rfl rfl (by decide) (by decide) ⟨_, _, rfl, hM, hR.f0 _, rfl, fun z => absurd z (show ¬ 4 = 0 by decide)⟩
          · obtain rfl : n = 60 := (nI_eq (b := 60) (by omega) (by omega)).mp c102
            rw [if_neg (by decide)]
            refine wp_aload_n d_Model_commit_105 rfl rfl ?_
            refine wp_iconst (v := 5) d_Model_commit_106 (by decide) ?_
            refine wm_put0 hM d_Model_commit_107 fp_Model_82 (fun μ1 hM => ?_)
            refine wp_aload_n d_Model_commit_110 rfl rfl ?_
            refine wp_get d_Model_commit_111 fl_Model_82 hM.obj (by rfl) ?_
            refine wp_if_le (tgt := 119) d_Model_commit_114 (by decide) (fun c114 => ?_) (fun c114 => ?_)
            · exact absurd c114 (show ¬ (5 : Int32) ≤ 0 by decide)
            refine wp_iconst (v := 0) d_Model_commit_117 (by decide) ?_
            exact wp_zret d_Model_commit_118 rfl rfl (by decide) (by decide) ⟨_, _, rfl, hM, hR.f0 _, rfl, fun z => absurd z (show ¬ 5 = 0 by decide)⟩
        · rw [if_pos (ifz c85)]
          refine wp_aload_n d_Model_commit_88 rfl rfl ?_
          refine wp_iconst (v := 2) d_Model_commit_89 (by decide) ?_
          refine wm_put0 hM d_Model_commit_90 fp_Model_82 (fun μ1 hM => ?_)
          refine wp_goto (tgt := 110) d_Model_commit_93 (by decide) ?_
          refine wp_aload_n d_Model_commit_110 rfl rfl ?_
          refine wp_get d_Model_commit_111 fl_Model_82 hM.obj (by rfl) ?_
          refine wp_if_le (tgt := 119) d_Model_commit_114 (by decide) (fun c114 => ?_) (fun c114 => ?_)
          · exact absurd c114 (show ¬ (2 : Int32) ≤ 0 by decide)
          refine wp_iconst (v := 0) d_Model_commit_117 (by decide) ?_
          exact wp_zret d_Model_commit_118 rfl rfl (by decide) (by decide) ⟨_, _, rfl, hM, hR.f0 _, rfl, fun z => absurd z (show ¬ 2 = 0 by decide)⟩
      · have hz : pcN (σ (40 + c)) 4 = 0 := hpc.mp ((nI_eq (b := 0) (by omega) (by omega)).mp c51)
        rw [if_pos hz]
        refine wp_aload_n d_Model_commit_54 rfl rfl ?_
        refine wp_get d_Model_commit_55 fl_Model_63 hM.obj (by rfl) ?_
        refine wp_iload_n d_Model_commit_58 rfl rfl ?_
        refine wp_iconst (v := 0) d_Model_commit_59 (by decide) ?_
        refine wm_zst (i := 16) (n := 4) hM (by decide) (by decide) rfl rfl d_Model_commit_60 (by first | with_reducible exact ixc0 | with_reducible exact ixc1 | with_reducible exact ixc360 | with_reducible rfl | with_reducible exact ix4 _ _ | with_reducible exact ix21 _ | with_reducible exact ix2 _ | with_reducible exact ix4a _ | assumption) (by omega) (by rfl) (fun μ1 hM => ?_)
        refine wp_aload_n d_Model_commit_61 rfl rfl ?_
        refine wp_iload_n d_Model_commit_62 rfl rfl ?_
        refine wp_aload_n d_Model_commit_63 rfl rfl ?_
        refine wp_get d_Model_commit_64 fl_Model_66 hM.obj (by rfl) ?_
        refine wp_iload_n d_Model_commit_67 rfl rfl ?_
        refine wm_ald (i := 17) (n := 4) hM (by decide) (by decide) rfl rfl d_Model_commit_68 (by first | with_reducible exact ixc0 | with_reducible exact ixc1 | with_reducible exact ixc360 | with_reducible rfl | with_reducible exact ix4 _ _ | with_reducible exact ix21 _ | with_reducible exact ix2 _ | with_reducible exact ix4a _ | assumption) (by omega) ?_
        refine wp_aload_n d_Model_commit_69 rfl rfl ?_
        refine wp_get d_Model_commit_70 fl_Model_69 hM.obj (by rfl) ?_
        refine wp_iconst (v := 4) d_Model_commit_73 (by decide) ?_
        refine wp_iload_n d_Model_commit_74 rfl rfl ?_
        refine wp_imul d_Model_commit_75 ?_
        rw [show up2 τ 16 c 0 17 c = nI (mk (σ (32 + c))) from hR.se c hc, ix4a]
        refine wx_callV d_Model_commit_76 cv_Model_147 cd_Model_sameAges ⟨by decide, by decide⟩ (cm_sameAges hM hc (σ (32 + c)) (i := 18) (j := c) (by decide) (by decide) rfl (show 4 * c + 4 ≤ 16 by omega)) hM.obj rfl rfl (Nat.le_of_ble_eq_true rfl) (Nat.le_of_ble_eq_true rfl) (Nat.le_of_ble_eq_true rfl) (fun E1 μ1 hq => hq.elim) (fun v1 μ1 hq => ?_)
        obtain ⟨rfl, rfl⟩ := hq
        have ham : am (σ (32 + c)) (fun k => up2 τ 16 c 0 18 (4 * c + k)) (fun k => up2 τ 16 c 0 15 (4 * c + k)) = am (σ (32 + c)) (σ (36 + c)) (σ (24 + c)) := am_congr (fun k hk => ⟨rfl, hR.sa c k hc hk, hR.ag c k hc hk⟩)
        rw [ham]
        refine wp_zret d_Model_commit_79 rfl ?_ (by decide) (by decide) ⟨_, _, rfl, hM, hR.opn hc (Or.inl rfl), h00, fun _ => rfl⟩
        split <;> rfl
    · rw [hop] at c28
      rw [if_pos c28]
      refine wp_aload_n d_Model_commit_31 rfl rfl ?_
      refine wp_iconst (v := 2) d_Model_commit_32 (by decide) ?_
      refine wm_put0 hM d_Model_commit_33 fp_Model_82 (fun μ1 hM => ?_)
      refine wp_aload_n d_Model_commit_36 rfl rfl ?_
      refine wp_get d_Model_commit_37 fl_Model_82 hM.obj (by rfl) ?_
      refine wp_if_le (tgt := 45) d_Model_commit_40 (by decide) (fun c40 => ?_) (fun c40 => ?_)
      · exact absurd c40 (show ¬ (2 : Int32) ≤ 0 by decide)
      refine wp_iconst (v := 0) d_Model_commit_43 (by decide) ?_
      exact wp_zret d_Model_commit_44 rfl rfl (by decide) (by decide) ⟨_, _, rfl, hM, hR.f0 _, rfl, fun z => absurd z (show ¬ 2 = 0 by decide)⟩
  · rw [S_commit, ha, if_pos h]
    dsimp only
    refine wp_if_eq (tgt := 22) d_Model_commit_11 (by decide) (fun z9 => absurd z9 (by decide)) (fun _ => ?_)
    refine wp_aload_n d_Model_commit_14 rfl rfl ?_
    refine wp_iconst (v := 1) d_Model_commit_15 (by decide) ?_
    refine wm_put0 hM d_Model_commit_16 fp_Model_82 (fun μ1 hM => ?_)
    refine wp_goto (tgt := 36) d_Model_commit_19 (by decide) ?_
    refine wp_aload_n d_Model_commit_36 rfl rfl ?_
    refine wp_get d_Model_commit_37 fl_Model_82 hM.obj (by rfl) ?_
    refine wp_if_le (tgt := 45) d_Model_commit_40 (by decide) (fun c40 => ?_) (fun c40 => ?_)
    · exact absurd c40 (show ¬ (1 : Int32) ≤ 0 by decide)
    refine wp_iconst (v := 0) d_Model_commit_43 (by decide) ?_
    exact wp_zret d_Model_commit_44 rfl rfl (by decide) (by decide) ⟨_, _, rfl, hM, hR.f0 _, rfl, fun z => absurd z (show ¬ 1 = 0 by decide)⟩
end MCommit
