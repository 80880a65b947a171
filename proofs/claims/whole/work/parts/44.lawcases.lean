/-! THE LAW'S CASES: one call of the class, one of the reference, the answers held against each other -/
theorem plS_b {c : Nat} {δ : dg} : ∀ (n p : Nat) (t : Int32) (σ : sg), (t = 0 ∨ t = 1) → (plS c δ n p t σ).2.1 = 0 ∨ (plS c δ n p t σ).2.1 = 1
  | 0, _, _, _, h => h
  | n + 1, p, t, σ, h => by
    unfold plS
    split
    · split
      · exact h
      · split
        · exact h
        · split
          · exact plS_b n _ _ _ (Or.inr rfl)
          · exact plS_b n _ _ _ (Or.inl rfl)
    · exact h
theorem S_commit_b (x : Int32) (σ : sg) (δ : dg) (h0 : (S_commit x σ δ).1 = 0) : (S_commit x σ δ).2.1 = 0 ∨ (S_commit x σ δ).2.1 = 1 := by
  unfold S_commit
  split
  next c he =>
    unfold coS
    split
    · exact Or.inl rfl
    · split
      · show (if _ then (1 : Int32) else 0) = 0 ∨ (if _ then (1 : Int32) else 0) = 1
        split
        · exact Or.inr rfl
        · exact Or.inl rfl
      · have h9 : (wpS c σ δ).2.1 = 0 ∨ (wpS c σ δ).2.1 = 1 := by
          unfold wpS
          split
          · exact Or.inl rfl
          · split
            · split
              split
              · split
                next k t σ2 h8 =>
                  have h7 : t = 0 ∨ t = 1 := (show _ = t from congrArg (fun q => q.2.1) h8) ▸ plS_b _ _ 0 _ (Or.inl rfl)
                  split
                  · exact h7
                  · exact Or.inl rfl
              · exact Or.inl rfl
            · exact Or.inl rfl
        split
        next k t σ' δ' h8 =>
          rw [h8] at h9
          split
          · exact h9
          · exact Or.inl rfl
  · exact Or.inl rfl
section LCS
variable {G : mt_G} {μ : mu_M} {ad ma : Nat → Nat} {σ : sg} {δ : dg} {oa b L i cn sn : Nat} {xs : Nat → Int32}
set_option maxHeartbeats 1000000 in
set_option maxRecDepth 10000 in
theorem lc_append (hLI : LI G μ ad ma oa σ δ) (hi : i + 5 ≤ L) (hL : L ≤ 2560) (hc : cn + 182 ≤ (mt_R M_law).cells) (hs : sn + 1092 ≤ (mt_R M_law).slots) (kk : ∀ μ' σ' δ', LI G μ' ad ma oa σ' δ' → WP G M_law (QL G b L xs) [(0, .ref b), (1, .ref (ad 0)), (2, .ref (ma 0)), (3, .ref oa), (4, .int (nI i))] 1292 [] μ' (cn + 182) (sn + 1092)) : WP G M_law (QL G b L xs) [(0, .ref b), (1, .ref (ad 0)), (2, .ref (ma 0)), (3, .ref oa), (4, .int (nI i))] 124 [] μ cn sn := by
  obtain ⟨⟨φ0, g0, hC0⟩, ⟨τ, hM, hR⟩, ⟨f0, hf0⟩, hO⟩ := id hLI
  have ho : (Gp G (xb ma oa) μ).2.2.2.2 oa = some (.inl (G.2.2.1 2, 1, .inr (.inl f0))) := (pX_t (xb_o ma oa)).trans hf0
  refine wp_aload_n d_Law_law_124 rfl rfl ?_
  refine wp_aload_n d_Law_law_125 rfl rfl ?_
  refine wp_iload d_Law_law_126 rfl ?_
  refine wp_iconst (v := 1) d_Law_law_128 (by decide) ?_
  refine wp_iadd d_Law_law_129 ?_
  refine wl_sld (j := i + 1) d_Law_law_130 (nI_k 1 rfl) (by omega) (by omega) ?_
  refine wp_aload_n d_Law_law_131 rfl rfl ?_
  refine wp_iload d_Law_law_132 rfl ?_
  refine wp_iconst (v := 2) d_Law_law_134 (by decide) ?_
  refine wp_iadd d_Law_law_135 ?_
  refine wl_sld (j := i + 2) d_Law_law_136 (nI_k 2 rfl) (by omega) (by omega) ?_
  refine wp_aload_n d_Law_law_137 rfl rfl ?_
  refine wp_iload d_Law_law_138 rfl ?_
  refine wp_iconst (v := 3) d_Law_law_140 (by decide) ?_
  refine wp_iadd d_Law_law_141 ?_
  refine wl_sld (j := i + 3) d_Law_law_142 (nI_k 3 rfl) (by omega) (by omega) ?_
  refine wp_aload_n d_Law_law_143 rfl rfl ?_
  refine wp_iload d_Law_law_144 rfl ?_
  refine wp_iconst (v := 4) d_Law_law_146 (by decide) ?_
  refine wp_iadd d_Law_law_147 ?_
  refine wl_sld (j := i + 4) d_Law_law_148 (nI_k 4 rfl) (by omega) (by omega) ?_
  refine wp_aload_n d_Law_law_149 rfl rfl ?_
  refine wx_callSH d_Law_law_150 cs_Law_80 cw_append ⟨by decide, by decide⟩ (CTH.gp (ch_append (r := S_append (xs (i + 1)) (xs (i + 2)) (xs (i + 3)) (xs (i + 4)) σ δ) hC0 ho hO.1 (S_append_le (xs (i + 1)) (xs (i + 2)) (xs (i + 3)) (xs (i + 4)) σ δ) (ct_append hC0 hR.pi (xs (i + 1)) (xs (i + 2)) (xs (i + 3)) (xs (i + 4))))) rfl rfl (Nat.le_of_ble_eq_true rfl) (show cn + 15 ≤ _ from Nat.le_trans (by omega) hc) (show sn + 77 ≤ _ from Nat.le_trans (by omega) hs) (fun E μ1 h => h.elim) (fun w μ1 hq => ?_)
  have hle := S_append_le (xs (i + 1)) (xs (i + 2)) (xs (i + 3)) (xs (i + 4)) σ δ
  obtain ⟨rfl, hC1, ⟨τ1, hM1, hR1⟩, f1, hf1, ha1⟩ := hLI.help hq
  have hX1 := LM.x ⟨τ1, hM1, hR1⟩ ⟨f1, hf1⟩
  refine wp_istore d_Law_law_153 (Nat.le_of_ble_eq_true rfl) ?_
  refine wp_aload_n d_Law_law_155 rfl rfl ?_
  refine wp_aload_n d_Law_law_156 rfl rfl ?_
  refine wp_iload d_Law_law_157 rfl ?_
  refine wp_iconst (v := 1) d_Law_law_159 (by decide) ?_
  refine wp_iadd d_Law_law_160 ?_
  refine wl_sld (j := i + 1) d_Law_law_161 (nI_k 1 rfl) (by omega) (by omega) ?_
  refine wp_aload_n d_Law_law_162 rfl rfl ?_
  refine wp_iload d_Law_law_163 rfl ?_
  refine wp_iconst (v := 2) d_Law_law_165 (by decide) ?_
  refine wp_iadd d_Law_law_166 ?_
  refine wl_sld (j := i + 2) d_Law_law_167 (nI_k 2 rfl) (by omega) (by omega) ?_
  refine wp_aload_n d_Law_law_168 rfl rfl ?_
  refine wp_iload d_Law_law_169 rfl ?_
  refine wp_iconst (v := 3) d_Law_law_171 (by decide) ?_
  refine wp_iadd d_Law_law_172 ?_
  refine wl_sld (j := i + 3) d_Law_law_173 (nI_k 3 rfl) (by omega) (by omega) ?_
  refine wp_aload_n d_Law_law_174 rfl rfl ?_
  refine wp_iload d_Law_law_175 rfl ?_
  refine wp_iconst (v := 4) d_Law_law_177 (by decide) ?_
  refine wp_iadd d_Law_law_178 ?_
  refine wl_sld (j := i + 4) d_Law_law_179 (nI_k 4 rfl) (by omega) (by omega) ?_
  refine wx_callV d_Law_law_180 cv_Law_85 cd_Model_append ⟨by decide, by decide⟩ (cm_append hM1 hR1 (xs (i + 1)) (xs (i + 2)) (xs (i + 3)) (xs (i + 4))) hM1.obj rfl rfl (Nat.le_of_ble_eq_true rfl) (show cn + 15 + 0 ≤ _ from Nat.le_trans (by omega) hc) (show sn + 77 + 0 ≤ _ from Nat.le_trans (by omega) hs) (fun E μ2 h => h.elim) (fun w μ2 hq => ?_)
  obtain ⟨τ2, y, rfl, hM2, hR2, ht2, hy⟩ := hq
  have hf2 := hM2.2.2.2 _ _ (fun j hj => hO.2 j hj) hf1
  have hL2 := LC.model hC1 hX1 hO ⟨f1, hf1⟩ hM2 hR2
  refine wp_istore d_Law_law_183 (Nat.le_of_ble_eq_true rfl) ?_
  refine wp_aload_n d_Law_law_185 rfl rfl ?_
  refine wx_callV d_Law_law_186 cv_Law_86 cd_Model_thrown ⟨by decide, by decide⟩ (cm_thrown hM2) hM2.obj rfl rfl (Nat.le_of_ble_eq_true rfl) (show cn + 15 + 0 + 0 ≤ _ from Nat.le_trans (by omega) hc) (show sn + 77 + 0 + 0 ≤ _ from Nat.le_trans (by omega) hs) (fun E μ3 h => h.elim) (fun w μ3 hq => ?_)
  obtain ⟨rfl, rfl⟩ := hq
  refine wp_iload d_Law_law_189 rfl ?_
  refine wp_icmp_eq (tgt := 196) d_Law_law_191 (by decide) (fun _ => ?_) (fun z => absurd ht2 z)
  refine wp_iload d_Law_law_196 rfl ?_
  have fin : WP G M_law (QL G b L xs) (lst (lst [(0, .ref b), (1, .ref (ad 0)), (2, .ref (ma 0)), (3, .ref oa), (4, .int (nI i))] 5 (.int (nI (S_append (xs (i + 1)) (xs (i + 2)) (xs (i + 3)) (xs (i + 4)) σ δ).1))) 6 (.int y)) 213 [] μ3 (cn + 15 + 0 + 0) (sn + 77 + 0 + 0) := by
    refine wp_goto (tgt := 1292) d_Law_law_213 (by decide) ?_
    exact WP.loc [(0, .ref b), (1, .ref (ad 0)), (2, .ref (ma 0)), (3, .ref oa), (4, .int (nI i))] rfl (WP.widen (show cn + 15 + 0 + 0 ≤ cn + 182 by omega) (show sn + 77 + 0 + 0 ≤ sn + 1092 by omega) (kk _ _ _ hL2))
  refine wp_if_ne (tgt := 213) d_Law_law_198 (by decide) (fun _ => fin) (fun z => ?_)
  have h0 := nI_z (by omega) z
  refine wp_aload_n d_Law_law_201 rfl rfl ?_
  refine wp_iconst (v := 0) d_Law_law_202 (by decide) ?_
  refine wp_lald (j := 0) d_Law_law_203 hf2 rfl (by decide) (by decide) ?_
  refine wp_iload d_Law_law_204 rfl ?_
  refine wp_i2l d_Law_law_206 rfl ?_
  refine wp_lcmp d_Law_law_207 ?_
  exact wp_if_eq (tgt := 213) d_Law_law_208 (by decide) (fun _ => fin) (fun z2 => absurd ((lg_cmp_eq _ _).mpr ((ha1 h0).trans (by rw [hy h0]))) z2)
set_option maxHeartbeats 1000000 in
set_option maxRecDepth 10000 in
theorem lc_read (hLI : LI G μ ad ma oa σ δ) (hi : i + 5 ≤ L) (hL : L ≤ 2560) (hc : cn + 182 ≤ (mt_R M_law).cells) (hs : sn + 1092 ≤ (mt_R M_law).slots) (kk : ∀ μ' σ' δ', LI G μ' ad ma oa σ' δ' → WP G M_law (QL G b L xs) [(0, .ref b), (1, .ref (ad 0)), (2, .ref (ma 0)), (3, .ref oa), (4, .int (nI i))] 1292 [] μ' (cn + 182) (sn + 1092)) : WP G M_law (QL G b L xs) [(0, .ref b), (1, .ref (ad 0)), (2, .ref (ma 0)), (3, .ref oa), (4, .int (nI i))] 216 [] μ cn sn := by
  obtain ⟨⟨φ0, g0, hC0⟩, ⟨τ, hM, hR⟩, ⟨f0, hf0⟩, hO⟩ := id hLI
  have ho : (Gp G (xb ma oa) μ).2.2.2.2 oa = some (.inl (G.2.2.1 2, 1, .inr (.inl f0))) := (pX_t (xb_o ma oa)).trans hf0
  refine wp_aload_n d_Law_law_216 rfl rfl ?_
  refine wp_aload_n d_Law_law_217 rfl rfl ?_
  refine wp_iload d_Law_law_218 rfl ?_
  refine wp_iconst (v := 1) d_Law_law_220 (by decide) ?_
  refine wp_iadd d_Law_law_221 ?_
  refine wl_sld (j := i + 1) d_Law_law_222 (nI_k 1 rfl) (by omega) (by omega) ?_
  refine wp_aload_n d_Law_law_223 rfl rfl ?_
  refine wp_iload d_Law_law_224 rfl ?_
  refine wp_iconst (v := 2) d_Law_law_226 (by decide) ?_
  refine wp_iadd d_Law_law_227 ?_
  refine wl_sld (j := i + 2) d_Law_law_228 (nI_k 2 rfl) (by omega) (by omega) ?_
  refine wp_aload_n d_Law_law_229 rfl rfl ?_
  refine wx_callSH d_Law_law_230 cs_Law_90 cw_read ⟨by decide, by decide⟩ (CTH.gp (ch_read (r := S_read (xs (i + 1)) (xs (i + 2)) σ δ) hC0 ho hO.1 (S_read_le (xs (i + 1)) (xs (i + 2)) σ δ) (ct_read hC0 hR.pi (xs (i + 1)) (xs (i + 2))))) rfl rfl (Nat.le_of_ble_eq_true rfl) (show cn + 5 ≤ _ from Nat.le_trans (by omega) hc) (show sn + 30 ≤ _ from Nat.le_trans (by omega) hs) (fun E μ1 h => h.elim) (fun w μ1 hq => ?_)
  have hle := S_read_le (xs (i + 1)) (xs (i + 2)) σ δ
  obtain ⟨rfl, hC1, ⟨τ1, hM1, hR1⟩, f1, hf1, ha1⟩ := hLI.help hq
  have hX1 := LM.x ⟨τ1, hM1, hR1⟩ ⟨f1, hf1⟩
  refine wp_istore d_Law_law_233 (Nat.le_of_ble_eq_true rfl) ?_
  refine wp_aload_n d_Law_law_235 rfl rfl ?_
  refine wp_aload_n d_Law_law_236 rfl rfl ?_
  refine wp_iload d_Law_law_237 rfl ?_
  refine wp_iconst (v := 1) d_Law_law_239 (by decide) ?_
  refine wp_iadd d_Law_law_240 ?_
  refine wl_sld (j := i + 1) d_Law_law_241 (nI_k 1 rfl) (by omega) (by omega) ?_
  refine wp_aload_n d_Law_law_242 rfl rfl ?_
  refine wp_iload d_Law_law_243 rfl ?_
  refine wp_iconst (v := 2) d_Law_law_245 (by decide) ?_
  refine wp_iadd d_Law_law_246 ?_
  refine wl_sld (j := i + 2) d_Law_law_247 (nI_k 2 rfl) (by omega) (by omega) ?_
  refine wx_callV d_Law_law_248 cv_Law_93 cd_Model_read ⟨by decide, by decide⟩ (cm_read hM1 hR1 (xs (i + 1)) (xs (i + 2))) hM1.obj rfl rfl (Nat.le_of_ble_eq_true rfl) (show cn + 5 + 0 ≤ _ from Nat.le_trans (by omega) hc) (show sn + 30 + 0 ≤ _ from Nat.le_trans (by omega) hs) (fun E μ2 h => h.elim) (fun w μ2 hq => ?_)
  obtain ⟨τ2, y, rfl, hM2, hR2, ht2, hy⟩ := hq
  have hf2 := hM2.2.2.2 _ _ (fun j hj => hO.2 j hj) hf1
  have hL2 := LC.model hC1 hX1 hO ⟨f1, hf1⟩ hM2 hR2
  refine wp_istore d_Law_law_251 (Nat.le_of_ble_eq_true rfl) ?_
  refine wp_aload_n d_Law_law_253 rfl rfl ?_
  refine wx_callV d_Law_law_254 cv_Law_86 cd_Model_thrown ⟨by decide, by decide⟩ (cm_thrown hM2) hM2.obj rfl rfl (Nat.le_of_ble_eq_true rfl) (show cn + 5 + 0 + 0 ≤ _ from Nat.le_trans (by omega) hc) (show sn + 30 + 0 + 0 ≤ _ from Nat.le_trans (by omega) hs) (fun E μ3 h => h.elim) (fun w μ3 hq => ?_)
  obtain ⟨rfl, rfl⟩ := hq
  refine wp_iload d_Law_law_257 rfl ?_
  refine wp_icmp_eq (tgt := 264) d_Law_law_259 (by decide) (fun _ => ?_) (fun z => absurd ht2 z)
  refine wp_iload d_Law_law_264 rfl ?_
  have fin : WP G M_law (QL G b L xs) (lst (lst [(0, .ref b), (1, .ref (ad 0)), (2, .ref (ma 0)), (3, .ref oa), (4, .int (nI i))] 5 (.int (nI (S_read (xs (i + 1)) (xs (i + 2)) σ δ).1))) 6 (.int y)) 281 [] μ3 (cn + 5 + 0 + 0) (sn + 30 + 0 + 0) := by
    refine wp_goto (tgt := 1292) d_Law_law_281 (by decide) ?_
    exact WP.loc [(0, .ref b), (1, .ref (ad 0)), (2, .ref (ma 0)), (3, .ref oa), (4, .int (nI i))] rfl (WP.widen (show cn + 5 + 0 + 0 ≤ cn + 182 by omega) (show sn + 30 + 0 + 0 ≤ sn + 1092 by omega) (kk _ _ _ hL2))
  refine wp_if_ne (tgt := 281) d_Law_law_266 (by decide) (fun _ => fin) (fun z => ?_)
  have h0 := nI_z (by omega) z
  refine wp_aload_n d_Law_law_269 rfl rfl ?_
  refine wp_iconst (v := 0) d_Law_law_270 (by decide) ?_
  refine wp_lald (j := 0) d_Law_law_271 hf2 rfl (by decide) (by decide) ?_
  refine wp_iload d_Law_law_272 rfl ?_
  refine wp_i2l d_Law_law_274 rfl ?_
  refine wp_lcmp d_Law_law_275 ?_
  exact wp_if_eq (tgt := 281) d_Law_law_276 (by decide) (fun _ => fin) (fun z2 => absurd ((lg_cmp_eq _ _).mpr ((ha1 h0).trans (by rw [hy h0]))) z2)
set_option maxHeartbeats 1000000 in
set_option maxRecDepth 10000 in
theorem lc_fill (hLI : LI G μ ad ma oa σ δ) (hi : i + 5 ≤ L) (hL : L ≤ 2560) (hc : cn + 182 ≤ (mt_R M_law).cells) (hs : sn + 1092 ≤ (mt_R M_law).slots) (kk : ∀ μ' σ' δ', LI G μ' ad ma oa σ' δ' → WP G M_law (QL G b L xs) [(0, .ref b), (1, .ref (ad 0)), (2, .ref (ma 0)), (3, .ref oa), (4, .int (nI i))] 1292 [] μ' (cn + 182) (sn + 1092)) : WP G M_law (QL G b L xs) [(0, .ref b), (1, .ref (ad 0)), (2, .ref (ma 0)), (3, .ref oa), (4, .int (nI i))] 284 [] μ cn sn := by
  obtain ⟨⟨φ0, g0, hC0⟩, ⟨τ, hM, hR⟩, ⟨f0, hf0⟩, hO⟩ := id hLI
  have ho : (Gp G (xb ma oa) μ).2.2.2.2 oa = some (.inl (G.2.2.1 2, 1, .inr (.inl f0))) := (pX_t (xb_o ma oa)).trans hf0
  refine wp_aload_n d_Law_law_284 rfl rfl ?_
  refine wp_aload_n d_Law_law_285 rfl rfl ?_
  refine wp_iload d_Law_law_286 rfl ?_
  refine wp_iconst (v := 1) d_Law_law_288 (by decide) ?_
  refine wp_iadd d_Law_law_289 ?_
  refine wl_sld (j := i + 1) d_Law_law_290 (nI_k 1 rfl) (by omega) (by omega) ?_
  refine wp_aload_n d_Law_law_291 rfl rfl ?_
  refine wp_iload d_Law_law_292 rfl ?_
  refine wp_iconst (v := 2) d_Law_law_294 (by decide) ?_
  refine wp_iadd d_Law_law_295 ?_
  refine wl_sld (j := i + 2) d_Law_law_296 (nI_k 2 rfl) (by omega) (by omega) ?_
  refine wp_aload_n d_Law_law_297 rfl rfl ?_
  refine wx_callSH d_Law_law_298 cs_Law_94 cw_fill ⟨by decide, by decide⟩ (CTH.gp (ch_fill (r := S_fill (xs (i + 1)) (xs (i + 2)) σ δ) hC0 ho hO.1 (S_fill_le (xs (i + 1)) (xs (i + 2)) σ δ) (ct_fill hC0 hR.pi (xs (i + 1)) (xs (i + 2))))) rfl rfl (Nat.le_of_ble_eq_true rfl) (show cn + 5 ≤ _ from Nat.le_trans (by omega) hc) (show sn + 30 ≤ _ from Nat.le_trans (by omega) hs) (fun E μ1 h => h.elim) (fun w μ1 hq => ?_)
  have hle := S_fill_le (xs (i + 1)) (xs (i + 2)) σ δ
  obtain ⟨rfl, hC1, ⟨τ1, hM1, hR1⟩, f1, hf1, ha1⟩ := hLI.help hq
  have hX1 := LM.x ⟨τ1, hM1, hR1⟩ ⟨f1, hf1⟩
  refine wp_istore d_Law_law_301 (Nat.le_of_ble_eq_true rfl) ?_
  refine wp_aload_n d_Law_law_303 rfl rfl ?_
  refine wp_aload_n d_Law_law_304 rfl rfl ?_
  refine wp_iload d_Law_law_305 rfl ?_
  refine wp_iconst (v := 1) d_Law_law_307 (by decide) ?_
  refine wp_iadd d_Law_law_308 ?_
  refine wl_sld (j := i + 1) d_Law_law_309 (nI_k 1 rfl) (by omega) (by omega) ?_
  refine wp_aload_n d_Law_law_310 rfl rfl ?_
  refine wp_iload d_Law_law_311 rfl ?_
  refine wp_iconst (v := 2) d_Law_law_313 (by decide) ?_
  refine wp_iadd d_Law_law_314 ?_
  refine wl_sld (j := i + 2) d_Law_law_315 (nI_k 2 rfl) (by omega) (by omega) ?_
  refine wx_callV d_Law_law_316 cv_Law_96 cd_Model_fill ⟨by decide, by decide⟩ (cm_fill hM1 hR1 (xs (i + 1)) (xs (i + 2))) hM1.obj rfl rfl (Nat.le_of_ble_eq_true rfl) (show cn + 5 + 0 ≤ _ from Nat.le_trans (by omega) hc) (show sn + 30 + 0 ≤ _ from Nat.le_trans (by omega) hs) (fun E μ2 h => h.elim) (fun w μ2 hq => ?_)
  obtain ⟨τ2, y, rfl, hM2, hR2, ht2, hy⟩ := hq
  have hf2 := hM2.2.2.2 _ _ (fun j hj => hO.2 j hj) hf1
  have hL2 := LC.model hC1 hX1 hO ⟨f1, hf1⟩ hM2 hR2
  refine wp_istore d_Law_law_319 (Nat.le_of_ble_eq_true rfl) ?_
  refine wp_aload_n d_Law_law_321 rfl rfl ?_
  refine wx_callV d_Law_law_322 cv_Law_86 cd_Model_thrown ⟨by decide, by decide⟩ (cm_thrown hM2) hM2.obj rfl rfl (Nat.le_of_ble_eq_true rfl) (show cn + 5 + 0 + 0 ≤ _ from Nat.le_trans (by omega) hc) (show sn + 30 + 0 + 0 ≤ _ from Nat.le_trans (by omega) hs) (fun E μ3 h => h.elim) (fun w μ3 hq => ?_)
  obtain ⟨rfl, rfl⟩ := hq
  refine wp_iload d_Law_law_325 rfl ?_
  refine wp_icmp_eq (tgt := 332) d_Law_law_327 (by decide) (fun _ => ?_) (fun z => absurd ht2 z)
  refine wp_iload d_Law_law_332 rfl ?_
  have fin : WP G M_law (QL G b L xs) (lst (lst [(0, .ref b), (1, .ref (ad 0)), (2, .ref (ma 0)), (3, .ref oa), (4, .int (nI i))] 5 (.int (nI (S_fill (xs (i + 1)) (xs (i + 2)) σ δ).1))) 6 (.int y)) 349 [] μ3 (cn + 5 + 0 + 0) (sn + 30 + 0 + 0) := by
    refine wp_goto (tgt := 1292) d_Law_law_349 (by decide) ?_
    exact WP.loc [(0, .ref b), (1, .ref (ad 0)), (2, .ref (ma 0)), (3, .ref oa), (4, .int (nI i))] rfl (WP.widen (show cn + 5 + 0 + 0 ≤ cn + 182 by omega) (show sn + 30 + 0 + 0 ≤ sn + 1092 by omega) (kk _ _ _ hL2))
  refine wp_if_ne (tgt := 349) d_Law_law_334 (by decide) (fun _ => fin) (fun z => ?_)
  have h0 := nI_z (by omega) z
  refine wp_aload_n d_Law_law_337 rfl rfl ?_
  refine wp_iconst (v := 0) d_Law_law_338 (by decide) ?_
  refine wp_lald (j := 0) d_Law_law_339 hf2 rfl (by decide) (by decide) ?_
  refine wp_iload d_Law_law_340 rfl ?_
  refine wp_i2l d_Law_law_342 rfl ?_
  refine wp_lcmp d_Law_law_343 ?_
  exact wp_if_eq (tgt := 349) d_Law_law_344 (by decide) (fun _ => fin) (fun z2 => absurd ((lg_cmp_eq _ _).mpr ((ha1 h0).trans (by rw [hy h0]))) z2)
set_option maxHeartbeats 1000000 in
set_option maxRecDepth 10000 in
theorem lc_trim (hLI : LI G μ ad ma oa σ δ) (hi : i + 5 ≤ L) (hL : L ≤ 2560) (hc : cn + 182 ≤ (mt_R M_law).cells) (hs : sn + 1092 ≤ (mt_R M_law).slots) (kk : ∀ μ' σ' δ', LI G μ' ad ma oa σ' δ' → WP G M_law (QL G b L xs) [(0, .ref b), (1, .ref (ad 0)), (2, .ref (ma 0)), (3, .ref oa), (4, .int (nI i))] 1292 [] μ' (cn + 182) (sn + 1092)) : WP G M_law (QL G b L xs) [(0, .ref b), (1, .ref (ad 0)), (2, .ref (ma 0)), (3, .ref oa), (4, .int (nI i))] 352 [] μ cn sn := by
  obtain ⟨⟨φ0, g0, hC0⟩, ⟨τ, hM, hR⟩, ⟨f0, hf0⟩, hO⟩ := id hLI
  have ho : (Gp G (xb ma oa) μ).2.2.2.2 oa = some (.inl (G.2.2.1 2, 1, .inr (.inl f0))) := (pX_t (xb_o ma oa)).trans hf0
  refine wp_aload_n d_Law_law_352 rfl rfl ?_
  refine wp_aload_n d_Law_law_353 rfl rfl ?_
  refine wp_iload d_Law_law_354 rfl ?_
  refine wp_iconst (v := 1) d_Law_law_356 (by decide) ?_
  refine wp_iadd d_Law_law_357 ?_
  refine wl_sld (j := i + 1) d_Law_law_358 (nI_k 1 rfl) (by omega) (by omega) ?_
  refine wp_aload_n d_Law_law_359 rfl rfl ?_
  refine wp_iload d_Law_law_360 rfl ?_
  refine wp_iconst (v := 2) d_Law_law_362 (by decide) ?_
  refine wp_iadd d_Law_law_363 ?_
  refine wl_sld (j := i + 2) d_Law_law_364 (nI_k 2 rfl) (by omega) (by omega) ?_
  refine wp_aload_n d_Law_law_365 rfl rfl ?_
  refine wx_callSH d_Law_law_366 cs_Law_97 cw_trim ⟨by decide, by decide⟩ (CTH.gp (ch_trim (r := S_trim (xs (i + 1)) (xs (i + 2)) σ δ) hC0 ho hO.1 (S_trim_le (xs (i + 1)) (xs (i + 2)) σ δ) (ct_trim hC0 hR.pi (xs (i + 1)) (xs (i + 2))))) rfl rfl (Nat.le_of_ble_eq_true rfl) (show cn + 182 ≤ _ from Nat.le_trans (by omega) hc) (show sn + 1092 ≤ _ from Nat.le_trans (by omega) hs) (fun E μ1 h => h.elim) (fun w μ1 hq => ?_)
  have hle := S_trim_le (xs (i + 1)) (xs (i + 2)) σ δ
  obtain ⟨rfl, hC1, ⟨τ1, hM1, hR1⟩, f1, hf1, ha1⟩ := hLI.help hq
  have hX1 := LM.x ⟨τ1, hM1, hR1⟩ ⟨f1, hf1⟩
  refine wp_istore d_Law_law_369 (Nat.le_of_ble_eq_true rfl) ?_
  refine wp_aload_n d_Law_law_371 rfl rfl ?_
  refine wp_aload_n d_Law_law_372 rfl rfl ?_
  refine wp_iload d_Law_law_373 rfl ?_
  refine wp_iconst (v := 1) d_Law_law_375 (by decide) ?_
  refine wp_iadd d_Law_law_376 ?_
  refine wl_sld (j := i + 1) d_Law_law_377 (nI_k 1 rfl) (by omega) (by omega) ?_
  refine wp_aload_n d_Law_law_378 rfl rfl ?_
  refine wp_iload d_Law_law_379 rfl ?_
  refine wp_iconst (v := 2) d_Law_law_381 (by decide) ?_
  refine wp_iadd d_Law_law_382 ?_
  refine wl_sld (j := i + 2) d_Law_law_383 (nI_k 2 rfl) (by omega) (by omega) ?_
  refine wx_callV d_Law_law_384 cv_Law_99 cd_Model_trim ⟨by decide, by decide⟩ (cm_trim hM1 hR1 (xs (i + 1)) (xs (i + 2))) hM1.obj rfl rfl (Nat.le_of_ble_eq_true rfl) (show cn + 182 + 0 ≤ _ from Nat.le_trans (by omega) hc) (show sn + 1092 + 0 ≤ _ from Nat.le_trans (by omega) hs) (fun E μ2 h => h.elim) (fun w μ2 hq => ?_)
  obtain ⟨τ2, y, rfl, hM2, hR2, ht2, hy⟩ := hq
  have hf2 := hM2.2.2.2 _ _ (fun j hj => hO.2 j hj) hf1
  have hL2 := LC.model hC1 hX1 hO ⟨f1, hf1⟩ hM2 hR2
  refine wp_istore d_Law_law_387 (Nat.le_of_ble_eq_true rfl) ?_
  refine wp_aload_n d_Law_law_389 rfl rfl ?_
  refine wx_callV d_Law_law_390 cv_Law_86 cd_Model_thrown ⟨by decide, by decide⟩ (cm_thrown hM2) hM2.obj rfl rfl (Nat.le_of_ble_eq_true rfl) (show cn + 182 + 0 + 0 ≤ _ from Nat.le_trans (by omega) hc) (show sn + 1092 + 0 + 0 ≤ _ from Nat.le_trans (by omega) hs) (fun E μ3 h => h.elim) (fun w μ3 hq => ?_)
  obtain ⟨rfl, rfl⟩ := hq
  refine wp_iload d_Law_law_393 rfl ?_
  refine wp_icmp_eq (tgt := 400) d_Law_law_395 (by decide) (fun _ => ?_) (fun z => absurd ht2 z)
  refine wp_iload d_Law_law_400 rfl ?_
  have fin : WP G M_law (QL G b L xs) (lst (lst [(0, .ref b), (1, .ref (ad 0)), (2, .ref (ma 0)), (3, .ref oa), (4, .int (nI i))] 5 (.int (nI (S_trim (xs (i + 1)) (xs (i + 2)) σ δ).1))) 6 (.int y)) 417 [] μ3 (cn + 182 + 0 + 0) (sn + 1092 + 0 + 0) := by
    refine wp_goto (tgt := 1292) d_Law_law_417 (by decide) ?_
    exact WP.loc [(0, .ref b), (1, .ref (ad 0)), (2, .ref (ma 0)), (3, .ref oa), (4, .int (nI i))] rfl (WP.widen (show cn + 182 + 0 + 0 ≤ cn + 182 by omega) (show sn + 1092 + 0 + 0 ≤ sn + 1092 by omega) (kk _ _ _ hL2))
  refine wp_if_ne (tgt := 417) d_Law_law_402 (by decide) (fun _ => fin) (fun z => ?_)
  have h0 := nI_z (by omega) z
  refine wp_aload_n d_Law_law_405 rfl rfl ?_
  refine wp_iconst (v := 0) d_Law_law_406 (by decide) ?_
  refine wp_lald (j := 0) d_Law_law_407 hf2 rfl (by decide) (by decide) ?_
  refine wp_iload d_Law_law_408 rfl ?_
  refine wp_i2l d_Law_law_410 rfl ?_
  refine wp_lcmp d_Law_law_411 ?_
  exact wp_if_eq (tgt := 417) d_Law_law_412 (by decide) (fun _ => fin) (fun z2 => absurd ((lg_cmp_eq _ _).mpr ((ha1 h0).trans (by rw [hy h0]))) z2)
set_option maxHeartbeats 1000000 in
set_option maxRecDepth 10000 in
theorem lc_learn (hLI : LI G μ ad ma oa σ δ) (hi : i + 5 ≤ L) (hL : L ≤ 2560) (hc : cn + 182 ≤ (mt_R M_law).cells) (hs : sn + 1092 ≤ (mt_R M_law).slots) (kk : ∀ μ' σ' δ', LI G μ' ad ma oa σ' δ' → WP G M_law (QL G b L xs) [(0, .ref b), (1, .ref (ad 0)), (2, .ref (ma 0)), (3, .ref oa), (4, .int (nI i))] 1292 [] μ' (cn + 182) (sn + 1092)) : WP G M_law (QL G b L xs) [(0, .ref b), (1, .ref (ad 0)), (2, .ref (ma 0)), (3, .ref oa), (4, .int (nI i))] 420 [] μ cn sn := by
  obtain ⟨⟨φ0, g0, hC0⟩, ⟨τ, hM, hR⟩, ⟨f0, hf0⟩, hO⟩ := id hLI
  have ho : (Gp G (xb ma oa) μ).2.2.2.2 oa = some (.inl (G.2.2.1 2, 1, .inr (.inl f0))) := (pX_t (xb_o ma oa)).trans hf0
  refine wp_aload_n d_Law_law_420 rfl rfl ?_
  refine wp_aload_n d_Law_law_421 rfl rfl ?_
  refine wp_iload d_Law_law_422 rfl ?_
  refine wp_iconst (v := 1) d_Law_law_424 (by decide) ?_
  refine wp_iadd d_Law_law_425 ?_
  refine wl_sld (j := i + 1) d_Law_law_426 (nI_k 1 rfl) (by omega) (by omega) ?_
  refine wp_aload_n d_Law_law_427 rfl rfl ?_
  refine wx_callSH d_Law_law_428 cs_Law_100 cw_learn ⟨by decide, by decide⟩ (CTH.gp (ch_learn (r := S_learn (xs (i + 1)) σ δ) hC0 ho hO.1 (S_learn_le (xs (i + 1)) σ δ) (ct_learn hC0 (xs (i + 1))))) rfl rfl (Nat.le_of_ble_eq_true rfl) (show cn + 1 ≤ _ from Nat.le_trans (by omega) hc) (show sn + 6 ≤ _ from Nat.le_trans (by omega) hs) (fun E μ1 h => h.elim) (fun w μ1 hq => ?_)
  have hle := S_learn_le (xs (i + 1)) σ δ
  obtain ⟨rfl, hC1, ⟨τ1, hM1, hR1⟩, f1, hf1, ha1⟩ := hLI.help hq
  have hX1 := LM.x ⟨τ1, hM1, hR1⟩ ⟨f1, hf1⟩
  refine wp_istore d_Law_law_431 (Nat.le_of_ble_eq_true rfl) ?_
  refine wp_aload_n d_Law_law_433 rfl rfl ?_
  refine wp_aload_n d_Law_law_434 rfl rfl ?_
  refine wp_iload d_Law_law_435 rfl ?_
  refine wp_iconst (v := 1) d_Law_law_437 (by decide) ?_
  refine wp_iadd d_Law_law_438 ?_
  refine wl_sld (j := i + 1) d_Law_law_439 (nI_k 1 rfl) (by omega) (by omega) ?_
  refine wx_callV d_Law_law_440 cv_Law_103 cd_Model_learn ⟨by decide, by decide⟩ (cm_learn hM1 hR1 (xs (i + 1))) hM1.obj rfl rfl (Nat.le_of_ble_eq_true rfl) (show cn + 1 + 0 ≤ _ from Nat.le_trans (by omega) hc) (show sn + 6 + 0 ≤ _ from Nat.le_trans (by omega) hs) (fun E μ2 h => h.elim) (fun w μ2 hq => ?_)
  obtain ⟨τ2, y, rfl, hM2, hR2, ht2, hy⟩ := hq
  have hf2 := hM2.2.2.2 _ _ (fun j hj => hO.2 j hj) hf1
  have hL2 := LC.model hC1 hX1 hO ⟨f1, hf1⟩ hM2 hR2
  refine wp_istore d_Law_law_443 (Nat.le_of_ble_eq_true rfl) ?_
  refine wp_aload_n d_Law_law_445 rfl rfl ?_
  refine wx_callV d_Law_law_446 cv_Law_86 cd_Model_thrown ⟨by decide, by decide⟩ (cm_thrown hM2) hM2.obj rfl rfl (Nat.le_of_ble_eq_true rfl) (show cn + 1 + 0 + 0 ≤ _ from Nat.le_trans (by omega) hc) (show sn + 6 + 0 + 0 ≤ _ from Nat.le_trans (by omega) hs) (fun E μ3 h => h.elim) (fun w μ3 hq => ?_)
  obtain ⟨rfl, rfl⟩ := hq
  refine wp_iload d_Law_law_449 rfl ?_
  refine wp_icmp_eq (tgt := 456) d_Law_law_451 (by decide) (fun _ => ?_) (fun z => absurd ht2 z)
  refine wp_iload d_Law_law_456 rfl ?_
  have fin : WP G M_law (QL G b L xs) (lst (lst [(0, .ref b), (1, .ref (ad 0)), (2, .ref (ma 0)), (3, .ref oa), (4, .int (nI i))] 5 (.int (nI (S_learn (xs (i + 1)) σ δ).1))) 6 (.int y)) 473 [] μ3 (cn + 1 + 0 + 0) (sn + 6 + 0 + 0) := by
    refine wp_goto (tgt := 1292) d_Law_law_473 (by decide) ?_
    exact WP.loc [(0, .ref b), (1, .ref (ad 0)), (2, .ref (ma 0)), (3, .ref oa), (4, .int (nI i))] rfl (WP.widen (show cn + 1 + 0 + 0 ≤ cn + 182 by omega) (show sn + 6 + 0 + 0 ≤ sn + 1092 by omega) (kk _ _ _ hL2))
  refine wp_if_ne (tgt := 473) d_Law_law_458 (by decide) (fun _ => fin) (fun z => ?_)
  have h0 := nI_z (by omega) z
  refine wp_aload_n d_Law_law_461 rfl rfl ?_
  refine wp_iconst (v := 0) d_Law_law_462 (by decide) ?_
  refine wp_lald (j := 0) d_Law_law_463 hf2 rfl (by decide) (by decide) ?_
  refine wp_iload d_Law_law_464 rfl ?_
  refine wp_i2l d_Law_law_466 rfl ?_
  refine wp_lcmp d_Law_law_467 ?_
  exact wp_if_eq (tgt := 473) d_Law_law_468 (by decide) (fun _ => fin) (fun z2 => absurd ((lg_cmp_eq _ _).mpr ((ha1 h0).trans (by rw [hy h0]))) z2)
set_option maxHeartbeats 1000000 in
set_option maxRecDepth 10000 in
theorem lc_change (hLI : LI G μ ad ma oa σ δ) (hi : i + 5 ≤ L) (hL : L ≤ 2560) (hc : cn + 182 ≤ (mt_R M_law).cells) (hs : sn + 1092 ≤ (mt_R M_law).slots) (kk : ∀ μ' σ' δ', LI G μ' ad ma oa σ' δ' → WP G M_law (QL G b L xs) [(0, .ref b), (1, .ref (ad 0)), (2, .ref (ma 0)), (3, .ref oa), (4, .int (nI i))] 1292 [] μ' (cn + 182) (sn + 1092)) : WP G M_law (QL G b L xs) [(0, .ref b), (1, .ref (ad 0)), (2, .ref (ma 0)), (3, .ref oa), (4, .int (nI i))] 476 [] μ cn sn := by
  obtain ⟨⟨φ0, g0, hC0⟩, ⟨τ, hM, hR⟩, ⟨f0, hf0⟩, hO⟩ := id hLI
  have ho : (Gp G (xb ma oa) μ).2.2.2.2 oa = some (.inl (G.2.2.1 2, 1, .inr (.inl f0))) := (pX_t (xb_o ma oa)).trans hf0
  refine wp_aload_n d_Law_law_476 rfl rfl ?_
  refine wp_aload_n d_Law_law_477 rfl rfl ?_
  refine wp_iload d_Law_law_478 rfl ?_
  refine wp_iconst (v := 1) d_Law_law_480 (by decide) ?_
  refine wp_iadd d_Law_law_481 ?_
  refine wl_sld (j := i + 1) d_Law_law_482 (nI_k 1 rfl) (by omega) (by omega) ?_
  refine wp_aload_n d_Law_law_483 rfl rfl ?_
  refine wp_iload d_Law_law_484 rfl ?_
  refine wp_iconst (v := 2) d_Law_law_486 (by decide) ?_
  refine wp_iadd d_Law_law_487 ?_
  refine wl_sld (j := i + 2) d_Law_law_488 (nI_k 2 rfl) (by omega) (by omega) ?_
  refine wp_aload_n d_Law_law_489 rfl rfl ?_
  refine wp_iload d_Law_law_490 rfl ?_
  refine wp_iconst (v := 3) d_Law_law_492 (by decide) ?_
  refine wp_iadd d_Law_law_493 ?_
  refine wl_sld (j := i + 3) d_Law_law_494 (nI_k 3 rfl) (by omega) (by omega) ?_
  refine wp_aload_n d_Law_law_495 rfl rfl ?_
  refine wx_callSH d_Law_law_496 cs_Law_104 cw_change ⟨by decide, by decide⟩ (CTH.gp (ch_change (r := S_change (xs (i + 1)) (xs (i + 2)) (xs (i + 3)) σ δ) hC0 ho hO.1 (S_change_le (xs (i + 1)) (xs (i + 2)) (xs (i + 3)) σ δ) (ct_change hC0 hR.pi (xs (i + 1)) (xs (i + 2)) (xs (i + 3))))) rfl rfl (Nat.le_of_ble_eq_true rfl) (show cn + 7 ≤ _ from Nat.le_trans (by omega) hc) (show sn + 36 ≤ _ from Nat.le_trans (by omega) hs) (fun E μ1 h => h.elim) (fun w μ1 hq => ?_)
  have hle := S_change_le (xs (i + 1)) (xs (i + 2)) (xs (i + 3)) σ δ
  obtain ⟨rfl, hC1, ⟨τ1, hM1, hR1⟩, f1, hf1, ha1⟩ := hLI.help hq
  have hX1 := LM.x ⟨τ1, hM1, hR1⟩ ⟨f1, hf1⟩
  refine wp_istore d_Law_law_499 (Nat.le_of_ble_eq_true rfl) ?_
  refine wp_aload_n d_Law_law_501 rfl rfl ?_
  refine wp_aload_n d_Law_law_502 rfl rfl ?_
  refine wp_iload d_Law_law_503 rfl ?_
  refine wp_iconst (v := 1) d_Law_law_505 (by decide) ?_
  refine wp_iadd d_Law_law_506 ?_
  refine wl_sld (j := i + 1) d_Law_law_507 (nI_k 1 rfl) (by omega) (by omega) ?_
  refine wp_aload_n d_Law_law_508 rfl rfl ?_
  refine wp_iload d_Law_law_509 rfl ?_
  refine wp_iconst (v := 2) d_Law_law_511 (by decide) ?_
  refine wp_iadd d_Law_law_512 ?_
  refine wl_sld (j := i + 2) d_Law_law_513 (nI_k 2 rfl) (by omega) (by omega) ?_
  refine wp_aload_n d_Law_law_514 rfl rfl ?_
  refine wp_iload d_Law_law_515 rfl ?_
  refine wp_iconst (v := 3) d_Law_law_517 (by decide) ?_
  refine wp_iadd d_Law_law_518 ?_
  refine wl_sld (j := i + 3) d_Law_law_519 (nI_k 3 rfl) (by omega) (by omega) ?_
  refine wx_callV d_Law_law_520 cv_Law_107 cd_Model_change ⟨by decide, by decide⟩ (cm_change hM1 hR1 (xs (i + 1)) (xs (i + 2)) (xs (i + 3))) hM1.obj rfl rfl (Nat.le_of_ble_eq_true rfl) (show cn + 7 + 0 ≤ _ from Nat.le_trans (by omega) hc) (show sn + 36 + 0 ≤ _ from Nat.le_trans (by omega) hs) (fun E μ2 h => h.elim) (fun w μ2 hq => ?_)
  obtain ⟨τ2, y, rfl, hM2, hR2, ht2, hy⟩ := hq
  have hf2 := hM2.2.2.2 _ _ (fun j hj => hO.2 j hj) hf1
  have hL2 := LC.model hC1 hX1 hO ⟨f1, hf1⟩ hM2 hR2
  refine wp_istore d_Law_law_523 (Nat.le_of_ble_eq_true rfl) ?_
  refine wp_aload_n d_Law_law_525 rfl rfl ?_
  refine wx_callV d_Law_law_526 cv_Law_86 cd_Model_thrown ⟨by decide, by decide⟩ (cm_thrown hM2) hM2.obj rfl rfl (Nat.le_of_ble_eq_true rfl) (show cn + 7 + 0 + 0 ≤ _ from Nat.le_trans (by omega) hc) (show sn + 36 + 0 + 0 ≤ _ from Nat.le_trans (by omega) hs) (fun E μ3 h => h.elim) (fun w μ3 hq => ?_)
  obtain ⟨rfl, rfl⟩ := hq
  refine wp_iload d_Law_law_529 rfl ?_
  refine wp_icmp_eq (tgt := 536) d_Law_law_531 (by decide) (fun _ => ?_) (fun z => absurd ht2 z)
  refine wp_iload d_Law_law_536 rfl ?_
  have fin : WP G M_law (QL G b L xs) (lst (lst [(0, .ref b), (1, .ref (ad 0)), (2, .ref (ma 0)), (3, .ref oa), (4, .int (nI i))] 5 (.int (nI (S_change (xs (i + 1)) (xs (i + 2)) (xs (i + 3)) σ δ).1))) 6 (.int y)) 553 [] μ3 (cn + 7 + 0 + 0) (sn + 36 + 0 + 0) := by
    refine wp_goto (tgt := 1292) d_Law_law_553 (by decide) ?_
    exact WP.loc [(0, .ref b), (1, .ref (ad 0)), (2, .ref (ma 0)), (3, .ref oa), (4, .int (nI i))] rfl (WP.widen (show cn + 7 + 0 + 0 ≤ cn + 182 by omega) (show sn + 36 + 0 + 0 ≤ sn + 1092 by omega) (kk _ _ _ hL2))
  refine wp_if_ne (tgt := 553) d_Law_law_538 (by decide) (fun _ => fin) (fun z => ?_)
  have h0 := nI_z (by omega) z
  refine wp_aload_n d_Law_law_541 rfl rfl ?_
  refine wp_iconst (v := 0) d_Law_law_542 (by decide) ?_
  refine wp_lald (j := 0) d_Law_law_543 hf2 rfl (by decide) (by decide) ?_
  refine wp_iload d_Law_law_544 rfl ?_
  refine wp_i2l d_Law_law_546 rfl ?_
  refine wp_lcmp d_Law_law_547 ?_
  exact wp_if_eq (tgt := 553) d_Law_law_548 (by decide) (fun _ => fin) (fun z2 => absurd ((lg_cmp_eq _ _).mpr ((ha1 h0).trans (by rw [hy h0]))) z2)
set_option maxHeartbeats 1000000 in
set_option maxRecDepth 10000 in
theorem lc_up (hLI : LI G μ ad ma oa σ δ) (hi : i + 5 ≤ L) (hL : L ≤ 2560) (hc : cn + 182 ≤ (mt_R M_law).cells) (hs : sn + 1092 ≤ (mt_R M_law).slots) (kk : ∀ μ' σ' δ', LI G μ' ad ma oa σ' δ' → WP G M_law (QL G b L xs) [(0, .ref b), (1, .ref (ad 0)), (2, .ref (ma 0)), (3, .ref oa), (4, .int (nI i))] 1292 [] μ' (cn + 182) (sn + 1092)) : WP G M_law (QL G b L xs) [(0, .ref b), (1, .ref (ad 0)), (2, .ref (ma 0)), (3, .ref oa), (4, .int (nI i))] 556 [] μ cn sn := by
  obtain ⟨⟨φ0, g0, hC0⟩, ⟨τ, hM, hR⟩, ⟨f0, hf0⟩, hO⟩ := id hLI
  have ho : (Gp G (xb ma oa) μ).2.2.2.2 oa = some (.inl (G.2.2.1 2, 1, .inr (.inl f0))) := (pX_t (xb_o ma oa)).trans hf0
  rcases Decidable.em (xs (i + 2) = 0) with hz | hz
  · refine wp_aload_n d_Law_law_556 rfl rfl ?_
    refine wp_aload_n d_Law_law_557 rfl rfl ?_
    refine wp_iload d_Law_law_558 rfl ?_
    refine wp_iconst (v := 1) d_Law_law_560 (by decide) ?_
    refine wp_iadd d_Law_law_561 ?_
    refine wl_sld (j := i + 1) d_Law_law_562 (nI_k 1 rfl) (by omega) (by omega) ?_
    refine wp_aload_n d_Law_law_563 rfl rfl ?_
    refine wp_iload d_Law_law_564 rfl ?_
    refine wp_iconst (v := 2) d_Law_law_566 (by decide) ?_
    refine wp_iadd d_Law_law_567 ?_
    refine wl_sld (j := i + 2) d_Law_law_568 (nI_k 2 rfl) (by omega) (by omega) ?_
    refine wp_if_eq (tgt := 576) d_Law_law_569 (by decide) (fun _ => ?_) (fun z => absurd hz z)
    refine wp_iconst (v := 0) d_Law_law_576 (by decide) ?_
    refine wp_aload_n d_Law_law_577 rfl rfl ?_
    refine wx_callSH d_Law_law_578 cs_Law_108 cw_up ⟨by decide, by decide⟩ (CTH.gp (ch_up (r := S_up (xs (i + 1)) 0 σ δ) hC0 ho hO.1 (S_up_le (xs (i + 1)) 0 σ δ) (ct_up hC0 (xs (i + 1)) 0 (Or.inl rfl)))) rfl rfl (Nat.le_of_ble_eq_true rfl) (show cn + 1 ≤ _ from Nat.le_trans (by omega) hc) (show sn + 6 ≤ _ from Nat.le_trans (by omega) hs) (fun E μ1 h => h.elim) (fun w μ1 hq => ?_)
    have hle := S_up_le (xs (i + 1)) 0 σ δ
    obtain ⟨rfl, hC1, ⟨τ1, hM1, hR1⟩, f1, hf1, ha1⟩ := hLI.help hq
    have hX1 := LM.x ⟨τ1, hM1, hR1⟩ ⟨f1, hf1⟩
    refine wp_istore d_Law_law_581 (Nat.le_of_ble_eq_true rfl) ?_
    refine wp_aload_n d_Law_law_583 rfl rfl ?_
    refine wp_aload_n d_Law_law_584 rfl rfl ?_
    refine wp_iload d_Law_law_585 rfl ?_
    refine wp_iconst (v := 1) d_Law_law_587 (by decide) ?_
    refine wp_iadd d_Law_law_588 ?_
    refine wl_sld (j := i + 1) d_Law_law_589 (nI_k 1 rfl) (by omega) (by omega) ?_
    refine wp_aload_n d_Law_law_590 rfl rfl ?_
    refine wp_iload d_Law_law_591 rfl ?_
    refine wp_iconst (v := 2) d_Law_law_593 (by decide) ?_
    refine wp_iadd d_Law_law_594 ?_
    refine wl_sld (j := i + 2) d_Law_law_595 (nI_k 2 rfl) (by omega) (by omega) ?_
    refine wp_if_eq (tgt := 603) d_Law_law_596 (by decide) (fun _ => ?_) (fun z => absurd hz z)
    refine wp_iconst (v := 0) d_Law_law_603 (by decide) ?_
    refine wx_callV d_Law_law_604 cv_Law_111 cd_Model_up ⟨by decide, by decide⟩ (cm_up hM1 hR1 (xs (i + 1)) 0 (Or.inl rfl)) hM1.obj rfl rfl (Nat.le_of_ble_eq_true rfl) (show cn + 1 + 0 ≤ _ from Nat.le_trans (by omega) hc) (show sn + 6 + 0 ≤ _ from Nat.le_trans (by omega) hs) (fun E μ2 h => h.elim) (fun w μ2 hq => ?_)
    obtain ⟨τ2, y, rfl, hM2, hR2, ht2, hy⟩ := hq
    have hf2 := hM2.2.2.2 _ _ (fun j hj => hO.2 j hj) hf1
    have hL2 := LC.model hC1 hX1 hO ⟨f1, hf1⟩ hM2 hR2
    refine wp_istore d_Law_law_607 (Nat.le_of_ble_eq_true rfl) ?_
    refine wp_aload_n d_Law_law_609 rfl rfl ?_
    refine wx_callV d_Law_law_610 cv_Law_86 cd_Model_thrown ⟨by decide, by decide⟩ (cm_thrown hM2) hM2.obj rfl rfl (Nat.le_of_ble_eq_true rfl) (show cn + 1 + 0 + 0 ≤ _ from Nat.le_trans (by omega) hc) (show sn + 6 + 0 + 0 ≤ _ from Nat.le_trans (by omega) hs) (fun E μ3 h => h.elim) (fun w μ3 hq => ?_)
    obtain ⟨rfl, rfl⟩ := hq
    refine wp_iload d_Law_law_613 rfl ?_
    refine wp_icmp_eq (tgt := 620) d_Law_law_615 (by decide) (fun _ => ?_) (fun z => absurd ht2 z)
    refine wp_iload d_Law_law_620 rfl ?_
    have fin : WP G M_law (QL G b L xs) (lst (lst [(0, .ref b), (1, .ref (ad 0)), (2, .ref (ma 0)), (3, .ref oa), (4, .int (nI i))] 5 (.int (nI (S_up (xs (i + 1)) 0 σ δ).1))) 6 (.int y)) 637 [] μ3 (cn + 1 + 0 + 0) (sn + 6 + 0 + 0) := by
      refine wp_goto (tgt := 1292) d_Law_law_637 (by decide) ?_
      exact WP.loc [(0, .ref b), (1, .ref (ad 0)), (2, .ref (ma 0)), (3, .ref oa), (4, .int (nI i))] rfl (WP.widen (show cn + 1 + 0 + 0 ≤ cn + 182 by omega) (show sn + 6 + 0 + 0 ≤ sn + 1092 by omega) (kk _ _ _ hL2))
    refine wp_if_ne (tgt := 637) d_Law_law_622 (by decide) (fun _ => fin) (fun z => ?_)
    have h0 := nI_z (by omega) z
    refine wp_aload_n d_Law_law_625 rfl rfl ?_
    refine wp_iconst (v := 0) d_Law_law_626 (by decide) ?_
    refine wp_lald (j := 0) d_Law_law_627 hf2 rfl (by decide) (by decide) ?_
    refine wp_iload d_Law_law_628 rfl ?_
    refine wp_i2l d_Law_law_630 rfl ?_
    refine wp_lcmp d_Law_law_631 ?_
    exact wp_if_eq (tgt := 637) d_Law_law_632 (by decide) (fun _ => fin) (fun z2 => absurd ((lg_cmp_eq _ _).mpr ((ha1 h0).trans (by rw [hy h0]))) z2)
  · refine wp_aload_n d_Law_law_556 rfl rfl ?_
    refine wp_aload_n d_Law_law_557 rfl rfl ?_
    refine wp_iload d_Law_law_558 rfl ?_
    refine wp_iconst (v := 1) d_Law_law_560 (by decide) ?_
    refine wp_iadd d_Law_law_561 ?_
    refine wl_sld (j := i + 1) d_Law_law_562 (nI_k 1 rfl) (by omega) (by omega) ?_
    refine wp_aload_n d_Law_law_563 rfl rfl ?_
    refine wp_iload d_Law_law_564 rfl ?_
    refine wp_iconst (v := 2) d_Law_law_566 (by decide) ?_
    refine wp_iadd d_Law_law_567 ?_
    refine wl_sld (j := i + 2) d_Law_law_568 (nI_k 2 rfl) (by omega) (by omega) ?_
    refine wp_if_eq (tgt := 576) d_Law_law_569 (by decide) (fun z => absurd z hz) (fun _ => ?_)
    refine wp_iconst (v := 1) d_Law_law_572 (by decide) ?_
    refine wp_goto (tgt := 577) d_Law_law_573 (by decide) ?_
    refine wp_aload_n d_Law_law_577 rfl rfl ?_
    refine wx_callSH d_Law_law_578 cs_Law_108 cw_up ⟨by decide, by decide⟩ (CTH.gp (ch_up (r := S_up (xs (i + 1)) 1 σ δ) hC0 ho hO.1 (S_up_le (xs (i + 1)) 1 σ δ) (ct_up hC0 (xs (i + 1)) 1 (Or.inr rfl)))) rfl rfl (Nat.le_of_ble_eq_true rfl) (show cn + 1 ≤ _ from Nat.le_trans (by omega) hc) (show sn + 6 ≤ _ from Nat.le_trans (by omega) hs) (fun E μ1 h => h.elim) (fun w μ1 hq => ?_)
    have hle := S_up_le (xs (i + 1)) 1 σ δ
    obtain ⟨rfl, hC1, ⟨τ1, hM1, hR1⟩, f1, hf1, ha1⟩ := hLI.help hq
    have hX1 := LM.x ⟨τ1, hM1, hR1⟩ ⟨f1, hf1⟩
    refine wp_istore d_Law_law_581 (Nat.le_of_ble_eq_true rfl) ?_
    refine wp_aload_n d_Law_law_583 rfl rfl ?_
    refine wp_aload_n d_Law_law_584 rfl rfl ?_
    refine wp_iload d_Law_law_585 rfl ?_
    refine wp_iconst (v := 1) d_Law_law_587 (by decide) ?_
    refine wp_iadd d_Law_law_588 ?_
    refine wl_sld (j := i + 1) d_Law_law_589 (nI_k 1 rfl) (by omega) (by omega) ?_
    refine wp_aload_n d_Law_law_590 rfl rfl ?_
    refine wp_iload d_Law_law_591 rfl ?_
    refine wp_iconst (v := 2) d_Law_law_593 (by decide) ?_
    refine wp_iadd d_Law_law_594 ?_
    refine wl_sld (j := i + 2) d_Law_law_595 (nI_k 2 rfl) (by omega) (by omega) ?_
    refine wp_if_eq (tgt := 603) d_Law_law_596 (by decide) (fun z => absurd z hz) (fun _ => ?_)
    refine wp_iconst (v := 1) d_Law_law_599 (by decide) ?_
    refine wp_goto (tgt := 604) d_Law_law_600 (by decide) ?_
    refine wx_callV d_Law_law_604 cv_Law_111 cd_Model_up ⟨by decide, by decide⟩ (cm_up hM1 hR1 (xs (i + 1)) 1 (Or.inr rfl)) hM1.obj rfl rfl (Nat.le_of_ble_eq_true rfl) (show cn + 1 + 0 ≤ _ from Nat.le_trans (by omega) hc) (show sn + 6 + 0 ≤ _ from Nat.le_trans (by omega) hs) (fun E μ2 h => h.elim) (fun w μ2 hq => ?_)
    obtain ⟨τ2, y, rfl, hM2, hR2, ht2, hy⟩ := hq
    have hf2 := hM2.2.2.2 _ _ (fun j hj => hO.2 j hj) hf1
    have hL2 := LC.model hC1 hX1 hO ⟨f1, hf1⟩ hM2 hR2
    refine wp_istore d_Law_law_607 (Nat.le_of_ble_eq_true rfl) ?_
    refine wp_aload_n d_Law_law_609 rfl rfl ?_
    refine wx_callV d_Law_law_610 cv_Law_86 cd_Model_thrown ⟨by decide, by decide⟩ (cm_thrown hM2) hM2.obj rfl rfl (Nat.le_of_ble_eq_true rfl) (show cn + 1 + 0 + 0 ≤ _ from Nat.le_trans (by omega) hc) (show sn + 6 + 0 + 0 ≤ _ from Nat.le_trans (by omega) hs) (fun E μ3 h => h.elim) (fun w μ3 hq => ?_)
    obtain ⟨rfl, rfl⟩ := hq
    refine wp_iload d_Law_law_613 rfl ?_
    refine wp_icmp_eq (tgt := 620) d_Law_law_615 (by decide) (fun _ => ?_) (fun z => absurd ht2 z)
    refine wp_iload d_Law_law_620 rfl ?_
    have fin : WP G M_law (QL G b L xs) (lst (lst [(0, .ref b), (1, .ref (ad 0)), (2, .ref (ma 0)), (3, .ref oa), (4, .int (nI i))] 5 (.int (nI (S_up (xs (i + 1)) 1 σ δ).1))) 6 (.int y)) 637 [] μ3 (cn + 1 + 0 + 0) (sn + 6 + 0 + 0) := by
      refine wp_goto (tgt := 1292) d_Law_law_637 (by decide) ?_
      exact WP.loc [(0, .ref b), (1, .ref (ad 0)), (2, .ref (ma 0)), (3, .ref oa), (4, .int (nI i))] rfl (WP.widen (show cn + 1 + 0 + 0 ≤ cn + 182 by omega) (show sn + 6 + 0 + 0 ≤ sn + 1092 by omega) (kk _ _ _ hL2))
    refine wp_if_ne (tgt := 637) d_Law_law_622 (by decide) (fun _ => fin) (fun z => ?_)
    have h0 := nI_z (by omega) z
    refine wp_aload_n d_Law_law_625 rfl rfl ?_
    refine wp_iconst (v := 0) d_Law_law_626 (by decide) ?_
    refine wp_lald (j := 0) d_Law_law_627 hf2 rfl (by decide) (by decide) ?_
    refine wp_iload d_Law_law_628 rfl ?_
    refine wp_i2l d_Law_law_630 rfl ?_
    refine wp_lcmp d_Law_law_631 ?_
    exact wp_if_eq (tgt := 637) d_Law_law_632 (by decide) (fun _ => fin) (fun z2 => absurd ((lg_cmp_eq _ _).mpr ((ha1 h0).trans (by rw [hy h0]))) z2)
set_option maxHeartbeats 1000000 in
set_option maxRecDepth 10000 in
theorem lc_lose (hLI : LI G μ ad ma oa σ δ) (hi : i + 5 ≤ L) (hL : L ≤ 2560) (hc : cn + 182 ≤ (mt_R M_law).cells) (hs : sn + 1092 ≤ (mt_R M_law).slots) (kk : ∀ μ' σ' δ', LI G μ' ad ma oa σ' δ' → WP G M_law (QL G b L xs) [(0, .ref b), (1, .ref (ad 0)), (2, .ref (ma 0)), (3, .ref oa), (4, .int (nI i))] 1292 [] μ' (cn + 182) (sn + 1092)) : WP G M_law (QL G b L xs) [(0, .ref b), (1, .ref (ad 0)), (2, .ref (ma 0)), (3, .ref oa), (4, .int (nI i))] 640 [] μ cn sn := by
  obtain ⟨⟨φ0, g0, hC0⟩, ⟨τ, hM, hR⟩, ⟨f0, hf0⟩, hO⟩ := id hLI
  have ho : (Gp G (xb ma oa) μ).2.2.2.2 oa = some (.inl (G.2.2.1 2, 1, .inr (.inl f0))) := (pX_t (xb_o ma oa)).trans hf0
  refine wp_aload_n d_Law_law_640 rfl rfl ?_
  refine wx_callV d_Law_law_641 cv_Law_112 cd_Log_lose ⟨by decide, by decide⟩ (CT.gp (ct_lose hC0)) hC0.R.log rfl rfl (Nat.le_of_ble_eq_true rfl) (show cn + 0 ≤ _ from Nat.le_trans (by omega) hc) (show sn + 0 ≤ _ from Nat.le_trans (by omega) hs) (fun E μ1 h => h.elim) (fun w μ1 hq => ?_)
  obtain ⟨h0, rfl, g1, φ1, hCx, -⟩ := hq
  obtain ⟨hC1, τ1, hM1, hR1⟩ := hLI.cls hCx (fun _ _ => rfl)
  have hf1 := (hLI.out hCx).trans hf0
  have hX1 := LM.x ⟨τ1, hM1, hR1⟩ ⟨f0, hf1⟩
  refine wp_aload_n d_Law_law_644 rfl rfl ?_
  refine wx_callV d_Law_law_645 cv_Law_115 cd_Model_lose ⟨by decide, by decide⟩ (cm_lose hM1 hR1) hM1.obj rfl rfl (Nat.le_of_ble_eq_true rfl) (show cn + 0 + 0 ≤ _ from Nat.le_trans (by omega) hc) (show sn + 0 + 0 ≤ _ from Nat.le_trans (by omega) hs) (fun E μ2 h => h.elim) (fun w μ2 hq => ?_)
  obtain ⟨τ2, y, rfl, hM2, hR2, ht2, hy⟩ := hq
  refine wp_icmp_eq (tgt := 1292) d_Law_law_648 (by decide) (fun _ => ?_) (fun z => absurd (hy h0).symm z)
  exact WP.loc [(0, .ref b), (1, .ref (ad 0)), (2, .ref (ma 0)), (3, .ref oa), (4, .int (nI i))] rfl (WP.widen (show cn + 0 + 0 ≤ cn + 182 by omega) (show sn + 0 + 0 ≤ sn + 1092 by omega) (kk _ _ _ (LC.model hC1 hX1 hO ⟨f0, hf1⟩ hM2 hR2)))
set_option maxHeartbeats 1000000 in
set_option maxRecDepth 10000 in
theorem lc_sync (hLI : LI G μ ad ma oa σ δ) (hi : i + 5 ≤ L) (hL : L ≤ 2560) (hc : cn + 182 ≤ (mt_R M_law).cells) (hs : sn + 1092 ≤ (mt_R M_law).slots) (kk : ∀ μ' σ' δ', LI G μ' ad ma oa σ' δ' → WP G M_law (QL G b L xs) [(0, .ref b), (1, .ref (ad 0)), (2, .ref (ma 0)), (3, .ref oa), (4, .int (nI i))] 1292 [] μ' (cn + 182) (sn + 1092)) : WP G M_law (QL G b L xs) [(0, .ref b), (1, .ref (ad 0)), (2, .ref (ma 0)), (3, .ref oa), (4, .int (nI i))] 653 [] μ cn sn := by
  obtain ⟨⟨φ0, g0, hC0⟩, ⟨τ, hM, hR⟩, ⟨f0, hf0⟩, hO⟩ := id hLI
  have ho : (Gp G (xb ma oa) μ).2.2.2.2 oa = some (.inl (G.2.2.1 2, 1, .inr (.inl f0))) := (pX_t (xb_o ma oa)).trans hf0
  refine wp_aload_n d_Law_law_653 rfl rfl ?_
  refine wp_aload_n d_Law_law_654 rfl rfl ?_
  refine wp_iload d_Law_law_655 rfl ?_
  refine wp_iconst (v := 1) d_Law_law_657 (by decide) ?_
  refine wp_iadd d_Law_law_658 ?_
  refine wl_sld (j := i + 1) d_Law_law_659 (nI_k 1 rfl) (by omega) (by omega) ?_
  refine wp_aload_n d_Law_law_660 rfl rfl ?_
  refine wx_callSH d_Law_law_661 cs_Law_116 cw_sync ⟨by decide, by decide⟩ (CTH.gp (ch_sync (r := S_sync (xs (i + 1)) σ δ) hC0 ho hO.1 (S_sync_le (xs (i + 1)) σ δ) (ct_sync hC0 hR.pi (xs (i + 1))))) rfl rfl (Nat.le_of_ble_eq_true rfl) (show cn + 122 ≤ _ from Nat.le_trans (by omega) hc) (show sn + 732 ≤ _ from Nat.le_trans (by omega) hs) (fun E μ1 h => h.elim) (fun w μ1 hq => ?_)
  have hle := S_sync_le (xs (i + 1)) σ δ
  obtain ⟨rfl, hC1, ⟨τ1, hM1, hR1⟩, f1, hf1, ha1⟩ := hLI.help hq
  have hX1 := LM.x ⟨τ1, hM1, hR1⟩ ⟨f1, hf1⟩
  refine wp_istore d_Law_law_664 (Nat.le_of_ble_eq_true rfl) ?_
  refine wp_aload_n d_Law_law_666 rfl rfl ?_
  refine wp_aload_n d_Law_law_667 rfl rfl ?_
  refine wp_iload d_Law_law_668 rfl ?_
  refine wp_iconst (v := 1) d_Law_law_670 (by decide) ?_
  refine wp_iadd d_Law_law_671 ?_
  refine wl_sld (j := i + 1) d_Law_law_672 (nI_k 1 rfl) (by omega) (by omega) ?_
  refine wx_callV d_Law_law_673 cv_Law_118 cd_Model_sync ⟨by decide, by decide⟩ (cm_sync hM1 hR1 (xs (i + 1))) hM1.obj rfl rfl (Nat.le_of_ble_eq_true rfl) (show cn + 122 + 0 ≤ _ from Nat.le_trans (by omega) hc) (show sn + 732 + 0 ≤ _ from Nat.le_trans (by omega) hs) (fun E μ2 h => h.elim) (fun w μ2 hq => ?_)
  obtain ⟨τ2, y, rfl, hM2, hR2, ht2, hy⟩ := hq
  have hf2 := hM2.2.2.2 _ _ (fun j hj => hO.2 j hj) hf1
  have hL2 := LC.model hC1 hX1 hO ⟨f1, hf1⟩ hM2 hR2
  refine wp_istore d_Law_law_676 (Nat.le_of_ble_eq_true rfl) ?_
  refine wp_aload_n d_Law_law_678 rfl rfl ?_
  refine wx_callV d_Law_law_679 cv_Law_86 cd_Model_thrown ⟨by decide, by decide⟩ (cm_thrown hM2) hM2.obj rfl rfl (Nat.le_of_ble_eq_true rfl) (show cn + 122 + 0 + 0 ≤ _ from Nat.le_trans (by omega) hc) (show sn + 732 + 0 + 0 ≤ _ from Nat.le_trans (by omega) hs) (fun E μ3 h => h.elim) (fun w μ3 hq => ?_)
  obtain ⟨rfl, rfl⟩ := hq
  refine wp_iload d_Law_law_682 rfl ?_
  refine wp_icmp_eq (tgt := 689) d_Law_law_684 (by decide) (fun _ => ?_) (fun z => absurd ht2 z)
  refine wp_iload d_Law_law_689 rfl ?_
  have fin : WP G M_law (QL G b L xs) (lst (lst [(0, .ref b), (1, .ref (ad 0)), (2, .ref (ma 0)), (3, .ref oa), (4, .int (nI i))] 5 (.int (nI (S_sync (xs (i + 1)) σ δ).1))) 6 (.int y)) 706 [] μ3 (cn + 122 + 0 + 0) (sn + 732 + 0 + 0) := by
    refine wp_goto (tgt := 1292) d_Law_law_706 (by decide) ?_
    exact WP.loc [(0, .ref b), (1, .ref (ad 0)), (2, .ref (ma 0)), (3, .ref oa), (4, .int (nI i))] rfl (WP.widen (show cn + 122 + 0 + 0 ≤ cn + 182 by omega) (show sn + 732 + 0 + 0 ≤ sn + 1092 by omega) (kk _ _ _ hL2))
  refine wp_if_ne (tgt := 706) d_Law_law_691 (by decide) (fun _ => fin) (fun z => ?_)
  have h0 := nI_z (by omega) z
  refine wp_aload_n d_Law_law_694 rfl rfl ?_
  refine wp_iconst (v := 0) d_Law_law_695 (by decide) ?_
  refine wp_lald (j := 0) d_Law_law_696 hf2 rfl (by decide) (by decide) ?_
  refine wp_iload d_Law_law_697 rfl ?_
  refine wp_i2l d_Law_law_699 rfl ?_
  refine wp_lcmp d_Law_law_700 ?_
  exact wp_if_eq (tgt := 706) d_Law_law_701 (by decide) (fun _ => fin) (fun z2 => absurd ((lg_cmp_eq _ _).mpr ((ha1 h0).trans (by rw [hy h0]))) z2)
set_option maxHeartbeats 1000000 in
set_option maxRecDepth 10000 in
theorem lc_get (hLI : LI G μ ad ma oa σ δ) (hi : i + 5 ≤ L) (hL : L ≤ 2560) (hc : cn + 182 ≤ (mt_R M_law).cells) (hs : sn + 1092 ≤ (mt_R M_law).slots) (kk : ∀ μ' σ' δ', LI G μ' ad ma oa σ' δ' → WP G M_law (QL G b L xs) [(0, .ref b), (1, .ref (ad 0)), (2, .ref (ma 0)), (3, .ref oa), (4, .int (nI i))] 1292 [] μ' (cn + 182) (sn + 1092)) : WP G M_law (QL G b L xs) [(0, .ref b), (1, .ref (ad 0)), (2, .ref (ma 0)), (3, .ref oa), (4, .int (nI i))] 709 [] μ cn sn := by
  obtain ⟨⟨φ0, g0, hC0⟩, ⟨τ, hM, hR⟩, ⟨f0, hf0⟩, hO⟩ := id hLI
  have ho : (Gp G (xb ma oa) μ).2.2.2.2 oa = some (.inl (G.2.2.1 2, 1, .inr (.inl f0))) := (pX_t (xb_o ma oa)).trans hf0
  refine wp_aload_n d_Law_law_709 rfl rfl ?_
  refine wp_aload_n d_Law_law_710 rfl rfl ?_
  refine wp_iload d_Law_law_711 rfl ?_
  refine wp_iconst (v := 1) d_Law_law_713 (by decide) ?_
  refine wp_iadd d_Law_law_714 ?_
  refine wl_sld (j := i + 1) d_Law_law_715 (nI_k 1 rfl) (by omega) (by omega) ?_
  refine wp_aload_n d_Law_law_716 rfl rfl ?_
  refine wp_iload d_Law_law_717 rfl ?_
  refine wp_iconst (v := 2) d_Law_law_719 (by decide) ?_
  refine wp_iadd d_Law_law_720 ?_
  refine wl_sld (j := i + 2) d_Law_law_721 (nI_k 2 rfl) (by omega) (by omega) ?_
  refine wp_aload_n d_Law_law_722 rfl rfl ?_
  refine wx_callSH d_Law_law_723 cs_Law_119 cw_get ⟨by decide, by decide⟩ (CTH.gp (ch_get (r := S_get (xs (i + 1)) (xs (i + 2)) σ δ) hC0 ho hO.1 (S_get_le (xs (i + 1)) (xs (i + 2)) σ δ) (ct_get hC0 (xs (i + 1)) (xs (i + 2))))) rfl rfl (Nat.le_of_ble_eq_true rfl) (show cn + 2 ≤ _ from Nat.le_trans (by omega) hc) (show sn + 12 ≤ _ from Nat.le_trans (by omega) hs) (fun E μ1 h => h.elim) (fun w μ1 hq => ?_)
  have hle := S_get_le (xs (i + 1)) (xs (i + 2)) σ δ
  obtain ⟨rfl, hC1, ⟨τ1, hM1, hR1⟩, f1, hf1, ha1⟩ := hLI.help hq
  have hX1 := LM.x ⟨τ1, hM1, hR1⟩ ⟨f1, hf1⟩
  refine wp_istore d_Law_law_726 (Nat.le_of_ble_eq_true rfl) ?_
  refine wp_aload_n d_Law_law_728 rfl rfl ?_
  refine wp_aload_n d_Law_law_729 rfl rfl ?_
  refine wp_iload d_Law_law_730 rfl ?_
  refine wp_iconst (v := 1) d_Law_law_732 (by decide) ?_
  refine wp_iadd d_Law_law_733 ?_
  refine wl_sld (j := i + 1) d_Law_law_734 (nI_k 1 rfl) (by omega) (by omega) ?_
  refine wp_aload_n d_Law_law_735 rfl rfl ?_
  refine wp_iload d_Law_law_736 rfl ?_
  refine wp_iconst (v := 2) d_Law_law_738 (by decide) ?_
  refine wp_iadd d_Law_law_739 ?_
  refine wl_sld (j := i + 2) d_Law_law_740 (nI_k 2 rfl) (by omega) (by omega) ?_
  refine wx_callV d_Law_law_741 cv_Law_121 cd_Model_get ⟨by decide, by decide⟩ (cm_get hM1 hR1 (xs (i + 1)) (xs (i + 2))) hM1.obj rfl rfl (Nat.le_of_ble_eq_true rfl) (show cn + 2 + 0 ≤ _ from Nat.le_trans (by omega) hc) (show sn + 12 + 0 ≤ _ from Nat.le_trans (by omega) hs) (fun E μ2 h => h.elim) (fun w μ2 hq => ?_)
  obtain ⟨τ2, y, rfl, hM2, hR2, ht2, hy⟩ := hq
  have hf2 := hM2.2.2.2 _ _ (fun j hj => hO.2 j hj) hf1
  have hL2 := LC.model hC1 hX1 hO ⟨f1, hf1⟩ hM2 hR2
  refine wp_istore d_Law_law_744 (Nat.le_of_ble_eq_true rfl) ?_
  refine wp_aload_n d_Law_law_746 rfl rfl ?_
  refine wx_callV d_Law_law_747 cv_Law_86 cd_Model_thrown ⟨by decide, by decide⟩ (cm_thrown hM2) hM2.obj rfl rfl (Nat.le_of_ble_eq_true rfl) (show cn + 2 + 0 + 0 ≤ _ from Nat.le_trans (by omega) hc) (show sn + 12 + 0 + 0 ≤ _ from Nat.le_trans (by omega) hs) (fun E μ3 h => h.elim) (fun w μ3 hq => ?_)
  obtain ⟨rfl, rfl⟩ := hq
  refine wp_iload d_Law_law_750 rfl ?_
  refine wp_icmp_eq (tgt := 757) d_Law_law_752 (by decide) (fun _ => ?_) (fun z => absurd ht2 z)
  refine wp_iload d_Law_law_757 rfl ?_
  have fin : WP G M_law (QL G b L xs) (lst (lst [(0, .ref b), (1, .ref (ad 0)), (2, .ref (ma 0)), (3, .ref oa), (4, .int (nI i))] 5 (.int (nI (S_get (xs (i + 1)) (xs (i + 2)) σ δ).1))) 6 (.int y)) 774 [] μ3 (cn + 2 + 0 + 0) (sn + 12 + 0 + 0) := by
    refine wp_goto (tgt := 1292) d_Law_law_774 (by decide) ?_
    exact WP.loc [(0, .ref b), (1, .ref (ad 0)), (2, .ref (ma 0)), (3, .ref oa), (4, .int (nI i))] rfl (WP.widen (show cn + 2 + 0 + 0 ≤ cn + 182 by omega) (show sn + 12 + 0 + 0 ≤ sn + 1092 by omega) (kk _ _ _ hL2))
  refine wp_if_ne (tgt := 774) d_Law_law_759 (by decide) (fun _ => fin) (fun z => ?_)
  have h0 := nI_z (by omega) z
  refine wp_aload_n d_Law_law_762 rfl rfl ?_
  refine wp_iconst (v := 0) d_Law_law_763 (by decide) ?_
  refine wp_lald (j := 0) d_Law_law_764 hf2 rfl (by decide) (by decide) ?_
  refine wp_iload d_Law_law_765 rfl ?_
  refine wp_i2l d_Law_law_767 rfl ?_
  refine wp_lcmp d_Law_law_768 ?_
  exact wp_if_eq (tgt := 774) d_Law_law_769 (by decide) (fun _ => fin) (fun z2 => absurd ((lg_cmp_eq _ _).mpr ((ha1 h0).trans (by rw [hy h0]))) z2)
set_option maxHeartbeats 1000000 in
set_option maxRecDepth 10000 in
theorem lc_begin (hLI : LI G μ ad ma oa σ δ) (hi : i + 5 ≤ L) (hL : L ≤ 2560) (hc : cn + 182 ≤ (mt_R M_law).cells) (hs : sn + 1092 ≤ (mt_R M_law).slots) (kk : ∀ μ' σ' δ', LI G μ' ad ma oa σ' δ' → WP G M_law (QL G b L xs) [(0, .ref b), (1, .ref (ad 0)), (2, .ref (ma 0)), (3, .ref oa), (4, .int (nI i))] 1292 [] μ' (cn + 182) (sn + 1092)) : WP G M_law (QL G b L xs) [(0, .ref b), (1, .ref (ad 0)), (2, .ref (ma 0)), (3, .ref oa), (4, .int (nI i))] 777 [] μ cn sn := by
  obtain ⟨⟨φ0, g0, hC0⟩, ⟨τ, hM, hR⟩, ⟨f0, hf0⟩, hO⟩ := id hLI
  have ho : (Gp G (xb ma oa) μ).2.2.2.2 oa = some (.inl (G.2.2.1 2, 1, .inr (.inl f0))) := (pX_t (xb_o ma oa)).trans hf0
  refine wp_aload_n d_Law_law_777 rfl rfl ?_
  refine wp_aload_n d_Law_law_778 rfl rfl ?_
  refine wp_iload d_Law_law_779 rfl ?_
  refine wp_iconst (v := 1) d_Law_law_781 (by decide) ?_
  refine wp_iadd d_Law_law_782 ?_
  refine wl_sld (j := i + 1) d_Law_law_783 (nI_k 1 rfl) (by omega) (by omega) ?_
  refine wp_aload_n d_Law_law_784 rfl rfl ?_
  refine wx_callSH d_Law_law_785 cs_Law_122 cw_begin ⟨by decide, by decide⟩ (CTH.gp (ch_begin (r := S_begin (xs (i + 1)) σ δ) hC0 ho hO.1 (S_begin_le (xs (i + 1)) σ δ) (ct_begin hC0 (xs (i + 1))))) rfl rfl (Nat.le_of_ble_eq_true rfl) (show cn + 2 ≤ _ from Nat.le_trans (by omega) hc) (show sn + 12 ≤ _ from Nat.le_trans (by omega) hs) (fun E μ1 h => h.elim) (fun w μ1 hq => ?_)
  have hle := S_begin_le (xs (i + 1)) σ δ
  obtain ⟨rfl, hC1, ⟨τ1, hM1, hR1⟩, f1, hf1, ha1⟩ := hLI.help hq
  have hX1 := LM.x ⟨τ1, hM1, hR1⟩ ⟨f1, hf1⟩
  refine wp_istore d_Law_law_788 (Nat.le_of_ble_eq_true rfl) ?_
  refine wp_aload_n d_Law_law_790 rfl rfl ?_
  refine wp_aload_n d_Law_law_791 rfl rfl ?_
  refine wp_iload d_Law_law_792 rfl ?_
  refine wp_iconst (v := 1) d_Law_law_794 (by decide) ?_
  refine wp_iadd d_Law_law_795 ?_
  refine wl_sld (j := i + 1) d_Law_law_796 (nI_k 1 rfl) (by omega) (by omega) ?_
  refine wx_callV d_Law_law_797 cv_Law_124 cd_Model_begin ⟨by decide, by decide⟩ (cm_begin hM1 hR1 (xs (i + 1))) hM1.obj rfl rfl (Nat.le_of_ble_eq_true rfl) (show cn + 2 + 0 ≤ _ from Nat.le_trans (by omega) hc) (show sn + 12 + 0 ≤ _ from Nat.le_trans (by omega) hs) (fun E μ2 h => h.elim) (fun w μ2 hq => ?_)
  obtain ⟨τ2, y, rfl, hM2, hR2, ht2, hy⟩ := hq
  have hf2 := hM2.2.2.2 _ _ (fun j hj => hO.2 j hj) hf1
  have hL2 := LC.model hC1 hX1 hO ⟨f1, hf1⟩ hM2 hR2
  refine wp_istore d_Law_law_800 (Nat.le_of_ble_eq_true rfl) ?_
  refine wp_aload_n d_Law_law_802 rfl rfl ?_
  refine wx_callV d_Law_law_803 cv_Law_86 cd_Model_thrown ⟨by decide, by decide⟩ (cm_thrown hM2) hM2.obj rfl rfl (Nat.le_of_ble_eq_true rfl) (show cn + 2 + 0 + 0 ≤ _ from Nat.le_trans (by omega) hc) (show sn + 12 + 0 + 0 ≤ _ from Nat.le_trans (by omega) hs) (fun E μ3 h => h.elim) (fun w μ3 hq => ?_)
  obtain ⟨rfl, rfl⟩ := hq
  refine wp_iload d_Law_law_806 rfl ?_
  refine wp_icmp_eq (tgt := 813) d_Law_law_808 (by decide) (fun _ => ?_) (fun z => absurd ht2 z)
  refine wp_iload d_Law_law_813 rfl ?_
  have fin : WP G M_law (QL G b L xs) (lst (lst [(0, .ref b), (1, .ref (ad 0)), (2, .ref (ma 0)), (3, .ref oa), (4, .int (nI i))] 5 (.int (nI (S_begin (xs (i + 1)) σ δ).1))) 6 (.int y)) 830 [] μ3 (cn + 2 + 0 + 0) (sn + 12 + 0 + 0) := by
    refine wp_goto (tgt := 1292) d_Law_law_830 (by decide) ?_
    exact WP.loc [(0, .ref b), (1, .ref (ad 0)), (2, .ref (ma 0)), (3, .ref oa), (4, .int (nI i))] rfl (WP.widen (show cn + 2 + 0 + 0 ≤ cn + 182 by omega) (show sn + 12 + 0 + 0 ≤ sn + 1092 by omega) (kk _ _ _ hL2))
  refine wp_if_ne (tgt := 830) d_Law_law_815 (by decide) (fun _ => fin) (fun z => ?_)
  have h0 := nI_z (by omega) z
  refine wp_aload_n d_Law_law_818 rfl rfl ?_
  refine wp_iconst (v := 0) d_Law_law_819 (by decide) ?_
  refine wp_lald (j := 0) d_Law_law_820 hf2 rfl (by decide) (by decide) ?_
  refine wp_iload d_Law_law_821 rfl ?_
  refine wp_i2l d_Law_law_823 rfl ?_
  refine wp_lcmp d_Law_law_824 ?_
  exact wp_if_eq (tgt := 830) d_Law_law_825 (by decide) (fun _ => fin) (fun z2 => absurd ((lg_cmp_eq _ _).mpr ((ha1 h0).trans (by rw [hy h0]))) z2)
set_option maxHeartbeats 1000000 in
set_option maxRecDepth 10000 in
theorem lc_see (hLI : LI G μ ad ma oa σ δ) (hi : i + 5 ≤ L) (hL : L ≤ 2560) (hc : cn + 182 ≤ (mt_R M_law).cells) (hs : sn + 1092 ≤ (mt_R M_law).slots) (kk : ∀ μ' σ' δ', LI G μ' ad ma oa σ' δ' → WP G M_law (QL G b L xs) [(0, .ref b), (1, .ref (ad 0)), (2, .ref (ma 0)), (3, .ref oa), (4, .int (nI i))] 1292 [] μ' (cn + 182) (sn + 1092)) : WP G M_law (QL G b L xs) [(0, .ref b), (1, .ref (ad 0)), (2, .ref (ma 0)), (3, .ref oa), (4, .int (nI i))] 833 [] μ cn sn := by
  obtain ⟨⟨φ0, g0, hC0⟩, ⟨τ, hM, hR⟩, ⟨f0, hf0⟩, hO⟩ := id hLI
  have ho : (Gp G (xb ma oa) μ).2.2.2.2 oa = some (.inl (G.2.2.1 2, 1, .inr (.inl f0))) := (pX_t (xb_o ma oa)).trans hf0
  refine wp_aload_n d_Law_law_833 rfl rfl ?_
  refine wp_aload_n d_Law_law_834 rfl rfl ?_
  refine wp_iload d_Law_law_835 rfl ?_
  refine wp_iconst (v := 1) d_Law_law_837 (by decide) ?_
  refine wp_iadd d_Law_law_838 ?_
  refine wl_sld (j := i + 1) d_Law_law_839 (nI_k 1 rfl) (by omega) (by omega) ?_
  refine wp_aload_n d_Law_law_840 rfl rfl ?_
  refine wp_iload d_Law_law_841 rfl ?_
  refine wp_iconst (v := 2) d_Law_law_843 (by decide) ?_
  refine wp_iadd d_Law_law_844 ?_
  refine wl_sld (j := i + 2) d_Law_law_845 (nI_k 2 rfl) (by omega) (by omega) ?_
  refine wp_aload_n d_Law_law_846 rfl rfl ?_
  refine wx_callSH d_Law_law_847 cs_Law_125 cw_see ⟨by decide, by decide⟩ (CTH.gp (ch_see (r := S_see (xs (i + 1)) (xs (i + 2)) σ δ) hC0 ho hO.1 (S_see_le (xs (i + 1)) (xs (i + 2)) σ δ) (ct_see hC0 (xs (i + 1)) (xs (i + 2))))) rfl rfl (Nat.le_of_ble_eq_true rfl) (show cn + 3 ≤ _ from Nat.le_trans (by omega) hc) (show sn + 18 ≤ _ from Nat.le_trans (by omega) hs) (fun E μ1 h => h.elim) (fun w μ1 hq => ?_)
  have hle := S_see_le (xs (i + 1)) (xs (i + 2)) σ δ
  obtain ⟨rfl, hC1, ⟨τ1, hM1, hR1⟩, f1, hf1, ha1⟩ := hLI.help hq
  have hX1 := LM.x ⟨τ1, hM1, hR1⟩ ⟨f1, hf1⟩
  refine wp_istore d_Law_law_850 (Nat.le_of_ble_eq_true rfl) ?_
  refine wp_aload_n d_Law_law_852 rfl rfl ?_
  refine wp_aload_n d_Law_law_853 rfl rfl ?_
  refine wp_iload d_Law_law_854 rfl ?_
  refine wp_iconst (v := 1) d_Law_law_856 (by decide) ?_
  refine wp_iadd d_Law_law_857 ?_
  refine wl_sld (j := i + 1) d_Law_law_858 (nI_k 1 rfl) (by omega) (by omega) ?_
  refine wp_aload_n d_Law_law_859 rfl rfl ?_
  refine wp_iload d_Law_law_860 rfl ?_
  refine wp_iconst (v := 2) d_Law_law_862 (by decide) ?_
  refine wp_iadd d_Law_law_863 ?_
  refine wl_sld (j := i + 2) d_Law_law_864 (nI_k 2 rfl) (by omega) (by omega) ?_
  refine wx_callV d_Law_law_865 cv_Law_127 cd_Model_see ⟨by decide, by decide⟩ (cm_see hM1 hR1 (xs (i + 1)) (xs (i + 2))) hM1.obj rfl rfl (Nat.le_of_ble_eq_true rfl) (show cn + 3 + 0 ≤ _ from Nat.le_trans (by omega) hc) (show sn + 18 + 0 ≤ _ from Nat.le_trans (by omega) hs) (fun E μ2 h => h.elim) (fun w μ2 hq => ?_)
  obtain ⟨τ2, y, rfl, hM2, hR2, ht2, hy⟩ := hq
  have hf2 := hM2.2.2.2 _ _ (fun j hj => hO.2 j hj) hf1
  have hL2 := LC.model hC1 hX1 hO ⟨f1, hf1⟩ hM2 hR2
  refine wp_istore d_Law_law_868 (Nat.le_of_ble_eq_true rfl) ?_
  refine wp_aload_n d_Law_law_870 rfl rfl ?_
  refine wx_callV d_Law_law_871 cv_Law_86 cd_Model_thrown ⟨by decide, by decide⟩ (cm_thrown hM2) hM2.obj rfl rfl (Nat.le_of_ble_eq_true rfl) (show cn + 3 + 0 + 0 ≤ _ from Nat.le_trans (by omega) hc) (show sn + 18 + 0 + 0 ≤ _ from Nat.le_trans (by omega) hs) (fun E μ3 h => h.elim) (fun w μ3 hq => ?_)
  obtain ⟨rfl, rfl⟩ := hq
  refine wp_iload d_Law_law_874 rfl ?_
  refine wp_icmp_eq (tgt := 881) d_Law_law_876 (by decide) (fun _ => ?_) (fun z => absurd ht2 z)
  refine wp_iload d_Law_law_881 rfl ?_
  have fin : WP G M_law (QL G b L xs) (lst (lst [(0, .ref b), (1, .ref (ad 0)), (2, .ref (ma 0)), (3, .ref oa), (4, .int (nI i))] 5 (.int (nI (S_see (xs (i + 1)) (xs (i + 2)) σ δ).1))) 6 (.int y)) 898 [] μ3 (cn + 3 + 0 + 0) (sn + 18 + 0 + 0) := by
    refine wp_goto (tgt := 1292) d_Law_law_898 (by decide) ?_
    exact WP.loc [(0, .ref b), (1, .ref (ad 0)), (2, .ref (ma 0)), (3, .ref oa), (4, .int (nI i))] rfl (WP.widen (show cn + 3 + 0 + 0 ≤ cn + 182 by omega) (show sn + 18 + 0 + 0 ≤ sn + 1092 by omega) (kk _ _ _ hL2))
  refine wp_if_ne (tgt := 898) d_Law_law_883 (by decide) (fun _ => fin) (fun z => ?_)
  have h0 := nI_z (by omega) z
  refine wp_aload_n d_Law_law_886 rfl rfl ?_
  refine wp_iconst (v := 0) d_Law_law_887 (by decide) ?_
  refine wp_lald (j := 0) d_Law_law_888 hf2 rfl (by decide) (by decide) ?_
  refine wp_iload d_Law_law_889 rfl ?_
  refine wp_i2l d_Law_law_891 rfl ?_
  refine wp_lcmp d_Law_law_892 ?_
  exact wp_if_eq (tgt := 898) d_Law_law_893 (by decide) (fun _ => fin) (fun z2 => absurd ((lg_cmp_eq _ _).mpr ((ha1 h0).trans (by rw [hy h0]))) z2)
set_option maxHeartbeats 1000000 in
set_option maxRecDepth 10000 in
theorem lc_put (hLI : LI G μ ad ma oa σ δ) (hi : i + 5 ≤ L) (hL : L ≤ 2560) (hc : cn + 182 ≤ (mt_R M_law).cells) (hs : sn + 1092 ≤ (mt_R M_law).slots) (kk : ∀ μ' σ' δ', LI G μ' ad ma oa σ' δ' → WP G M_law (QL G b L xs) [(0, .ref b), (1, .ref (ad 0)), (2, .ref (ma 0)), (3, .ref oa), (4, .int (nI i))] 1292 [] μ' (cn + 182) (sn + 1092)) : WP G M_law (QL G b L xs) [(0, .ref b), (1, .ref (ad 0)), (2, .ref (ma 0)), (3, .ref oa), (4, .int (nI i))] 901 [] μ cn sn := by
  obtain ⟨⟨φ0, g0, hC0⟩, ⟨τ, hM, hR⟩, ⟨f0, hf0⟩, hO⟩ := id hLI
  have ho : (Gp G (xb ma oa) μ).2.2.2.2 oa = some (.inl (G.2.2.1 2, 1, .inr (.inl f0))) := (pX_t (xb_o ma oa)).trans hf0
  refine wp_aload_n d_Law_law_901 rfl rfl ?_
  refine wp_aload_n d_Law_law_902 rfl rfl ?_
  refine wp_iload d_Law_law_903 rfl ?_
  refine wp_iconst (v := 1) d_Law_law_905 (by decide) ?_
  refine wp_iadd d_Law_law_906 ?_
  refine wl_sld (j := i + 1) d_Law_law_907 (nI_k 1 rfl) (by omega) (by omega) ?_
  refine wp_aload_n d_Law_law_908 rfl rfl ?_
  refine wp_iload d_Law_law_909 rfl ?_
  refine wp_iconst (v := 2) d_Law_law_911 (by decide) ?_
  refine wp_iadd d_Law_law_912 ?_
  refine wl_sld (j := i + 2) d_Law_law_913 (nI_k 2 rfl) (by omega) (by omega) ?_
  refine wp_aload_n d_Law_law_914 rfl rfl ?_
  refine wp_iload d_Law_law_915 rfl ?_
  refine wp_iconst (v := 3) d_Law_law_917 (by decide) ?_
  refine wp_iadd d_Law_law_918 ?_
  refine wl_sld (j := i + 3) d_Law_law_919 (nI_k 3 rfl) (by omega) (by omega) ?_
  refine wp_aload_n d_Law_law_920 rfl rfl ?_
  refine wx_callSH d_Law_law_921 cs_Law_128 cw_put ⟨by decide, by decide⟩ (CTH.gp (ch_put (r := S_put (xs (i + 1)) (xs (i + 2)) (xs (i + 3)) σ δ) hC0 ho hO.1 (S_put_le (xs (i + 1)) (xs (i + 2)) (xs (i + 3)) σ δ) (ct_put hC0 (xs (i + 1)) (xs (i + 2)) (xs (i + 3))))) rfl rfl (Nat.le_of_ble_eq_true rfl) (show cn + 3 ≤ _ from Nat.le_trans (by omega) hc) (show sn + 18 ≤ _ from Nat.le_trans (by omega) hs) (fun E μ1 h => h.elim) (fun w μ1 hq => ?_)
  have hle := S_put_le (xs (i + 1)) (xs (i + 2)) (xs (i + 3)) σ δ
  obtain ⟨rfl, hC1, ⟨τ1, hM1, hR1⟩, f1, hf1, ha1⟩ := hLI.help hq
  have hX1 := LM.x ⟨τ1, hM1, hR1⟩ ⟨f1, hf1⟩
  refine wp_istore d_Law_law_924 (Nat.le_of_ble_eq_true rfl) ?_
  refine wp_aload_n d_Law_law_926 rfl rfl ?_
  refine wp_aload_n d_Law_law_927 rfl rfl ?_
  refine wp_iload d_Law_law_928 rfl ?_
  refine wp_iconst (v := 1) d_Law_law_930 (by decide) ?_
  refine wp_iadd d_Law_law_931 ?_
  refine wl_sld (j := i + 1) d_Law_law_932 (nI_k 1 rfl) (by omega) (by omega) ?_
  refine wp_aload_n d_Law_law_933 rfl rfl ?_
  refine wp_iload d_Law_law_934 rfl ?_
  refine wp_iconst (v := 2) d_Law_law_936 (by decide) ?_
  refine wp_iadd d_Law_law_937 ?_
  refine wl_sld (j := i + 2) d_Law_law_938 (nI_k 2 rfl) (by omega) (by omega) ?_
  refine wp_aload_n d_Law_law_939 rfl rfl ?_
  refine wp_iload d_Law_law_940 rfl ?_
  refine wp_iconst (v := 3) d_Law_law_942 (by decide) ?_
  refine wp_iadd d_Law_law_943 ?_
  refine wl_sld (j := i + 3) d_Law_law_944 (nI_k 3 rfl) (by omega) (by omega) ?_
  refine wx_callV d_Law_law_945 cv_Law_130 cd_Model_put ⟨by decide, by decide⟩ (cm_put hM1 hR1 (xs (i + 1)) (xs (i + 2)) (xs (i + 3))) hM1.obj rfl rfl (Nat.le_of_ble_eq_true rfl) (show cn + 3 + 0 ≤ _ from Nat.le_trans (by omega) hc) (show sn + 18 + 0 ≤ _ from Nat.le_trans (by omega) hs) (fun E μ2 h => h.elim) (fun w μ2 hq => ?_)
  obtain ⟨τ2, y, rfl, hM2, hR2, ht2, hy⟩ := hq
  have hf2 := hM2.2.2.2 _ _ (fun j hj => hO.2 j hj) hf1
  have hL2 := LC.model hC1 hX1 hO ⟨f1, hf1⟩ hM2 hR2
  refine wp_istore d_Law_law_948 (Nat.le_of_ble_eq_true rfl) ?_
  refine wp_aload_n d_Law_law_950 rfl rfl ?_
  refine wx_callV d_Law_law_951 cv_Law_86 cd_Model_thrown ⟨by decide, by decide⟩ (cm_thrown hM2) hM2.obj rfl rfl (Nat.le_of_ble_eq_true rfl) (show cn + 3 + 0 + 0 ≤ _ from Nat.le_trans (by omega) hc) (show sn + 18 + 0 + 0 ≤ _ from Nat.le_trans (by omega) hs) (fun E μ3 h => h.elim) (fun w μ3 hq => ?_)
  obtain ⟨rfl, rfl⟩ := hq
  refine wp_iload d_Law_law_954 rfl ?_
  refine wp_icmp_eq (tgt := 961) d_Law_law_956 (by decide) (fun _ => ?_) (fun z => absurd ht2 z)
  refine wp_iload d_Law_law_961 rfl ?_
  have fin : WP G M_law (QL G b L xs) (lst (lst [(0, .ref b), (1, .ref (ad 0)), (2, .ref (ma 0)), (3, .ref oa), (4, .int (nI i))] 5 (.int (nI (S_put (xs (i + 1)) (xs (i + 2)) (xs (i + 3)) σ δ).1))) 6 (.int y)) 978 [] μ3 (cn + 3 + 0 + 0) (sn + 18 + 0 + 0) := by
    refine wp_goto (tgt := 1292) d_Law_law_978 (by decide) ?_
    exact WP.loc [(0, .ref b), (1, .ref (ad 0)), (2, .ref (ma 0)), (3, .ref oa), (4, .int (nI i))] rfl (WP.widen (show cn + 3 + 0 + 0 ≤ cn + 182 by omega) (show sn + 18 + 0 + 0 ≤ sn + 1092 by omega) (kk _ _ _ hL2))
  refine wp_if_ne (tgt := 978) d_Law_law_963 (by decide) (fun _ => fin) (fun z => ?_)
  have h0 := nI_z (by omega) z
  refine wp_aload_n d_Law_law_966 rfl rfl ?_
  refine wp_iconst (v := 0) d_Law_law_967 (by decide) ?_
  refine wp_lald (j := 0) d_Law_law_968 hf2 rfl (by decide) (by decide) ?_
  refine wp_iload d_Law_law_969 rfl ?_
  refine wp_i2l d_Law_law_971 rfl ?_
  refine wp_lcmp d_Law_law_972 ?_
  exact wp_if_eq (tgt := 978) d_Law_law_973 (by decide) (fun _ => fin) (fun z2 => absurd ((lg_cmp_eq _ _).mpr ((ha1 h0).trans (by rw [hy h0]))) z2)
set_option maxHeartbeats 1000000 in
set_option maxRecDepth 10000 in
theorem lc_commit (hLI : LI G μ ad ma oa σ δ) (hi : i + 5 ≤ L) (hL : L ≤ 2560) (hc : cn + 182 ≤ (mt_R M_law).cells) (hs : sn + 1092 ≤ (mt_R M_law).slots) (kk : ∀ μ' σ' δ', LI G μ' ad ma oa σ' δ' → WP G M_law (QL G b L xs) [(0, .ref b), (1, .ref (ad 0)), (2, .ref (ma 0)), (3, .ref oa), (4, .int (nI i))] 1292 [] μ' (cn + 182) (sn + 1092)) : WP G M_law (QL G b L xs) [(0, .ref b), (1, .ref (ad 0)), (2, .ref (ma 0)), (3, .ref oa), (4, .int (nI i))] 981 [] μ cn sn := by
  obtain ⟨⟨φ0, g0, hC0⟩, ⟨τ, hM, hR⟩, ⟨f0, hf0⟩, hO⟩ := id hLI
  have ho : (Gp G (xb ma oa) μ).2.2.2.2 oa = some (.inl (G.2.2.1 2, 1, .inr (.inl f0))) := (pX_t (xb_o ma oa)).trans hf0
  refine wp_aload_n d_Law_law_981 rfl rfl ?_
  refine wp_aload_n d_Law_law_982 rfl rfl ?_
  refine wp_iload d_Law_law_983 rfl ?_
  refine wp_iconst (v := 1) d_Law_law_985 (by decide) ?_
  refine wp_iadd d_Law_law_986 ?_
  refine wl_sld (j := i + 1) d_Law_law_987 (nI_k 1 rfl) (by omega) (by omega) ?_
  refine wp_aload_n d_Law_law_988 rfl rfl ?_
  refine wx_callSH d_Law_law_989 cs_Law_131 cw_commit ⟨by decide, by decide⟩ (CTH.gp (ch_commit (r := S_commit (xs (i + 1)) σ δ) hC0 ho hO.1 (S_commit_le (xs (i + 1)) σ δ) (ct_commit hC0 hR.pi (xs (i + 1))))) rfl rfl (Nat.le_of_ble_eq_true rfl) (show cn + 134 ≤ _ from Nat.le_trans (by omega) hc) (show sn + 791 ≤ _ from Nat.le_trans (by omega) hs) (fun E μ1 h => h.elim) (fun w μ1 hq => ?_)
  have hle := S_commit_le (xs (i + 1)) σ δ
  obtain ⟨rfl, hC1, ⟨τ1, hM1, hR1⟩, f1, hf1, ha1⟩ := hLI.help hq
  have hX1 := LM.x ⟨τ1, hM1, hR1⟩ ⟨f1, hf1⟩
  refine wp_istore d_Law_law_992 (Nat.le_of_ble_eq_true rfl) ?_
  refine wp_aload_n d_Law_law_994 rfl rfl ?_
  refine wp_aload_n d_Law_law_995 rfl rfl ?_
  refine wp_iload d_Law_law_996 rfl ?_
  refine wp_iconst (v := 1) d_Law_law_998 (by decide) ?_
  refine wp_iadd d_Law_law_999 ?_
  refine wl_sld (j := i + 1) d_Law_law_1000 (nI_k 1 rfl) (by omega) (by omega) ?_
  refine wx_callV d_Law_law_1001 cv_Law_133 cd_Model_commit ⟨by decide, by decide⟩ (cm_commit hM1 hR1 (xs (i + 1))) hM1.obj rfl rfl (Nat.le_of_ble_eq_true rfl) (show cn + 134 + 0 ≤ _ from Nat.le_trans (by omega) hc) (show sn + 791 + 0 ≤ _ from Nat.le_trans (by omega) hs) (fun E μ2 h => h.elim) (fun w μ2 hq => ?_)
  obtain ⟨τ2, y, rfl, hM2, hR2, ht2, hy⟩ := hq
  have hf2 := hM2.2.2.2 _ _ (fun j hj => hO.2 j hj) hf1
  have hL2 := LC.model hC1 hX1 hO ⟨f1, hf1⟩ hM2 hR2
  refine wp_istore d_Law_law_1004 (Nat.le_of_ble_eq_true rfl) ?_
  refine wp_aload_n d_Law_law_1006 rfl rfl ?_
  refine wx_callV d_Law_law_1007 cv_Law_86 cd_Model_thrown ⟨by decide, by decide⟩ (cm_thrown hM2) hM2.obj rfl rfl (Nat.le_of_ble_eq_true rfl) (show cn + 134 + 0 + 0 ≤ _ from Nat.le_trans (by omega) hc) (show sn + 791 + 0 + 0 ≤ _ from Nat.le_trans (by omega) hs) (fun E μ3 h => h.elim) (fun w μ3 hq => ?_)
  obtain ⟨rfl, rfl⟩ := hq
  refine wp_iload d_Law_law_1010 rfl ?_
  refine wp_icmp_eq (tgt := 1017) d_Law_law_1012 (by decide) (fun _ => ?_) (fun z => absurd ht2 z)
  refine wp_iload d_Law_law_1017 rfl ?_
  have fin : WP G M_law (QL G b L xs) (lst (lst [(0, .ref b), (1, .ref (ad 0)), (2, .ref (ma 0)), (3, .ref oa), (4, .int (nI i))] 5 (.int (nI (S_commit (xs (i + 1)) σ δ).1))) 6 (.int y)) 1041 [] μ3 (cn + 134 + 0 + 0) (sn + 791 + 0 + 0) := by
    refine wp_goto (tgt := 1292) d_Law_law_1041 (by decide) ?_
    exact WP.loc [(0, .ref b), (1, .ref (ad 0)), (2, .ref (ma 0)), (3, .ref oa), (4, .int (nI i))] rfl (WP.widen (show cn + 134 + 0 + 0 ≤ cn + 182 by omega) (show sn + 791 + 0 + 0 ≤ sn + 1092 by omega) (kk _ _ _ hL2))
  refine wp_if_ne (tgt := 1041) d_Law_law_1019 (by decide) (fun _ => fin) (fun z => ?_)
  have h0 := nI_z (by omega) z
  refine wp_aload_n d_Law_law_1022 rfl rfl ?_
  refine wp_iconst (v := 0) d_Law_law_1023 (by decide) ?_
  refine wp_lald (j := 0) d_Law_law_1024 hf2 rfl (by decide) (by decide) ?_
  refine wp_iload d_Law_law_1025 rfl ?_
  have hb := S_commit_b (xs (i + 1)) σ δ h0
  rw [← hy h0] at hb
  refine wp_if_eq (tgt := 1034) d_Law_law_1027 (by decide) (fun z2 => ?_) (fun z2 => ?_)
  · refine wp_lconst (v := 0) d_Law_law_1034 (by decide) ?_
    refine wp_lcmp d_Law_law_1035 ?_
    exact wp_if_eq (tgt := 1041) d_Law_law_1036 (by decide) (fun _ => fin) (fun z3 => absurd ((lg_cmp_eq _ _).mpr ((ha1 h0).trans (by rw [← hy h0, z2]; rfl))) z3)
  · refine wp_lconst (v := 1) d_Law_law_1030 (by decide) ?_
    refine wp_goto (tgt := 1035) d_Law_law_1031 (by decide) ?_
    refine wp_lcmp d_Law_law_1035 ?_
    exact wp_if_eq (tgt := 1041) d_Law_law_1036 (by decide) (fun _ => fin) (fun z3 => absurd ((lg_cmp_eq _ _).mpr ((ha1 h0).trans (by rw [← hy h0, hb.resolve_left z2]; rfl))) z3)
set_option maxHeartbeats 1000000 in
set_option maxRecDepth 10000 in
theorem lc_drop (hLI : LI G μ ad ma oa σ δ) (hi : i + 5 ≤ L) (hL : L ≤ 2560) (hc : cn + 182 ≤ (mt_R M_law).cells) (hs : sn + 1092 ≤ (mt_R M_law).slots) (kk : ∀ μ' σ' δ', LI G μ' ad ma oa σ' δ' → WP G M_law (QL G b L xs) [(0, .ref b), (1, .ref (ad 0)), (2, .ref (ma 0)), (3, .ref oa), (4, .int (nI i))] 1292 [] μ' (cn + 182) (sn + 1092)) : WP G M_law (QL G b L xs) [(0, .ref b), (1, .ref (ad 0)), (2, .ref (ma 0)), (3, .ref oa), (4, .int (nI i))] 1044 [] μ cn sn := by
  obtain ⟨⟨φ0, g0, hC0⟩, ⟨τ, hM, hR⟩, ⟨f0, hf0⟩, hO⟩ := id hLI
  have ho : (Gp G (xb ma oa) μ).2.2.2.2 oa = some (.inl (G.2.2.1 2, 1, .inr (.inl f0))) := (pX_t (xb_o ma oa)).trans hf0
  refine wp_aload_n d_Law_law_1044 rfl rfl ?_
  refine wp_aload_n d_Law_law_1045 rfl rfl ?_
  refine wp_iload d_Law_law_1046 rfl ?_
  refine wp_iconst (v := 1) d_Law_law_1048 (by decide) ?_
  refine wp_iadd d_Law_law_1049 ?_
  refine wl_sld (j := i + 1) d_Law_law_1050 (nI_k 1 rfl) (by omega) (by omega) ?_
  refine wp_aload_n d_Law_law_1051 rfl rfl ?_
  refine wx_callSH d_Law_law_1052 cs_Law_134 cw_drop ⟨by decide, by decide⟩ (CTH.gp (ch_drop (r := S_drop (xs (i + 1)) σ δ) hC0 ho hO.1 (S_drop_le (xs (i + 1)) σ δ) (ct_drop hC0 (xs (i + 1))))) rfl rfl (Nat.le_of_ble_eq_true rfl) (show cn + 1 ≤ _ from Nat.le_trans (by omega) hc) (show sn + 6 ≤ _ from Nat.le_trans (by omega) hs) (fun E μ1 h => h.elim) (fun w μ1 hq => ?_)
  have hle := S_drop_le (xs (i + 1)) σ δ
  obtain ⟨rfl, hC1, ⟨τ1, hM1, hR1⟩, f1, hf1, ha1⟩ := hLI.help hq
  have hX1 := LM.x ⟨τ1, hM1, hR1⟩ ⟨f1, hf1⟩
  refine wp_istore d_Law_law_1055 (Nat.le_of_ble_eq_true rfl) ?_
  refine wp_aload_n d_Law_law_1057 rfl rfl ?_
  refine wp_aload_n d_Law_law_1058 rfl rfl ?_
  refine wp_iload d_Law_law_1059 rfl ?_
  refine wp_iconst (v := 1) d_Law_law_1061 (by decide) ?_
  refine wp_iadd d_Law_law_1062 ?_
  refine wl_sld (j := i + 1) d_Law_law_1063 (nI_k 1 rfl) (by omega) (by omega) ?_
  refine wx_callV d_Law_law_1064 cv_Law_136 cd_Model_drop ⟨by decide, by decide⟩ (cm_drop hM1 hR1 (xs (i + 1))) hM1.obj rfl rfl (Nat.le_of_ble_eq_true rfl) (show cn + 1 + 0 ≤ _ from Nat.le_trans (by omega) hc) (show sn + 6 + 0 ≤ _ from Nat.le_trans (by omega) hs) (fun E μ2 h => h.elim) (fun w μ2 hq => ?_)
  obtain ⟨τ2, y, rfl, hM2, hR2, ht2, hy⟩ := hq
  have hf2 := hM2.2.2.2 _ _ (fun j hj => hO.2 j hj) hf1
  have hL2 := LC.model hC1 hX1 hO ⟨f1, hf1⟩ hM2 hR2
  refine wp_istore d_Law_law_1067 (Nat.le_of_ble_eq_true rfl) ?_
  refine wp_aload_n d_Law_law_1069 rfl rfl ?_
  refine wx_callV d_Law_law_1070 cv_Law_86 cd_Model_thrown ⟨by decide, by decide⟩ (cm_thrown hM2) hM2.obj rfl rfl (Nat.le_of_ble_eq_true rfl) (show cn + 1 + 0 + 0 ≤ _ from Nat.le_trans (by omega) hc) (show sn + 6 + 0 + 0 ≤ _ from Nat.le_trans (by omega) hs) (fun E μ3 h => h.elim) (fun w μ3 hq => ?_)
  obtain ⟨rfl, rfl⟩ := hq
  refine wp_iload d_Law_law_1073 rfl ?_
  refine wp_icmp_eq (tgt := 1080) d_Law_law_1075 (by decide) (fun _ => ?_) (fun z => absurd ht2 z)
  refine wp_iload d_Law_law_1080 rfl ?_
  have fin : WP G M_law (QL G b L xs) (lst (lst [(0, .ref b), (1, .ref (ad 0)), (2, .ref (ma 0)), (3, .ref oa), (4, .int (nI i))] 5 (.int (nI (S_drop (xs (i + 1)) σ δ).1))) 6 (.int y)) 1097 [] μ3 (cn + 1 + 0 + 0) (sn + 6 + 0 + 0) := by
    refine wp_goto (tgt := 1292) d_Law_law_1097 (by decide) ?_
    exact WP.loc [(0, .ref b), (1, .ref (ad 0)), (2, .ref (ma 0)), (3, .ref oa), (4, .int (nI i))] rfl (WP.widen (show cn + 1 + 0 + 0 ≤ cn + 182 by omega) (show sn + 6 + 0 + 0 ≤ sn + 1092 by omega) (kk _ _ _ hL2))
  refine wp_if_ne (tgt := 1097) d_Law_law_1082 (by decide) (fun _ => fin) (fun z => ?_)
  have h0 := nI_z (by omega) z
  refine wp_aload_n d_Law_law_1085 rfl rfl ?_
  refine wp_iconst (v := 0) d_Law_law_1086 (by decide) ?_
  refine wp_lald (j := 0) d_Law_law_1087 hf2 rfl (by decide) (by decide) ?_
  refine wp_iload d_Law_law_1088 rfl ?_
  refine wp_i2l d_Law_law_1090 rfl ?_
  refine wp_lcmp d_Law_law_1091 ?_
  exact wp_if_eq (tgt := 1097) d_Law_law_1092 (by decide) (fun _ => fin) (fun z2 => absurd ((lg_cmp_eq _ _).mpr ((ha1 h0).trans (by rw [hy h0]))) z2)
set_option maxHeartbeats 1000000 in
set_option maxRecDepth 10000 in
theorem lc_look (hLI : LI G μ ad ma oa σ δ) (hi : i + 5 ≤ L) (hL : L ≤ 2560) (hc : cn + 182 ≤ (mt_R M_law).cells) (hs : sn + 1092 ≤ (mt_R M_law).slots) (kk : ∀ μ' σ' δ', LI G μ' ad ma oa σ' δ' → WP G M_law (QL G b L xs) [(0, .ref b), (1, .ref (ad 0)), (2, .ref (ma 0)), (3, .ref oa), (4, .int (nI i))] 1292 [] μ' (cn + 182) (sn + 1092)) : WP G M_law (QL G b L xs) [(0, .ref b), (1, .ref (ad 0)), (2, .ref (ma 0)), (3, .ref oa), (4, .int (nI i))] 1100 [] μ cn sn := by
  obtain ⟨⟨φ0, g0, hC0⟩, ⟨τ, hM, hR⟩, ⟨f0, hf0⟩, hO⟩ := id hLI
  have ho : (Gp G (xb ma oa) μ).2.2.2.2 oa = some (.inl (G.2.2.1 2, 1, .inr (.inl f0))) := (pX_t (xb_o ma oa)).trans hf0
  refine wp_aload_n d_Law_law_1100 rfl rfl ?_
  refine wp_aload_n d_Law_law_1101 rfl rfl ?_
  refine wp_iload d_Law_law_1102 rfl ?_
  refine wp_iconst (v := 1) d_Law_law_1104 (by decide) ?_
  refine wp_iadd d_Law_law_1105 ?_
  refine wl_sld (j := i + 1) d_Law_law_1106 (nI_k 1 rfl) (by omega) (by omega) ?_
  refine wp_aload_n d_Law_law_1107 rfl rfl ?_
  refine wp_iload d_Law_law_1108 rfl ?_
  refine wp_iconst (v := 2) d_Law_law_1110 (by decide) ?_
  refine wp_iadd d_Law_law_1111 ?_
  refine wl_sld (j := i + 2) d_Law_law_1112 (nI_k 2 rfl) (by omega) (by omega) ?_
  refine wp_aload_n d_Law_law_1113 rfl rfl ?_
  refine wx_callSH d_Law_law_1114 cs_Law_137 cw_look ⟨by decide, by decide⟩ (CTH.gp (ch_look (r := S_look (xs (i + 1)) (xs (i + 2)) σ δ) hC0 ho hO.1 (S_look_le (xs (i + 1)) (xs (i + 2)) σ δ) (ct_look hC0 (xs (i + 1)) (xs (i + 2))))) rfl rfl (Nat.le_of_ble_eq_true rfl) (show cn + 2 ≤ _ from Nat.le_trans (by omega) hc) (show sn + 12 ≤ _ from Nat.le_trans (by omega) hs) (fun E μ1 h => h.elim) (fun w μ1 hq => ?_)
  have hle := S_look_le (xs (i + 1)) (xs (i + 2)) σ δ
  obtain ⟨rfl, hC1, ⟨τ1, hM1, hR1⟩, f1, hf1, ha1⟩ := hLI.help hq
  have hX1 := LM.x ⟨τ1, hM1, hR1⟩ ⟨f1, hf1⟩
  refine wp_istore d_Law_law_1117 (Nat.le_of_ble_eq_true rfl) ?_
  refine wp_aload_n d_Law_law_1119 rfl rfl ?_
  refine wp_aload_n d_Law_law_1120 rfl rfl ?_
  refine wp_iload d_Law_law_1121 rfl ?_
  refine wp_iconst (v := 1) d_Law_law_1123 (by decide) ?_
  refine wp_iadd d_Law_law_1124 ?_
  refine wl_sld (j := i + 1) d_Law_law_1125 (nI_k 1 rfl) (by omega) (by omega) ?_
  refine wp_aload_n d_Law_law_1126 rfl rfl ?_
  refine wp_iload d_Law_law_1127 rfl ?_
  refine wp_iconst (v := 2) d_Law_law_1129 (by decide) ?_
  refine wp_iadd d_Law_law_1130 ?_
  refine wl_sld (j := i + 2) d_Law_law_1131 (nI_k 2 rfl) (by omega) (by omega) ?_
  refine wx_callV d_Law_law_1132 cv_Law_139 cd_Model_look ⟨by decide, by decide⟩ (cm_look hM1 hR1 (xs (i + 1)) (xs (i + 2))) hM1.obj rfl rfl (Nat.le_of_ble_eq_true rfl) (show cn + 2 + 0 ≤ _ from Nat.le_trans (by omega) hc) (show sn + 12 + 0 ≤ _ from Nat.le_trans (by omega) hs) (fun E μ2 h => h.elim) (fun w μ2 hq => ?_)
  obtain ⟨τ2, y, rfl, hM2, hR2, ht2, hy⟩ := hq
  have hf2 := hM2.2.2.2 _ _ (fun j hj => hO.2 j hj) hf1
  have hL2 := LC.model hC1 hX1 hO ⟨f1, hf1⟩ hM2 hR2
  refine wp_istore d_Law_law_1135 (Nat.le_of_ble_eq_true rfl) ?_
  refine wp_aload_n d_Law_law_1137 rfl rfl ?_
  refine wx_callV d_Law_law_1138 cv_Law_86 cd_Model_thrown ⟨by decide, by decide⟩ (cm_thrown hM2) hM2.obj rfl rfl (Nat.le_of_ble_eq_true rfl) (show cn + 2 + 0 + 0 ≤ _ from Nat.le_trans (by omega) hc) (show sn + 12 + 0 + 0 ≤ _ from Nat.le_trans (by omega) hs) (fun E μ3 h => h.elim) (fun w μ3 hq => ?_)
  obtain ⟨rfl, rfl⟩ := hq
  refine wp_iload d_Law_law_1141 rfl ?_
  refine wp_icmp_eq (tgt := 1148) d_Law_law_1143 (by decide) (fun _ => ?_) (fun z => absurd ht2 z)
  refine wp_iload d_Law_law_1148 rfl ?_
  have fin : WP G M_law (QL G b L xs) (lst (lst [(0, .ref b), (1, .ref (ad 0)), (2, .ref (ma 0)), (3, .ref oa), (4, .int (nI i))] 5 (.int (nI (S_look (xs (i + 1)) (xs (i + 2)) σ δ).1))) 6 (.int y)) 1165 [] μ3 (cn + 2 + 0 + 0) (sn + 12 + 0 + 0) := by
    refine wp_goto (tgt := 1292) d_Law_law_1165 (by decide) ?_
    exact WP.loc [(0, .ref b), (1, .ref (ad 0)), (2, .ref (ma 0)), (3, .ref oa), (4, .int (nI i))] rfl (WP.widen (show cn + 2 + 0 + 0 ≤ cn + 182 by omega) (show sn + 12 + 0 + 0 ≤ sn + 1092 by omega) (kk _ _ _ hL2))
  refine wp_if_ne (tgt := 1165) d_Law_law_1150 (by decide) (fun _ => fin) (fun z => ?_)
  have h0 := nI_z (by omega) z
  refine wp_aload_n d_Law_law_1153 rfl rfl ?_
  refine wp_iconst (v := 0) d_Law_law_1154 (by decide) ?_
  refine wp_lald (j := 0) d_Law_law_1155 hf2 rfl (by decide) (by decide) ?_
  refine wp_iload d_Law_law_1156 rfl ?_
  refine wp_i2l d_Law_law_1158 rfl ?_
  refine wp_lcmp d_Law_law_1159 ?_
  exact wp_if_eq (tgt := 1165) d_Law_law_1160 (by decide) (fun _ => fin) (fun z2 => absurd ((lg_cmp_eq _ _).mpr ((ha1 h0).trans (by rw [hy h0]))) z2)
set_option maxHeartbeats 1000000 in
set_option maxRecDepth 10000 in
theorem lc_client (hLI : LI G μ ad ma oa σ δ) (hi : i + 5 ≤ L) (hL : L ≤ 2560) (hc : cn + 182 ≤ (mt_R M_law).cells) (hs : sn + 1092 ≤ (mt_R M_law).slots) (kk : ∀ μ' σ' δ', LI G μ' ad ma oa σ' δ' → WP G M_law (QL G b L xs) [(0, .ref b), (1, .ref (ad 0)), (2, .ref (ma 0)), (3, .ref oa), (4, .int (nI i))] 1292 [] μ' (cn + 182) (sn + 1092)) : WP G M_law (QL G b L xs) [(0, .ref b), (1, .ref (ad 0)), (2, .ref (ma 0)), (3, .ref oa), (4, .int (nI i))] 1168 [] μ cn sn := by
  obtain ⟨⟨φ0, g0, hC0⟩, ⟨τ, hM, hR⟩, ⟨f0, hf0⟩, hO⟩ := id hLI
  have ho : (Gp G (xb ma oa) μ).2.2.2.2 oa = some (.inl (G.2.2.1 2, 1, .inr (.inl f0))) := (pX_t (xb_o ma oa)).trans hf0
  refine wp_aload_n d_Law_law_1168 rfl rfl ?_
  refine wp_aload_n d_Law_law_1169 rfl rfl ?_
  refine wp_iload d_Law_law_1170 rfl ?_
  refine wp_iconst (v := 1) d_Law_law_1172 (by decide) ?_
  refine wp_iadd d_Law_law_1173 ?_
  refine wl_sld (j := i + 1) d_Law_law_1174 (nI_k 1 rfl) (by omega) (by omega) ?_
  refine wp_aload_n d_Law_law_1175 rfl rfl ?_
  refine wp_iload d_Law_law_1176 rfl ?_
  refine wp_iconst (v := 2) d_Law_law_1178 (by decide) ?_
  refine wp_iadd d_Law_law_1179 ?_
  refine wl_sld (j := i + 2) d_Law_law_1180 (nI_k 2 rfl) (by omega) (by omega) ?_
  refine wp_aload_n d_Law_law_1181 rfl rfl ?_
  refine wx_callSH d_Law_law_1182 cs_Law_140 cw_client ⟨by decide, by decide⟩ (CTH.gp (ch_client (r := S_client (xs (i + 1)) (xs (i + 2)) σ δ) hC0 ho hO.1 (S_client_le (xs (i + 1)) (xs (i + 2)) σ δ) (ct_client hC0 hR.pi (xs (i + 1)) (xs (i + 2))))) rfl rfl (Nat.le_of_ble_eq_true rfl) (show cn + 2 ≤ _ from Nat.le_trans (by omega) hc) (show sn + 12 ≤ _ from Nat.le_trans (by omega) hs) (fun E μ1 h => h.elim) (fun w μ1 hq => ?_)
  have hle := S_client_le (xs (i + 1)) (xs (i + 2)) σ δ
  obtain ⟨rfl, hC1, ⟨τ1, hM1, hR1⟩, f1, hf1, ha1⟩ := hLI.help hq
  have hX1 := LM.x ⟨τ1, hM1, hR1⟩ ⟨f1, hf1⟩
  refine wp_istore d_Law_law_1185 (Nat.le_of_ble_eq_true rfl) ?_
  refine wp_aload_n d_Law_law_1187 rfl rfl ?_
  refine wp_aload_n d_Law_law_1188 rfl rfl ?_
  refine wp_iload d_Law_law_1189 rfl ?_
  refine wp_iconst (v := 1) d_Law_law_1191 (by decide) ?_
  refine wp_iadd d_Law_law_1192 ?_
  refine wl_sld (j := i + 1) d_Law_law_1193 (nI_k 1 rfl) (by omega) (by omega) ?_
  refine wp_aload_n d_Law_law_1194 rfl rfl ?_
  refine wp_iload d_Law_law_1195 rfl ?_
  refine wp_iconst (v := 2) d_Law_law_1197 (by decide) ?_
  refine wp_iadd d_Law_law_1198 ?_
  refine wl_sld (j := i + 2) d_Law_law_1199 (nI_k 2 rfl) (by omega) (by omega) ?_
  refine wx_callV d_Law_law_1200 cv_Law_142 cd_Model_client ⟨by decide, by decide⟩ (cm_client hM1 hR1 (xs (i + 1)) (xs (i + 2))) hM1.obj rfl rfl (Nat.le_of_ble_eq_true rfl) (show cn + 2 + 0 ≤ _ from Nat.le_trans (by omega) hc) (show sn + 12 + 0 ≤ _ from Nat.le_trans (by omega) hs) (fun E μ2 h => h.elim) (fun w μ2 hq => ?_)
  obtain ⟨τ2, y, rfl, hM2, hR2, ht2, hy⟩ := hq
  have hf2 := hM2.2.2.2 _ _ (fun j hj => hO.2 j hj) hf1
  have hL2 := LC.model hC1 hX1 hO ⟨f1, hf1⟩ hM2 hR2
  refine wp_istore d_Law_law_1203 (Nat.le_of_ble_eq_true rfl) ?_
  refine wp_aload_n d_Law_law_1205 rfl rfl ?_
  refine wx_callV d_Law_law_1206 cv_Law_86 cd_Model_thrown ⟨by decide, by decide⟩ (cm_thrown hM2) hM2.obj rfl rfl (Nat.le_of_ble_eq_true rfl) (show cn + 2 + 0 + 0 ≤ _ from Nat.le_trans (by omega) hc) (show sn + 12 + 0 + 0 ≤ _ from Nat.le_trans (by omega) hs) (fun E μ3 h => h.elim) (fun w μ3 hq => ?_)
  obtain ⟨rfl, rfl⟩ := hq
  refine wp_iload d_Law_law_1209 rfl ?_
  refine wp_icmp_eq (tgt := 1216) d_Law_law_1211 (by decide) (fun _ => ?_) (fun z => absurd ht2 z)
  refine wp_iload d_Law_law_1216 rfl ?_
  have fin : WP G M_law (QL G b L xs) (lst (lst [(0, .ref b), (1, .ref (ad 0)), (2, .ref (ma 0)), (3, .ref oa), (4, .int (nI i))] 5 (.int (nI (S_client (xs (i + 1)) (xs (i + 2)) σ δ).1))) 6 (.int y)) 1233 [] μ3 (cn + 2 + 0 + 0) (sn + 12 + 0 + 0) := by
    refine wp_goto (tgt := 1292) d_Law_law_1233 (by decide) ?_
    exact WP.loc [(0, .ref b), (1, .ref (ad 0)), (2, .ref (ma 0)), (3, .ref oa), (4, .int (nI i))] rfl (WP.widen (show cn + 2 + 0 + 0 ≤ cn + 182 by omega) (show sn + 12 + 0 + 0 ≤ sn + 1092 by omega) (kk _ _ _ hL2))
  refine wp_if_ne (tgt := 1233) d_Law_law_1218 (by decide) (fun _ => fin) (fun z => ?_)
  have h0 := nI_z (by omega) z
  refine wp_aload_n d_Law_law_1221 rfl rfl ?_
  refine wp_iconst (v := 0) d_Law_law_1222 (by decide) ?_
  refine wp_lald (j := 0) d_Law_law_1223 hf2 rfl (by decide) (by decide) ?_
  refine wp_iload d_Law_law_1224 rfl ?_
  refine wp_i2l d_Law_law_1226 rfl ?_
  refine wp_lcmp d_Law_law_1227 ?_
  exact wp_if_eq (tgt := 1233) d_Law_law_1228 (by decide) (fun _ => fin) (fun z2 => absurd ((lg_cmp_eq _ _).mpr ((ha1 h0).trans (by rw [hy h0]))) z2)
set_option maxHeartbeats 1000000 in
set_option maxRecDepth 10000 in
theorem lc_count (hLI : LI G μ ad ma oa σ δ) (hi : i + 5 ≤ L) (hL : L ≤ 2560) (hc : cn + 182 ≤ (mt_R M_law).cells) (hs : sn + 1092 ≤ (mt_R M_law).slots) (kk : ∀ μ' σ' δ', LI G μ' ad ma oa σ' δ' → WP G M_law (QL G b L xs) [(0, .ref b), (1, .ref (ad 0)), (2, .ref (ma 0)), (3, .ref oa), (4, .int (nI i))] 1292 [] μ' (cn + 182) (sn + 1092)) : WP G M_law (QL G b L xs) [(0, .ref b), (1, .ref (ad 0)), (2, .ref (ma 0)), (3, .ref oa), (4, .int (nI i))] 1236 [] μ cn sn := by
  obtain ⟨⟨φ0, g0, hC0⟩, ⟨τ, hM, hR⟩, ⟨f0, hf0⟩, hO⟩ := id hLI
  have ho : (Gp G (xb ma oa) μ).2.2.2.2 oa = some (.inl (G.2.2.1 2, 1, .inr (.inl f0))) := (pX_t (xb_o ma oa)).trans hf0
  refine wp_aload_n d_Law_law_1236 rfl rfl ?_
  refine wp_aload_n d_Law_law_1237 rfl rfl ?_
  refine wp_iload d_Law_law_1238 rfl ?_
  refine wp_iconst (v := 1) d_Law_law_1240 (by decide) ?_
  refine wp_iadd d_Law_law_1241 ?_
  refine wl_sld (j := i + 1) d_Law_law_1242 (nI_k 1 rfl) (by omega) (by omega) ?_
  refine wp_aload_n d_Law_law_1243 rfl rfl ?_
  refine wx_callSH d_Law_law_1244 cs_Law_143 cw_count ⟨by decide, by decide⟩ (CTH.gp (ch_count (r := S_count (xs (i + 1)) σ δ) hC0 ho hO.1 (S_count_le (xs (i + 1)) σ δ) (ct_count hC0 (xs (i + 1))))) rfl rfl (Nat.le_of_ble_eq_true rfl) (show cn + 1 ≤ _ from Nat.le_trans (by omega) hc) (show sn + 6 ≤ _ from Nat.le_trans (by omega) hs) (fun E μ1 h => h.elim) (fun w μ1 hq => ?_)
  have hle := S_count_le (xs (i + 1)) σ δ
  obtain ⟨rfl, hC1, ⟨τ1, hM1, hR1⟩, f1, hf1, ha1⟩ := hLI.help hq
  have hX1 := LM.x ⟨τ1, hM1, hR1⟩ ⟨f1, hf1⟩
  refine wp_istore d_Law_law_1247 (Nat.le_of_ble_eq_true rfl) ?_
  refine wp_aload_n d_Law_law_1249 rfl rfl ?_
  refine wp_aload_n d_Law_law_1250 rfl rfl ?_
  refine wp_iload d_Law_law_1251 rfl ?_
  refine wp_iconst (v := 1) d_Law_law_1253 (by decide) ?_
  refine wp_iadd d_Law_law_1254 ?_
  refine wl_sld (j := i + 1) d_Law_law_1255 (nI_k 1 rfl) (by omega) (by omega) ?_
  refine wx_callV d_Law_law_1256 cv_Law_145 cd_Model_count ⟨by decide, by decide⟩ (cm_count hM1 hR1 (xs (i + 1))) hM1.obj rfl rfl (Nat.le_of_ble_eq_true rfl) (show cn + 1 + 0 ≤ _ from Nat.le_trans (by omega) hc) (show sn + 6 + 0 ≤ _ from Nat.le_trans (by omega) hs) (fun E μ2 h => h.elim) (fun w μ2 hq => ?_)
  obtain ⟨τ2, y, rfl, hM2, hR2, ht2, hy⟩ := hq
  have hf2 := hM2.2.2.2 _ _ (fun j hj => hO.2 j hj) hf1
  have hL2 := LC.model hC1 hX1 hO ⟨f1, hf1⟩ hM2 hR2
  refine wp_istore d_Law_law_1259 (Nat.le_of_ble_eq_true rfl) ?_
  refine wp_aload_n d_Law_law_1261 rfl rfl ?_
  refine wx_callV d_Law_law_1262 cv_Law_86 cd_Model_thrown ⟨by decide, by decide⟩ (cm_thrown hM2) hM2.obj rfl rfl (Nat.le_of_ble_eq_true rfl) (show cn + 1 + 0 + 0 ≤ _ from Nat.le_trans (by omega) hc) (show sn + 6 + 0 + 0 ≤ _ from Nat.le_trans (by omega) hs) (fun E μ3 h => h.elim) (fun w μ3 hq => ?_)
  obtain ⟨rfl, rfl⟩ := hq
  refine wp_iload d_Law_law_1265 rfl ?_
  refine wp_icmp_eq (tgt := 1272) d_Law_law_1267 (by decide) (fun _ => ?_) (fun z => absurd ht2 z)
  refine wp_iload d_Law_law_1272 rfl ?_
  have fin : WP G M_law (QL G b L xs) (lst (lst [(0, .ref b), (1, .ref (ad 0)), (2, .ref (ma 0)), (3, .ref oa), (4, .int (nI i))] 5 (.int (nI (S_count (xs (i + 1)) σ δ).1))) 6 (.int y)) 1289 [] μ3 (cn + 1 + 0 + 0) (sn + 6 + 0 + 0) := by
    refine wp_goto (tgt := 1292) d_Law_law_1289 (by decide) ?_
    exact WP.loc [(0, .ref b), (1, .ref (ad 0)), (2, .ref (ma 0)), (3, .ref oa), (4, .int (nI i))] rfl (WP.widen (show cn + 1 + 0 + 0 ≤ cn + 182 by omega) (show sn + 6 + 0 + 0 ≤ sn + 1092 by omega) (kk _ _ _ hL2))
  refine wp_if_ne (tgt := 1289) d_Law_law_1274 (by decide) (fun _ => fin) (fun z => ?_)
  have h0 := nI_z (by omega) z
  refine wp_aload_n d_Law_law_1277 rfl rfl ?_
  refine wp_iconst (v := 0) d_Law_law_1278 (by decide) ?_
  refine wp_lald (j := 0) d_Law_law_1279 hf2 rfl (by decide) (by decide) ?_
  refine wp_iload d_Law_law_1280 rfl ?_
  refine wp_i2l d_Law_law_1282 rfl ?_
  refine wp_lcmp d_Law_law_1283 ?_
  exact wp_if_eq (tgt := 1289) d_Law_law_1284 (by decide) (fun _ => fin) (fun z2 => absurd ((lg_cmp_eq _ _).mpr ((ha1 h0).trans (by rw [hy h0]))) z2)
end LCS
