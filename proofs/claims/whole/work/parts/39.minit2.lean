/-! THE REFERENCE'S CONSTRUCTOR -/
section MIni
variable {G : mt_G} {μ : mu_M}
set_option maxHeartbeats 1000000 in
theorem RP_0 {τ : sg} (h : ∀ i, i ≠ 10 → i ≠ 11 → i ≠ 12 → τ i = τ00 i) (hr : τ 10 0 = 12 ∧ τ 10 1 = 34) (hk : ∀ c, c < 4 → τ 11 c = 1 ∧ τ 12 (2 * c) = 12 ∧ τ 12 (2 * c + 1) = 34) : RP τ σ0 δ0 := by
  have hz : ∀ i k, i ≠ 10 → i ≠ 11 → i ≠ 12 → 0 < i → τ i k = 0 := fun i k a b c d => by rw [h i a b c, τ00_a d]
  have h0 : ∀ k, τ 0 k = τ00 0 k := fun k => by rw [h 0 (by decide) (by decide) (by decide)]
  have hm : mk (fun _ => 0) = 0 := by decide
  have hdl : ∀ k b, b < 2 → vr (δ0 k b) = true := fun k b hb => by
    rcases (show b = 0 ∨ b = 1 by omega) with rfl | rfl
    · exact vr12
    · exact vr34
  refine ⟨fun u o hu ho => Or.inl ⟨hz 1 _ (by decide) (by decide) (by decide) (by decide), σ0_z (by unfold eR; omega) (by unfold eR; omega)⟩, fun u hu => ?_, fun u hu => ?_, ?_, fun b hb => ?_, ?_, ?_, ?_, fun c hc => ?_, fun c b hc hb => ?_, fun c hc => ?_, fun c k hc hk => ?_, fun c k hc hk => ?_, fun c hc => ?_, fun c hc => ?_, fun c k hc hk => ?_, fun c hc => ?_, fun c k hc hk => ?_, fun k b _ hb => hdl k b hb, ⟨0, by omega, rfl⟩, fun c hc => ⟨0, by omega, σ0_z (by omega) (by omega)⟩, Or.inl rfl, fun u hu => Or.inr (σ0_u1 hu), fun c hc => Or.inl (σ0_z (by omega) (by omega)), fun c k hc hk => ⟨Or.inl (σ0_z (by omega) (by omega)), Or.inl (σ0_z (by omega) (by omega))⟩, fun u o hu ho k hk => ⟨Or.inl (σ0_z (by unfold eR; omega) (by unfold eR; omega)), Or.inl (σ0_z (by unfold eR; omega) (by unfold eR; omega))⟩⟩
  · rw [hz 8 _ (by decide) (by decide) (by decide) (by decide), σ0_u1 hu]; rfl
  · rw [hz 9 _ (by decide) (by decide) (by decide) (by decide), σ0_u2 hu]
  · rw [h0]; rfl
  · rcases (show b = 0 ∨ b = 1 by omega) with rfl | rfl
    · exact hr.1
    · exact hr.2
  · rw [h0]; rfl
  · rw [h0]; rfl
  · rw [h0]; rfl
  · rw [(hk c hc).1, σ0_e (by omega) (by omega)]
  · rcases (show b = 0 ∨ b = 1 by omega) with rfl | rfl
    · exact (hk c hc).2.1
    · exact (hk c hc).2.2
  · rw [hz 13 _ (by decide) (by decide) (by decide) (by decide), σ0_z (by omega) (by omega)]
  · rw [hz 14 _ (by decide) (by decide) (by decide) (by decide), σ0_z (by omega) (by omega)]
  · rw [hz 15 _ (by decide) (by decide) (by decide) (by decide), σ0_z (by omega) (by omega)]
  · rw [hz 16 _ (by decide) (by decide) (by decide) (by decide), σ0_z (by omega) (by omega)]
  · rw [hz 17 _ (by decide) (by decide) (by decide) (by decide), σ0_zf (by omega) (by omega), hm]; rfl
  · rw [hz 18 _ (by decide) (by decide) (by decide) (by decide), σ0_z (by omega) (by omega)]
  · rw [hz 19 _ (by decide) (by decide) (by decide) (by decide), σ0_zf (by omega) (by omega), hm]; rfl
  · rw [hz 20 _ (by decide) (by decide) (by decide) (by decide), σ0_z (by omega) (by omega)]
def PMN (G : mt_G) (μ : mu_M) (a0 : Nat) : Option Value → mu_M → Prop := fun v μ' => v = none ∧ ∃ (ma : Nat → Nat) (τ : sg), ma 0 = a0 ∧ Mx G μ μ' ma τ ∧ RP τ σ0 δ0 ∧ ∀ i, 0 < i → i < 21 → μ (ma i) = none
set_option maxHeartbeats 4000000 in
set_option maxRecDepth 10000 in
theorem ct_Model_init (a0 : Nat) (h : μ a0 = some (.inr (7, [.int 0, .null, .null, .null, .null, .null, .null, .null, .null, .null, .int 0, .null, .int 0, .int 0, .int 0, .null, .null, .null, .null, .null, .null, .null, .null, .null, .null, .int 0]))) (hB : G.2.2.2.1 ≤ a0) : CTI G M_Model_init [.ref a0] μ (PMN G μ a0) := by
  refine CTI.of (by decide) rfl (Nat.le_of_ble_eq_true rfl) (wp_Model_init1 hB h (fun μn ma hma0 hmn hM => ?_))
  have loop : ∀ (n c : Nat) (τ1 : sg) (μ1 : mu_M), c + n = 4 → Mx G μ μ1 ma τ1 → (∀ i, i ≠ 10 → i ≠ 11 → i ≠ 12 → τ1 i = τ00 i) → τ1 10 0 = 12 ∧ τ1 10 1 = 34 → (∀ j, j < c → τ1 11 j = 1 ∧ τ1 12 (2 * j) = 12 ∧ τ1 12 (2 * j + 1) = 34) → WP G M_Model_init (ECI G M_Model_init (PMN G μ a0)) [(0, .ref (ma 0)), (1, .int (nI c))] 193 [] μ1 20 5200 := by
    intro n
    induction n with
    | zero =>
      intro c τ1 μ1 hc hM h1 h2 h3
      obtain rfl : c = 4 := by omega
      refine wp_iload_n d_Model_init_193 rfl rfl ?_
      refine wp_iconst (v := 4) d_Model_init_194 (by decide) ?_
      refine wp_icmp_ge (tgt := 209) d_Model_init_195 (by decide) (fun c195 => ?_) (fun c195 => ?_)
      · exact wp_vretI d_Model_init_209 rfl (by decide) (by decide) ⟨rfl, ma, τ1, hma0, hM, RP_0 h1 h2 h3, hmn⟩
      · exact absurd (by decide) c195
    | succ n ih =>
      intro c τ1 μ1 hc hM h1 h2 h3
      refine wp_iload_n d_Model_init_193 rfl rfl ?_
      refine wp_iconst (v := 4) d_Model_init_194 (by decide) ?_
      refine wp_icmp_ge (tgt := 209) d_Model_init_195 (by decide) (fun c195 => ?_) (fun c195 => ?_)
      · exact absurd ((nI_leI (a := 4) (by omega) (by omega)).mp c195) (by omega)
      refine wp_aload_n d_Model_init_198 rfl rfl ?_
      refine wp_iload_n d_Model_init_199 rfl rfl ?_
      refine wx_callV d_Model_init_200 cv_Model_78 cd_Model_learnNow ⟨by decide, by decide⟩ (cm_learnNow hM (c := c) (by omega)) hM.obj rfl rfl (Nat.le_of_ble_eq_true rfl) (Nat.le_of_ble_eq_true rfl) (Nat.le_of_ble_eq_true rfl) (fun E1 μ2 hq => hq.elim) (fun v1 μ2 hq => ?_)
      obtain ⟨rfl, hM⟩ := hq
      refine wp_iinc d_Model_init_203 rfl rfl (by decide) ?_
      refine wp_goto (tgt := 193) d_Model_init_206 (by decide) ?_
      refine WP.loc [(0, .ref (ma 0)), (1, .int (nI (c + 1)))] (by rw [← nI_1 c]; rfl) (ih (c + 1) _ _ (by omega) hM (fun i a b d => ?_) h2 (fun j hj => ?_))
      · rw [up2_n d, up2_n d, up2_n b]; exact h1 i a b d
      · have e01 : τ1 0 1 = 1 := by rw [h1 0 (by decide) (by decide) (by decide)]; rfl
        show va_up (τ1 11) c (τ1 0 1) j = 1 ∧ va_up (va_up (τ1 12) (2 * c) (τ1 10 0)) (2 * c + 1) (τ1 10 1) (2 * j) = 12 ∧ va_up (va_up (τ1 12) (2 * c) (τ1 10 0)) (2 * c + 1) (τ1 10 1) (2 * j + 1) = 34
        by_cases e : j = c
        · rw [e, va_up_self, va_up_ne _ _ (by omega), va_up_self, va_up_self]
          exact ⟨e01, h2⟩
        · rw [va_up_ne _ _ e, va_up_ne _ _ (by omega), va_up_ne _ _ (by omega), va_up_ne _ _ (by omega), va_up_ne _ _ (by omega)]
          exact h3 j (by omega)
  rw [← hma0]
  refine wp_aload_n d_Model_init_175 rfl rfl ?_
  refine wp_get d_Model_init_176 fl_Model_42 hM.obj (by rfl) ?_
  refine wp_iconst (v := 0) d_Model_init_179 (by decide) ?_
  refine wp_bipush (v := 12) d_Model_init_180 (by decide) ?_
  refine wm_ast (i := 10) (n := 2) hM (by decide) (by decide) rfl rfl d_Model_init_182 ixc0 (by omega) (fun μa hM => ?_)
  refine wp_aload_n d_Model_init_183 rfl rfl ?_
  refine wp_get d_Model_init_184 fl_Model_42 hM.obj (by rfl) ?_
  refine wp_iconst (v := 1) d_Model_init_187 (by decide) ?_
  refine wp_bipush (v := 34) d_Model_init_188 (by decide) ?_
  refine wm_ast (i := 10) (n := 2) hM (by decide) (by decide) rfl rfl d_Model_init_190 ixc1 (by omega) (fun μb hM => ?_)
  refine wp_iconst (v := 0) d_Model_init_191 (by decide) ?_
  refine wp_istore_n d_Model_init_192 rfl (by decide) ?_
  refine WP.loc [(0, .ref (ma 0)), (1, .int (nI 0))] rfl (WP.widen (k := 20) (n := 5200) (Nat.le_of_ble_eq_true rfl) (Nat.le_of_ble_eq_true rfl) ?_)
  have l0 := loop 4 0 _ _ rfl hM (fun i a b d => by rw [up2_n a, up2_n a]) ⟨rfl, rfl⟩ (fun j hj => absurd hj (by omega))
  rw [← hma0] at l0
  exact l0
end MIni
