/-! THE REFERENCE: change itself -/
theorem up2_up2 (r : sg) (i k : Nat) (x y : Int32) : up2 (up2 r i k x) i k y = up2 r i k y := by
  funext j o
  by_cases h : j = i
  · subst h
    rw [up2_s, up2_s, up2_s]
    by_cases h2 : o = k
    · rw [h2, va_up_self, va_up_self]
    · rw [va_up_ne _ _ h2, va_up_ne _ _ h2, va_up_ne _ _ h2]
  · rw [up2_n h, up2_n h, up2_n h]
section RPup3
variable {τ σ : sg} {δ : dg}
theorem RP.inst (hR : RP τ σ δ) {ch d : Nat} (hch : ch < 2) (hd : vr d = true) (x : Int32) : RP (up2 (up2 τ 10 ch (nI d)) 0 1 x) (up2 σ 500 0 x) (va_up δ 0 (va_up (δ 0) ch d)) := by
  have hk : ∀ c, va_up δ 0 (va_up (δ 0) ch d) (1 + c) = δ (1 + c) := fun c => va_up_ne _ _ (by omega)
  have h0 : va_up δ 0 (va_up (δ 0) ch d) 0 = va_up (δ 0) ch d := va_up_self _ _ _
  exact ⟨(fun u9 o9 hu9 ho9 => by have q9 := hR.en u9 o9 hu9 ho9; first | exact q9 | (simp (disch := omega) only [up2_n, up2_s, va_up_ne, va_up_self] ; exact q9) | (simp (disch := omega) only [eR, up2_n, up2_s, va_up_ne, va_up_self] at q9 ⊢ ; exact q9)), (fun u9 hu9 => by have q9 := hR.dn u9 hu9; first | exact q9 | (simp (disch := omega) only [up2_n, up2_s, va_up_ne, va_up_self] ; exact q9) | (simp (disch := omega) only [eR, up2_n, up2_s, va_up_ne, va_up_self] at q9 ⊢ ; exact q9)), (fun u9 hu9 => by have q9 := hR.sl u9 hu9; first | exact q9 | (simp (disch := omega) only [up2_n, up2_s, va_up_ne, va_up_self] ; exact q9) | (simp (disch := omega) only [eR, up2_n, up2_s, va_up_ne, va_up_self] at q9 ⊢ ; exact q9)), (by rw [up2_s, up2_s, va_up_self, va_up_self]), (fun b hb => by rw [h0]; show va_up (τ 10) ch (nI d) b = _; exact (Decidable.em (b = ch)).elim (fun e => by rw [e, va_up_self, va_up_self]) (fun e => by rw [va_up_ne _ _ e, va_up_ne _ _ e]; exact hR.rw b hb)), (by have q9 := hR.sq; first | exact q9 | (simp (disch := omega) only [up2_n, up2_s, va_up_ne, va_up_self] ; exact q9) | (simp (disch := omega) only [eR, up2_n, up2_s, va_up_ne, va_up_self] at q9 ⊢ ; exact q9)), (by have q9 := hR.ls; first | exact q9 | (simp (disch := omega) only [up2_n, up2_s, va_up_ne, va_up_self] ; exact q9) | (simp (disch := omega) only [eR, up2_n, up2_s, va_up_ne, va_up_self] at q9 ⊢ ; exact q9)), (by have q9 := hR.nx; first | exact q9 | (simp (disch := omega) only [up2_n, up2_s, va_up_ne, va_up_self] ; exact q9) | (simp (disch := omega) only [eR, up2_n, up2_s, va_up_ne, va_up_self] at q9 ⊢ ; exact q9)), (fun c9 hc9 => by have q9 := hR.kn c9 hc9; first | exact q9 | (simp (disch := omega) only [up2_n, up2_s, va_up_ne, va_up_self] ; exact q9) | (simp (disch := omega) only [eR, up2_n, up2_s, va_up_ne, va_up_self] at q9 ⊢ ; exact q9)), (fun c b hc hb => by rw [hk c]; exact hR.kr c b hc hb), (fun c9 hc9 => by have q9 := hR.po c9 hc9; first | exact q9 | (simp (disch := omega) only [up2_n, up2_s, va_up_ne, va_up_self] ; exact q9) | (simp (disch := omega) only [eR, up2_n, up2_s, va_up_ne, va_up_self] at q9 ⊢ ; exact q9)), (fun c9 k9 hc9 hk9 => by have q9 := hR.nw c9 k9 hc9 hk9; first | exact q9 | (simp (disch := omega) only [up2_n, up2_s, va_up_ne, va_up_self] ; exact q9) | (simp (disch := omega) only [eR, up2_n, up2_s, va_up_ne, va_up_self] at q9 ⊢ ; exact q9)), (fun c9 k9 hc9 hk9 => by have q9 := hR.ag c9 k9 hc9 hk9; first | exact q9 | (simp (disch := omega) only [up2_n, up2_s, va_up_ne, va_up_self] ; exact q9) | (simp (disch := omega) only [eR, up2_n, up2_s, va_up_ne, va_up_self] at q9 ⊢ ; exact q9)), (fun c9 hc9 => by have q9 := hR.op c9 hc9; first | exact q9 | (simp (disch := omega) only [up2_n, up2_s, va_up_ne, va_up_self] ; exact q9) | (simp (disch := omega) only [eR, up2_n, up2_s, va_up_ne, va_up_self] at q9 ⊢ ; exact q9)), (fun c9 hc9 => by have q9 := hR.se c9 hc9; first | exact q9 | (simp (disch := omega) only [up2_n, up2_s, va_up_ne, va_up_self] ; exact q9) | (simp (disch := omega) only [eR, up2_n, up2_s, va_up_ne, va_up_self] at q9 ⊢ ; exact q9)), (fun c9 k9 hc9 hk9 => by have q9 := hR.sa c9 k9 hc9 hk9; first | exact q9 | (simp (disch := omega) only [up2_n, up2_s, va_up_ne, va_up_self] ; exact q9) | (simp (disch := omega) only [eR, up2_n, up2_s, va_up_ne, va_up_self] at q9 ⊢ ; exact q9)), (fun c9 hc9 => by have q9 := hR.gi c9 hc9; first | exact q9 | (simp (disch := omega) only [up2_n, up2_s, va_up_ne, va_up_self] ; exact q9) | (simp (disch := omega) only [eR, up2_n, up2_s, va_up_ne, va_up_self] at q9 ⊢ ; exact q9)), (fun c9 k9 hc9 hk9 => by have q9 := hR.gv c9 k9 hc9 hk9; first | exact q9 | (simp (disch := omega) only [up2_n, up2_s, va_up_ne, va_up_self] ; exact q9) | (simp (disch := omega) only [eR, up2_n, up2_s, va_up_ne, va_up_self] at q9 ⊢ ; exact q9)), (fun k b hk9 hb => (Decidable.em (k = 0)).elim (fun e => by rw [e, h0]; exact (Decidable.em (b = ch)).elim (fun e2 => by rw [e2, va_up_self]; exact hd) (fun e2 => by rw [va_up_ne _ _ e2]; exact hR.p1 0 b (by omega) hb)) (fun e => by rw [va_up_ne _ _ e]; exact hR.p1 k b hk9 hb)), (by have q9 := hR.p2; first | exact q9 | (simp (disch := omega) only [up2_n, up2_s, va_up_ne, va_up_self] ; exact q9) | (simp (disch := omega) only [eR, up2_n, up2_s, va_up_ne, va_up_self] at q9 ⊢ ; exact q9)), (fun c9 hc9 => by have q9 := hR.p3 c9 hc9; first | exact q9 | (simp (disch := omega) only [up2_n, up2_s, va_up_ne, va_up_self] ; exact q9) | (simp (disch := omega) only [eR, up2_n, up2_s, va_up_ne, va_up_self] at q9 ⊢ ; exact q9)), (by have q9 := hR.p4; first | exact q9 | (simp (disch := omega) only [up2_n, up2_s, va_up_ne, va_up_self] ; exact q9) | (simp (disch := omega) only [eR, up2_n, up2_s, va_up_ne, va_up_self] at q9 ⊢ ; exact q9)), (fun u9 hu9 => by have q9 := hR.p5 u9 hu9; first | exact q9 | (simp (disch := omega) only [up2_n, up2_s, va_up_ne, va_up_self] ; exact q9) | (simp (disch := omega) only [eR, up2_n, up2_s, va_up_ne, va_up_self] at q9 ⊢ ; exact q9)), (fun c9 hc9 => by have q9 := hR.p6 c9 hc9; first | exact q9 | (simp (disch := omega) only [up2_n, up2_s, va_up_ne, va_up_self] ; exact q9) | (simp (disch := omega) only [eR, up2_n, up2_s, va_up_ne, va_up_self] at q9 ⊢ ; exact q9)), (fun c9 k9 hc9 hk9 => by have q9 := hR.p7 c9 k9 hc9 hk9; first | exact q9 | (simp (disch := omega) only [up2_n, up2_s, va_up_ne, va_up_self] ; exact q9) | (simp (disch := omega) only [eR, up2_n, up2_s, va_up_ne, va_up_self] at q9 ⊢ ; exact q9)), (fun u9 o9 hu9 ho9 => by have q9 := hR.p8 u9 o9 hu9 ho9; first | exact q9 | (simp (disch := omega) only [up2_n, up2_s, va_up_ne, va_up_self] ; exact q9) | (simp (disch := omega) only [eR, up2_n, up2_s, va_up_ne, va_up_self] at q9 ⊢ ; exact q9))⟩
end RPup3
theorem fh_congr {σ σ' : sg} {d o : Nat} (h : ∀ i, i ≠ 3 → σ' i = σ i) : ∀ n i, fh σ' d o n i = fh σ d o n i
  | 0, _ => rfl
  | n + 1, i => by rw [fh, fh, h _ (by omega), h _ (by unfold eR; omega), fh_congr h n (i + 1)]
theorem fhV_congr {σ σ' : sg} {d o : Nat} (h : ∀ i, i ≠ 3 → σ' i = σ i) : fhV σ' d o = fhV σ d o := by
  unfold fhV
  rw [fh_congr h]
  cases fh σ d o (ln d) 0 with
  | none => rfl
  | some u => exact h _ (by unfold eR; omega)
section MChange2
variable {G : mt_G} {μ0 μ : mu_M} {ma : Nat → Nat} {τ σ : sg} {δ : dg}
set_option maxHeartbeats 8000000 in
set_option maxRecDepth 10000 in
/-- the last loops: the first free offset -/
theorem cm_change_end {ch : Nat} {B : sg} {δ1 : dg} {Q : Option Value → mu_M → Prop} {μ1 : mu_M} {τ1 : sg} {x1 x3 : Int32} (hM : Mx G μ0 μ1 ma τ1) (hR : RP τ1 (up2 B 3 2 (nI 0)) δ1) (h00 : τ1 0 0 = 0)
    (hQ : ∀ x μ', PM G μ0 ma (0, nI (ffS B (δ1 0) 60), up2 B 3 2 (nI (ffS B (δ1 0) 60)), δ1) x μ' → Q x μ') : WP G M_Model_change (EC G M_Model_change Q (fun _ _ => False)) [(0, .ref (ma 0)), (1, .int x1), (2, .int (nI ch)), (3, .int x3)] 189 [] μ1 0 0 := by
  have hB : ∀ N i, i ≠ 3 → up2 B 3 2 (nI N) i = B i := fun N i hi => up2_n hi
  have outer : ∀ (n o : Nat) (τ1 : sg) (μ1 : mu_M), o + n = 60 → Mx G μ0 μ1 ma τ1 → RP τ1 (up2 B 3 2 (nI (ffS B (δ1 0) o))) δ1 → τ1 0 0 = 0 → WP G M_Model_change (EC G M_Model_change Q (fun _ _ => False)) [(0, .ref (ma 0)), (4, .int (nI o))] 192 [] μ1 0 0 := by
    intro n
    induction n with
    | zero =>
      intro o τ1 μ1 ho hM hR h00
      obtain rfl : o = 60 := by omega
      refine wp_iload d_Model_change_192 rfl ?_
      refine wp_bipush (v := 60) d_Model_change_194 (by decide) ?_
      refine wp_icmp_ge (tgt := 282) d_Model_change_196 (by decide) (fun c196 => ?_) (fun c196 => ?_)
      · refine wp_aload_n d_Model_change_282 rfl rfl ?_
        refine wp_get d_Model_change_283 fl_Model_121 hM.obj (by rfl) ?_
        exact wp_iret d_Model_change_286 rfl (by decide) (by decide) (hQ _ _ ⟨_, _, rfl, hM, hR, h00, fun _ => by rw [hR.nx, up2_s, va_up_self]⟩)
      · exact absurd (by decide) c196
    | succ n ih =>
      intro o τ1 μ1 ho hM hR h00
      have hd := hR.p1 0 (o % 2) (by omega) (by omega)
      have hrw := hR.rw (o % 2) (by omega)
      have hff := ffS_le B (δ1 0) o
      have er : nI o - nI o / 2 * 2 = nI (o % 2) := nI_rem2 (by omega)
      refine wp_iload d_Model_change_192 rfl ?_
      refine wp_bipush (v := 60) d_Model_change_194 (by decide) ?_
      refine wp_icmp_ge (tgt := 282) d_Model_change_196 (by decide) (fun c196 => ?_) (fun c196 => ?_)
      · exact absurd ((nI_leI (a := 60) (by omega) (by omega)).mp c196) (by omega)
      refine wp_aload_n d_Model_change_199 rfl rfl ?_
      refine wp_get d_Model_change_200 fl_Model_42 hM.obj (by rfl) ?_
      refine wp_iload d_Model_change_203 rfl ?_
      refine wp_iconst (v := 2) d_Model_change_205 (by decide) ?_
      refine wp_irem d_Model_change_206 (by decide) ?_
      refine wm_ald (i := 10) (n := 2) hM (by decide) (by decide) rfl rfl d_Model_change_207 (by first | with_reducible exact ixc0 | with_reducible exact ixc1 | with_reducible exact ixc360 | with_reducible rfl | with_reducible exact ix4 _ _ | with_reducible exact ix21 _ | with_reducible exact ix2 _ | with_reducible exact ix4a _ | assumption) (by omega) ?_
      rw [hrw]
      have hstep : ffS B (δ1 0) (o + 1) = if fhV B (δ1 0 (o % 2)) o 0 = 0 then ffS B (δ1 0) o else o + 1 := by rw [ffS]
      generalize δ1 0 (o % 2) = d at hd hstep ⊢
      have hl := ln_pos d
      have hv := vr_le hd
      have inner : ∀ (m i : Nat) (N : Nat) (τ1 : sg) (μ1 : mu_M), i + m = ln d → Mx G μ0 μ1 ma τ1 → RP τ1 (up2 B 3 2 (nI N)) δ1 → τ1 0 0 = 0 → ((N = ffS B (δ1 0) o ∧ fh B d o (ln d) 0 = fh B d o m i) ∨ (N = o + 1 ∧ ¬ fhV B d o 0 = 0)) → WP G M_Model_change (EC G M_Model_change Q (fun _ _ => False)) [(0, .ref (ma 0)), (4, .int (nI o)), (5, .int (nI d)), (6, .int (nI i))] 213 [] μ1 0 0 := by
        intro m
        induction m with
        | zero =>
          intro i N τ1 μ1 hi hM hR h00 hN
          refine wp_iload d_Model_change_213 rfl ?_
          refine wp_aload_n d_Model_change_215 rfl rfl ?_
          refine wp_iload d_Model_change_216 rfl ?_
          refine wx_callV d_Model_change_218 cv_Model_85 cd_Model_length ⟨by decide, by decide⟩ (cm_length G _ (ma 0) (d := d) (by omega)) hM.obj rfl rfl (Nat.le_of_ble_eq_true rfl) (Nat.le_of_ble_eq_true rfl) (Nat.le_of_ble_eq_true rfl) (fun E1 μ1 hq => hq.elim) (fun v1 μ1 hq => ?_)
          obtain ⟨rfl, rfl⟩ := hq
          refine wp_icmp_ge (tgt := 276) d_Model_change_221 (by decide) (fun c221 => ?_) (fun c221 => ?_)
          · refine wp_iinc d_Model_change_276 rfl rfl (by decide) ?_
            refine wp_goto (tgt := 192) d_Model_change_279 (by decide) ?_
            refine WP.loc [(0, .ref (ma 0)), (4, .int (nI (o + 1)))] (by rw [← nI_1 o]; rfl) (ih (o + 1) τ1 _ (by omega) hM ?_ h00)
            rcases hN with ⟨rfl, hf⟩ | ⟨rfl, hf⟩
            · have : fhV B d o 0 = 0 := by unfold fhV; rw [hf]; rfl
              rw [hstep, if_pos this]; exact hR
            · rw [hstep, if_neg hf]; exact hR
          · exact absurd ((nI_leI (by omega) (by omega)).mpr (by omega)) c221
        | succ m ihm =>
          intro i N τ1 μ1 hi hM hR h00 hN
          have hi2 : i < ln d := by omega
          have hu := vr_un hd hi2
          have hdn := hR.dn (un d i) hu
          have hkd := (hR.en (un d i) o hu (by omega)).kd
          rw [hB N _ (by omega)] at hdn
          rw [hB N _ (by unfold eR; omega)] at hkd
          refine wp_iload d_Model_change_213 rfl ?_
          refine wp_aload_n d_Model_change_215 rfl rfl ?_
          refine wp_iload d_Model_change_216 rfl ?_
          refine wx_callV d_Model_change_218 cv_Model_85 cd_Model_length ⟨by decide, by decide⟩ (cm_length G _ (ma 0) (d := d) (by omega)) hM.obj rfl rfl (Nat.le_of_ble_eq_true rfl) (Nat.le_of_ble_eq_true rfl) (Nat.le_of_ble_eq_true rfl) (fun E1 μ1 hq => hq.elim) (fun v1 μ1 hq => ?_)
          obtain ⟨rfl, rfl⟩ := hq
          refine wp_icmp_ge (tgt := 276) d_Model_change_221 (by decide) (fun c221 => ?_) (fun c221 => ?_)
          · exact absurd ((nI_leI (by omega) (by omega)).mp c221) (by omega)
          refine wp_aload_n d_Model_change_224 rfl rfl ?_
          refine wp_get d_Model_change_225 fl_Model_31 hM.obj (by rfl) ?_
          refine wp_aload_n d_Model_change_228 rfl rfl ?_
          refine wp_iload d_Model_change_229 rfl ?_
          refine wp_iload d_Model_change_231 rfl ?_
          refine wx_callV d_Model_change_233 cv_Model_93 cd_Model_unit ⟨by decide, by decide⟩ (cm_unit hM hd hi2) hM.obj rfl rfl (Nat.le_of_ble_eq_true rfl) (Nat.le_of_ble_eq_true rfl) (Nat.le_of_ble_eq_true rfl) (fun E1 μ1 hq => hq.elim) (fun v1 μ1 hq => ?_)
          obtain ⟨rfl, rfl⟩ := hq
          refine wm_zld (i := 8) (n := 6) hM (by decide) (by decide) rfl rfl d_Model_change_236 (by first | with_reducible exact ixc0 | with_reducible exact ixc1 | with_reducible exact ixc360 | with_reducible rfl | with_reducible exact ix4 _ _ | with_reducible exact ix21 _ | with_reducible exact ix2 _ | with_reducible exact ix4a _ | assumption) (by omega) ?_
          refine wp_if_ne (tgt := 270) d_Model_change_237 (by decide) (fun c237 => ?_) (fun c237 => ?_)
          · have hz : B (4 + un d i) 1 = 0 := Classical.byContradiction (fun z => by rw [hdn, if_neg z] at c237; exact c237 rfl)
            refine wp_iinc d_Model_change_270 rfl rfl (by decide) ?_
            refine wp_goto (tgt := 213) d_Model_change_273 (by decide) ?_
            refine WP.loc [(0, .ref (ma 0)), (4, .int (nI o)), (5, .int (nI d)), (6, .int (nI (i + 1)))] (by rw [← nI_1 i]; rfl) (ihm (i + 1) N τ1 _ (by omega) hM hR h00 (hN.imp (fun q => ⟨q.1, ?_⟩) id))
            rw [q.2, fh, if_pos hz]
          · have hz : ¬ B (4 + un d i) 1 = 0 := fun z => by rw [hdn, if_pos z] at c237; exact absurd c237 (by decide)
            refine wp_aload_n d_Model_change_240 rfl rfl ?_
            refine wp_get d_Model_change_241 fl_Model_7 hM.obj (by rfl) ?_
            refine wp_aload_n d_Model_change_244 rfl rfl ?_
            refine wp_aload_n d_Model_change_245 rfl rfl ?_
            refine wp_iload d_Model_change_246 rfl ?_
            refine wp_iload d_Model_change_248 rfl ?_
            refine wx_callV d_Model_change_250 cv_Model_93 cd_Model_unit ⟨by decide, by decide⟩ (cm_unit hM hd hi2) hM.obj rfl rfl (Nat.le_of_ble_eq_true rfl) (Nat.le_of_ble_eq_true rfl) (Nat.le_of_ble_eq_true rfl) (fun E1 μ1 hq => hq.elim) (fun v1 μ1 hq => ?_)
            obtain ⟨rfl, rfl⟩ := hq
            refine wp_iload d_Model_change_253 rfl ?_
            refine wx_callV d_Model_change_255 cv_Model_100 cd_Model_cell ⟨by decide, by decide⟩ (cm_cell G _ (ma 0) (un d i) o) hM.obj rfl rfl (Nat.le_of_ble_eq_true rfl) (Nat.le_of_ble_eq_true rfl) (Nat.le_of_ble_eq_true rfl) (fun E1 μ1 hq => hq.elim) (fun v1 μ1 hq => ?_)
            obtain ⟨rfl, rfl⟩ := hq
            refine wm_ald (i := 1) (n := 361) hM (by decide) (by decide) rfl rfl d_Model_change_258 (by first | with_reducible exact ixc0 | with_reducible exact ixc1 | with_reducible exact ixc360 | with_reducible rfl | with_reducible exact ix4 _ _ | with_reducible exact ix21 _ | with_reducible exact ix2 _ | with_reducible exact ix4a _ | assumption) (by omega) ?_
            refine wp_if_eq (tgt := 270) d_Model_change_259 (by decide) (fun c259 => ?_) (fun c259 => ?_)
            · rw [hkd] at c259
              refine wp_iinc d_Model_change_270 rfl rfl (by decide) ?_
              refine wp_goto (tgt := 213) d_Model_change_273 (by decide) ?_
              refine WP.loc [(0, .ref (ma 0)), (4, .int (nI o)), (5, .int (nI d)), (6, .int (nI (i + 1)))] (by rw [← nI_1 i]; rfl) (ihm (i + 1) N τ1 _ (by omega) hM hR h00 (hN.imp (fun q => ⟨q.1, ?_⟩) id))
              rw [q.2, fh, if_neg hz, if_pos c259]
            · rw [hkd] at c259
              refine wp_aload_n d_Model_change_262 rfl rfl ?_
              refine wp_iload d_Model_change_263 rfl ?_
              refine wp_iconst (v := 1) d_Model_change_265 (by decide) ?_
              refine wp_iadd d_Model_change_266 ?_
              refine wm_put4 hM d_Model_change_267 fp_Model_121 (fun μ1 hM => ?_)
              rw [nI_1] at hM
              have hR2 := hR.next (n := o + 1) (by omega)
              rw [up2_up2] at hR2
              refine wp_iinc d_Model_change_270 rfl rfl (by decide) ?_
              refine wp_goto (tgt := 213) d_Model_change_273 (by decide) ?_
              refine WP.loc [(0, .ref (ma 0)), (4, .int (nI o)), (5, .int (nI d)), (6, .int (nI (i + 1)))] (by rw [← nI_1 i]; rfl) (ihm (i + 1) (o + 1) _ _ (by omega) hM hR2 h00 (Or.inr ⟨rfl, ?_⟩))
              rcases hN with ⟨-, q⟩ | ⟨-, q⟩
              · rw [fh, if_neg hz, if_neg c259] at q
                unfold fhV; rw [q]; exact c259
              · exact q
      refine wp_istore d_Model_change_208 (by decide) ?_
      refine wp_iconst (v := 0) d_Model_change_210 (by decide) ?_
      refine wp_istore d_Model_change_211 (by decide) ?_
      exact WP.loc [(0, .ref (ma 0)), (4, .int (nI o)), (5, .int (nI d)), (6, .int (nI 0))] rfl (inner (ln d) 0 _ τ1 _ (Nat.zero_add _) hM hR h00 (Or.inl ⟨rfl, rfl⟩))
  refine wp_iconst (v := 0) d_Model_change_189 (by decide) ?_
  refine wp_istore d_Model_change_190 (by decide) ?_
  exact WP.loc [(0, .ref (ma 0)), (4, .int (nI 0))] rfl (outer 60 0 τ1 _ rfl hM hR h00)
set_option maxHeartbeats 8000000 in
set_option maxRecDepth 10000 in
theorem cm_change (hM : Mx G μ0 μ ma τ) (hR : RP τ σ δ) (x y r : Int32) : CT G M_Model_change [.ref (ma 0), .int x, .int y, .int r] μ (PM G μ0 ma (S_change x y r σ δ)) (fun _ _ => False) := by
  refine CT.of (by decide) rfl (Nat.le_of_ble_eq_true rfl) ?_
  refine wp_aload_n d_Model_change_0 rfl rfl ?_
  refine wp_iconst (v := 0) d_Model_change_1 (by decide) ?_
  refine wm_put0 hM d_Model_change_2 fp_Model_82 (fun μ1 hM => ?_)
  refine wp_aload_n d_Model_change_5 rfl rfl ?_
  refine wp_iload_n d_Model_change_6 rfl rfl ?_
  refine wp_iconst (v := 4) d_Model_change_7 (by decide) ?_
  have hR := hR.f0 0
  have h00 : up2 τ 0 0 0 0 0 = 0 := rfl
  generalize up2 τ 0 0 0 = τ at hM hR h00
  refine wx_callV d_Model_change_8 cv_Model_111 cd_Model_out ⟨by decide, by decide⟩ (cm_out G _ (ma 0) x 4) hM.obj rfl rfl (Nat.le_of_ble_eq_true rfl) (Nat.le_of_ble_eq_true rfl) (Nat.le_of_ble_eq_true rfl) (fun E1 μ1 hq => hq.elim) (fun v1 μ1 hq => ?_)
  obtain ⟨rfl, rfl⟩ := hq
  rcases ar_c (x := x) (y := 4) (n := 4) rfl (by decide) with ⟨c, hc, rfl, ha, h⟩ | ⟨ha, h⟩
  · rw [if_neg h]
    refine wp_if_ne (tgt := 31) d_Model_change_11 (by decide) (fun z9 => absurd z9 (by decide)) (fun _ => ?_)
    refine wp_aload_n d_Model_change_14 rfl rfl ?_
    refine wp_iload_n d_Model_change_15 rfl rfl ?_
    refine wp_iconst (v := 2) d_Model_change_16 (by decide) ?_
    refine wx_callV d_Model_change_17 cv_Model_111 cd_Model_out ⟨by decide, by decide⟩ (cm_out G _ (ma 0) y 2) hM.obj rfl rfl (Nat.le_of_ble_eq_true rfl) (Nat.le_of_ble_eq_true rfl) (Nat.le_of_ble_eq_true rfl) (fun E1 μ1 hq => hq.elim) (fun v1 μ1 hq => ?_)
    obtain ⟨rfl, rfl⟩ := hq
    rcases ar_c (x := y) (y := 2) (n := 2) rfl (by decide) with ⟨ch, hch, rfl, hb, h⟩ | ⟨hb, h⟩
    · rw [if_neg h]
      refine wp_if_ne (tgt := 31) d_Model_change_20 (by decide) (fun z9 => absurd z9 (by decide)) (fun _ => ?_)
      refine wp_aload_n d_Model_change_23 rfl rfl ?_
      refine wp_iload_n d_Model_change_24 rfl rfl ?_
      refine wx_callV d_Model_change_25 cv_Model_134 cd_Model_badRow ⟨by decide, by decide⟩ (cm_badRow hM r) hM.obj rfl rfl (Nat.le_of_ble_eq_true rfl) (Nat.le_of_ble_eq_true rfl) (Nat.le_of_ble_eq_true rfl) (fun E1 μ1 hq => hq.elim) (fun v1 μ1 hq => ?_)
      obtain ⟨rfl, rfl⟩ := hq
      by_cases hvr : vrI r = true
      · rw [S_change, ha, hb, if_pos hvr]
        dsimp only
        rw [if_pos hvr]
        refine wp_if_eq (tgt := 37) d_Model_change_28 (by decide) (fun _ => ?_) (fun z9 => absurd z9 (by decide))
        obtain ⟨d, rfl, hd, hd2⟩ := vrI_ok hvr
        rw [hd2, chS]
        have hv := vr_le hd
        have hl := ln_pos d
        have hd0 := hR.p1 0 0 (by omega) (by omega)
        have hd1 := hR.p1 0 1 (by omega) (by omega)
        have hu1 := ucS_le σ d (ln d)
        have hu2 := ucS_le σ (δ 0 0) (ln (δ 0 0))
        have hu3 := ucS_le σ (δ 0 1) (ln (δ 0 1))
        have hl0 := ln_pos (δ 0 0)
        have hl1 := ln_pos (δ 0 1)
        have hrc : rcS c d σ δ = true ↔ (σ (501 + c) 0 = σ 500 0 ∧ ucS σ d (ln d) = ln d ∧ ucS σ (δ 0 0) (ln (δ 0 0)) ≠ 0 ∧ ucS σ (δ 0 1) (ln (δ 0 1)) ≠ 0) := by
          simp only [rcS, Bool.and_eq_true, decide_eq_true_eq, and_assoc]
        refine wp_aload_n d_Model_change_37 rfl rfl ?_
        refine wp_get d_Model_change_38 fl_Model_48 hM.obj (by rfl) ?_
        refine wp_iload_n d_Model_change_41 rfl rfl ?_
        refine wm_ald (i := 11) (n := 4) hM (by decide) (by decide) rfl rfl d_Model_change_42 (by first | with_reducible exact ixc0 | with_reducible exact ixc1 | with_reducible exact ixc360 | with_reducible rfl | with_reducible exact ix4 _ _ | with_reducible exact ix21 _ | with_reducible exact ix2 _ | with_reducible exact ix4a _ | assumption) (by omega) ?_
        refine wp_aload_n d_Model_change_43 rfl rfl ?_
        refine wp_get d_Model_change_44 fl_Model_38 hM.obj (by rfl) ?_
        refine wp_icmp_ne (tgt := 89) d_Model_change_47 (by decide) (fun c47 => ?_) (fun c47 => ?_)
        · rw [hR.kn c hc, hR.ep] at c47
          rw [if_neg (fun z => c47 (hrc.mp z).1)]
          refine wp_aload_n d_Model_change_89 rfl rfl ?_
          refine wp_iconst (v := 2) d_Model_change_90 (by decide) ?_
          refine wx_callV d_Model_change_91 cv_Model_114 cd_Model_fail ⟨by decide, by decide⟩ (cm_fail hM _) hM.obj rfl rfl (Nat.le_of_ble_eq_true rfl) (Nat.le_of_ble_eq_true rfl) (Nat.le_of_ble_eq_true rfl) (fun E1 μ9 hq => hq.elim) (fun v1 μ9 hq => ?_)
          obtain ⟨rfl, hM⟩ := hq
          exact wp_iret d_Model_change_94 rfl (by decide) (by decide) ⟨_, 0, rfl, hM, hR.f0 _, rfl, fun z9 => absurd z9 (show ¬ 2 = 0 by decide)⟩
        rw [hR.kn c hc, hR.ep] at c47
        refine wp_aload_n d_Model_change_50 rfl rfl ?_
        refine wp_iload_n d_Model_change_51 rfl rfl ?_
        refine wx_callV d_Model_change_52 cv_Model_137 cd_Model_upUnits ⟨by decide, by decide⟩ (cm_upUnits hM hR hd) hM.obj rfl rfl (Nat.le_of_ble_eq_true rfl) (Nat.le_of_ble_eq_true rfl) (Nat.le_of_ble_eq_true rfl) (fun E1 μ1 hq => hq.elim) (fun v1 μ1 hq => ?_)
        obtain ⟨rfl, rfl⟩ := hq
        refine wp_aload_n d_Model_change_55 rfl rfl ?_
        refine wp_iload_n d_Model_change_56 rfl rfl ?_
        refine wx_callV d_Model_change_57 cv_Model_85 cd_Model_length ⟨by decide, by decide⟩ (cm_length G _ (ma 0) (d := d) (by omega)) hM.obj rfl rfl (Nat.le_of_ble_eq_true rfl) (Nat.le_of_ble_eq_true rfl) (Nat.le_of_ble_eq_true rfl) (fun E1 μ1 hq => hq.elim) (fun v1 μ1 hq => ?_)
        obtain ⟨rfl, rfl⟩ := hq
        refine wp_icmp_ne (tgt := 89) d_Model_change_60 (by decide) (fun c60 => ?_) (fun c60 => ?_)
        · rw [if_neg (fun z => c60 (by rw [(hrc.mp z).2.1]))]
          refine wp_aload_n d_Model_change_89 rfl rfl ?_
          refine wp_iconst (v := 2) d_Model_change_90 (by decide) ?_
          refine wx_callV d_Model_change_91 cv_Model_114 cd_Model_fail ⟨by decide, by decide⟩ (cm_fail hM _) hM.obj rfl rfl (Nat.le_of_ble_eq_true rfl) (Nat.le_of_ble_eq_true rfl) (Nat.le_of_ble_eq_true rfl) (fun E1 μ9 hq => hq.elim) (fun v1 μ9 hq => ?_)
          obtain ⟨rfl, hM⟩ := hq
          exact wp_iret d_Model_change_94 rfl (by decide) (by decide) ⟨_, 0, rfl, hM, hR.f0 _, rfl, fun z9 => absurd z9 (show ¬ 2 = 0 by decide)⟩
        have hn1 : ucS σ d (ln d) = ln d := (nI_eq (by omega) (by omega)).mp c60
        refine wp_aload_n d_Model_change_63 rfl rfl ?_
        refine wp_aload_n d_Model_change_64 rfl rfl ?_
        refine wp_get d_Model_change_65 fl_Model_42 hM.obj (by rfl) ?_
        refine wp_iconst (v := 0) d_Model_change_68 (by decide) ?_
        refine wm_ald (i := 10) (n := 2) hM (by decide) (by decide) rfl rfl d_Model_change_69 (by first | with_reducible exact ixc0 | with_reducible exact ixc1 | with_reducible exact ixc360 | with_reducible rfl | with_reducible exact ix4 _ _ | with_reducible exact ix21 _ | with_reducible exact ix2 _ | with_reducible exact ix4a _ | assumption) (by omega) ?_
        rw [hR.rw 0 (by omega)]
        refine wx_callV d_Model_change_70 cv_Model_137 cd_Model_upUnits ⟨by decide, by decide⟩ (cm_upUnits hM hR hd0) hM.obj rfl rfl (Nat.le_of_ble_eq_true rfl) (Nat.le_of_ble_eq_true rfl) (Nat.le_of_ble_eq_true rfl) (fun E1 μ1 hq => hq.elim) (fun v1 μ1 hq => ?_)
        obtain ⟨rfl, rfl⟩ := hq
        refine wp_if_eq (tgt := 89) d_Model_change_73 (by decide) (fun c73 => ?_) (fun c73 => ?_)
        · have hz : ucS σ (δ 0 0) (ln (δ 0 0)) = 0 := (nI_eq (b := 0) (by omega) (by omega)).mp c73
          rw [if_neg (fun z => (hrc.mp z).2.2.1 hz)]
          refine wp_aload_n d_Model_change_89 rfl rfl ?_
          refine wp_iconst (v := 2) d_Model_change_90 (by decide) ?_
          refine wx_callV d_Model_change_91 cv_Model_114 cd_Model_fail ⟨by decide, by decide⟩ (cm_fail hM _) hM.obj rfl rfl (Nat.le_of_ble_eq_true rfl) (Nat.le_of_ble_eq_true rfl) (Nat.le_of_ble_eq_true rfl) (fun E1 μ9 hq => hq.elim) (fun v1 μ9 hq => ?_)
          obtain ⟨rfl, hM⟩ := hq
          exact wp_iret d_Model_change_94 rfl (by decide) (by decide) ⟨_, 0, rfl, hM, hR.f0 _, rfl, fun z9 => absurd z9 (show ¬ 2 = 0 by decide)⟩
        refine wp_aload_n d_Model_change_76 rfl rfl ?_
        refine wp_aload_n d_Model_change_77 rfl rfl ?_
        refine wp_get d_Model_change_78 fl_Model_42 hM.obj (by rfl) ?_
        refine wp_iconst (v := 1) d_Model_change_81 (by decide) ?_
        refine wm_ald (i := 10) (n := 2) hM (by decide) (by decide) rfl rfl d_Model_change_82 (by first | with_reducible exact ixc0 | with_reducible exact ixc1 | with_reducible exact ixc360 | with_reducible rfl | with_reducible exact ix4 _ _ | with_reducible exact ix21 _ | with_reducible exact ix2 _ | with_reducible exact ix4a _ | assumption) (by omega) ?_
        rw [hR.rw 1 (by omega)]
        refine wx_callV d_Model_change_83 cv_Model_137 cd_Model_upUnits ⟨by decide, by decide⟩ (cm_upUnits hM hR hd1) hM.obj rfl rfl (Nat.le_of_ble_eq_true rfl) (Nat.le_of_ble_eq_true rfl) (Nat.le_of_ble_eq_true rfl) (fun E1 μ1 hq => hq.elim) (fun v1 μ1 hq => ?_)
        obtain ⟨rfl, rfl⟩ := hq
        refine wp_if_ne (tgt := 95) d_Model_change_86 (by decide) (fun c86 => ?_) (fun c86 => ?_)
        · rw [if_pos (hrc.mpr ⟨c47, hn1, fun z => c73 (by rw [z]; rfl), fun z => c86 (by rw [z]; rfl)⟩)]
          have hep := hR.ep
          refine wp_aload_n d_Model_change_95 rfl rfl ?_
          refine wp_aload_n d_Model_change_96 rfl rfl ?_
          refine wp_get d_Model_change_97 fl_Model_42 hM.obj (by rfl) ?_
          refine wp_iconst (v := 0) d_Model_change_100 (by decide) ?_
          refine wm_ald (i := 10) (n := 2) hM (by decide) (by decide) rfl rfl d_Model_change_101 (by first | with_reducible exact ixc0 | with_reducible exact ixc1 | with_reducible exact ixc360 | with_reducible rfl | with_reducible exact ix4 _ _ | with_reducible exact ix21 _ | with_reducible exact ix2 _ | with_reducible exact ix4a _ | assumption) (by omega) ?_
          rw [hR.rw 0 (by omega)]
          refine wx_callV d_Model_change_102 cv_Model_140 cd_Model_sealRow ⟨by decide, by decide⟩ (cm_sealRow hM hR hd0) hM.obj rfl rfl (Nat.le_of_ble_eq_true rfl) (Nat.le_of_ble_eq_true rfl) (Nat.le_of_ble_eq_true rfl) (fun E1 μ2 hq => hq.elim) (fun v1 μ2 hq => ?_)
          obtain ⟨rfl, τ2, hM, hR2, h02⟩ := hq
          refine wp_aload_n d_Model_change_105 rfl rfl ?_
          refine wp_aload_n d_Model_change_106 rfl rfl ?_
          refine wp_get d_Model_change_107 fl_Model_42 hM.obj (by rfl) ?_
          refine wp_iconst (v := 1) d_Model_change_110 (by decide) ?_
          refine wm_ald (i := 10) (n := 2) hM (by decide) (by decide) rfl rfl d_Model_change_111 (by first | with_reducible exact ixc0 | with_reducible exact ixc1 | with_reducible exact ixc360 | with_reducible rfl | with_reducible exact ix4 _ _ | with_reducible exact ix21 _ | with_reducible exact ix2 _ | with_reducible exact ix4a _ | assumption) (by omega) ?_
          rw [hR2.rw 1 (by omega)]
          refine wx_callV d_Model_change_112 cv_Model_140 cd_Model_sealRow ⟨by decide, by decide⟩ (cm_sealRow hM hR2 hd1) hM.obj rfl rfl (Nat.le_of_ble_eq_true rfl) (Nat.le_of_ble_eq_true rfl) (Nat.le_of_ble_eq_true rfl) (fun E1 μ3 hq => hq.elim) (fun v1 μ3 hq => ?_)
          obtain ⟨rfl, τ3, hM, hR3, h03⟩ := hq
          refine wp_aload_n d_Model_change_115 rfl rfl ?_
          refine wp_iload_n d_Model_change_116 rfl rfl ?_
          refine wx_callV d_Model_change_117 cv_Model_140 cd_Model_sealRow ⟨by decide, by decide⟩ (cm_sealRow hM hR3 hd) hM.obj rfl rfl (Nat.le_of_ble_eq_true rfl) (Nat.le_of_ble_eq_true rfl) (Nat.le_of_ble_eq_true rfl) (fun E1 μ4 hq => hq.elim) (fun v1 μ4 hq => ?_)
          obtain ⟨rfl, τ4, hM, hR4, h04⟩ := hq
          rw [h03, h02, hep] at hR4
          have h14 : τ4 0 = τ 0 := h04.trans (h03.trans h02)
          generalize hS : slS d (σ 500 0 + 1) (ln d) (slS (δ 0 1) (σ 500 0 + 1) (ln (δ 0 1)) (slS (δ 0 0) (σ 500 0 + 1) (ln (δ 0 0)) σ)) = σ4 at hR4 ⊢
          have hod := hR.p1 0 ch (by omega) hch
          have mloop : ∀ (n o : Nat) (τ5 σ5 : sg) (μ5 : mu_M) (Q : Option Value → mu_M → Prop), o + 2 * n = 60 + ch → Mx G μ0 μ5 ma τ5 → RP τ5 σ5 δ → τ5 0 = τ 0 → (∀ (τ6 : sg) (μ6 : mu_M), Mx G μ0 μ6 ma τ6 → RP τ6 (mgS (δ 0 ch) d n o σ5) δ → τ6 0 = τ 0 → WP G M_Model_change (EC G M_Model_change Q (fun _ _ => False)) [(0, .ref (ma 0)), (1, .int (nI c)), (2, .int (nI ch)), (3, .int (nI d))] 149 [] μ6 0 0) → WP G M_Model_change (EC G M_Model_change Q (fun _ _ => False)) [(0, .ref (ma 0)), (1, .int (nI c)), (2, .int (nI ch)), (3, .int (nI d)), (4, .int (nI o))] 123 [] μ5 0 0 := by
            intro n
            induction n with
            | zero =>
              intro o τ5 σ5 μ5 Q ho hM hR5 h05 kk
              refine wp_iload d_Model_change_123 rfl ?_
              refine wp_bipush (v := 60) d_Model_change_125 (by decide) ?_
              refine wp_icmp_ge (tgt := 149) d_Model_change_127 (by decide) (fun c127 => ?_) (fun c127 => ?_)
              · exact WP.loc [(0, .ref (ma 0)), (1, .int (nI c)), (2, .int (nI ch)), (3, .int (nI d))] rfl (kk τ5 _ hM hR5 h05)
              · exact absurd ((nI_leI (a := 60) (by omega) (by omega)).mpr (by omega)) c127
            | succ n ih =>
              intro o τ5 σ5 μ5 Q ho hM hR5 h05 kk
              refine wp_iload d_Model_change_123 rfl ?_
              refine wp_bipush (v := 60) d_Model_change_125 (by decide) ?_
              refine wp_icmp_ge (tgt := 149) d_Model_change_127 (by decide) (fun c127 => ?_) (fun c127 => ?_)
              · exact absurd ((nI_leI (a := 60) (by omega) (by omega)).mp c127) (by omega)
              refine wp_aload_n d_Model_change_130 rfl rfl ?_
              refine wp_iload d_Model_change_131 rfl ?_
              refine wp_aload_n d_Model_change_133 rfl rfl ?_
              refine wp_get d_Model_change_134 fl_Model_42 hM.obj (by rfl) ?_
              refine wp_iload_n d_Model_change_137 rfl rfl ?_
              refine wm_ald (i := 10) (n := 2) hM (by decide) (by decide) rfl rfl d_Model_change_138 (by first | with_reducible exact ixc0 | with_reducible exact ixc1 | with_reducible exact ixc360 | with_reducible rfl | with_reducible exact ix4 _ _ | with_reducible exact ix21 _ | with_reducible exact ix2 _ | with_reducible exact ix4a _ | assumption) (by omega) ?_
              refine wp_iload_n d_Model_change_139 rfl rfl ?_
              rw [hR5.rw ch hch]
              refine wx_callV d_Model_change_140 cv_Model_143 cd_Model_merge ⟨by decide, by decide⟩ (cm_merge hM hR5 hod hd (o := o) (by omega)) hM.obj rfl rfl (Nat.le_of_ble_eq_true rfl) (Nat.le_of_ble_eq_true rfl) (Nat.le_of_ble_eq_true rfl) (fun E1 μ6 hq => hq.elim) (fun v1 μ6 hq => ?_)
              obtain ⟨rfl, τ6, hM, hR6, h06⟩ := hq
              refine wp_iinc d_Model_change_143 rfl rfl (by decide) ?_
              refine wp_goto (tgt := 123) d_Model_change_146 (by decide) ?_
              refine WP.loc [(0, .ref (ma 0)), (1, .int (nI c)), (2, .int (nI ch)), (3, .int (nI d)), (4, .int (nI (o + 2)))] (by rw [← nI_add o 2]; rfl) (ih (o + 2) τ6 _ _ Q (by omega) hM hR6 (h06.trans h05) kk)
          refine wp_iload_n d_Model_change_120 rfl rfl ?_
          refine wp_istore d_Model_change_121 (by decide) ?_
          refine WP.loc [(0, .ref (ma 0)), (1, .int (nI c)), (2, .int (nI ch)), (3, .int (nI d)), (4, .int (nI ch))] rfl (WP.widen (Nat.le_of_ble_eq_true rfl) (Nat.le_of_ble_eq_true rfl) (mloop 30 ch τ4 σ4 _ _ (by omega) hM hR4 h14 (fun τ6 μ6 hM hR6 h06 => ?_)))
          have e6 : τ6 0 1 + 1 = σ 500 0 + 1 := by rw [h06, hep]
          have h006 : τ6 0 0 = 0 := by rw [h06]; exact h00
          refine wp_aload_n d_Model_change_149 rfl rfl ?_
          refine wp_get d_Model_change_150 fl_Model_42 hM.obj (by rfl) ?_
          refine wp_iload_n d_Model_change_153 rfl rfl ?_
          refine wp_iload_n d_Model_change_154 rfl rfl ?_
          refine wm_ast (i := 10) (n := 2) hM (by decide) (by decide) rfl rfl d_Model_change_155 (by first | with_reducible exact ixc0 | with_reducible exact ixc1 | with_reducible exact ixc360 | with_reducible rfl | with_reducible exact ix4 _ _ | with_reducible exact ix21 _ | with_reducible exact ix2 _ | with_reducible exact ix4a _ | assumption) (by omega) (fun μ1 hM => ?_)
          refine wp_aload_n d_Model_change_156 rfl rfl ?_
          refine wp_dup d_Model_change_157 rfl ?_
          refine wp_get d_Model_change_158 fl_Model_38 hM.obj (by rfl) ?_
          refine wp_iconst (v := 1) d_Model_change_161 (by decide) ?_
          refine wp_iadd d_Model_change_162 ?_
          refine wm_put1 hM d_Model_change_163 fp_Model_38 (fun μ1 hM => ?_)
          rw [show up2 τ6 10 ch (nI d) 0 1 + 1 = σ 500 0 + 1 from e6] at hM
          have hR7 := hR6.inst hch hd (σ 500 0 + 1)
          generalize hτ7 : up2 (up2 τ6 10 ch (nI d)) 0 1 (σ 500 0 + 1) = τ7 at hM hR7
          have h007 : τ7 0 0 = 0 := by rw [← hτ7]; exact h006
          refine wp_aload_n d_Model_change_166 rfl rfl ?_
          refine wp_iload_n d_Model_change_167 rfl rfl ?_
          refine wx_callV d_Model_change_168 cv_Model_78 cd_Model_learnNow ⟨by decide, by decide⟩ (cm_learnNow hM hc) hM.obj rfl rfl (Nat.le_of_ble_eq_true rfl) (Nat.le_of_ble_eq_true rfl) (Nat.le_of_ble_eq_true rfl) (fun E1 μ8 hq => hq.elim) (fun v1 μ8 hq => ?_)
          obtain ⟨rfl, hM⟩ := hq
          have hR8 := hR7.learn hc
          rw [va_up_self, up2_s, va_up_self] at hR8
          generalize hτ8 : up2 (up2 (up2 τ7 11 c (τ7 0 1)) 12 (2 * c) (τ7 10 0)) 12 (2 * c + 1) (τ7 10 1) = τ8 at hM hR8
          have h018 : τ8 0 1 = σ 500 0 + 1 := by rw [← hτ8]; show τ7 0 1 = _; rw [← hτ7, up2_s, va_up_self]
          have h008 : τ8 0 0 = 0 := by rw [← hτ8]; exact h007
          refine wp_aload_n d_Model_change_171 rfl rfl ?_
          refine wp_iconst (v := 0) d_Model_change_172 (by decide) ?_
          refine wm_put3 hM d_Model_change_173 fp_Model_107 (by first | exact Or.inl rfl | exact Or.inr rfl) (fun μ1 hM => ?_)
          refine wp_aload_n d_Model_change_176 rfl rfl ?_
          refine wp_aload_n d_Model_change_177 rfl rfl ?_
          refine wp_get d_Model_change_178 fl_Model_38 hM.obj (by rfl) ?_
          refine wm_put2 hM d_Model_change_181 fp_Model_45 (fun μ1 hM => ?_)
          refine wp_aload_n d_Model_change_184 rfl rfl ?_
          refine wp_iconst (v := 0) d_Model_change_185 (by decide) ?_
          refine wm_put4 hM d_Model_change_186 fp_Model_121 (fun μ1 hM => ?_)
          rw [show up2 τ8 0 3 0 0 1 = σ 500 0 + 1 from h018] at hM
          have hR9 := ((hR8.lost (x := 0) (Or.inl rfl)).seqr (σ 500 0 + 1)).next (n := 0) (by omega)
          refine WP.loc [(0, .ref (ma 0)), (1, .int (nI c)), (2, .int (nI ch)), (3, .int (nI d))] rfl (cm_change_end hM hR9 h008 ?_)
          have hff : ∀ (A : sg) (dl : Nat → Nat) n, ffS (up2 (up2 A 3 0 0) 3 1 (σ 500 0 + 1)) dl n = ffS A dl n := by
            intro A dl n
            induction n with
            | zero => rfl
            | succ n ih => rw [ffS, ffS, ih, fhV_congr (fun i hi => by rw [up2_n hi, up2_n hi])]
          intro x μ' hx
          rw [hff, show va_up (va_up δ 0 (va_up (δ 0) ch d)) (1 + c) (va_up (δ 0) ch d) 0 = va_up (δ 0) ch d from by rw [va_up_ne _ _ (by omega), va_up_self]] at hx
          exact hx
        · have hz : ucS σ (δ 0 1) (ln (δ 0 1)) = 0 := (nI_eq (b := 0) (by omega) (by omega)).mp c86
          rw [if_neg (fun z => (hrc.mp z).2.2.2 hz)]
          refine wp_aload_n d_Model_change_89 rfl rfl ?_
          refine wp_iconst (v := 2) d_Model_change_90 (by decide) ?_
          refine wx_callV d_Model_change_91 cv_Model_114 cd_Model_fail ⟨by decide, by decide⟩ (cm_fail hM _) hM.obj rfl rfl (Nat.le_of_ble_eq_true rfl) (Nat.le_of_ble_eq_true rfl) (Nat.le_of_ble_eq_true rfl) (fun E1 μ9 hq => hq.elim) (fun v1 μ9 hq => ?_)
          obtain ⟨rfl, hM⟩ := hq
          exact wp_iret d_Model_change_94 rfl (by decide) (by decide) ⟨_, 0, rfl, hM, hR.f0 _, rfl, fun z9 => absurd z9 (show ¬ 2 = 0 by decide)⟩
      · rw [S_change, ha, hb, if_neg hvr]
        dsimp only
        rw [if_neg hvr]
        refine wp_if_eq (tgt := 37) d_Model_change_28 (by decide) (fun z9 => absurd z9 (by decide)) (fun _ => ?_)
        refine wp_aload_n d_Model_change_31 rfl rfl ?_
        refine wp_iconst (v := 1) d_Model_change_32 (by decide) ?_
        refine wx_callV d_Model_change_33 cv_Model_114 cd_Model_fail ⟨by decide, by decide⟩ (cm_fail hM _) hM.obj rfl rfl (Nat.le_of_ble_eq_true rfl) (Nat.le_of_ble_eq_true rfl) (Nat.le_of_ble_eq_true rfl) (fun E1 μ9 hq => hq.elim) (fun v1 μ9 hq => ?_)
        obtain ⟨rfl, hM⟩ := hq
        exact wp_iret d_Model_change_36 rfl (by decide) (by decide) ⟨_, 0, rfl, hM, hR.f0 _, rfl, fun z9 => absurd z9 (show ¬ 1 = 0 by decide)⟩
    · rw [S_change, ha, hb, if_pos h]
      dsimp only
      refine wp_if_ne (tgt := 31) d_Model_change_20 (by decide) (fun _ => ?_) (fun z9 => absurd z9 (by decide))
      refine wp_aload_n d_Model_change_31 rfl rfl ?_
      refine wp_iconst (v := 1) d_Model_change_32 (by decide) ?_
      refine wx_callV d_Model_change_33 cv_Model_114 cd_Model_fail ⟨by decide, by decide⟩ (cm_fail hM _) hM.obj rfl rfl (Nat.le_of_ble_eq_true rfl) (Nat.le_of_ble_eq_true rfl) (Nat.le_of_ble_eq_true rfl) (fun E1 μ9 hq => hq.elim) (fun v1 μ9 hq => ?_)
      obtain ⟨rfl, hM⟩ := hq
      exact wp_iret d_Model_change_36 rfl (by decide) (by decide) ⟨_, 0, rfl, hM, hR.f0 _, rfl, fun z9 => absurd z9 (show ¬ 1 = 0 by decide)⟩
  · rw [S_change, ha, if_pos h]
    dsimp only
    refine wp_if_ne (tgt := 31) d_Model_change_11 (by decide) (fun _ => ?_) (fun z9 => absurd z9 (by decide))
    refine wp_aload_n d_Model_change_31 rfl rfl ?_
    refine wp_iconst (v := 1) d_Model_change_32 (by decide) ?_
    refine wx_callV d_Model_change_33 cv_Model_114 cd_Model_fail ⟨by decide, by decide⟩ (cm_fail hM _) hM.obj rfl rfl (Nat.le_of_ble_eq_true rfl) (Nat.le_of_ble_eq_true rfl) (Nat.le_of_ble_eq_true rfl) (fun E1 μ9 hq => hq.elim) (fun v1 μ9 hq => ?_)
    obtain ⟨rfl, hM⟩ := hq
    exact wp_iret d_Model_change_36 rfl (by decide) (by decide) ⟨_, 0, rfl, hM, hR.f0 _, rfl, fun z9 => absurd z9 (show ¬ 1 = 0 by decide)⟩
end MChange2
