/-! THE CLASS'S FACE: append, commit -/
/-- a frozen work out of a new one -/
theorem NW.froz {G : mt_G} {μ0 μ φ : mu_M} {q : Nat} {f0 f1 f2 f3 : Nat → Int32} {v : Nat → Int32} (h : NW G μ0 μ q f0 f1 f2 f3) (hq : μ0 q = none) (hv : ∀ k, k < 4 → f0 k = v (2 + k) ∧ f1 k = v (6 + k) ∧ f2 k = v (10 + k) ∧ f3 k = v (14 + k)) : FW G (frz μ0 μ φ) q v := by
  obtain ⟨q0, q1, q2, q3, e, e0, e1, e2, e3, ⟨z0, z1, z2, z3⟩, -⟩ := h
  exact ⟨q0, q1, q2, q3, f0, f1, f2, f3, (frz_n hq).trans e, (frz_n z0).trans e0, (frz_n z1).trans e1, (frz_n z2).trans e2, (frz_n z3).trans e3, hv⟩
theorem NW.mono {G : mt_G} {μ0 μ μ' : mu_M} {q : Nat} {f0 f1 f2 f3 : Nat → Int32} (h : NW G μ0 μ q f0 f1 f2 f3) (hs : sub μ μ') : NW G μ0 μ' q f0 f1 f2 f3 := by
  obtain ⟨q0, q1, q2, q3, e, e0, e1, e2, e3, r⟩ := h
  exact ⟨q0, q1, q2, q3, hs _ _ e, hs _ _ e0, hs _ _ e1, hs _ _ e2, hs _ _ e3, r⟩
theorem NW.of {G : mt_G} {μ0 μ1 μ : mu_M} {q : Nat} {f0 f1 f2 f3 : Nat → Int32} (h : NW G μ1 μ q f0 f1 f2 f3) (hs : ∀ a, μ1 a = none → μ0 a = none) : NW G μ0 μ q f0 f1 f2 f3 := by
  obtain ⟨q0, q1, q2, q3, e, e0, e1, e2, e3, ⟨z0, z1, z2, z3⟩, r⟩ := h
  exact ⟨q0, q1, q2, q3, e, e0, e1, e2, e3, ⟨hs _ z0, hs _ z1, hs _ z2, hs _ z3⟩, r⟩
def vPut (k : Nat) (x : Int32) : Nat → Int32 := fun i => if i = 0 then 1 else if i = 1 then x else if i = 10 + k then 1 else if i = 14 + k then x else 0
theorem vPut_ok {k : Nat} (hk : k < 4) (x : Int32) : ∀ j, j < 4 → (fun _ : Nat => (0 : Int32)) j = vPut k x (2 + j) ∧ (fun _ : Nat => (0 : Int32)) j = vPut k x (6 + j) ∧ upd (fun _ => 0) k 1 j = vPut k x (10 + j) ∧ upd (fun _ => 0) k x j = vPut k x (14 + j) := by
  intro j hj
  unfold vPut upd
  refine ⟨?_, ?_, ?_, ?_⟩
  · rw [if_neg (by omega), if_neg (by omega), if_neg (by omega), if_neg (by omega)]
  · rw [if_neg (by omega), if_neg (by omega), if_neg (by omega), if_neg (by omega)]
  · rw [if_neg (by omega : ¬ 10 + j = 0), if_neg (by omega : ¬ 10 + j = 1)]
    by_cases h : j = k
    · rw [if_pos h, if_pos (by omega)]
    · rw [if_neg h, if_neg (by omega), if_neg (by omega)]
  · rw [if_neg (by omega : ¬ 14 + j = 0), if_neg (by omega : ¬ 14 + j = 1), if_neg (by omega : ¬ 14 + j = 10 + k)]
    by_cases h : j = k
    · rw [if_pos h, if_pos (by omega)]
    · rw [if_neg h, if_neg (by omega)]
def exApp : Nat → String := fun n => if n = 1 then IAE else if n = 2 then ISE else if n = 3 then UOE else IOE
def apS (c k : Nat) (x : Int32) (m : Nat) (σ : sg) (δ : dg) : RS :=
  if ntk σ c = true then (2, 0, σ, δ) else if σ 3 2 < 60 then
    (match wrS c (σ 3 2).toNatClampNeg (vPut k x) (δ (1 + c) ((σ 3 2).toNatClampNeg % 2)) (min (ln (δ (1 + c) ((σ 3 2).toNatClampNeg % 2))) m) 0 (up2 σ 3 2 (σ 3 2 + 1)) with
     | (w, σ') => if w = 0 then (0, if m < ln (δ (1 + c) ((σ 3 2).toNatClampNeg % 2)) then σ 3 2 - 100 else σ 3 2, σ', δ) else (w + 1, 0, σ', δ))
  else (4, 0, σ, δ)
def S_append (x y v z : Int32) (σ : sg) (δ : dg) : RS := match ar x 4, ar y 4, ar z 4 with
  | some c, some k, some m => apS c k v m σ δ
  | _, _, _ => (1, 0, σ, δ)
section Pub4
variable {G : mt_G} {μ φ : mu_M} {ad : Nat → Nat} {g : dg} {σ : sg} {δ : dg}
set_option maxHeartbeats 4000000 in
set_option maxRecDepth 10000 in
theorem ct_append (hC : Cx G μ φ ad g σ δ) (hI : PI σ δ) (x y v z : Int32) : CT G M_Log_append [.ref (ad 0), .int x, .int y, .int v, .int z] μ (PostC G φ ad (S_append x y v z σ δ)) (PxC G φ ad exApp (S_append x y v z σ δ)) := by
  have hR := hC.R
  refine CT.of (by decide) rfl (Nat.le_of_ble_eq_true rfl) ?_
  refine wp_iload_n d_Log_append_0 rfl rfl ?_
  refine wp_iconst (v := 3) d_Log_append_1 (by decide) ?_
  refine wx_callS d_Log_append_2 cs_Log_65 cd_Log_requireWithin ⟨by decide, by decide⟩ (ct_requireWithin G μ x 3) rfl rfl (Nat.le_of_ble_eq_true rfl) (Nat.le_of_ble_eq_true rfl) (Nat.le_of_ble_eq_true rfl) (fun E1 μ1 hq => WX.out rfl (no_hd _) (Nat.le_of_ble_eq_true rfl) (Nat.le_of_ble_eq_true rfl) ?_) (fun v1 μ1 hq => ?_)
  · obtain ⟨rfl, rfl, hx⟩ := hq
    rw [S_append, ar_no (n := 3) rfl (by omega) hx]
    exact ⟨Nat.one_ne_zero, rfl, g, φ, hC, sub.rf φ⟩
  · obtain ⟨rfl, rfl, h1, h2⟩ := hq
    obtain ⟨c, hc, rfl⟩ := ar_ok (n := 3) rfl (by omega) h1 h2
    refine wp_iload_n d_Log_append_5 rfl rfl ?_
    refine wp_iconst (v := 3) d_Log_append_6 (by decide) ?_
    refine wx_callS d_Log_append_7 cs_Log_65 cd_Log_requireWithin ⟨by decide, by decide⟩ (ct_requireWithin G μ1 y 3) rfl rfl (Nat.le_of_ble_eq_true rfl) (Nat.le_of_ble_eq_true rfl) (Nat.le_of_ble_eq_true rfl) (fun E1 μ1 hq => WX.out rfl (no_hd _) (Nat.le_of_ble_eq_true rfl) (Nat.le_of_ble_eq_true rfl) ?_) (fun v1 μ1 hq => ?_)
    · obtain ⟨rfl, rfl, hx⟩ := hq
      rw [S_append, ar_nI hc (by omega), ar_no (n := 3) rfl (by omega) hx]
      exact ⟨Nat.one_ne_zero, rfl, g, φ, hC, sub.rf φ⟩
    · obtain ⟨rfl, rfl, h1, h2⟩ := hq
      obtain ⟨k, hk, rfl⟩ := ar_ok (n := 3) rfl (by omega) h1 h2
      refine wp_iload d_Log_append_10 rfl ?_
      refine wp_iconst (v := 3) d_Log_append_12 (by decide) ?_
      refine wx_callS d_Log_append_13 cs_Log_65 cd_Log_requireWithin ⟨by decide, by decide⟩ (ct_requireWithin G μ1 z 3) rfl rfl (Nat.le_of_ble_eq_true rfl) (Nat.le_of_ble_eq_true rfl) (Nat.le_of_ble_eq_true rfl) (fun E1 μ1 hq => WX.out rfl (no_hd _) (Nat.le_of_ble_eq_true rfl) (Nat.le_of_ble_eq_true rfl) ?_) (fun v1 μ1 hq => ?_)
      · obtain ⟨rfl, rfl, hx⟩ := hq
        rw [S_append, ar_nI hc (by omega), ar_nI hk (by omega), ar_no (n := 3) rfl (by omega) hx]
        exact ⟨Nat.one_ne_zero, rfl, g, φ, hC, sub.rf φ⟩
      · obtain ⟨rfl, rfl, h1, h2⟩ := hq
        obtain ⟨m, hm, rfl⟩ := ar_ok (n := 3) rfl (by omega) h1 h2
        have hS : S_append (nI c) (nI k) v (nI m) σ δ = apS c k v m σ δ := by rw [S_append, ar_nI hc (by omega), ar_nI hk (by omega), ar_nI hm (by omega)]
        rw [hS]
        obtain ⟨n, hn, hn2⟩ := hI.2.1
        have hcl : (σ 3 2).toNatClampNeg = n := by rw [hn2]; exact nI_clamp (by omega)
        refine wp_aload_n d_Log_append_16 rfl rfl ?_
        refine wp_get d_Log_append_17 fl_Log_17 (by first | exact hR.log | exact hR.car) (by rfl) ?_
        refine wp_iload_n d_Log_append_20 rfl rfl ?_
        refine wp_aald d_Log_append_21 (t := 4) (C := "SharedLog$Client") rfl (by first | exact hR.log | exact hR.car) (by rfl) (by assumption) (by omega) (by rfl) ?_
        refine wp_astore d_Log_append_22 (by decide) ?_
        refine wp_aload_n d_Log_append_24 rfl rfl ?_
        refine wp_aload d_Log_append_25 rfl ?_
        refine wx_callV d_Log_append_27 cv_Log_69 cd_Log_takeToken ⟨by decide, by decide⟩ (ct_takeToken hC hc) (by exact hR.log) rfl rfl (Nat.le_of_ble_eq_true rfl) (Nat.le_of_ble_eq_true rfl) (Nat.le_of_ble_eq_true rfl) (fun E1 μ1 hq => WX.out rfl (no_hd _) (Nat.le_of_ble_eq_true rfl) (Nat.le_of_ble_eq_true rfl) ?_) (fun v1 μ1 hq => ?_)
        · obtain ⟨rfl, hq | hq⟩ := hq
          · obtain ⟨rfl, q1⟩ := hq
            rw [apS, if_pos q1]
            exact ⟨by show 2 ≠ 0; decide, rfl, g, φ, hC, sub.rf φ⟩
          · obtain ⟨rfl, q1, q2⟩ := hq
            rw [apS, if_neg (by rw [q1]; decide), if_neg q2]
            exact ⟨by show 4 ≠ 0; decide, rfl, g, φ, hC, sub.rf φ⟩
        · obtain ⟨rfl, q1, q2, hC1⟩ := hq
          have hn6 : n < 60 := by
            rw [hn2] at q2
            exact (nI_ltI (b := 60) (by omega) (by omega)).mp q2
          have hvr := hI.1 (1 + c) (n % 2) (by omega) (by omega)
          rw [apS, if_neg (by rw [q1]; decide), if_pos q2, hcl]
          refine wp_istore d_Log_append_30 (by decide) ?_
          refine wp_new d_Log_append_32 nw_Log_28 (Nat.le_of_ble_eq_true rfl) (Nat.le_of_ble_eq_true rfl) (fun w hBw hw => ?_)
          refine wp_dup d_Log_append_35 rfl ?_
          refine wi_callN d_Log_append_36 cn_Log_30 cd_Work_init ⟨by decide, by decide⟩ (ct_Work_init w _ _ _ _ (mu_up_s _ _ _) hBw) rfl rfl (Nat.le_of_ble_eq_true rfl) (Nat.le_of_ble_eq_true rfl) (Nat.le_of_ble_eq_true rfl) (fun v1 μ2 hq => ?_)
          obtain ⟨rfl, hNW, hk2⟩ := hq
          have hs2 : sub μ1 μ2 := fun a x hx => hk2 a x (mu_some_ne hx hw) ((mu_up_n (mu_some_ne hx hw)).trans hx)
          have hNW : NW G μ1 μ2 w (fun _ => 0) (fun _ => 0) (fun _ => 0) (fun _ => 0) := hNW.of (fun a ha => (mu_none ha).2)
          refine wp_astore d_Log_append_39 (by decide) ?_
          refine wp_aload d_Log_append_41 rfl ?_
          refine wp_iload_n d_Log_append_43 rfl rfl ?_
          refine wp_iload_n d_Log_append_44 rfl rfl ?_
          obtain ⟨q0, q1', q2', q3, e, e0, e1, e2, e3, ⟨z0, z1, z2, z3⟩, ⟨b0, b1, b2, b3⟩, ⟨n0, n1, n2, n3⟩, n10, n20, n30, n21, n31, n32⟩ := hNW
          refine wx_callV d_Log_append_45 cv_Log_73 cd_Work_setPut ⟨by decide, by decide⟩ (ct_setPut G μ2 w _ _ k _ _ _ _ v hk e e2 e3 n32 n2 b2 b3) (by exact e) rfl rfl (Nat.le_of_ble_eq_true rfl) (Nat.le_of_ble_eq_true rfl) (Nat.le_of_ble_eq_true rfl) (fun E1 μ3 hq => WX.out rfl (no_hd _) (Nat.le_of_ble_eq_true rfl) (Nat.le_of_ble_eq_true rfl) ?_) (fun v1 μ3 hq => ?_)
          · exact hq.elim
          · obtain ⟨rfl, hμ3⟩ := hq
            have hs3 : sub μ1 μ3 := by rw [hμ3]; exact sub_upd (sub_upd hs2 z2) z3
            have hNW3 : NW G μ1 μ3 w (fun _ => 0) (fun _ => 0) (upd (fun _ => 0) k 1) (upd (fun _ => 0) k v) := by
              rw [hμ3]
              refine ⟨q0, q1', q2', q3, ?_, ?_, ?_, ?_, ?_, ⟨z0, z1, z2, z3⟩, ⟨b0, b1, b2, b3⟩, ⟨n0, n1, n2, n3⟩, n10, n20, n30, n21, n31, n32⟩
              · rw [mu_up_n n3, mu_up_n n2]; exact e
              · rw [mu_up_n n30.symm, mu_up_n n20.symm]; exact e0
              · rw [mu_up_n n31.symm, mu_up_n n21.symm]; exact e1
              · rw [mu_up_n n32.symm, mu_up_s]
              · rw [mu_up_s]
            refine wp_aload_n d_Log_append_48 rfl rfl ?_
            refine wp_aload d_Log_append_49 rfl ?_
            refine wp_iload d_Log_append_51 rfl ?_
            refine wp_new d_Log_append_53 nw_Log_31 (Nat.le_of_ble_eq_true rfl) (Nat.le_of_ble_eq_true rfl) (fun ea hBe hea => ?_)
            refine wp_dup d_Log_append_56 rfl ?_
            refine wp_iconst (v := 1) d_Log_append_57 (by decide) ?_
            refine wp_iload_n d_Log_append_58 rfl rfl ?_
            refine wp_aload d_Log_append_59 rfl ?_
            refine wi_call d_Log_append_61 ci_Log_33 cd_Entry_init ⟨by decide, by decide⟩ (ct_Entry_init ea w 1 v _ _ _ (mu_up_s _ _ _) hBe) rfl rfl (Nat.le_of_ble_eq_true rfl) (Nat.le_of_ble_eq_true rfl) (Nat.le_of_ble_eq_true rfl) (fun v1 μ4 hq => ?_)
            obtain ⟨rfl, hμ4⟩ := hq
            rw [mu_up_up] at hμ4
            have hea1 : μ1 ea = none := by
              cases hz : μ1 ea with
              | none => rfl
              | some x => rw [hs3 _ _ hz] at hea; cases hea
            have hs4 : sub μ3 μ4 := by rw [hμ4]; exact sub_up hea
            obtain ⟨hC4, hφ⟩ := hC1.freeze (hs3.tr hs4)
            have hFE : FE G (frz μ1 μ4 φ) ea (vPut k v) := ⟨w, (frz_n hea1).trans (by rw [hμ4, mu_up_s]; rfl), (hNW3.mono hs4).froz hw (vPut_ok hk v)⟩
            have hR4 := hC4.R
            refine wp_iload d_Log_append_64 rfl ?_
            rw [hn2]
            refine wx_callV d_Log_append_66 cv_Log_76 cd_Log_write ⟨by decide, by decide⟩ (ct_write hC4 (m := m) hc hn6 (by omega) hFE hvr) (by exact hR4.log) rfl rfl (Nat.le_of_ble_eq_true rfl) (Nat.le_of_ble_eq_true rfl) (Nat.le_of_ble_eq_true rfl) (fun E1 μ5 hq => WX.out rfl (no_hd _) (Nat.le_of_ble_eq_true rfl) (Nat.le_of_ble_eq_true rfl) ?_) (fun v1 μ5 hq => ?_)
            · obtain ⟨g5, σ5, w5, e5, hC5, h5⟩ := hq
              rw [hn2] at e5
              rw [e5]
              rcases h5 with ⟨rfl, rfl⟩ | ⟨rfl, rfl⟩
              · exact ⟨by show 2 ≠ 0; decide, rfl, g5, _, hC5, hφ⟩
              · exact ⟨by show 3 ≠ 0; decide, rfl, g5, _, hC5, hφ⟩
            · obtain ⟨rfl, g5, σ5, e5, hC5⟩ := hq
              rw [hn2] at e5
              rw [e5]
              have hR5 := hC5.R
              obtain ⟨a0, a1, rw, f, hk0, hrw, hrφ, hf⟩ := hC5.rowφ hc n
              refine wp_aload d_Log_append_69 rfl ?_
              refine wp_get d_Log_append_71 fl_Log_80 (by first | exact hR5.cli hc | exact hC5.at hk0 | exact hC5.at hrφ) (by rfl) ?_
              refine wp_iload d_Log_append_74 rfl ?_
              refine wx_callV d_Log_append_76 cv_Log_83 cd_Layout_chainOf ⟨by decide, by decide⟩ (ct_chainOf G μ5 _ a0 a1 n _ (by omega) (hC5.at hk0)) (by exact hC5.at hk0) rfl rfl (Nat.le_of_ble_eq_true rfl) (Nat.le_of_ble_eq_true rfl) (Nat.le_of_ble_eq_true rfl) (fun E1 μ6 hq => WX.out rfl (no_hd _) (Nat.le_of_ble_eq_true rfl) (Nat.le_of_ble_eq_true rfl) ?_) (fun v1 μ6 hq => ?_)
              · exact hq.elim
              · obtain ⟨rfl, rfl⟩ := hq
                rw [hrw]
                have hln := ln_pos (δ (1 + c) (n % 2))
                refine wp_alen d_Log_append_79 (by exact (rfl : (TYS G.2.2.1)[0]? = some (G.2.2.1 0, .int))) (by first | exact hR5.cli hc | exact hC5.at hk0 | exact hC5.at hrφ) ?_
                refine wp_iload d_Log_append_80 rfl ?_
                refine wp_icmp_le (tgt := 89) d_Log_append_82 (by decide) (fun c82 => ?_) (fun c82 => ?_)
                · rw [nI_leI (by omega) (by omega)] at c82
                  refine wp_iconst (v := 0) d_Log_append_89 (by decide) ?_
                  refine wp_istore d_Log_append_90 (by decide) ?_
                  refine wp_iload d_Log_append_92 rfl ?_
                  refine wp_if_eq (tgt := 105) d_Log_append_94 (by decide) (fun c94 => ?_) (fun c94 => ?_)
                  · refine wp_iload d_Log_append_105 rfl ?_
                    refine wp_iret d_Log_append_107 rfl (Nat.le_of_ble_eq_true rfl) (Nat.le_of_ble_eq_true rfl) ⟨rfl, ?_, g5, _, hC5, hφ⟩
                    show _ = some (Value.int (if m < ln (δ (1 + c) (n % 2)) then _ else _))
                    rw [if_neg (by omega)]
                  · exact absurd rfl c94
                · rw [nI_leI (by omega) (by omega)] at c82
                  refine wp_iconst (v := 1) d_Log_append_85 (by decide) ?_
                  refine wp_goto (tgt := 90) d_Log_append_86 (by decide) ?_
                  refine wp_istore d_Log_append_90 (by decide) ?_
                  refine wp_iload d_Log_append_92 rfl ?_
                  refine wp_if_eq (tgt := 105) d_Log_append_94 (by decide) (fun c94 => ?_) (fun c94 => ?_)
                  · exact absurd c94 (by decide)
                  · refine wp_iload d_Log_append_97 rfl ?_
                    refine wp_bipush (v := 100) d_Log_append_99 (by decide) ?_
                    refine wp_isub d_Log_append_101 ?_
                    refine wp_goto (tgt := 107) d_Log_append_102 (by decide) ?_
                    refine wp_iret d_Log_append_107 rfl (Nat.le_of_ble_eq_true rfl) (Nat.le_of_ble_eq_true rfl) ⟨rfl, ?_, g5, _, hC5, hφ⟩
                    show _ = some (Value.int (if m < ln (δ (1 + c) (n % 2)) then _ else _))
                    rw [if_pos (by omega)]
end Pub4
