/-! THE CLASS'S FACE: each call's contract by one function of the state -/
/-- an argument within 0 .. n - 1 -/
def ar (x : Int32) (n : Nat) : Option Nat := if x < 0 ∨ nI n ≤ x then none else some x.toNatClampNeg
theorem ar_nI {c n : Nat} (h : c < n) (hn : n < 2 ^ 31) : ar (nI c) n = some c := by
  unfold ar
  rw [if_neg, nI_clamp (by omega)]
  intro q
  rcases q with q | q
  · exact nI_pos (by omega) q
  · exact nI_ge h hn q
theorem ar_ok {x y : Int32} {n : Nat} (hy : y = nI n) (hn : n < 1000) (h1 : ¬ x < 0) (h2 : ¬ y < x) : ∃ c, c < n + 1 ∧ x = nI c := by
  obtain ⟨j, hj, rfl⟩ := nI_of2 (M := y) (n := n) (by rw [hy]; exact nI_toInt (by omega)) h1 (Int32.not_lt.mp h2)
  exact ⟨j, by omega, rfl⟩
theorem ar_no {x y : Int32} {n : Nat} (hy : y = nI n) (hn : n < 1000) (h : x < 0 ∨ y < x) : ar x (n + 1) = none := by
  unfold ar
  rw [if_pos]
  rcases h with h | h
  · exact Or.inl h
  · refine Or.inr ?_
    rw [hy, Int32.lt_iff_toInt_lt, nI_toInt (by omega)] at h
    rw [Int32.le_iff_toInt_le, nI_toInt (by omega)]
    omega
abbrev RS : Type := Nat × Int32 × sg × dg
def PostC (G : mt_G) (φ : mu_M) (ad : Nat → Nat) (r : RS) : Option Value → mu_M → Prop := fun v μ' => r.1 = 0 ∧ v = some (.int r.2.1) ∧ ∃ g' φ', Cx G μ' φ' ad g' r.2.2.1 r.2.2.2 ∧ sub φ φ'
def PxC (G : mt_G) (φ : mu_M) (ad : Nat → Nat) (ex : Nat → String) (r : RS) : String → mu_M → Prop := fun E μ' => r.1 ≠ 0 ∧ E = ex r.1 ∧ ∃ g' φ', Cx G μ' φ' ad g' r.2.2.1 r.2.2.2 ∧ sub φ φ'
/-- what the numbers of the state are -/
def PI (σ : sg) (δ : dg) : Prop :=
  (∀ k ch, k < 5 → ch < 2 → vr (δ k ch) = true) ∧ (∃ n, n ≤ 60 ∧ σ 3 2 = nI n) ∧ (∀ c, c < 4 → ∃ p, p ≤ 60 ∧ σ (16 + c) 4 = nI p) ∧ (σ 3 0 = 0 ∨ σ 3 0 = 1) ∧ (∀ u, u < 6 → σ (4 + u) 1 = 0 ∨ σ (4 + u) 1 = 1) ∧ (∀ c, c < 4 → σ (16 + c) 3 = 0 ∨ σ (16 + c) 3 = 1) ∧
  (∀ c k, c < 4 → k < 4 → (σ (32 + c) k = 0 ∨ σ (32 + c) k = 1) ∧ (σ (40 + c) k = 0 ∨ σ (40 + c) k = 1)) ∧ ∀ u o, u < 6 → o < 60 → ∀ k, k < 4 → (σ (eR u o) (2 + k) = 0 ∨ σ (eR u o) (2 + k) = 1) ∧ (σ (eR u o) (10 + k) = 0 ∨ σ (eR u o) (10 + k) = 1)
def ex1 : Nat → String := fun _ => IAE
def ex2 : Nat → String := fun n => if n = 1 then IAE else ISE
section Pub
variable {G : mt_G} {μ φ : mu_M} {ad : Nat → Nat} {g : dg} {σ : sg} {δ : dg}
def S_learn (x : Int32) (σ : sg) (δ : dg) : RS := match ar x 4 with
  | some c => (0, σ 500 0, up2 σ (501 + c) 0 (σ 500 0), va_up δ (1 + c) (δ 0))
  | none => (1, 0, σ, δ)
/-- a client knows another layout -/
theorem Cx.know {μ' : mu_M} {c a : Nat} {ep : Int32} {dl : Nat → Nat} (h : Cx G μ φ ad g σ δ) (hc : c < 4) (hR : Rp G μ' ad σ (up2 g (16 + c) 5 a)) (hz : Fz G μ' φ ad) (hL : FL G φ a ep dl) : Cx G μ' φ ad (up2 g (16 + c) 5 a) (up2 σ (501 + c) 0 ep) (va_up δ (1 + c) dl) := by
  obtain ⟨-, -, h3, h4, h5, h6, h7, h8⟩ := h
  refine ⟨⟨fun i hi => ?_, hR.2.1, hR.2.2⟩, hz, fun u o hu ho => ?_, ?_, ?_, ?_, ?_, fun c1 hc1 => ?_⟩
  · rw [hR.1 i hi]; exact congrArg some (sh_congr (up2_n (by omega)) rfl)
  · rw [up2_n (by omega), up2_n (by unfold eR; omega)]; exact h3 u o hu ho
  · rw [up2_n (by omega)]; exact h4
  · rw [up2_n (by omega)]; exact h5
  · rw [up2_n (by omega)]; exact h6
  · rw [up2_n (by omega), up2_n (by omega), va_up_ne _ _ (by omega)]; exact h7
  · by_cases e : c1 = c
    · subst e
      rw [up2_s, up2_s, va_up_self, va_up_self, va_up_self]
      exact hL
    · rw [up2_n (by omega), up2_n (by omega), va_up_ne _ _ (by omega)]
      exact h8 c1 hc1
set_option maxHeartbeats 1000000 in
set_option maxRecDepth 10000 in
theorem ct_learn (hC : Cx G μ φ ad g σ δ) (x : Int32) : CT G M_Log_learn [.ref (ad 0), .int x] μ (PostC G φ ad (S_learn x σ δ)) (PxC G φ ad ex1 (S_learn x σ δ)) := by
  have hR := hC.R
  refine CT.of (by decide) rfl (Nat.le_of_ble_eq_true rfl) ?_
  refine wp_iload_n d_Log_learn_0 rfl rfl ?_
  refine wp_iconst (v := 3) d_Log_learn_1 (by decide) ?_
  refine wx_callS d_Log_learn_2 cs_Log_65 cd_Log_requireWithin ⟨by decide, by decide⟩ (ct_requireWithin G μ x 3) rfl rfl (Nat.le_of_ble_eq_true rfl) (Nat.le_of_ble_eq_true rfl) (Nat.le_of_ble_eq_true rfl) (fun E1 μ1 hq => WX.out rfl (no_hd _) (Nat.le_of_ble_eq_true rfl) (Nat.le_of_ble_eq_true rfl) ?_) (fun v1 μ1 hq => ?_)
  · obtain ⟨rfl, rfl, hx⟩ := hq
    rw [S_learn, ar_no (n := 3) rfl (by omega) hx]
    exact ⟨Nat.one_ne_zero, rfl, g, φ, hC, sub.rf φ⟩
  · obtain ⟨rfl, rfl, h1, h2⟩ := hq
    obtain ⟨c, hc, rfl⟩ := ar_ok (n := 3) rfl (by omega) h1 h2
    rw [S_learn, ar_nI hc (by omega)]
    refine wp_aload_n d_Log_learn_5 rfl rfl ?_
    refine wp_get d_Log_learn_6 fl_Log_17 (by first | exact hR.log | exact hR.car | exact hR.cli hc) (by rfl) ?_
    refine wp_iload_n d_Log_learn_9 rfl rfl ?_
    refine wp_aald d_Log_learn_10 (t := 4) (C := "SharedLog$Client") rfl (by first | exact hR.log | exact hR.car | exact hR.cli hc) (by rfl) (by exact hc) (by omega) (by rfl) ?_
    refine wp_aload_n d_Log_learn_11 rfl rfl ?_
    refine wp_get d_Log_learn_12 fl_Log_55 (by first | exact hR.log | exact hR.car | exact hR.cli hc) (by rfl) ?_
    refine wp_put d_Log_learn_15 fp_Log_80 (by first | exact hR.log | exact hR.car | exact hR.cli hc) (by exact hC.B (by omega)) (by rfl) (by rfl) (Nat.le_of_ble_eq_true rfl) ?_
    have hC2 := hC.know hc (hR.pKn (x := g 0 6) hc) (hC.z.up (by omega)) hC.2.2.2.2.2.2.1
    have hR2 := hC2.R
    obtain ⟨a0, a1, f0, f1, hk0, -⟩ := hC.2.2.2.2.2.2.1
    refine wp_aload_n d_Log_learn_18 rfl rfl ?_
    refine wp_get d_Log_learn_19 fl_Log_55 (by first | exact hR2.log | (rw [up2_n (show (0 : Nat) ≠ 16 + c by omega)]; exact hC2.at hk0)) (by rfl) ?_
    refine wp_get d_Log_learn_22 fl_Log_119 (by first | exact hR2.log | (rw [up2_n (show (0 : Nat) ≠ 16 + c by omega)]; exact hC2.at hk0)) (by rfl) ?_
    exact wp_iret d_Log_learn_25 rfl (by decide) (by decide) ⟨rfl, rfl, _, φ, hC2, sub.rf φ⟩
def S_up (x on : Int32) (σ : sg) (δ : dg) : RS := match ar x 6 with
  | some u => (0, σ (4 + u) 2, up2 σ (4 + u) 1 on, δ)
  | none => (1, 0, σ, δ)
set_option maxHeartbeats 1000000 in
set_option maxRecDepth 10000 in
theorem ct_up (hC : Cx G μ φ ad g σ δ) (x on : Int32) (hon : on = 0 ∨ on = 1) : CT G M_Log_up [.ref (ad 0), .int x, .int on] μ (PostC G φ ad (S_up x on σ δ)) (PxC G φ ad ex1 (S_up x on σ δ)) := by
  have hR := hC.R
  refine CT.of (by decide) rfl (Nat.le_of_ble_eq_true rfl) ?_
  refine wp_iload_n d_Log_up_0 rfl rfl ?_
  refine wp_iconst (v := 5) d_Log_up_1 (by decide) ?_
  refine wx_callS d_Log_up_2 cs_Log_65 cd_Log_requireWithin ⟨by decide, by decide⟩ (ct_requireWithin G μ x 5) rfl rfl (Nat.le_of_ble_eq_true rfl) (Nat.le_of_ble_eq_true rfl) (Nat.le_of_ble_eq_true rfl) (fun E1 μ1 hq => WX.out rfl (no_hd _) (Nat.le_of_ble_eq_true rfl) (Nat.le_of_ble_eq_true rfl) ?_) (fun v1 μ1 hq => ?_)
  · obtain ⟨rfl, rfl, hx⟩ := hq
    rw [S_up, ar_no (n := 5) rfl (by omega) hx]
    exact ⟨Nat.one_ne_zero, rfl, g, φ, hC, sub.rf φ⟩
  · obtain ⟨rfl, rfl, h1, h2⟩ := hq
    obtain ⟨u, hu, rfl⟩ := ar_ok (n := 5) rfl (by omega) h1 h2
    rw [S_up, ar_nI hu (by omega)]
    refine wp_aload_n d_Log_up_5 rfl rfl ?_
    refine wp_get d_Log_up_6 fl_Log_11 (by first | exact hR.log | exact hR.uar | exact hR.unit hu) (by rfl) ?_
    refine wp_iload_n d_Log_up_9 rfl rfl ?_
    refine wp_aald d_Log_up_10 (t := 3) (C := "SharedLog$Unit") rfl (by first | exact hR.log | exact hR.uar | exact hR.unit hu) (by rfl) (by exact hu) (by omega) (by rfl) ?_
    refine wp_iload_n d_Log_up_11 rfl rfl ?_
    refine wp_put d_Log_up_12 fp_Log_154 (by first | exact hR.log | exact hR.uar | exact hR.unit hu) (by exact hC.B (by omega)) (by rcases hon with rfl | rfl <;> rfl) (by rcases hon with rfl | rfl <;> rfl) (Nat.le_of_ble_eq_true rfl) ?_
    have hC2 := hC.reg (by omega) (hR.pUp (x := on) hu) (hC.z.up (by omega))
    have hR2 := hC2.R
    refine wp_aload_n d_Log_up_15 rfl rfl ?_
    refine wp_get d_Log_up_16 fl_Log_11 (by first | exact hR2.log | exact hR2.uar | exact hR2.unit hu) (by rfl) ?_
    refine wp_iload_n d_Log_up_19 rfl rfl ?_
    refine wp_aald d_Log_up_20 (t := 3) (C := "SharedLog$Unit") rfl (by first | exact hR2.log | exact hR2.uar | exact hR2.unit hu) (by rfl) (by exact hu) (by omega) (by rfl) ?_
    refine wp_get d_Log_up_21 fl_Log_158 (by first | exact hR2.log | exact hR2.uar | exact hR2.unit hu) (by rfl) ?_
    refine wp_iret d_Log_up_24 rfl (by decide) (by decide) ⟨rfl, ?_, _, φ, hC2, sub.rf φ⟩
    rw [up2_s, va_up_ne _ _ (by decide)]
def S_lose (σ : sg) (δ : dg) : RS := (0, σ 3 2, up2 σ 3 0 1, δ)
set_option maxHeartbeats 1000000 in
set_option maxRecDepth 10000 in
theorem ct_lose (hC : Cx G μ φ ad g σ δ) : CT G M_Log_lose [.ref (ad 0)] μ (PostC G φ ad (S_lose σ δ)) (fun _ _ => False) := by
  have hR := hC.R
  refine CT.of (by decide) rfl (Nat.le_of_ble_eq_true rfl) ?_
  refine wp_aload_n d_Log_lose_0 rfl rfl ?_
  refine wp_get d_Log_lose_1 fl_Log_24 (by first | exact hR.log | exact hR.seq) (by rfl) ?_
  refine wp_iconst (v := 1) d_Log_lose_4 (by decide) ?_
  refine wp_put d_Log_lose_5 fp_Log_161 (by first | exact hR.log | exact hR.seq) (by exact hC.B (by omega)) (by rfl) (by rfl) (Nat.le_of_ble_eq_true rfl) ?_
  have hC2 := hC.reg (by omega) (hR.pSeq0 (x := 1)) (hC.z.up (by omega))
  have hR2 := hC2.R
  refine wp_aload_n d_Log_lose_8 rfl rfl ?_
  refine wp_get d_Log_lose_9 fl_Log_24 (by first | exact hR2.log | exact hR2.seq) (by rfl) ?_
  refine wp_get d_Log_lose_12 fl_Log_152 (by first | exact hR2.log | exact hR2.seq) (by rfl) ?_
  exact wp_iret d_Log_lose_15 rfl (by decide) (by decide) ⟨rfl, rfl, _, φ, hC2, sub.rf φ⟩
def S_get (x k : Int32) (σ : sg) (δ : dg) : RS := match ar x 4, ar k 4 with
  | some c, some k => (0, σ (20 + c) k, σ, δ)
  | _, _ => (1, 0, σ, δ)
set_option maxHeartbeats 1000000 in
set_option maxRecDepth 10000 in
theorem ct_get (hC : Cx G μ φ ad g σ δ) (x y : Int32) : CT G M_Log_get [.ref (ad 0), .int x, .int y] μ (PostC G φ ad (S_get x y σ δ)) (PxC G φ ad ex1 (S_get x y σ δ)) := by
  have hR := hC.R
  refine CT.of (by decide) rfl (Nat.le_of_ble_eq_true rfl) ?_
  refine wp_iload_n d_Log_get_0 rfl rfl ?_
  refine wp_iconst (v := 3) d_Log_get_1 (by decide) ?_
  refine wx_callS d_Log_get_2 cs_Log_65 cd_Log_requireWithin ⟨by decide, by decide⟩ (ct_requireWithin G μ x 3) rfl rfl (Nat.le_of_ble_eq_true rfl) (Nat.le_of_ble_eq_true rfl) (Nat.le_of_ble_eq_true rfl) (fun E1 μ1 hq => WX.out rfl (no_hd _) (Nat.le_of_ble_eq_true rfl) (Nat.le_of_ble_eq_true rfl) ?_) (fun v1 μ1 hq => ?_)
  · obtain ⟨rfl, rfl, hx⟩ := hq
    rw [S_get, ar_no (n := 3) rfl (by omega) hx]
    exact ⟨Nat.one_ne_zero, rfl, g, φ, hC, sub.rf φ⟩
  · obtain ⟨rfl, rfl, h1, h2⟩ := hq
    obtain ⟨c, hc, rfl⟩ := ar_ok (n := 3) rfl (by omega) h1 h2
    refine wp_iload_n d_Log_get_5 rfl rfl ?_
    refine wp_iconst (v := 3) d_Log_get_6 (by decide) ?_
    refine wx_callS d_Log_get_7 cs_Log_65 cd_Log_requireWithin ⟨by decide, by decide⟩ (ct_requireWithin G μ1 y 3) rfl rfl (Nat.le_of_ble_eq_true rfl) (Nat.le_of_ble_eq_true rfl) (Nat.le_of_ble_eq_true rfl) (fun E1 μ1 hq => WX.out rfl (no_hd _) (Nat.le_of_ble_eq_true rfl) (Nat.le_of_ble_eq_true rfl) ?_) (fun v1 μ1 hq => ?_)
    · obtain ⟨rfl, rfl, hx⟩ := hq
      rw [S_get, ar_nI hc (by omega), ar_no (n := 3) rfl (by omega) hx]
      exact ⟨Nat.one_ne_zero, rfl, g, φ, hC, sub.rf φ⟩
    · obtain ⟨rfl, rfl, h1, h2⟩ := hq
      obtain ⟨k, hk, rfl⟩ := ar_ok (n := 3) rfl (by omega) h1 h2
      rw [S_get, ar_nI hc (by omega), ar_nI hk (by omega)]
      refine wp_aload_n d_Log_get_10 rfl rfl ?_
      refine wp_get d_Log_get_11 fl_Log_17 (by first | exact hR.log | exact hR.car | exact hR.cli hc | exact hR.val hc) (by rfl) ?_
      refine wp_iload_n d_Log_get_14 rfl rfl ?_
      refine wp_aald d_Log_get_15 (t := 4) (C := "SharedLog$Client") rfl (by first | exact hR.log | exact hR.car | exact hR.cli hc | exact hR.val hc) (by rfl) (by assumption) (by omega) (by rfl) ?_
      refine wp_get d_Log_get_16 fl_Log_175 (by first | exact hR.log | exact hR.car | exact hR.cli hc | exact hR.val hc) (by rfl) ?_
      refine wp_iload_n d_Log_get_19 rfl rfl ?_
      refine wp_iald d_Log_get_20 (by first | exact hR.log | exact hR.car | exact hR.cli hc | exact hR.val hc) (by rfl) (by assumption) (by omega) ?_
      exact wp_iret d_Log_get_21 rfl (by decide) (by decide) ⟨rfl, rfl, g, φ, hC, sub.rf φ⟩
def S_look (x y : Int32) (σ : sg) (δ : dg) : RS := match ar x 6, ar y 60 with
  | some u, some o => (0, σ (eR u o) 0, σ, δ)
  | _, _ => (1, 0, σ, δ)
set_option maxHeartbeats 1000000 in
set_option maxRecDepth 10000 in
theorem ct_look (hC : Cx G μ φ ad g σ δ) (x y : Int32) : CT G M_Log_look [.ref (ad 0), .int x, .int y] μ (PostC G φ ad (S_look x y σ δ)) (PxC G φ ad ex1 (S_look x y σ δ)) := by
  have hR := hC.R
  refine CT.of (by decide) rfl (Nat.le_of_ble_eq_true rfl) ?_
  refine wp_iload_n d_Log_look_0 rfl rfl ?_
  refine wp_iconst (v := 5) d_Log_look_1 (by decide) ?_
  refine wx_callS d_Log_look_2 cs_Log_65 cd_Log_requireWithin ⟨by decide, by decide⟩ (ct_requireWithin G μ x 5) rfl rfl (Nat.le_of_ble_eq_true rfl) (Nat.le_of_ble_eq_true rfl) (Nat.le_of_ble_eq_true rfl) (fun E1 μ1 hq => WX.out rfl (no_hd _) (Nat.le_of_ble_eq_true rfl) (Nat.le_of_ble_eq_true rfl) ?_) (fun v1 μ1 hq => ?_)
  · obtain ⟨rfl, rfl, hx⟩ := hq
    rw [S_look, ar_no (n := 5) rfl (by omega) hx]
    exact ⟨Nat.one_ne_zero, rfl, g, φ, hC, sub.rf φ⟩
  · obtain ⟨rfl, rfl, h1, h2⟩ := hq
    obtain ⟨u, hu, rfl⟩ := ar_ok (n := 5) rfl (by omega) h1 h2
    refine wp_iload_n d_Log_look_5 rfl rfl ?_
    refine wp_bipush (v := 59) d_Log_look_6 (by decide) ?_
    refine wx_callS d_Log_look_8 cs_Log_65 cd_Log_requireWithin ⟨by decide, by decide⟩ (ct_requireWithin G μ1 y 59) rfl rfl (Nat.le_of_ble_eq_true rfl) (Nat.le_of_ble_eq_true rfl) (Nat.le_of_ble_eq_true rfl) (fun E1 μ1 hq => WX.out rfl (no_hd _) (Nat.le_of_ble_eq_true rfl) (Nat.le_of_ble_eq_true rfl) ?_) (fun v1 μ1 hq => ?_)
    · obtain ⟨rfl, rfl, hx⟩ := hq
      rw [S_look, ar_nI hu (by omega), ar_no (n := 59) rfl (by omega) hx]
      exact ⟨Nat.one_ne_zero, rfl, g, φ, hC, sub.rf φ⟩
    · obtain ⟨rfl, rfl, h1, h2⟩ := hq
      obtain ⟨o, ho, rfl⟩ := ar_ok (n := 59) rfl (by omega) h1 h2
      rw [S_look, ar_nI hu (by omega), ar_nI ho (by omega)]
      obtain ⟨w1, he1, -⟩ := hC.ent hu ho
      refine wp_aload_n d_Log_look_11 rfl rfl ?_
      refine wp_get d_Log_look_12 fl_Log_11 (by first | exact hR.log | exact hR.uar | exact hR.unit hu | exact hR.cells hu | exact he1) (by rfl) ?_
      refine wp_iload_n d_Log_look_15 rfl rfl ?_
      refine wp_aald d_Log_look_16 (t := 3) (C := "SharedLog$Unit") rfl (by first | exact hR.log | exact hR.uar | exact hR.unit hu | exact hR.cells hu | exact he1) (by rfl) (by assumption) (by omega) (by rfl) ?_
      refine wp_get d_Log_look_17 fl_Log_111 (by first | exact hR.log | exact hR.uar | exact hR.unit hu | exact hR.cells hu | exact he1) (by rfl) ?_
      refine wp_iload_n d_Log_look_20 rfl rfl ?_
      refine wp_aald d_Log_look_21 (t := 5) (C := "SharedLog$Entry") rfl (by first | exact hR.log | exact hR.uar | exact hR.unit hu | exact hR.cells hu | exact he1) (by rfl) (by assumption) (by omega) (by rfl) ?_
      refine wp_get d_Log_look_22 fl_Log_90 (by first | exact hR.log | exact hR.uar | exact hR.unit hu | exact hR.cells hu | exact he1) (by rfl) ?_
      exact wp_iret d_Log_look_25 rfl (by decide) (by decide) ⟨rfl, rfl, g, φ, hC, sub.rf φ⟩
end Pub
