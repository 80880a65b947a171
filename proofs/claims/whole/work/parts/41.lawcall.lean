/-! THE CLASS'S ANSWERS THROUGH THE LAW'S HELPERS -/
theorem wrS_le {c o d : Nat} {v : Nat → Int32} : ∀ (n i : Nat) (σ : sg), (wrS c o v d n i σ).1 ≤ 2
  | 0, _, _ => Nat.zero_le _
  | n + 1, i, σ => by
    unfold wrS
    split
    · split
      · exact wrS_le n _ _
      · exact Nat.le_refl 2
    · exact Nat.le_succ 1
theorem S_learn_le (x : Int32) (σ : sg) (δ : dg) : (S_learn x σ δ).1 ≤ 1 := by unfold S_learn; split <;> simp
theorem S_up_le (x on : Int32) (σ : sg) (δ : dg) : (S_up x on σ δ).1 ≤ 1 := by unfold S_up; split <;> simp
theorem S_get_le (x y : Int32) (σ : sg) (δ : dg) : (S_get x y σ δ).1 ≤ 1 := by unfold S_get; split <;> simp
theorem S_look_le (x y : Int32) (σ : sg) (δ : dg) : (S_look x y σ δ).1 ≤ 1 := by unfold S_look; split <;> simp
theorem S_drop_le (x : Int32) (σ : sg) (δ : dg) : (S_drop x σ δ).1 ≤ 1 := by
  unfold S_drop
  split
  · split <;> simp
  · simp
theorem S_client_le (x y : Int32) (σ : sg) (δ : dg) : (S_client x y σ δ).1 ≤ 1 := by unfold S_client; split <;> simp
theorem S_count_le (x : Int32) (σ : sg) (δ : dg) : (S_count x σ δ).1 ≤ 1 := by unfold S_count; split <;> simp
theorem S_begin_le (x : Int32) (σ : sg) (δ : dg) : (S_begin x σ δ).1 ≤ 2 := by
  unfold S_begin
  split
  · split <;> simp
  · simp
theorem S_put_le (x y v : Int32) (σ : sg) (δ : dg) : (S_put x y v σ δ).1 ≤ 2 := by
  unfold S_put
  split
  · split <;> simp
  · simp
theorem S_see_le (x y : Int32) (σ : sg) (δ : dg) : (S_see x y σ δ).1 ≤ 2 := by
  unfold S_see
  split
  · split
    · simp
    · split <;> simp
  · simp
theorem S_trim_le (x y : Int32) (σ : sg) (δ : dg) : (S_trim x y σ δ).1 ≤ 2 := by
  unfold S_trim
  split
  · split
    split <;> simp
  · simp
theorem S_fill_le (x y : Int32) (σ : sg) (δ : dg) : (S_fill x y σ δ).1 ≤ 2 := by
  unfold S_fill
  split
  · split
    split <;> simp
  · simp
theorem S_change_le (x y r9 : Int32) (σ : sg) (δ : dg) : (S_change x y r9 σ δ).1 ≤ 2 := by
  unfold S_change
  split
  · split
    · unfold chS
      split
      · exact Nat.zero_le _
      · exact Nat.le_refl 2
    · exact Nat.le_succ 1
  · exact Nat.le_succ 1
theorem S_read_le (x y : Int32) (σ : sg) (δ : dg) : (S_read x y σ δ).1 ≤ 5 := by
  unfold S_read
  split
  · unfold rdS
    repeat' split
    all_goals simp
  · simp
theorem S_sync_le (x : Int32) (σ : sg) (δ : dg) : (S_sync x σ δ).1 ≤ 4 := by
  unfold S_sync
  split
  · unfold syS
    split
    · simp
    · split
      split
      · simp
      · show (if _ then 2 else if _ then 4 else 3) ≤ 4
        repeat' split
        all_goals simp
  · simp
theorem S_append_le (x y v z : Int32) (σ : sg) (δ : dg) : (S_append x y v z σ δ).1 ≤ 4 := by
  unfold S_append
  split
  · unfold apS
    split
    · simp
    · split
      · split
        next w σ' he =>
          have h9 := congrArg Prod.fst he
          have h8 : w ≤ 2 := (show _ = w from h9) ▸ wrS_le _ _ _
          split
          · simp
          · show w + 1 ≤ 4
            omega
      · simp
  · simp
theorem S_commit_le (x : Int32) (σ : sg) (δ : dg) : (S_commit x σ δ).1 ≤ 5 := by
  unfold S_commit
  split
  next c he =>
    unfold coS
    split
    · simp
    · split
      · simp
      · have h9 : (wpS c σ δ).1 ≤ 5 := by
          unfold wpS
          split
          · simp
          · split
            · split
              split
              · split
                split
                · simp
                · show (if _ then 2 else if _ then 5 else 3) ≤ 5
                  repeat' split
                  all_goals simp
              · show (if _ then 2 else 4) ≤ 5
                split <;> simp
            · simp
        split
        next k t σ' δ' h8 =>
          rw [h8] at h9
          split
          · simp
          · exact h9
  · simp
/-- a helper's end: k, and the class's answer in the array -/
def PH (G : mt_G) (ad : Nat → Nat) (oa : Nat) (r : RS) : Option Value → mu_M → Prop := fun w μ2 => w = some (.int (nI r.1)) ∧ ∃ (μ1 φ : mu_M) (g : dg) (f : Nat → Int64), Cx G μ1 φ ad g r.2.2.1 r.2.2.2 ∧ (∀ a, a ≠ oa → μ2 a = μ1 a) ∧ μ2 oa = some (.inl (G.2.2.1 2, 1, .inr (.inl f))) ∧ (r.1 = 0 → f 0 = r.2.1.toInt64)
section LH
variable {G : mt_G} {μ φ : mu_M} {ad : Nat → Nat} {g : dg} {σ : sg} {δ : dg} {oa : Nat} {f : Nat → Int64} {r : RS}
set_option maxHeartbeats 1000000 in
set_option maxRecDepth 10000 in
theorem ch_append {x y v z : Int32} (hC : Cx G μ φ ad g σ δ) (ho : G.2.2.2.2 oa = some (.inl (G.2.2.1 2, 1, .inr (.inl f)))) (hB : G.2.2.2.1 ≤ oa) (hle : r.1 ≤ 4) (hK : CT G M_Log_append [.ref (ad 0), .int x, .int y, .int v, .int z] μ (PostC G φ ad r) (PxC G φ ad exApp r)) : CTH G M_Law_append hh_Law_append [.ref (ad 0), .int x, .int y, .int v, .int z, .ref oa] μ (PH G ad oa r) (fun _ _ => False) := by
  have hR := hC.R
  refine CTH.of (by decide) rfl (Nat.le_of_ble_eq_true rfl) ?_
  refine wp_aload d_Law_append_0 rfl ?_
  refine wp_iconst (v := 0) d_Law_append_2 (by decide) ?_
  refine wp_aload_n d_Law_append_3 rfl rfl ?_
  refine wp_iload_n d_Law_append_4 rfl rfl ?_
  refine wp_iload_n d_Law_append_5 rfl rfl ?_
  refine wp_iload_n d_Law_append_6 rfl rfl ?_
  refine wp_iload d_Law_append_7 rfl ?_
  refine wx_callV d_Law_append_9 cv_Law_7 cd_Log_append ⟨by decide, by decide⟩ hK hR.log rfl rfl (Nat.le_of_ble_eq_true rfl) (Nat.le_of_ble_eq_true rfl) (Nat.le_of_ble_eq_true rfl) (fun E μ1 hq => ?_) (fun w μ1 hq => ?_)
  · obtain ⟨h0, rfl, g1, φ1, hC1, -⟩ := hq
    have ho1 := (hC1.z.2 _ _ ho).1
    rcases (show r.1 = 1 ∨ r.1 = 2 ∨ r.1 = 3 ∨ r.1 = 4 by omega) with e | e | e | e
    · rw [e]
      refine WX.cat [] 0 14 17 13 [(0, 14, 21, 15), (0, 14, 25, 17), (0, 14, 29, 19)] rfl rfl (by decide +kernel) (by decide +kernel) (by decide +kernel) rfl (fun q => ?_)
      refine wp_astore d_Law_append_17 (by decide) ?_
      refine wp_iconst (v := 1) d_Law_append_19 (by decide) ?_
      exact wp_iret d_Law_append_20 rfl (by decide) (by decide) ⟨by rw [e]; rfl, μ1, φ1, g1, f, hC1, fun _ _ => rfl, ho1, fun z => absurd z h0⟩
    · rw [e]
      refine WX.cat [(0, 14, 17, 13)] 0 14 21 15 [(0, 14, 25, 17), (0, 14, 29, 19)] rfl rfl (by decide +kernel) (by decide +kernel) (by decide +kernel) rfl (fun q => ?_)
      refine wp_astore d_Law_append_21 (by decide) ?_
      refine wp_iconst (v := 2) d_Law_append_23 (by decide) ?_
      exact wp_iret d_Law_append_24 rfl (by decide) (by decide) ⟨by rw [e]; rfl, μ1, φ1, g1, f, hC1, fun _ _ => rfl, ho1, fun z => absurd z h0⟩
    · rw [e]
      refine WX.cat [(0, 14, 17, 13), (0, 14, 21, 15)] 0 14 25 17 [(0, 14, 29, 19)] rfl rfl (by decide +kernel) (by decide +kernel) (by decide +kernel) rfl (fun q => ?_)
      refine wp_astore d_Law_append_25 (by decide) ?_
      refine wp_iconst (v := 3) d_Law_append_27 (by decide) ?_
      exact wp_iret d_Law_append_28 rfl (by decide) (by decide) ⟨by rw [e]; rfl, μ1, φ1, g1, f, hC1, fun _ _ => rfl, ho1, fun z => absurd z h0⟩
    · rw [e]
      refine WX.cat [(0, 14, 17, 13), (0, 14, 21, 15), (0, 14, 25, 17)] 0 14 29 19 [] rfl rfl (by decide +kernel) (by decide +kernel) (by decide +kernel) rfl (fun q => ?_)
      refine wp_astore d_Law_append_29 (by decide) ?_
      refine wp_iconst (v := 4) d_Law_append_31 (by decide) ?_
      exact wp_iret d_Law_append_32 rfl (by decide) (by decide) ⟨by rw [e]; rfl, μ1, φ1, g1, f, hC1, fun _ _ => rfl, ho1, fun z => absurd z h0⟩
  · obtain ⟨h0, rfl, g1, φ1, hC1, -⟩ := hq
    have ho1 := (hC1.z.2 _ _ ho).1
    refine wp_i2l d_Law_append_12 rfl ?_
    refine wp_last d_Law_append_13 ho1 hB (j := 0) rfl (by decide) (by decide) ?_
    refine wp_goto (tgt := 33) d_Law_append_14 (by decide) ?_
    refine wp_iconst (v := 0) d_Law_append_33 (by decide) ?_
    exact wp_iret d_Law_append_34 rfl (by decide) (by decide) ⟨by rw [h0]; rfl, μ1, φ1, g1, _, hC1, fun a ha => mu_up_n ha, mu_up_s _ _ _, fun _ => rfl⟩
set_option maxHeartbeats 1000000 in
set_option maxRecDepth 10000 in
theorem ch_read {x y : Int32} (hC : Cx G μ φ ad g σ δ) (ho : G.2.2.2.2 oa = some (.inl (G.2.2.1 2, 1, .inr (.inl f)))) (hB : G.2.2.2.1 ≤ oa) (hle : r.1 ≤ 5) (hK : CT G M_Log_read [.ref (ad 0), .int x, .int y] μ (PostC G φ ad r) (PxC G φ ad exRead r)) : CTH G M_Law_read hh_Law_read [.ref (ad 0), .int x, .int y, .ref oa] μ (PH G ad oa r) (fun _ _ => False) := by
  have hR := hC.R
  refine CTH.of (by decide) rfl (Nat.le_of_ble_eq_true rfl) ?_
  refine wp_aload_n d_Law_read_0 rfl rfl ?_
  refine wp_iconst (v := 0) d_Law_read_1 (by decide) ?_
  refine wp_aload_n d_Law_read_2 rfl rfl ?_
  refine wp_iload_n d_Law_read_3 rfl rfl ?_
  refine wp_iload_n d_Law_read_4 rfl rfl ?_
  refine wx_callV d_Law_read_5 cv_Law_21 cd_Log_read ⟨by decide, by decide⟩ hK hR.log rfl rfl (Nat.le_of_ble_eq_true rfl) (Nat.le_of_ble_eq_true rfl) (Nat.le_of_ble_eq_true rfl) (fun E μ1 hq => ?_) (fun w μ1 hq => ?_)
  · obtain ⟨h0, rfl, g1, φ1, hC1, -⟩ := hq
    have ho1 := (hC1.z.2 _ _ ho).1
    rcases (show r.1 = 1 ∨ r.1 = 2 ∨ r.1 = 3 ∨ r.1 = 4 ∨ r.1 = 5 by omega) with e | e | e | e | e
    · rw [e]
      refine WX.cat [] 0 10 13 13 [(0, 10, 17, 15), (0, 10, 21, 25), (0, 10, 25, 17), (0, 10, 29, 19)] rfl rfl (by decide +kernel) (by decide +kernel) (by decide +kernel) rfl (fun q => ?_)
      refine wp_astore d_Law_read_13 (by decide) ?_
      refine wp_iconst (v := 1) d_Law_read_15 (by decide) ?_
      exact wp_iret d_Law_read_16 rfl (by decide) (by decide) ⟨by rw [e]; rfl, μ1, φ1, g1, f, hC1, fun _ _ => rfl, ho1, fun z => absurd z h0⟩
    · rw [e]
      refine WX.cat [(0, 10, 13, 13)] 0 10 17 15 [(0, 10, 21, 25), (0, 10, 25, 17), (0, 10, 29, 19)] rfl rfl (by decide +kernel) (by decide +kernel) (by decide +kernel) rfl (fun q => ?_)
      refine wp_astore d_Law_read_17 (by decide) ?_
      refine wp_iconst (v := 2) d_Law_read_19 (by decide) ?_
      exact wp_iret d_Law_read_20 rfl (by decide) (by decide) ⟨by rw [e]; rfl, μ1, φ1, g1, f, hC1, fun _ _ => rfl, ho1, fun z => absurd z h0⟩
    · rw [e]
      refine WX.cat [(0, 10, 13, 13), (0, 10, 17, 15)] 0 10 21 25 [(0, 10, 25, 17), (0, 10, 29, 19)] rfl rfl (by decide +kernel) (by decide +kernel) (by decide +kernel) rfl (fun q => ?_)
      refine wp_astore d_Law_read_21 (by decide) ?_
      refine wp_iconst (v := 3) d_Law_read_23 (by decide) ?_
      exact wp_iret d_Law_read_24 rfl (by decide) (by decide) ⟨by rw [e]; rfl, μ1, φ1, g1, f, hC1, fun _ _ => rfl, ho1, fun z => absurd z h0⟩
    · rw [e]
      refine WX.cat [(0, 10, 13, 13), (0, 10, 17, 15), (0, 10, 21, 25)] 0 10 25 17 [(0, 10, 29, 19)] rfl rfl (by decide +kernel) (by decide +kernel) (by decide +kernel) rfl (fun q => ?_)
      refine wp_astore d_Law_read_25 (by decide) ?_
      refine wp_iconst (v := 4) d_Law_read_27 (by decide) ?_
      exact wp_iret d_Law_read_28 rfl (by decide) (by decide) ⟨by rw [e]; rfl, μ1, φ1, g1, f, hC1, fun _ _ => rfl, ho1, fun z => absurd z h0⟩
    · rw [e]
      refine WX.cat [(0, 10, 13, 13), (0, 10, 17, 15), (0, 10, 21, 25), (0, 10, 25, 17)] 0 10 29 19 [] rfl rfl (by decide +kernel) (by decide +kernel) (by decide +kernel) rfl (fun q => ?_)
      refine wp_astore d_Law_read_29 (by decide) ?_
      refine wp_iconst (v := 5) d_Law_read_31 (by decide) ?_
      exact wp_iret d_Law_read_32 rfl (by decide) (by decide) ⟨by rw [e]; rfl, μ1, φ1, g1, f, hC1, fun _ _ => rfl, ho1, fun z => absurd z h0⟩
  · obtain ⟨h0, rfl, g1, φ1, hC1, -⟩ := hq
    have ho1 := (hC1.z.2 _ _ ho).1
    refine wp_i2l d_Law_read_8 rfl ?_
    refine wp_last d_Law_read_9 ho1 hB (j := 0) rfl (by decide) (by decide) ?_
    refine wp_goto (tgt := 33) d_Law_read_10 (by decide) ?_
    refine wp_iconst (v := 0) d_Law_read_33 (by decide) ?_
    exact wp_iret d_Law_read_34 rfl (by decide) (by decide) ⟨by rw [h0]; rfl, μ1, φ1, g1, _, hC1, fun a ha => mu_up_n ha, mu_up_s _ _ _, fun _ => rfl⟩
set_option maxHeartbeats 1000000 in
set_option maxRecDepth 10000 in
theorem ch_fill {x y : Int32} (hC : Cx G μ φ ad g σ δ) (ho : G.2.2.2.2 oa = some (.inl (G.2.2.1 2, 1, .inr (.inl f)))) (hB : G.2.2.2.1 ≤ oa) (hle : r.1 ≤ 2) (hK : CT G M_Log_fill [.ref (ad 0), .int x, .int y] μ (PostC G φ ad r) (PxC G φ ad ex2 r)) : CTH G M_Law_fill hh_Law_fill [.ref (ad 0), .int x, .int y, .ref oa] μ (PH G ad oa r) (fun _ _ => False) := by
  have hR := hC.R
  refine CTH.of (by decide) rfl (Nat.le_of_ble_eq_true rfl) ?_
  refine wp_aload_n d_Law_fill_0 rfl rfl ?_
  refine wp_iconst (v := 0) d_Law_fill_1 (by decide) ?_
  refine wp_aload_n d_Law_fill_2 rfl rfl ?_
  refine wp_iload_n d_Law_fill_3 rfl rfl ?_
  refine wp_iload_n d_Law_fill_4 rfl rfl ?_
  refine wx_callV d_Law_fill_5 cv_Law_27 cd_Log_fill ⟨by decide, by decide⟩ hK hR.log rfl rfl (Nat.le_of_ble_eq_true rfl) (Nat.le_of_ble_eq_true rfl) (Nat.le_of_ble_eq_true rfl) (fun E μ1 hq => ?_) (fun w μ1 hq => ?_)
  · obtain ⟨h0, rfl, g1, φ1, hC1, -⟩ := hq
    have ho1 := (hC1.z.2 _ _ ho).1
    rcases (show r.1 = 1 ∨ r.1 = 2 by omega) with e | e
    · rw [e]
      refine WX.cat [] 0 10 13 13 [(0, 10, 17, 15)] rfl rfl (by decide +kernel) (by decide +kernel) (by decide +kernel) rfl (fun q => ?_)
      refine wp_astore d_Law_fill_13 (by decide) ?_
      refine wp_iconst (v := 1) d_Law_fill_15 (by decide) ?_
      exact wp_iret d_Law_fill_16 rfl (by decide) (by decide) ⟨by rw [e]; rfl, μ1, φ1, g1, f, hC1, fun _ _ => rfl, ho1, fun z => absurd z h0⟩
    · rw [e]
      refine WX.cat [(0, 10, 13, 13)] 0 10 17 15 [] rfl rfl (by decide +kernel) (by decide +kernel) (by decide +kernel) rfl (fun q => ?_)
      refine wp_astore d_Law_fill_17 (by decide) ?_
      refine wp_iconst (v := 2) d_Law_fill_19 (by decide) ?_
      exact wp_iret d_Law_fill_20 rfl (by decide) (by decide) ⟨by rw [e]; rfl, μ1, φ1, g1, f, hC1, fun _ _ => rfl, ho1, fun z => absurd z h0⟩
  · obtain ⟨h0, rfl, g1, φ1, hC1, -⟩ := hq
    have ho1 := (hC1.z.2 _ _ ho).1
    refine wp_i2l d_Law_fill_8 rfl ?_
    refine wp_last d_Law_fill_9 ho1 hB (j := 0) rfl (by decide) (by decide) ?_
    refine wp_goto (tgt := 21) d_Law_fill_10 (by decide) ?_
    refine wp_iconst (v := 0) d_Law_fill_21 (by decide) ?_
    exact wp_iret d_Law_fill_22 rfl (by decide) (by decide) ⟨by rw [h0]; rfl, μ1, φ1, g1, _, hC1, fun a ha => mu_up_n ha, mu_up_s _ _ _, fun _ => rfl⟩
set_option maxHeartbeats 1000000 in
set_option maxRecDepth 10000 in
theorem ch_trim {x y : Int32} (hC : Cx G μ φ ad g σ δ) (ho : G.2.2.2.2 oa = some (.inl (G.2.2.1 2, 1, .inr (.inl f)))) (hB : G.2.2.2.1 ≤ oa) (hle : r.1 ≤ 2) (hK : CT G M_Log_trim [.ref (ad 0), .int x, .int y] μ (PostC G φ ad r) (PxC G φ ad ex2 r)) : CTH G M_Law_trim hh_Law_trim [.ref (ad 0), .int x, .int y, .ref oa] μ (PH G ad oa r) (fun _ _ => False) := by
  have hR := hC.R
  refine CTH.of (by decide) rfl (Nat.le_of_ble_eq_true rfl) ?_
  refine wp_aload_n d_Law_trim_0 rfl rfl ?_
  refine wp_iconst (v := 0) d_Law_trim_1 (by decide) ?_
  refine wp_aload_n d_Law_trim_2 rfl rfl ?_
  refine wp_iload_n d_Law_trim_3 rfl rfl ?_
  refine wp_iload_n d_Law_trim_4 rfl rfl ?_
  refine wx_callV d_Law_trim_5 cv_Law_30 cd_Log_trim ⟨by decide, by decide⟩ hK hR.log rfl rfl (Nat.le_of_ble_eq_true rfl) (Nat.le_of_ble_eq_true rfl) (Nat.le_of_ble_eq_true rfl) (fun E μ1 hq => ?_) (fun w μ1 hq => ?_)
  · obtain ⟨h0, rfl, g1, φ1, hC1, -⟩ := hq
    have ho1 := (hC1.z.2 _ _ ho).1
    rcases (show r.1 = 1 ∨ r.1 = 2 by omega) with e | e
    · rw [e]
      refine WX.cat [] 0 10 13 13 [(0, 10, 17, 15)] rfl rfl (by decide +kernel) (by decide +kernel) (by decide +kernel) rfl (fun q => ?_)
      refine wp_astore d_Law_trim_13 (by decide) ?_
      refine wp_iconst (v := 1) d_Law_trim_15 (by decide) ?_
      exact wp_iret d_Law_trim_16 rfl (by decide) (by decide) ⟨by rw [e]; rfl, μ1, φ1, g1, f, hC1, fun _ _ => rfl, ho1, fun z => absurd z h0⟩
    · rw [e]
      refine WX.cat [(0, 10, 13, 13)] 0 10 17 15 [] rfl rfl (by decide +kernel) (by decide +kernel) (by decide +kernel) rfl (fun q => ?_)
      refine wp_astore d_Law_trim_17 (by decide) ?_
      refine wp_iconst (v := 2) d_Law_trim_19 (by decide) ?_
      exact wp_iret d_Law_trim_20 rfl (by decide) (by decide) ⟨by rw [e]; rfl, μ1, φ1, g1, f, hC1, fun _ _ => rfl, ho1, fun z => absurd z h0⟩
  · obtain ⟨h0, rfl, g1, φ1, hC1, -⟩ := hq
    have ho1 := (hC1.z.2 _ _ ho).1
    refine wp_i2l d_Law_trim_8 rfl ?_
    refine wp_last d_Law_trim_9 ho1 hB (j := 0) rfl (by decide) (by decide) ?_
    refine wp_goto (tgt := 21) d_Law_trim_10 (by decide) ?_
    refine wp_iconst (v := 0) d_Law_trim_21 (by decide) ?_
    exact wp_iret d_Law_trim_22 rfl (by decide) (by decide) ⟨by rw [h0]; rfl, μ1, φ1, g1, _, hC1, fun a ha => mu_up_n ha, mu_up_s _ _ _, fun _ => rfl⟩
set_option maxHeartbeats 1000000 in
set_option maxRecDepth 10000 in
theorem ch_learn {x : Int32} (hC : Cx G μ φ ad g σ δ) (ho : G.2.2.2.2 oa = some (.inl (G.2.2.1 2, 1, .inr (.inl f)))) (hB : G.2.2.2.1 ≤ oa) (hle : r.1 ≤ 1) (hK : CT G M_Log_learn [.ref (ad 0), .int x] μ (PostC G φ ad r) (PxC G φ ad ex1 r)) : CTH G M_Law_learn hh_Law_learn [.ref (ad 0), .int x, .ref oa] μ (PH G ad oa r) (fun _ _ => False) := by
  have hR := hC.R
  refine CTH.of (by decide) rfl (Nat.le_of_ble_eq_true rfl) ?_
  refine wp_aload_n d_Law_learn_0 rfl rfl ?_
  refine wp_iconst (v := 0) d_Law_learn_1 (by decide) ?_
  refine wp_aload_n d_Law_learn_2 rfl rfl ?_
  refine wp_iload_n d_Law_learn_3 rfl rfl ?_
  refine wx_callV d_Law_learn_4 cv_Law_33 cd_Log_learn ⟨by decide, by decide⟩ hK hR.log rfl rfl (Nat.le_of_ble_eq_true rfl) (Nat.le_of_ble_eq_true rfl) (Nat.le_of_ble_eq_true rfl) (fun E μ1 hq => ?_) (fun w μ1 hq => ?_)
  · obtain ⟨h0, rfl, g1, φ1, hC1, -⟩ := hq
    have ho1 := (hC1.z.2 _ _ ho).1
    rcases (show r.1 = 1 by omega) with e
    · rw [e]
      refine WX.cat [] 0 9 12 13 [] rfl rfl (by decide +kernel) (by decide +kernel) (by decide +kernel) rfl (fun q => ?_)
      refine wp_astore_n d_Law_learn_12 rfl (by decide) ?_
      refine wp_iconst (v := 1) d_Law_learn_13 (by decide) ?_
      exact wp_iret d_Law_learn_14 rfl (by decide) (by decide) ⟨by rw [e]; rfl, μ1, φ1, g1, f, hC1, fun _ _ => rfl, ho1, fun z => absurd z h0⟩
  · obtain ⟨h0, rfl, g1, φ1, hC1, -⟩ := hq
    have ho1 := (hC1.z.2 _ _ ho).1
    refine wp_i2l d_Law_learn_7 rfl ?_
    refine wp_last d_Law_learn_8 ho1 hB (j := 0) rfl (by decide) (by decide) ?_
    refine wp_goto (tgt := 15) d_Law_learn_9 (by decide) ?_
    refine wp_iconst (v := 0) d_Law_learn_15 (by decide) ?_
    exact wp_iret d_Law_learn_16 rfl (by decide) (by decide) ⟨by rw [h0]; rfl, μ1, φ1, g1, _, hC1, fun a ha => mu_up_n ha, mu_up_s _ _ _, fun _ => rfl⟩
set_option maxHeartbeats 1000000 in
set_option maxRecDepth 10000 in
theorem ch_change {x y r9 : Int32} (hC : Cx G μ φ ad g σ δ) (ho : G.2.2.2.2 oa = some (.inl (G.2.2.1 2, 1, .inr (.inl f)))) (hB : G.2.2.2.1 ≤ oa) (hle : r.1 ≤ 2) (hK : CT G M_Log_change [.ref (ad 0), .int x, .int y, .int r9] μ (PostC G φ ad r) (PxC G φ ad ex2 r)) : CTH G M_Law_change hh_Law_change [.ref (ad 0), .int x, .int y, .int r9, .ref oa] μ (PH G ad oa r) (fun _ _ => False) := by
  have hR := hC.R
  refine CTH.of (by decide) rfl (Nat.le_of_ble_eq_true rfl) ?_
  refine wp_aload d_Law_change_0 rfl ?_
  refine wp_iconst (v := 0) d_Law_change_2 (by decide) ?_
  refine wp_aload_n d_Law_change_3 rfl rfl ?_
  refine wp_iload_n d_Law_change_4 rfl rfl ?_
  refine wp_iload_n d_Law_change_5 rfl rfl ?_
  refine wp_iload_n d_Law_change_6 rfl rfl ?_
  refine wx_callV d_Law_change_7 cv_Law_37 cd_Log_change ⟨by decide, by decide⟩ hK hR.log rfl rfl (Nat.le_of_ble_eq_true rfl) (Nat.le_of_ble_eq_true rfl) (Nat.le_of_ble_eq_true rfl) (fun E μ1 hq => ?_) (fun w μ1 hq => ?_)
  · obtain ⟨h0, rfl, g1, φ1, hC1, -⟩ := hq
    have ho1 := (hC1.z.2 _ _ ho).1
    rcases (show r.1 = 1 ∨ r.1 = 2 by omega) with e | e
    · rw [e]
      refine WX.cat [] 0 12 15 13 [(0, 12, 19, 15)] rfl rfl (by decide +kernel) (by decide +kernel) (by decide +kernel) rfl (fun q => ?_)
      refine wp_astore d_Law_change_15 (by decide) ?_
      refine wp_iconst (v := 1) d_Law_change_17 (by decide) ?_
      exact wp_iret d_Law_change_18 rfl (by decide) (by decide) ⟨by rw [e]; rfl, μ1, φ1, g1, f, hC1, fun _ _ => rfl, ho1, fun z => absurd z h0⟩
    · rw [e]
      refine WX.cat [(0, 12, 15, 13)] 0 12 19 15 [] rfl rfl (by decide +kernel) (by decide +kernel) (by decide +kernel) rfl (fun q => ?_)
      refine wp_astore d_Law_change_19 (by decide) ?_
      refine wp_iconst (v := 2) d_Law_change_21 (by decide) ?_
      exact wp_iret d_Law_change_22 rfl (by decide) (by decide) ⟨by rw [e]; rfl, μ1, φ1, g1, f, hC1, fun _ _ => rfl, ho1, fun z => absurd z h0⟩
  · obtain ⟨h0, rfl, g1, φ1, hC1, -⟩ := hq
    have ho1 := (hC1.z.2 _ _ ho).1
    refine wp_i2l d_Law_change_10 rfl ?_
    refine wp_last d_Law_change_11 ho1 hB (j := 0) rfl (by decide) (by decide) ?_
    refine wp_goto (tgt := 23) d_Law_change_12 (by decide) ?_
    refine wp_iconst (v := 0) d_Law_change_23 (by decide) ?_
    exact wp_iret d_Law_change_24 rfl (by decide) (by decide) ⟨by rw [h0]; rfl, μ1, φ1, g1, _, hC1, fun a ha => mu_up_n ha, mu_up_s _ _ _, fun _ => rfl⟩
set_option maxHeartbeats 1000000 in
set_option maxRecDepth 10000 in
theorem ch_up {x on : Int32} (hC : Cx G μ φ ad g σ δ) (ho : G.2.2.2.2 oa = some (.inl (G.2.2.1 2, 1, .inr (.inl f)))) (hB : G.2.2.2.1 ≤ oa) (hle : r.1 ≤ 1) (hK : CT G M_Log_up [.ref (ad 0), .int x, .int on] μ (PostC G φ ad r) (PxC G φ ad ex1 r)) : CTH G M_Law_up hh_Law_up [.ref (ad 0), .int x, .int on, .ref oa] μ (PH G ad oa r) (fun _ _ => False) := by
  have hR := hC.R
  refine CTH.of (by decide) rfl (Nat.le_of_ble_eq_true rfl) ?_
  refine wp_aload_n d_Law_up_0 rfl rfl ?_
  refine wp_iconst (v := 0) d_Law_up_1 (by decide) ?_
  refine wp_aload_n d_Law_up_2 rfl rfl ?_
  refine wp_iload_n d_Law_up_3 rfl rfl ?_
  refine wp_iload_n d_Law_up_4 rfl rfl ?_
  refine wx_callV d_Law_up_5 cv_Law_41 cd_Log_up ⟨by decide, by decide⟩ hK hR.log rfl rfl (Nat.le_of_ble_eq_true rfl) (Nat.le_of_ble_eq_true rfl) (Nat.le_of_ble_eq_true rfl) (fun E μ1 hq => ?_) (fun w μ1 hq => ?_)
  · obtain ⟨h0, rfl, g1, φ1, hC1, -⟩ := hq
    have ho1 := (hC1.z.2 _ _ ho).1
    rcases (show r.1 = 1 by omega) with e
    · rw [e]
      refine WX.cat [] 0 10 13 13 [] rfl rfl (by decide +kernel) (by decide +kernel) (by decide +kernel) rfl (fun q => ?_)
      refine wp_astore d_Law_up_13 (by decide) ?_
      refine wp_iconst (v := 1) d_Law_up_15 (by decide) ?_
      exact wp_iret d_Law_up_16 rfl (by decide) (by decide) ⟨by rw [e]; rfl, μ1, φ1, g1, f, hC1, fun _ _ => rfl, ho1, fun z => absurd z h0⟩
  · obtain ⟨h0, rfl, g1, φ1, hC1, -⟩ := hq
    have ho1 := (hC1.z.2 _ _ ho).1
    refine wp_i2l d_Law_up_8 rfl ?_
    refine wp_last d_Law_up_9 ho1 hB (j := 0) rfl (by decide) (by decide) ?_
    refine wp_goto (tgt := 17) d_Law_up_10 (by decide) ?_
    refine wp_iconst (v := 0) d_Law_up_17 (by decide) ?_
    exact wp_iret d_Law_up_18 rfl (by decide) (by decide) ⟨by rw [h0]; rfl, μ1, φ1, g1, _, hC1, fun a ha => mu_up_n ha, mu_up_s _ _ _, fun _ => rfl⟩
set_option maxHeartbeats 1000000 in
set_option maxRecDepth 10000 in
theorem ch_sync {x : Int32} (hC : Cx G μ φ ad g σ δ) (ho : G.2.2.2.2 oa = some (.inl (G.2.2.1 2, 1, .inr (.inl f)))) (hB : G.2.2.2.1 ≤ oa) (hle : r.1 ≤ 4) (hK : CT G M_Log_sync [.ref (ad 0), .int x] μ (PostC G φ ad r) (PxC G φ ad exSync r)) : CTH G M_Law_sync hh_Law_sync [.ref (ad 0), .int x, .ref oa] μ (PH G ad oa r) (fun _ _ => False) := by
  have hR := hC.R
  refine CTH.of (by decide) rfl (Nat.le_of_ble_eq_true rfl) ?_
  refine wp_aload_n d_Law_sync_0 rfl rfl ?_
  refine wp_iconst (v := 0) d_Law_sync_1 (by decide) ?_
  refine wp_aload_n d_Law_sync_2 rfl rfl ?_
  refine wp_iload_n d_Law_sync_3 rfl rfl ?_
  refine wx_callV d_Law_sync_4 cv_Law_45 cd_Log_sync ⟨by decide, by decide⟩ hK hR.log rfl rfl (Nat.le_of_ble_eq_true rfl) (Nat.le_of_ble_eq_true rfl) (Nat.le_of_ble_eq_true rfl) (fun E μ1 hq => ?_) (fun w μ1 hq => ?_)
  · obtain ⟨h0, rfl, g1, φ1, hC1, -⟩ := hq
    have ho1 := (hC1.z.2 _ _ ho).1
    rcases (show r.1 = 1 ∨ r.1 = 2 ∨ r.1 = 3 ∨ r.1 = 4 by omega) with e | e | e | e
    · rw [e]
      refine WX.cat [] 0 9 12 13 [(0, 9, 15, 15), (0, 9, 18, 25), (0, 9, 21, 19)] rfl rfl (by decide +kernel) (by decide +kernel) (by decide +kernel) rfl (fun q => ?_)
      refine wp_astore_n d_Law_sync_12 rfl (by decide) ?_
      refine wp_iconst (v := 1) d_Law_sync_13 (by decide) ?_
      exact wp_iret d_Law_sync_14 rfl (by decide) (by decide) ⟨by rw [e]; rfl, μ1, φ1, g1, f, hC1, fun _ _ => rfl, ho1, fun z => absurd z h0⟩
    · rw [e]
      refine WX.cat [(0, 9, 12, 13)] 0 9 15 15 [(0, 9, 18, 25), (0, 9, 21, 19)] rfl rfl (by decide +kernel) (by decide +kernel) (by decide +kernel) rfl (fun q => ?_)
      refine wp_astore_n d_Law_sync_15 rfl (by decide) ?_
      refine wp_iconst (v := 2) d_Law_sync_16 (by decide) ?_
      exact wp_iret d_Law_sync_17 rfl (by decide) (by decide) ⟨by rw [e]; rfl, μ1, φ1, g1, f, hC1, fun _ _ => rfl, ho1, fun z => absurd z h0⟩
    · rw [e]
      refine WX.cat [(0, 9, 12, 13), (0, 9, 15, 15)] 0 9 18 25 [(0, 9, 21, 19)] rfl rfl (by decide +kernel) (by decide +kernel) (by decide +kernel) rfl (fun q => ?_)
      refine wp_astore_n d_Law_sync_18 rfl (by decide) ?_
      refine wp_iconst (v := 3) d_Law_sync_19 (by decide) ?_
      exact wp_iret d_Law_sync_20 rfl (by decide) (by decide) ⟨by rw [e]; rfl, μ1, φ1, g1, f, hC1, fun _ _ => rfl, ho1, fun z => absurd z h0⟩
    · rw [e]
      refine WX.cat [(0, 9, 12, 13), (0, 9, 15, 15), (0, 9, 18, 25)] 0 9 21 19 [] rfl rfl (by decide +kernel) (by decide +kernel) (by decide +kernel) rfl (fun q => ?_)
      refine wp_astore_n d_Law_sync_21 rfl (by decide) ?_
      refine wp_iconst (v := 4) d_Law_sync_22 (by decide) ?_
      exact wp_iret d_Law_sync_23 rfl (by decide) (by decide) ⟨by rw [e]; rfl, μ1, φ1, g1, f, hC1, fun _ _ => rfl, ho1, fun z => absurd z h0⟩
  · obtain ⟨h0, rfl, g1, φ1, hC1, -⟩ := hq
    have ho1 := (hC1.z.2 _ _ ho).1
    refine wp_i2l d_Law_sync_7 rfl ?_
    refine wp_last d_Law_sync_8 ho1 hB (j := 0) rfl (by decide) (by decide) ?_
    refine wp_goto (tgt := 24) d_Law_sync_9 (by decide) ?_
    refine wp_iconst (v := 0) d_Law_sync_24 (by decide) ?_
    exact wp_iret d_Law_sync_25 rfl (by decide) (by decide) ⟨by rw [h0]; rfl, μ1, φ1, g1, _, hC1, fun a ha => mu_up_n ha, mu_up_s _ _ _, fun _ => rfl⟩
set_option maxHeartbeats 1000000 in
set_option maxRecDepth 10000 in
theorem ch_get {x y : Int32} (hC : Cx G μ φ ad g σ δ) (ho : G.2.2.2.2 oa = some (.inl (G.2.2.1 2, 1, .inr (.inl f)))) (hB : G.2.2.2.1 ≤ oa) (hle : r.1 ≤ 1) (hK : CT G M_Log_get [.ref (ad 0), .int x, .int y] μ (PostC G φ ad r) (PxC G φ ad ex1 r)) : CTH G M_Law_get hh_Law_get [.ref (ad 0), .int x, .int y, .ref oa] μ (PH G ad oa r) (fun _ _ => False) := by
  have hR := hC.R
  refine CTH.of (by decide) rfl (Nat.le_of_ble_eq_true rfl) ?_
  refine wp_aload_n d_Law_get_0 rfl rfl ?_
  refine wp_iconst (v := 0) d_Law_get_1 (by decide) ?_
  refine wp_aload_n d_Law_get_2 rfl rfl ?_
  refine wp_iload_n d_Law_get_3 rfl rfl ?_
  refine wp_iload_n d_Law_get_4 rfl rfl ?_
  refine wx_callV d_Law_get_5 cv_Law_48 cd_Log_get ⟨by decide, by decide⟩ hK hR.log rfl rfl (Nat.le_of_ble_eq_true rfl) (Nat.le_of_ble_eq_true rfl) (Nat.le_of_ble_eq_true rfl) (fun E μ1 hq => ?_) (fun w μ1 hq => ?_)
  · obtain ⟨h0, rfl, g1, φ1, hC1, -⟩ := hq
    have ho1 := (hC1.z.2 _ _ ho).1
    rcases (show r.1 = 1 by omega) with e
    · rw [e]
      refine WX.cat [] 0 10 13 13 [] rfl rfl (by decide +kernel) (by decide +kernel) (by decide +kernel) rfl (fun q => ?_)
      refine wp_astore d_Law_get_13 (by decide) ?_
      refine wp_iconst (v := 1) d_Law_get_15 (by decide) ?_
      exact wp_iret d_Law_get_16 rfl (by decide) (by decide) ⟨by rw [e]; rfl, μ1, φ1, g1, f, hC1, fun _ _ => rfl, ho1, fun z => absurd z h0⟩
  · obtain ⟨h0, rfl, g1, φ1, hC1, -⟩ := hq
    have ho1 := (hC1.z.2 _ _ ho).1
    refine wp_i2l d_Law_get_8 rfl ?_
    refine wp_last d_Law_get_9 ho1 hB (j := 0) rfl (by decide) (by decide) ?_
    refine wp_goto (tgt := 17) d_Law_get_10 (by decide) ?_
    refine wp_iconst (v := 0) d_Law_get_17 (by decide) ?_
    exact wp_iret d_Law_get_18 rfl (by decide) (by decide) ⟨by rw [h0]; rfl, μ1, φ1, g1, _, hC1, fun a ha => mu_up_n ha, mu_up_s _ _ _, fun _ => rfl⟩
set_option maxHeartbeats 1000000 in
set_option maxRecDepth 10000 in
theorem ch_begin {x : Int32} (hC : Cx G μ φ ad g σ δ) (ho : G.2.2.2.2 oa = some (.inl (G.2.2.1 2, 1, .inr (.inl f)))) (hB : G.2.2.2.1 ≤ oa) (hle : r.1 ≤ 2) (hK : CT G M_Log_begin [.ref (ad 0), .int x] μ (PostC G φ ad r) (PxC G φ ad ex2 r)) : CTH G M_Law_begin hh_Law_begin [.ref (ad 0), .int x, .ref oa] μ (PH G ad oa r) (fun _ _ => False) := by
  have hR := hC.R
  refine CTH.of (by decide) rfl (Nat.le_of_ble_eq_true rfl) ?_
  refine wp_aload_n d_Law_begin_0 rfl rfl ?_
  refine wp_iconst (v := 0) d_Law_begin_1 (by decide) ?_
  refine wp_aload_n d_Law_begin_2 rfl rfl ?_
  refine wp_iload_n d_Law_begin_3 rfl rfl ?_
  refine wx_callV d_Law_begin_4 cv_Law_51 cd_Log_begin ⟨by decide, by decide⟩ hK hR.log rfl rfl (Nat.le_of_ble_eq_true rfl) (Nat.le_of_ble_eq_true rfl) (Nat.le_of_ble_eq_true rfl) (fun E μ1 hq => ?_) (fun w μ1 hq => ?_)
  · obtain ⟨h0, rfl, g1, φ1, hC1, -⟩ := hq
    have ho1 := (hC1.z.2 _ _ ho).1
    rcases (show r.1 = 1 ∨ r.1 = 2 by omega) with e | e
    · rw [e]
      refine WX.cat [] 0 9 12 13 [(0, 9, 15, 15)] rfl rfl (by decide +kernel) (by decide +kernel) (by decide +kernel) rfl (fun q => ?_)
      refine wp_astore_n d_Law_begin_12 rfl (by decide) ?_
      refine wp_iconst (v := 1) d_Law_begin_13 (by decide) ?_
      exact wp_iret d_Law_begin_14 rfl (by decide) (by decide) ⟨by rw [e]; rfl, μ1, φ1, g1, f, hC1, fun _ _ => rfl, ho1, fun z => absurd z h0⟩
    · rw [e]
      refine WX.cat [(0, 9, 12, 13)] 0 9 15 15 [] rfl rfl (by decide +kernel) (by decide +kernel) (by decide +kernel) rfl (fun q => ?_)
      refine wp_astore_n d_Law_begin_15 rfl (by decide) ?_
      refine wp_iconst (v := 2) d_Law_begin_16 (by decide) ?_
      exact wp_iret d_Law_begin_17 rfl (by decide) (by decide) ⟨by rw [e]; rfl, μ1, φ1, g1, f, hC1, fun _ _ => rfl, ho1, fun z => absurd z h0⟩
  · obtain ⟨h0, rfl, g1, φ1, hC1, -⟩ := hq
    have ho1 := (hC1.z.2 _ _ ho).1
    refine wp_i2l d_Law_begin_7 rfl ?_
    refine wp_last d_Law_begin_8 ho1 hB (j := 0) rfl (by decide) (by decide) ?_
    refine wp_goto (tgt := 18) d_Law_begin_9 (by decide) ?_
    refine wp_iconst (v := 0) d_Law_begin_18 (by decide) ?_
    exact wp_iret d_Law_begin_19 rfl (by decide) (by decide) ⟨by rw [h0]; rfl, μ1, φ1, g1, _, hC1, fun a ha => mu_up_n ha, mu_up_s _ _ _, fun _ => rfl⟩
set_option maxHeartbeats 1000000 in
set_option maxRecDepth 10000 in
theorem ch_see {x y : Int32} (hC : Cx G μ φ ad g σ δ) (ho : G.2.2.2.2 oa = some (.inl (G.2.2.1 2, 1, .inr (.inl f)))) (hB : G.2.2.2.1 ≤ oa) (hle : r.1 ≤ 2) (hK : CT G M_Log_see [.ref (ad 0), .int x, .int y] μ (PostC G φ ad r) (PxC G φ ad ex2 r)) : CTH G M_Law_see hh_Law_see [.ref (ad 0), .int x, .int y, .ref oa] μ (PH G ad oa r) (fun _ _ => False) := by
  have hR := hC.R
  refine CTH.of (by decide) rfl (Nat.le_of_ble_eq_true rfl) ?_
  refine wp_aload_n d_Law_see_0 rfl rfl ?_
  refine wp_iconst (v := 0) d_Law_see_1 (by decide) ?_
  refine wp_aload_n d_Law_see_2 rfl rfl ?_
  refine wp_iload_n d_Law_see_3 rfl rfl ?_
  refine wp_iload_n d_Law_see_4 rfl rfl ?_
  refine wx_callV d_Law_see_5 cv_Law_54 cd_Log_see ⟨by decide, by decide⟩ hK hR.log rfl rfl (Nat.le_of_ble_eq_true rfl) (Nat.le_of_ble_eq_true rfl) (Nat.le_of_ble_eq_true rfl) (fun E μ1 hq => ?_) (fun w μ1 hq => ?_)
  · obtain ⟨h0, rfl, g1, φ1, hC1, -⟩ := hq
    have ho1 := (hC1.z.2 _ _ ho).1
    rcases (show r.1 = 1 ∨ r.1 = 2 by omega) with e | e
    · rw [e]
      refine WX.cat [] 0 10 13 13 [(0, 10, 17, 15)] rfl rfl (by decide +kernel) (by decide +kernel) (by decide +kernel) rfl (fun q => ?_)
      refine wp_astore d_Law_see_13 (by decide) ?_
      refine wp_iconst (v := 1) d_Law_see_15 (by decide) ?_
      exact wp_iret d_Law_see_16 rfl (by decide) (by decide) ⟨by rw [e]; rfl, μ1, φ1, g1, f, hC1, fun _ _ => rfl, ho1, fun z => absurd z h0⟩
    · rw [e]
      refine WX.cat [(0, 10, 13, 13)] 0 10 17 15 [] rfl rfl (by decide +kernel) (by decide +kernel) (by decide +kernel) rfl (fun q => ?_)
      refine wp_astore d_Law_see_17 (by decide) ?_
      refine wp_iconst (v := 2) d_Law_see_19 (by decide) ?_
      exact wp_iret d_Law_see_20 rfl (by decide) (by decide) ⟨by rw [e]; rfl, μ1, φ1, g1, f, hC1, fun _ _ => rfl, ho1, fun z => absurd z h0⟩
  · obtain ⟨h0, rfl, g1, φ1, hC1, -⟩ := hq
    have ho1 := (hC1.z.2 _ _ ho).1
    refine wp_i2l d_Law_see_8 rfl ?_
    refine wp_last d_Law_see_9 ho1 hB (j := 0) rfl (by decide) (by decide) ?_
    refine wp_goto (tgt := 21) d_Law_see_10 (by decide) ?_
    refine wp_iconst (v := 0) d_Law_see_21 (by decide) ?_
    exact wp_iret d_Law_see_22 rfl (by decide) (by decide) ⟨by rw [h0]; rfl, μ1, φ1, g1, _, hC1, fun a ha => mu_up_n ha, mu_up_s _ _ _, fun _ => rfl⟩
set_option maxHeartbeats 1000000 in
set_option maxRecDepth 10000 in
theorem ch_put {x y v : Int32} (hC : Cx G μ φ ad g σ δ) (ho : G.2.2.2.2 oa = some (.inl (G.2.2.1 2, 1, .inr (.inl f)))) (hB : G.2.2.2.1 ≤ oa) (hle : r.1 ≤ 2) (hK : CT G M_Log_put [.ref (ad 0), .int x, .int y, .int v] μ (PostC G φ ad r) (PxC G φ ad ex2 r)) : CTH G M_Law_put hh_Law_put [.ref (ad 0), .int x, .int y, .int v, .ref oa] μ (PH G ad oa r) (fun _ _ => False) := by
  have hR := hC.R
  refine CTH.of (by decide) rfl (Nat.le_of_ble_eq_true rfl) ?_
  refine wp_aload d_Law_put_0 rfl ?_
  refine wp_iconst (v := 0) d_Law_put_2 (by decide) ?_
  refine wp_aload_n d_Law_put_3 rfl rfl ?_
  refine wp_iload_n d_Law_put_4 rfl rfl ?_
  refine wp_iload_n d_Law_put_5 rfl rfl ?_
  refine wp_iload_n d_Law_put_6 rfl rfl ?_
  refine wx_callV d_Law_put_7 cv_Law_57 cd_Log_put ⟨by decide, by decide⟩ hK hR.log rfl rfl (Nat.le_of_ble_eq_true rfl) (Nat.le_of_ble_eq_true rfl) (Nat.le_of_ble_eq_true rfl) (fun E μ1 hq => ?_) (fun w μ1 hq => ?_)
  · obtain ⟨h0, rfl, g1, φ1, hC1, -⟩ := hq
    have ho1 := (hC1.z.2 _ _ ho).1
    rcases (show r.1 = 1 ∨ r.1 = 2 by omega) with e | e
    · rw [e]
      refine WX.cat [] 0 12 15 13 [(0, 12, 19, 15)] rfl rfl (by decide +kernel) (by decide +kernel) (by decide +kernel) rfl (fun q => ?_)
      refine wp_astore d_Law_put_15 (by decide) ?_
      refine wp_iconst (v := 1) d_Law_put_17 (by decide) ?_
      exact wp_iret d_Law_put_18 rfl (by decide) (by decide) ⟨by rw [e]; rfl, μ1, φ1, g1, f, hC1, fun _ _ => rfl, ho1, fun z => absurd z h0⟩
    · rw [e]
      refine WX.cat [(0, 12, 15, 13)] 0 12 19 15 [] rfl rfl (by decide +kernel) (by decide +kernel) (by decide +kernel) rfl (fun q => ?_)
      refine wp_astore d_Law_put_19 (by decide) ?_
      refine wp_iconst (v := 2) d_Law_put_21 (by decide) ?_
      exact wp_iret d_Law_put_22 rfl (by decide) (by decide) ⟨by rw [e]; rfl, μ1, φ1, g1, f, hC1, fun _ _ => rfl, ho1, fun z => absurd z h0⟩
  · obtain ⟨h0, rfl, g1, φ1, hC1, -⟩ := hq
    have ho1 := (hC1.z.2 _ _ ho).1
    refine wp_i2l d_Law_put_10 rfl ?_
    refine wp_last d_Law_put_11 ho1 hB (j := 0) rfl (by decide) (by decide) ?_
    refine wp_goto (tgt := 23) d_Law_put_12 (by decide) ?_
    refine wp_iconst (v := 0) d_Law_put_23 (by decide) ?_
    exact wp_iret d_Law_put_24 rfl (by decide) (by decide) ⟨by rw [h0]; rfl, μ1, φ1, g1, _, hC1, fun a ha => mu_up_n ha, mu_up_s _ _ _, fun _ => rfl⟩
set_option maxHeartbeats 1000000 in
set_option maxRecDepth 10000 in
theorem ch_commit {x : Int32} (hC : Cx G μ φ ad g σ δ) (ho : G.2.2.2.2 oa = some (.inl (G.2.2.1 2, 1, .inr (.inl f)))) (hB : G.2.2.2.1 ≤ oa) (hle : r.1 ≤ 5) (hK : CT G M_Log_commit [.ref (ad 0), .int x] μ (PostB G φ ad r) (PxC G φ ad exRead r)) : CTH G M_Law_commit hh_Law_commit [.ref (ad 0), .int x, .ref oa] μ (PH G ad oa r) (fun _ _ => False) := by
  have hR := hC.R
  refine CTH.of (by decide) rfl (Nat.le_of_ble_eq_true rfl) ?_
  refine wp_aload_n d_Law_commit_0 rfl rfl ?_
  refine wp_iconst (v := 0) d_Law_commit_1 (by decide) ?_
  refine wp_aload_n d_Law_commit_2 rfl rfl ?_
  refine wp_iload_n d_Law_commit_3 rfl rfl ?_
  refine wx_callV d_Law_commit_4 cv_Law_60 cd_Log_commit ⟨by decide, by decide⟩ hK hR.log rfl rfl (Nat.le_of_ble_eq_true rfl) (Nat.le_of_ble_eq_true rfl) (Nat.le_of_ble_eq_true rfl) (fun E μ1 hq => ?_) (fun w μ1 hq => ?_)
  · obtain ⟨h0, rfl, g1, φ1, hC1, -⟩ := hq
    have ho1 := (hC1.z.2 _ _ ho).1
    rcases (show r.1 = 1 ∨ r.1 = 2 ∨ r.1 = 3 ∨ r.1 = 4 ∨ r.1 = 5 by omega) with e | e | e | e | e
    · rw [e]
      refine WX.cat [] 0 16 19 13 [(0, 16, 22, 15), (0, 16, 25, 25), (0, 16, 28, 17), (0, 16, 31, 19)] rfl rfl (by decide +kernel) (by decide +kernel) (by decide +kernel) rfl (fun q => ?_)
      refine wp_astore_n d_Law_commit_19 rfl (by decide) ?_
      refine wp_iconst (v := 1) d_Law_commit_20 (by decide) ?_
      exact wp_iret d_Law_commit_21 rfl (by decide) (by decide) ⟨by rw [e]; rfl, μ1, φ1, g1, f, hC1, fun _ _ => rfl, ho1, fun z => absurd z h0⟩
    · rw [e]
      refine WX.cat [(0, 16, 19, 13)] 0 16 22 15 [(0, 16, 25, 25), (0, 16, 28, 17), (0, 16, 31, 19)] rfl rfl (by decide +kernel) (by decide +kernel) (by decide +kernel) rfl (fun q => ?_)
      refine wp_astore_n d_Law_commit_22 rfl (by decide) ?_
      refine wp_iconst (v := 2) d_Law_commit_23 (by decide) ?_
      exact wp_iret d_Law_commit_24 rfl (by decide) (by decide) ⟨by rw [e]; rfl, μ1, φ1, g1, f, hC1, fun _ _ => rfl, ho1, fun z => absurd z h0⟩
    · rw [e]
      refine WX.cat [(0, 16, 19, 13), (0, 16, 22, 15)] 0 16 25 25 [(0, 16, 28, 17), (0, 16, 31, 19)] rfl rfl (by decide +kernel) (by decide +kernel) (by decide +kernel) rfl (fun q => ?_)
      refine wp_astore_n d_Law_commit_25 rfl (by decide) ?_
      refine wp_iconst (v := 3) d_Law_commit_26 (by decide) ?_
      exact wp_iret d_Law_commit_27 rfl (by decide) (by decide) ⟨by rw [e]; rfl, μ1, φ1, g1, f, hC1, fun _ _ => rfl, ho1, fun z => absurd z h0⟩
    · rw [e]
      refine WX.cat [(0, 16, 19, 13), (0, 16, 22, 15), (0, 16, 25, 25)] 0 16 28 17 [(0, 16, 31, 19)] rfl rfl (by decide +kernel) (by decide +kernel) (by decide +kernel) rfl (fun q => ?_)
      refine wp_astore_n d_Law_commit_28 rfl (by decide) ?_
      refine wp_iconst (v := 4) d_Law_commit_29 (by decide) ?_
      exact wp_iret d_Law_commit_30 rfl (by decide) (by decide) ⟨by rw [e]; rfl, μ1, φ1, g1, f, hC1, fun _ _ => rfl, ho1, fun z => absurd z h0⟩
    · rw [e]
      refine WX.cat [(0, 16, 19, 13), (0, 16, 22, 15), (0, 16, 25, 25), (0, 16, 28, 17)] 0 16 31 19 [] rfl rfl (by decide +kernel) (by decide +kernel) (by decide +kernel) rfl (fun q => ?_)
      refine wp_astore_n d_Law_commit_31 rfl (by decide) ?_
      refine wp_iconst (v := 5) d_Law_commit_32 (by decide) ?_
      exact wp_iret d_Law_commit_33 rfl (by decide) (by decide) ⟨by rw [e]; rfl, μ1, φ1, g1, f, hC1, fun _ _ => rfl, ho1, fun z => absurd z h0⟩
  · obtain ⟨h0, rfl, hb, g1, φ1, hC1, -⟩ := hq
    have ho1 := (hC1.z.2 _ _ ho).1
    refine wp_if_eq (tgt := 14) d_Law_commit_7 (by decide) (fun c7 => ?_) (fun c7 => ?_)
    · refine wp_lconst (v := 0) d_Law_commit_14 (by decide) ?_
      refine wp_last d_Law_commit_15 ho1 hB (j := 0) rfl (by decide) (by decide) ?_
      refine wp_goto (tgt := 34) d_Law_commit_16 (by decide) ?_
      refine wp_iconst (v := 0) d_Law_commit_34 (by decide) ?_
      exact wp_iret d_Law_commit_35 rfl (by decide) (by decide) ⟨by rw [h0]; rfl, μ1, φ1, g1, _, hC1, fun a ha => mu_up_n ha, mu_up_s _ _ _, fun _ => by rw [c7]; rfl⟩
    · have hb1 : r.2.1 = 1 := hb.resolve_left c7
      refine wp_lconst (v := 1) d_Law_commit_10 (by decide) ?_
      refine wp_goto (tgt := 15) d_Law_commit_11 (by decide) ?_
      refine wp_last d_Law_commit_15 ho1 hB (j := 0) rfl (by decide) (by decide) ?_
      refine wp_goto (tgt := 34) d_Law_commit_16 (by decide) ?_
      refine wp_iconst (v := 0) d_Law_commit_34 (by decide) ?_
      exact wp_iret d_Law_commit_35 rfl (by decide) (by decide) ⟨by rw [h0]; rfl, μ1, φ1, g1, _, hC1, fun a ha => mu_up_n ha, mu_up_s _ _ _, fun _ => by rw [hb1]; rfl⟩
set_option maxHeartbeats 1000000 in
set_option maxRecDepth 10000 in
theorem ch_drop {x : Int32} (hC : Cx G μ φ ad g σ δ) (ho : G.2.2.2.2 oa = some (.inl (G.2.2.1 2, 1, .inr (.inl f)))) (hB : G.2.2.2.1 ≤ oa) (hle : r.1 ≤ 1) (hK : CT G M_Log_drop [.ref (ad 0), .int x] μ (PostC G φ ad r) (PxC G φ ad ex1 r)) : CTH G M_Law_drop hh_Law_drop [.ref (ad 0), .int x, .ref oa] μ (PH G ad oa r) (fun _ _ => False) := by
  have hR := hC.R
  refine CTH.of (by decide) rfl (Nat.le_of_ble_eq_true rfl) ?_
  refine wp_aload_n d_Law_drop_0 rfl rfl ?_
  refine wp_iconst (v := 0) d_Law_drop_1 (by decide) ?_
  refine wp_aload_n d_Law_drop_2 rfl rfl ?_
  refine wp_iload_n d_Law_drop_3 rfl rfl ?_
  refine wx_callV d_Law_drop_4 cv_Law_64 cd_Log_drop ⟨by decide, by decide⟩ hK hR.log rfl rfl (Nat.le_of_ble_eq_true rfl) (Nat.le_of_ble_eq_true rfl) (Nat.le_of_ble_eq_true rfl) (fun E μ1 hq => ?_) (fun w μ1 hq => ?_)
  · obtain ⟨h0, rfl, g1, φ1, hC1, -⟩ := hq
    have ho1 := (hC1.z.2 _ _ ho).1
    rcases (show r.1 = 1 by omega) with e
    · rw [e]
      refine WX.cat [] 0 9 12 13 [] rfl rfl (by decide +kernel) (by decide +kernel) (by decide +kernel) rfl (fun q => ?_)
      refine wp_astore_n d_Law_drop_12 rfl (by decide) ?_
      refine wp_iconst (v := 1) d_Law_drop_13 (by decide) ?_
      exact wp_iret d_Law_drop_14 rfl (by decide) (by decide) ⟨by rw [e]; rfl, μ1, φ1, g1, f, hC1, fun _ _ => rfl, ho1, fun z => absurd z h0⟩
  · obtain ⟨h0, rfl, g1, φ1, hC1, -⟩ := hq
    have ho1 := (hC1.z.2 _ _ ho).1
    refine wp_i2l d_Law_drop_7 rfl ?_
    refine wp_last d_Law_drop_8 ho1 hB (j := 0) rfl (by decide) (by decide) ?_
    refine wp_goto (tgt := 15) d_Law_drop_9 (by decide) ?_
    refine wp_iconst (v := 0) d_Law_drop_15 (by decide) ?_
    exact wp_iret d_Law_drop_16 rfl (by decide) (by decide) ⟨by rw [h0]; rfl, μ1, φ1, g1, _, hC1, fun a ha => mu_up_n ha, mu_up_s _ _ _, fun _ => rfl⟩
set_option maxHeartbeats 1000000 in
set_option maxRecDepth 10000 in
theorem ch_look {x y : Int32} (hC : Cx G μ φ ad g σ δ) (ho : G.2.2.2.2 oa = some (.inl (G.2.2.1 2, 1, .inr (.inl f)))) (hB : G.2.2.2.1 ≤ oa) (hle : r.1 ≤ 1) (hK : CT G M_Log_look [.ref (ad 0), .int x, .int y] μ (PostC G φ ad r) (PxC G φ ad ex1 r)) : CTH G M_Law_look hh_Law_look [.ref (ad 0), .int x, .int y, .ref oa] μ (PH G ad oa r) (fun _ _ => False) := by
  have hR := hC.R
  refine CTH.of (by decide) rfl (Nat.le_of_ble_eq_true rfl) ?_
  refine wp_aload_n d_Law_look_0 rfl rfl ?_
  refine wp_iconst (v := 0) d_Law_look_1 (by decide) ?_
  refine wp_aload_n d_Law_look_2 rfl rfl ?_
  refine wp_iload_n d_Law_look_3 rfl rfl ?_
  refine wp_iload_n d_Law_look_4 rfl rfl ?_
  refine wx_callV d_Law_look_5 cv_Law_67 cd_Log_look ⟨by decide, by decide⟩ hK hR.log rfl rfl (Nat.le_of_ble_eq_true rfl) (Nat.le_of_ble_eq_true rfl) (Nat.le_of_ble_eq_true rfl) (fun E μ1 hq => ?_) (fun w μ1 hq => ?_)
  · obtain ⟨h0, rfl, g1, φ1, hC1, -⟩ := hq
    have ho1 := (hC1.z.2 _ _ ho).1
    rcases (show r.1 = 1 by omega) with e
    · rw [e]
      refine WX.cat [] 0 10 13 13 [] rfl rfl (by decide +kernel) (by decide +kernel) (by decide +kernel) rfl (fun q => ?_)
      refine wp_astore d_Law_look_13 (by decide) ?_
      refine wp_iconst (v := 1) d_Law_look_15 (by decide) ?_
      exact wp_iret d_Law_look_16 rfl (by decide) (by decide) ⟨by rw [e]; rfl, μ1, φ1, g1, f, hC1, fun _ _ => rfl, ho1, fun z => absurd z h0⟩
  · obtain ⟨h0, rfl, g1, φ1, hC1, -⟩ := hq
    have ho1 := (hC1.z.2 _ _ ho).1
    refine wp_i2l d_Law_look_8 rfl ?_
    refine wp_last d_Law_look_9 ho1 hB (j := 0) rfl (by decide) (by decide) ?_
    refine wp_goto (tgt := 17) d_Law_look_10 (by decide) ?_
    refine wp_iconst (v := 0) d_Law_look_17 (by decide) ?_
    exact wp_iret d_Law_look_18 rfl (by decide) (by decide) ⟨by rw [h0]; rfl, μ1, φ1, g1, _, hC1, fun a ha => mu_up_n ha, mu_up_s _ _ _, fun _ => rfl⟩
set_option maxHeartbeats 1000000 in
set_option maxRecDepth 10000 in
theorem ch_client {x y : Int32} (hC : Cx G μ φ ad g σ δ) (ho : G.2.2.2.2 oa = some (.inl (G.2.2.1 2, 1, .inr (.inl f)))) (hB : G.2.2.2.1 ≤ oa) (hle : r.1 ≤ 1) (hK : CT G M_Log_client [.ref (ad 0), .int x, .int y] μ (PostC G φ ad r) (PxC G φ ad ex1 r)) : CTH G M_Law_client hh_Law_client [.ref (ad 0), .int x, .int y, .ref oa] μ (PH G ad oa r) (fun _ _ => False) := by
  have hR := hC.R
  refine CTH.of (by decide) rfl (Nat.le_of_ble_eq_true rfl) ?_
  refine wp_aload_n d_Law_client_0 rfl rfl ?_
  refine wp_iconst (v := 0) d_Law_client_1 (by decide) ?_
  refine wp_aload_n d_Law_client_2 rfl rfl ?_
  refine wp_iload_n d_Law_client_3 rfl rfl ?_
  refine wp_iload_n d_Law_client_4 rfl rfl ?_
  refine wx_callV d_Law_client_5 cv_Law_70 cd_Log_client ⟨by decide, by decide⟩ hK hR.log rfl rfl (Nat.le_of_ble_eq_true rfl) (Nat.le_of_ble_eq_true rfl) (Nat.le_of_ble_eq_true rfl) (fun E μ1 hq => ?_) (fun w μ1 hq => ?_)
  · obtain ⟨h0, rfl, g1, φ1, hC1, -⟩ := hq
    have ho1 := (hC1.z.2 _ _ ho).1
    rcases (show r.1 = 1 by omega) with e
    · rw [e]
      refine WX.cat [] 0 10 13 13 [] rfl rfl (by decide +kernel) (by decide +kernel) (by decide +kernel) rfl (fun q => ?_)
      refine wp_astore d_Law_client_13 (by decide) ?_
      refine wp_iconst (v := 1) d_Law_client_15 (by decide) ?_
      exact wp_iret d_Law_client_16 rfl (by decide) (by decide) ⟨by rw [e]; rfl, μ1, φ1, g1, f, hC1, fun _ _ => rfl, ho1, fun z => absurd z h0⟩
  · obtain ⟨h0, rfl, g1, φ1, hC1, -⟩ := hq
    have ho1 := (hC1.z.2 _ _ ho).1
    refine wp_i2l d_Law_client_8 rfl ?_
    refine wp_last d_Law_client_9 ho1 hB (j := 0) rfl (by decide) (by decide) ?_
    refine wp_goto (tgt := 17) d_Law_client_10 (by decide) ?_
    refine wp_iconst (v := 0) d_Law_client_17 (by decide) ?_
    exact wp_iret d_Law_client_18 rfl (by decide) (by decide) ⟨by rw [h0]; rfl, μ1, φ1, g1, _, hC1, fun a ha => mu_up_n ha, mu_up_s _ _ _, fun _ => rfl⟩
set_option maxHeartbeats 1000000 in
set_option maxRecDepth 10000 in
theorem ch_count {x : Int32} (hC : Cx G μ φ ad g σ δ) (ho : G.2.2.2.2 oa = some (.inl (G.2.2.1 2, 1, .inr (.inl f)))) (hB : G.2.2.2.1 ≤ oa) (hle : r.1 ≤ 1) (hK : CT G M_Log_count [.ref (ad 0), .int x] μ (PostC G φ ad r) (PxC G φ ad ex1 r)) : CTH G M_Law_count hh_Law_count [.ref (ad 0), .int x, .ref oa] μ (PH G ad oa r) (fun _ _ => False) := by
  have hR := hC.R
  refine CTH.of (by decide) rfl (Nat.le_of_ble_eq_true rfl) ?_
  refine wp_aload_n d_Law_count_0 rfl rfl ?_
  refine wp_iconst (v := 0) d_Law_count_1 (by decide) ?_
  refine wp_aload_n d_Law_count_2 rfl rfl ?_
  refine wp_iload_n d_Law_count_3 rfl rfl ?_
  refine wx_callV d_Law_count_4 cv_Law_73 cd_Log_count ⟨by decide, by decide⟩ hK hR.log rfl rfl (Nat.le_of_ble_eq_true rfl) (Nat.le_of_ble_eq_true rfl) (Nat.le_of_ble_eq_true rfl) (fun E μ1 hq => ?_) (fun w μ1 hq => ?_)
  · obtain ⟨h0, rfl, g1, φ1, hC1, -⟩ := hq
    have ho1 := (hC1.z.2 _ _ ho).1
    rcases (show r.1 = 1 by omega) with e
    · rw [e]
      refine WX.cat [] 0 9 12 13 [] rfl rfl (by decide +kernel) (by decide +kernel) (by decide +kernel) rfl (fun q => ?_)
      refine wp_astore_n d_Law_count_12 rfl (by decide) ?_
      refine wp_iconst (v := 1) d_Law_count_13 (by decide) ?_
      exact wp_iret d_Law_count_14 rfl (by decide) (by decide) ⟨by rw [e]; rfl, μ1, φ1, g1, f, hC1, fun _ _ => rfl, ho1, fun z => absurd z h0⟩
  · obtain ⟨h0, rfl, g1, φ1, hC1, -⟩ := hq
    have ho1 := (hC1.z.2 _ _ ho).1
    refine wp_i2l d_Law_count_7 rfl ?_
    refine wp_last d_Law_count_8 ho1 hB (j := 0) rfl (by decide) (by decide) ?_
    refine wp_goto (tgt := 15) d_Law_count_9 (by decide) ?_
    refine wp_iconst (v := 0) d_Law_count_15 (by decide) ?_
    exact wp_iret d_Law_count_16 rfl (by decide) (by decide) ⟨by rw [h0]; rfl, μ1, φ1, g1, _, hC1, fun a ha => mu_up_n ha, mu_up_s _ _ _, fun _ => rfl⟩
end LH
