/-! THE CLASS: rows of units as digits; client, count -/
theorem i32_m1 (x : Int32) : x + Int32.ofInt (-1) = x - 1 := by rw [Int32.sub_eq_add_neg]; rfl
theorem nI_rem10 {r : Nat} (h : r < 2 ^ 31) : nI r - nI r / 10 * 10 = nI (r % 10) := pk_rem h (by decide) (by decide)
theorem nI_div10 {r : Nat} (h : r < 2 ^ 31) : nI r / 10 = nI (r / 10) := pk_div (d := 10) h (by decide) (by decide)
set_option maxRecDepth 100000 in
theorem vr_dig : ∀ d, d < 667 → vr d = true → ∀ i, i < 3 → i < ln d → d / 10 ^ (ln d - i) * 10 + un d i + 1 = d / 10 ^ (ln d - (i + 1)) := by decide +kernel
set_option maxRecDepth 100000 in
theorem vr_dig0 : ∀ d, d < 667 → d / 10 ^ ln d = 0 := by decide +kernel
set_option maxRecDepth 100000 in
theorem vr_pos : ∀ d, d < 667 → vr d = true → ∀ j, j < 3 → j < ln d → 1 ≤ d / 10 ^ j % 10 := by decide +kernel
set_option maxHeartbeats 4000000 in
set_option maxRecDepth 10000 in
theorem ct_rowOf (G : mt_G) (μ : mu_M) {d : Nat} (hd : vr d = true) : CT G M_Log_rowOf [.int (nI d)] μ (fun v μ' => ∃ q f, v = some (.ref q) ∧ G.2.2.2.1 ≤ q ∧ μ q = none ∧ μ' = mu_up μ q (.inl (G.2.2.1 0, ln d, .inl f)) ∧ ∀ i, i < ln d → f i = nI (un d i)) (fun _ _ => False) := by
  have hd6 := vr_le hd
  have hln := ln_pos d
  refine CT.of (by decide) rfl (Nat.le_of_ble_eq_true rfl) ?_
  have tail : WP G M_Log_rowOf (EC G M_Log_rowOf (fun v μ' => ∃ q f, v = some (.ref q) ∧ G.2.2.2.1 ≤ q ∧ μ q = none ∧ μ' = mu_up μ q (.inl (G.2.2.1 0, ln d, .inl f)) ∧ ∀ i, i < ln d → f i = nI (un d i)) (fun _ _ => False)) (lv_args 0 [.int (nI d)]) 21 [.int (nI (ln d))] μ 0 0 := by
    refine wp_istore_n d_Log_rowOf_21 rfl (by decide) ?_
    refine wp_iload_n d_Log_rowOf_22 rfl rfl ?_
    refine wp_newI (N := ln d) d_Log_rowOf_23 ac_I (by omega) (Nat.le_of_ble_eq_true rfl) (by show 0 + ln d ≤ 3; omega) (fun q hB hq => ?_)
    refine wp_astore_n d_Log_rowOf_25 rfl (by decide) ?_
    refine wp_iload_n d_Log_rowOf_26 rfl rfl ?_
    refine wp_istore_n d_Log_rowOf_27 rfl (by decide) ?_
    refine wp_iload_n d_Log_rowOf_28 rfl rfl ?_
    refine wp_iconst (v := 1) d_Log_rowOf_29 (by decide) ?_
    refine wp_isub d_Log_rowOf_30 ?_
    refine wp_istore d_Log_rowOf_31 (by decide) ?_
    have loop : ∀ (m j : Nat) (f : Nat → Int32), j + m = ln d → (∀ i, m ≤ i → i < ln d → f i = nI (un d i)) →
        WP G M_Log_rowOf (EC G M_Log_rowOf (fun v μ' => ∃ q f, v = some (.ref q) ∧ G.2.2.2.1 ≤ q ∧ μ q = none ∧ μ' = mu_up μ q (.inl (G.2.2.1 0, ln d, .inl f)) ∧ ∀ i, i < ln d → f i = nI (un d i)) (fun _ _ => False))
          [(2, .ref q), (3, .int (nI (d / 10 ^ j))), (4, .int (nI m - 1))] 33 [] (mu_up μ q (.inl (G.2.2.1 0, ln d, .inl f))) 1 3 := by
      intro m
      induction m with
      | zero =>
        intro j f hj hf
        refine wp_iload d_Log_rowOf_33 rfl ?_
        refine wp_if_lt (tgt := 59) d_Log_rowOf_35 (by decide) (fun c35 => ?_) (fun c35 => ?_)
        · refine wp_aload_n d_Log_rowOf_59 rfl rfl ?_
          exact wp_aret d_Log_rowOf_60 rfl (Or.inr ⟨_, rfl⟩) (by decide) (by decide) ⟨q, f, rfl, hB, hq, rfl, fun i hi => hf i (by omega) hi⟩
        · exact absurd (by decide) c35
      | succ m ih =>
        intro j f hj hf
        have e1 : nI (m + 1) - 1 = nI m := nI_pred m
        rw [e1]
        have hr : d / 10 ^ j < 2 ^ 31 := Nat.lt_of_le_of_lt (Nat.div_le_self _ _) (by omega)
        have hp := vr_pos d (by omega) hd j (by omega) (by omega)
        refine wp_iload d_Log_rowOf_33 rfl ?_
        refine wp_if_lt (tgt := 59) d_Log_rowOf_35 (by decide) (fun c35 => ?_) (fun c35 => ?_)
        · exact absurd c35 (nI_pos (by omega))
        refine wp_aload_n d_Log_rowOf_38 rfl rfl ?_
        refine wp_iload d_Log_rowOf_39 rfl ?_
        refine wp_iload_n d_Log_rowOf_41 rfl rfl ?_
        refine wp_bipush (v := 10) d_Log_rowOf_42 (by decide) ?_
        refine wp_irem d_Log_rowOf_44 (by decide) ?_
        refine wp_iconst (v := 1) d_Log_rowOf_45 (by decide) ?_
        refine wp_isub d_Log_rowOf_46 ?_
        rw [nI_rem10 hr, nI_m1 hp]
        have hu : un d m = d / 10 ^ j % 10 - 1 := by unfold un; rw [show ln d - 1 - m = j by omega]
        rw [← hu]
        refine wp_iast d_Log_rowOf_47 (mu_up_s _ _ _) hB rfl (show m < ln d by omega) (by omega) ?_
        rw [mu_up_up]
        refine wp_iload_n d_Log_rowOf_48 rfl rfl ?_
        refine wp_bipush (v := 10) d_Log_rowOf_49 (by decide) ?_
        refine wp_idiv d_Log_rowOf_51 (by decide) ?_
        rw [nI_div10 hr, Nat.div_div_eq_div_mul, ← Nat.pow_succ]
        refine wp_istore_n d_Log_rowOf_52 rfl (by decide) ?_
        refine wp_iinc d_Log_rowOf_53 rfl rfl (by decide) ?_
        refine wp_goto (tgt := 33) d_Log_rowOf_56 (by decide) ?_
        refine WP.loc [(2, .ref q), (3, .int (nI (d / 10 ^ (j + 1)))), (4, .int (nI m - 1))] (by rw [← i32_m1]; rfl) (ih (j + 1) _ (by omega) (fun i h1 h2 => ?_))
        unfold upd
        by_cases h : i = m
        · rw [if_pos h, h]
        · rw [if_neg h]; exact hf i (by omega) h2
    refine WP.loc [(2, .ref q), (3, .int (nI (d / 10 ^ 0))), (4, .int (nI (ln d) - 1))] (by rw [Nat.pow_zero, Nat.div_one]; rfl) (WP.widen (Nat.le_of_ble_eq_true rfl) (by show 0 + ln d ≤ 3; omega) (loop (ln d) 0 _ (by omega) (fun i h1 h2 => absurd h2 (by omega))))
  refine wp_iload_n d_Log_rowOf_0 rfl rfl ?_
  refine wp_bipush (v := 10) d_Log_rowOf_1 (by decide) ?_
  refine wp_icmp_ge (tgt := 10) d_Log_rowOf_3 (by decide) (fun c3 => ?_) (fun c3 => ?_)
  · have c3 : 10 ≤ d := (nI_leI (a := 10) (b := d) (by omega) (by omega)).mp c3
    refine wp_iload_n d_Log_rowOf_10 rfl rfl ?_
    refine wp_bipush (v := 100) d_Log_rowOf_11 (by decide) ?_
    refine wp_icmp_ge (tgt := 20) d_Log_rowOf_13 (by decide) (fun c13 => ?_) (fun c13 => ?_)
    · have c13 : 100 ≤ d := (nI_leI (a := 100) (b := d) (by omega) (by omega)).mp c13
      refine wp_iconst (v := 3) d_Log_rowOf_20 (by decide) ?_
      exact WP.at rfl (by rw [show ln d = 3 by unfold ln; rw [if_pos (by omega)]]; rfl) tail
    · have c13 : ¬ 100 ≤ d := fun h => c13 ((nI_leI (a := 100) (b := d) (by omega) (by omega)).mpr h)
      refine wp_iconst (v := 2) d_Log_rowOf_16 (by decide) ?_
      refine wp_goto (tgt := 21) d_Log_rowOf_17 (by decide) ?_
      exact WP.at rfl (by rw [show ln d = 2 by unfold ln; rw [if_neg (by omega), if_pos (by omega)]]; rfl) tail
  · have c3 : ¬ 10 ≤ d := fun h => c3 ((nI_leI (a := 10) (b := d) (by omega) (by omega)).mpr h)
    refine wp_iconst (v := 1) d_Log_rowOf_6 (by decide) ?_
    refine wp_goto (tgt := 21) d_Log_rowOf_7 (by decide) ?_
    exact WP.at rfl (by rw [show ln d = 1 by unfold ln; rw [if_neg (by omega), if_neg (by omega)]]; rfl) tail
set_option maxHeartbeats 4000000 in
set_option maxRecDepth 10000 in
theorem ct_digitsOf (G : mt_G) (μ : mu_M) {d a : Nat} {f : Nat → Int32} (hd : vr d = true) (ha : μ a = some (.inl (G.2.2.1 0, ln d, .inl f))) (hf : ∀ i, i < ln d → f i = nI (un d i)) : CT G M_Log_digitsOf [.ref a] μ (fun v μ' => v = some (.int (nI d)) ∧ μ' = μ) (fun _ _ => False) := by
  have hd6 := vr_le hd
  have hln := ln_pos d
  refine CT.of (by decide) rfl (Nat.le_of_ble_eq_true rfl) ?_
  refine wp_iconst (v := 0) d_Log_digitsOf_0 (by decide) ?_
  refine wp_istore_n d_Log_digitsOf_1 rfl (by decide) ?_
  refine wp_iconst (v := 0) d_Log_digitsOf_2 (by decide) ?_
  refine wp_istore_n d_Log_digitsOf_3 rfl (by decide) ?_
  have loop : ∀ (n i : Nat), i + n = ln d → WP G M_Log_digitsOf (EC G M_Log_digitsOf (fun v μ' => v = some (.int (nI d)) ∧ μ' = μ) (fun _ _ => False)) [(0, .ref a), (1, .int (nI (d / 10 ^ (ln d - i)))), (2, .int (nI i))] 4 [] μ 0 0 := by
    intro n
    induction n with
    | zero =>
      intro i hi
      refine wp_iload_n d_Log_digitsOf_4 rfl rfl ?_
      refine wp_aload_n d_Log_digitsOf_5 rfl rfl ?_
      refine wp_alen d_Log_digitsOf_6 (by exact (rfl : (TYS G.2.2.1)[0]? = some (G.2.2.1 0, .int))) (by exact ha) ?_
      refine wp_icmp_ge (tgt := 27) d_Log_digitsOf_7 (by decide) (fun c7 => ?_) (fun c7 => ?_)
      · refine wp_iload_n d_Log_digitsOf_27 rfl rfl ?_
        exact wp_iret d_Log_digitsOf_28 rfl (by decide) (by decide) ⟨by rw [show ln d - i = 0 by omega, Nat.pow_zero, Nat.div_one], rfl⟩
      · rw [nI_leI (by omega) (by omega)] at c7
        omega
    | succ n ih =>
      intro i hi
      refine wp_iload_n d_Log_digitsOf_4 rfl rfl ?_
      refine wp_aload_n d_Log_digitsOf_5 rfl rfl ?_
      refine wp_alen d_Log_digitsOf_6 (by exact (rfl : (TYS G.2.2.1)[0]? = some (G.2.2.1 0, .int))) (by exact ha) ?_
      refine wp_icmp_ge (tgt := 27) d_Log_digitsOf_7 (by decide) (fun c7 => ?_) (fun c7 => ?_)
      · exact absurd ((nI_leI (by omega) (by omega)).mp c7) (by omega)
      refine wp_iload_n d_Log_digitsOf_10 rfl rfl ?_
      refine wp_bipush (v := 10) d_Log_digitsOf_11 (by decide) ?_
      refine wp_imul d_Log_digitsOf_13 ?_
      refine wp_aload_n d_Log_digitsOf_14 rfl rfl ?_
      refine wp_iload_n d_Log_digitsOf_15 rfl rfl ?_
      refine wp_iald d_Log_digitsOf_16 (by exact ha) (by rfl) (by omega) (by omega) ?_
      refine wp_iadd d_Log_digitsOf_17 ?_
      refine wp_iconst (v := 1) d_Log_digitsOf_18 (by decide) ?_
      refine wp_iadd d_Log_digitsOf_19 ?_
      have e : nI (d / 10 ^ (ln d - i)) * 10 + f i + 1 = nI (d / 10 ^ (ln d - (i + 1))) := by
        rw [hf i (by omega), show (10 : Int32) = nI 10 from rfl, pk_mul, nI_add, nI_1, vr_dig d (by omega) hd i (by omega) (by omega)]
      rw [e]
      refine wp_istore_n d_Log_digitsOf_20 rfl (by decide) ?_
      refine wp_iinc d_Log_digitsOf_21 rfl rfl (by decide) ?_
      refine wp_goto (tgt := 4) d_Log_digitsOf_24 (by decide) ?_
      exact WP.loc [(0, .ref a), (1, .int (nI (d / 10 ^ (ln d - (i + 1))))), (2, .int (nI (i + 1)))] (by rw [← nI_1 i]; rfl) (ih (i + 1) (by omega))
  exact WP.loc [(0, .ref a), (1, .int (nI (d / 10 ^ (ln d - 0)))), (2, .int (nI 0))] (by rw [Nat.sub_zero, vr_dig0 d (by omega)]; rfl) (loop (ln d) 0 (by omega))
/-- the class's own test of a row, by its last digit first -/
def isr : Nat → Nat → (Nat → Int32) → Bool
  | 0, _, _ => true
  | n + 1, r, f => if r = 0 then true else if r % 10 = 0 then false else if 7 ≤ r % 10 then false else if f (r % 10 - 1) = 0 then isr n (r / 10) (upd f (r % 10 - 1) 1) else false
set_option maxRecDepth 100000 in
theorem isr_vr : ∀ d, d < 667 → 1 ≤ d → isr 3 d (fun _ => 0) = vr d := by decide +kernel
def vrI (x : Int32) : Bool := if x < 1 ∨ 666 < x then false else vr x.toNatClampNeg
set_option maxHeartbeats 4000000 in
set_option maxRecDepth 10000 in
theorem ct_isRow (G : mt_G) (μ : mu_M) (x : Int32) : CT G M_Log_isRow [.int x] μ (fun v μ' => v = some (.int (if vrI x = true then 1 else 0)) ∧ sub μ μ') (fun _ _ => False) := by
  refine CT.of (by decide) rfl (Nat.le_of_ble_eq_true rfl) ?_
  refine wp_iload_n d_Log_isRow_0 rfl rfl ?_
  refine wp_iconst (v := 1) d_Log_isRow_1 (by decide) ?_
  refine wp_icmp_lt (tgt := 12) d_Log_isRow_2 (by decide) (fun c2 => ?_) (fun c2 => ?_)
  · refine wp_iconst (v := 0) d_Log_isRow_12 (by decide) ?_
    exact wp_zret d_Log_isRow_13 rfl rfl (by decide) (by decide) ⟨by rw [vrI, if_pos (Or.inl c2)]; rfl, sub.rf μ⟩
  · refine wp_iload_n d_Log_isRow_5 rfl rfl ?_
    refine wp_sipush (v := 666) d_Log_isRow_6 (by decide) ?_
    refine wp_icmp_le (tgt := 14) d_Log_isRow_9 (by decide) (fun c9 => ?_) (fun c9 => ?_)
    · have h0 : ¬ x < 0 := fun h => c2 (Int32.lt_trans h (by decide))
      obtain ⟨d, hd, rfl⟩ := nI_of2 (n := 666) (M := 666) (by decide) h0 c9
      have hd1 : 1 ≤ d := by
        rcases Nat.eq_zero_or_pos d with e | e
        · subst e; exact absurd (by decide) c2
        · exact e
      have hv : vrI (nI d) = isr 3 d (fun _ => 0) := by
        rw [isr_vr d (by omega) hd1, vrI, if_neg, nI_clamp (by omega)]
        intro h
        rcases h with h | h
        · exact c2 h
        · exact absurd c9 (Int32.not_le.mpr h)
      rw [hv]
      refine wp_bipush (v := 6) d_Log_isRow_14 (by decide) ?_
      refine wp_newZ (N := 6) d_Log_isRow_16 ac_Z (by decide) (by decide) (by decide) (fun q hB hq => ?_)
      refine wp_astore_n d_Log_isRow_18 rfl (by decide) ?_
      refine wp_iload_n d_Log_isRow_19 rfl rfl ?_
      refine wp_istore_n d_Log_isRow_20 rfl (by decide) ?_
      have loop : ∀ (n r : Nat) (f : Nat → Int32), r < 10 ^ n → n ≤ 3 → isr n r f = isr 3 d (fun _ => 0) → WP G M_Log_isRow (EC G M_Log_isRow (fun v μ' => v = some (.int (if isr 3 d (fun _ => 0) = true then 1 else 0)) ∧ sub μ μ') (fun _ _ => False)) [(1, .ref q), (2, .int (nI r))] 21 [] (mu_up μ q (.inl (G.2.2.1 1, 6, .inl f))) 1 6 := by
        intro n
        induction n with
        | zero =>
          intro r f hr hn hi
          obtain rfl : r = 0 := by simpa using hr
          refine wp_iload_n d_Log_isRow_21 rfl rfl ?_
          refine wp_if_le (tgt := 62) d_Log_isRow_22 (by decide) (fun c22 => ?_) (fun c22 => ?_)
          · refine wp_iconst (v := 1) d_Log_isRow_62 (by decide) ?_
            exact wp_zret d_Log_isRow_63 rfl rfl (by decide) (by decide) ⟨by rw [← hi]; rfl, sub_up hq⟩
          · exact absurd (by decide) c22
        | succ n ih =>
          intro r f hr hn hi
          have hr3 : r < 1000 := Nat.lt_of_lt_of_le hr (by rcases (show n = 0 ∨ n = 1 ∨ n = 2 by omega) with rfl | rfl | rfl <;> decide)
          refine wp_iload_n d_Log_isRow_21 rfl rfl ?_
          refine wp_if_le (tgt := 62) d_Log_isRow_22 (by decide) (fun c22 => ?_) (fun c22 => ?_)
          · have hr0 : r = 0 := by
              rcases Nat.eq_zero_or_pos r with e | e
              · exact e
              · exact absurd c22 (nI_nle e (by omega))
            refine wp_iconst (v := 1) d_Log_isRow_62 (by decide) ?_
            exact wp_zret d_Log_isRow_63 rfl rfl (by decide) (by decide) ⟨by rw [← hi, isr, if_pos hr0]; rfl, sub_up hq⟩
          · have hr0 : ¬ r = 0 := fun e => c22 (by rw [e]; decide)
            rw [isr, if_neg hr0] at hi
            refine wp_iload_n d_Log_isRow_25 rfl rfl ?_
            refine wp_bipush (v := 10) d_Log_isRow_26 (by decide) ?_
            refine wp_irem d_Log_isRow_28 (by decide) ?_
            refine wp_iconst (v := 1) d_Log_isRow_29 (by decide) ?_
            refine wp_isub d_Log_isRow_30 ?_
            rw [nI_rem10 (by omega)]
            refine wp_istore_n d_Log_isRow_31 rfl (by decide) ?_
            refine wp_iload_n d_Log_isRow_32 rfl rfl ?_
            have h10 : r % 10 < 10 := Nat.mod_lt _ (by decide)
            have out : isr 3 d (fun _ => 0) = false → ∀ lo, WP G M_Log_isRow (EC G M_Log_isRow (fun v μ' => v = some (.int (if isr 3 d (fun _ => 0) = true then 1 else 0)) ∧ sub μ μ') (fun _ _ => False)) lo 48 [] (mu_up μ q (.inl (G.2.2.1 1, 6, .inl f))) 1 6 := by
              intro hz lo
              refine wp_iconst (v := 0) d_Log_isRow_48 (by decide) ?_
              exact wp_zret d_Log_isRow_49 rfl rfl (by decide) (by decide) ⟨by rw [hz]; rfl, sub_up hq⟩
            refine wp_if_lt (tgt := 48) d_Log_isRow_33 (by decide) (fun c33 => ?_) (fun c33 => ?_)
            · refine out ?_ _
              have hz : r % 10 = 0 := by
                rcases Nat.eq_zero_or_pos (r % 10) with e | e
                · exact e
                · rw [nI_m1 e] at c33; exact absurd c33 (nI_pos (by omega))
              rw [← hi, if_pos hz]
            · have hz : ¬ r % 10 = 0 := fun e => c33 (by rw [e]; decide)
              rw [if_neg hz] at hi
              rw [nI_m1 (by omega)] at c33 ⊢
              refine wp_iload_n d_Log_isRow_36 rfl rfl ?_
              refine wp_bipush (v := 6) d_Log_isRow_37 (by decide) ?_
              refine wp_icmp_ge (tgt := 48) d_Log_isRow_39 (by decide) (fun c39 => ?_) (fun c39 => ?_)
              · refine out ?_ _
                have c39 : 6 ≤ r % 10 - 1 := (nI_leI (a := 6) (b := r % 10 - 1) (by omega) (by omega)).mp c39
                rw [← hi, if_pos (by omega)]
              · have c39 : ¬ 6 ≤ r % 10 - 1 := fun h => c39 ((nI_leI (a := 6) (b := r % 10 - 1) (by omega) (by omega)).mpr h)
                rw [if_neg (by omega)] at hi
                refine wp_aload_n d_Log_isRow_42 rfl rfl ?_
                refine wp_iload_n d_Log_isRow_43 rfl rfl ?_
                refine wp_zald d_Log_isRow_44 (by exact mu_up_s _ _ _) (by rfl) (by omega) (by omega) ?_
                refine wp_if_eq (tgt := 50) d_Log_isRow_45 (by decide) (fun c45 => ?_) (fun c45 => ?_)
                · rw [if_pos c45] at hi
                  refine wp_aload_n d_Log_isRow_50 rfl rfl ?_
                  refine wp_iload_n d_Log_isRow_51 rfl rfl ?_
                  refine wp_iconst (v := 1) d_Log_isRow_52 (by decide) ?_
                  refine wp_zast d_Log_isRow_53 (by exact mu_up_s _ _ _) (by exact hB) (by rfl) (by omega) (by omega) (by rfl) ?_
                  rw [mu_up_up]
                  refine wp_iload_n d_Log_isRow_54 rfl rfl ?_
                  refine wp_bipush (v := 10) d_Log_isRow_55 (by decide) ?_
                  refine wp_idiv d_Log_isRow_57 (by decide) ?_
                  rw [nI_div10 (by omega)]
                  refine wp_istore_n d_Log_isRow_58 rfl (by decide) ?_
                  refine wp_goto (tgt := 21) d_Log_isRow_59 (by decide) ?_
                  exact WP.loc [(1, .ref q), (2, .int (nI (r / 10)))] rfl (ih (r / 10) _ (by rw [Nat.pow_succ] at hr; omega) (by omega) hi)
                · rw [if_neg c45] at hi
                  exact out hi.symm _
      exact WP.loc _ rfl (WP.widen (Nat.le_of_ble_eq_true rfl) (Nat.le_of_ble_eq_true rfl) (loop 3 d _ (by omega) (by omega) rfl))
    · refine wp_iconst (v := 0) d_Log_isRow_12 (by decide) ?_
      exact wp_zret d_Log_isRow_13 rfl rfl (by decide) (by decide) ⟨by rw [vrI, if_pos (Or.inr (Int32.not_le.mp c9))]; rfl, sub.rf μ⟩
set_option maxHeartbeats 1000000 in
set_option maxRecDepth 10000 in
theorem ct_requireRow (G : mt_G) (μ : mu_M) (x : Int32) : CT G M_Log_requireRow [.int x] μ (fun v μ' => v = none ∧ sub μ μ' ∧ vrI x = true) (fun E μ' => E = IAE ∧ sub μ μ' ∧ vrI x = false) := by
  refine CT.of (by decide) rfl (Nat.le_of_ble_eq_true rfl) ?_
  refine wp_iload_n d_Log_requireRow_0 rfl rfl ?_
  refine wx_callS d_Log_requireRow_1 cs_Log_229 cd_Log_isRow ⟨by decide, by decide⟩ (ct_isRow G μ x) rfl rfl (Nat.le_of_ble_eq_true rfl) (Nat.le_of_ble_eq_true rfl) (Nat.le_of_ble_eq_true rfl) (fun E1 μ1 hq => WX.out rfl (no_hd _) (Nat.le_of_ble_eq_true rfl) (Nat.le_of_ble_eq_true rfl) ?_) (fun v1 μ1 hq => ?_)
  · exact hq.elim
  · obtain ⟨rfl, hs⟩ := hq
    refine wp_if_ne (tgt := 17) d_Log_requireRow_4 (by decide) (fun c4 => ?_) (fun c4 => ?_)
    · refine wp_vret d_Log_requireRow_17 rfl (by decide) (by decide) ⟨rfl, hs, ?_⟩
      cases hz : vrI x with
      | true => rfl
      | false => rw [hz] at c4; exact absurd rfl c4
    · have hz : vrI x = false := by
        cases hz : vrI x with
        | true => rw [hz] at c4; exact absurd c4 (by decide)
        | false => rfl
      exact wp_throw th_Log_224_232 rfl (no_hd _) d_Log_requireRow_7 d_Log_requireRow_10 d_Log_requireRow_11 d_Log_requireRow_13 d_Log_requireRow_16 (Nat.le_of_ble_eq_true rfl) (Nat.le_of_ble_eq_true rfl) (Nat.le_of_ble_eq_true rfl) (Nat.le_of_ble_eq_true rfl) ⟨rfl, hs, hz⟩
section Pub6
variable {G : mt_G} {μ φ : mu_M} {ad : Nat → Nat} {g : dg} {σ : sg} {δ : dg}
def ciS (c w : Nat) (σ : sg) (δ : dg) : Int32 := if w = 0 then σ (501 + c) 0 else if w = 1 then σ (16 + c) 4 else if w < 6 then σ (24 + c) (w - 2) else if w < 8 then nI (δ (1 + c) (w - 6)) else if σ (16 + c) 3 = 0 then 0 else 1
def S_client (x y : Int32) (σ : sg) (δ : dg) : RS := match ar x 4, ar y 9 with
  | some c, some w => (0, ciS c w σ δ, σ, δ)
  | _, _ => (1, 0, σ, δ)
set_option maxHeartbeats 4000000 in
set_option maxRecDepth 10000 in
theorem ct_client (hC : Cx G μ φ ad g σ δ) (hI : PI σ δ) (x y : Int32) : CT G M_Log_client [.ref (ad 0), .int x, .int y] μ (PostC G φ ad (S_client x y σ δ)) (PxC G φ ad ex1 (S_client x y σ δ)) := by
  have hR := hC.R
  refine CT.of (by decide) rfl (Nat.le_of_ble_eq_true rfl) ?_
  refine wp_iload_n d_Log_client_0 rfl rfl ?_
  refine wp_iconst (v := 3) d_Log_client_1 (by decide) ?_
  refine wx_callS d_Log_client_2 cs_Log_65 cd_Log_requireWithin ⟨by decide, by decide⟩ (ct_requireWithin G μ x 3) rfl rfl (Nat.le_of_ble_eq_true rfl) (Nat.le_of_ble_eq_true rfl) (Nat.le_of_ble_eq_true rfl) (fun E1 μ1 hq => WX.out rfl (no_hd _) (Nat.le_of_ble_eq_true rfl) (Nat.le_of_ble_eq_true rfl) ?_) (fun v1 μ1 hq => ?_)
  · obtain ⟨rfl, rfl, hx⟩ := hq
    rw [S_client, ar_no (n := 3) rfl (by omega) hx]
    exact ⟨Nat.one_ne_zero, rfl, g, φ, hC, sub.rf φ⟩
  · obtain ⟨rfl, rfl, h1, h2⟩ := hq
    obtain ⟨c, hc, rfl⟩ := ar_ok (n := 3) rfl (by omega) h1 h2
    refine wp_iload_n d_Log_client_5 rfl rfl ?_
    refine wp_bipush (v := 8) d_Log_client_6 (by decide) ?_
    refine wx_callS d_Log_client_8 cs_Log_65 cd_Log_requireWithin ⟨by decide, by decide⟩ (ct_requireWithin G μ1 y 8) rfl rfl (Nat.le_of_ble_eq_true rfl) (Nat.le_of_ble_eq_true rfl) (Nat.le_of_ble_eq_true rfl) (fun E1 μ1 hq => WX.out rfl (no_hd _) (Nat.le_of_ble_eq_true rfl) (Nat.le_of_ble_eq_true rfl) ?_) (fun v1 μ1 hq => ?_)
    · obtain ⟨rfl, rfl, hx⟩ := hq
      rw [S_client, ar_nI hc (by omega), ar_no (n := 8) rfl (by omega) hx]
      exact ⟨Nat.one_ne_zero, rfl, g, φ, hC, sub.rf φ⟩
    · obtain ⟨rfl, rfl, h1, h2⟩ := hq
      obtain ⟨w, hw, rfl⟩ := ar_ok (n := 8) rfl (by omega) h1 h2
      have hS : S_client (nI c) (nI w) σ δ = (0, ciS c w σ δ, σ, δ) := by rw [S_client, ar_nI hc (by omega), ar_nI hw (by omega)]
      rw [hS]
      obtain ⟨a0, a1, f0, f1, k0, k1, k2, k3, k4⟩ := hC.kn hc
      refine wp_aload_n d_Log_client_11 rfl rfl ?_
      refine wp_get d_Log_client_12 fl_Log_17 (by first | exact hR.log | exact hR.car | exact hR.cli hc | exact k0 | exact hR.age hc) (by rfl) ?_
      refine wp_iload_n d_Log_client_15 rfl rfl ?_
      refine wp_aald d_Log_client_16 (t := 4) (C := "SharedLog$Client") rfl (by first | exact hR.log | exact hR.car | exact hR.cli hc | exact k0 | exact hR.age hc) (by rfl) (by assumption) (by omega) (by rfl) ?_
      refine wp_astore_n d_Log_client_17 rfl (by decide) ?_
      refine wp_iload_n d_Log_client_18 rfl rfl ?_
      rcases (show w = 0 ∨ w = 1 ∨ (2 ≤ w ∧ w < 6) ∨ w = 6 ∨ w = 7 ∨ w = 8 by omega) with rfl | rfl | hw2 | rfl | rfl | rfl
      · refine wp_tableIn (off := 49) (tgt := 68) d_Log_client_19 (by decide) (by decide) (by decide) (by decide) ?_
        refine wp_aload_n d_Log_client_68 rfl rfl ?_
        refine wp_get d_Log_client_69 fl_Log_80 (by first | exact hR.log | exact hR.car | exact hR.cli hc | exact k0 | exact hR.age hc) (by rfl) ?_
        refine wp_get d_Log_client_72 fl_Log_119 (by first | exact hR.log | exact hR.car | exact hR.cli hc | exact k0 | exact hR.age hc) (by rfl) ?_
        exact wp_iret d_Log_client_75 rfl (by decide) (by decide) ⟨rfl, rfl, g, φ, hC, sub.rf φ⟩
      · refine wp_tableIn (off := 57) (tgt := 76) d_Log_client_19 (by decide) (by decide) (by decide) (by decide) ?_
        refine wp_aload_n d_Log_client_76 rfl rfl ?_
        refine wp_get d_Log_client_77 fl_Log_172 (by first | exact hR.log | exact hR.car | exact hR.cli hc | exact k0 | exact hR.age hc) (by rfl) ?_
        exact wp_iret d_Log_client_80 rfl (by decide) (by decide) ⟨rfl, rfl, g, φ, hC, sub.rf φ⟩
      · have hj : WP G M_Log_client (EC G M_Log_client (PostC G φ ad (0, ciS c w σ δ, σ, δ)) (PxC G φ ad ex1 (0, ciS c w σ δ, σ, δ))) [(2, .int (nI w)), (3, .ref (ad (16 + c)))] 109 [] μ1 2 12 := by
          refine wp_aload_n d_Log_client_109 rfl rfl ?_
          refine wp_get d_Log_client_110 fl_Log_202 (by first | exact hR.log | exact hR.car | exact hR.cli hc | exact k0 | exact hR.age hc) (by rfl) ?_
          refine wp_iload_n d_Log_client_113 rfl rfl ?_
          refine wp_iconst (v := 2) d_Log_client_114 (by decide) ?_
          refine wp_isub d_Log_client_115 ?_
          refine wp_iald d_Log_client_116 (by first | exact hR.log | exact hR.car | exact hR.cli hc | exact k0 | exact hR.age hc) (by exact pk_sub (b := 2) (by omega)) (by omega) (by omega) ?_
          refine wp_iret d_Log_client_117 rfl (by decide) (by decide) ⟨rfl, ?_, g, φ, hC, sub.rf φ⟩
          show _ = some (Value.int (ciS c w σ δ))
          unfold ciS
          rw [if_neg (by omega), if_neg (by omega), if_pos (by omega)]
        rcases (show w = 2 ∨ w = 3 ∨ w = 4 ∨ w = 5 by omega) with rfl | rfl | rfl | rfl
        · exact wp_tableIn (off := 90) (tgt := 109) d_Log_client_19 (by decide) (by decide) (by decide) (by decide) (WP.loc _ rfl hj)
        · exact wp_tableIn (off := 90) (tgt := 109) d_Log_client_19 (by decide) (by decide) (by decide) (by decide) (WP.loc _ rfl hj)
        · exact wp_tableIn (off := 90) (tgt := 109) d_Log_client_19 (by decide) (by decide) (by decide) (by decide) (WP.loc _ rfl hj)
        · exact wp_tableIn (off := 90) (tgt := 109) d_Log_client_19 (by decide) (by decide) (by decide) (by decide) (WP.loc _ rfl hj)
      · refine wp_tableIn (off := 62) (tgt := 81) d_Log_client_19 (by decide) (by decide) (by decide) (by decide) ?_
        refine wp_aload_n d_Log_client_81 rfl rfl ?_
        refine wp_get d_Log_client_82 fl_Log_80 (by first | exact hR.log | exact hR.car | exact hR.cli hc | exact k0 | exact hR.age hc) (by rfl) ?_
        refine wp_iload_n d_Log_client_85 rfl rfl ?_
        refine wp_bipush (v := 6) d_Log_client_86 (by decide) ?_
        refine wp_isub d_Log_client_88 ?_
        refine wx_callV d_Log_client_89 cv_Log_138 cd_Layout_chain ⟨by decide, by decide⟩ (ct_chain G μ1 _ a0 a1 _ _ k0) (by exact k0) rfl rfl (Nat.le_of_ble_eq_true rfl) (Nat.le_of_ble_eq_true rfl) (Nat.le_of_ble_eq_true rfl) (fun E1 μ1 hq => WX.out rfl (no_hd _) (Nat.le_of_ble_eq_true rfl) (Nat.le_of_ble_eq_true rfl) ?_) (fun v1 μ1 hq => ?_)
        · exact hq.elim
        · obtain ⟨rfl, rfl⟩ := hq
          rw [if_pos (by decide)]
          refine wx_callS d_Log_client_92 cs_Log_219 cd_Log_digitsOf ⟨by decide, by decide⟩ (ct_digitsOf G μ1 (hI.1 (1 + c) 0 (by omega) (by omega)) k1 k3) rfl rfl (Nat.le_of_ble_eq_true rfl) (Nat.le_of_ble_eq_true rfl) (Nat.le_of_ble_eq_true rfl) (fun E1 μ1 hq => WX.out rfl (no_hd _) (Nat.le_of_ble_eq_true rfl) (Nat.le_of_ble_eq_true rfl) ?_) (fun v1 μ1 hq => ?_)
          · exact hq.elim
          · obtain ⟨rfl, rfl⟩ := hq
            exact wp_iret d_Log_client_95 rfl (by decide) (by decide) ⟨rfl, rfl, g, φ, hC, sub.rf φ⟩
      · refine wp_tableIn (off := 62) (tgt := 81) d_Log_client_19 (by decide) (by decide) (by decide) (by decide) ?_
        refine wp_aload_n d_Log_client_81 rfl rfl ?_
        refine wp_get d_Log_client_82 fl_Log_80 (by first | exact hR.log | exact hR.car | exact hR.cli hc | exact k0 | exact hR.age hc) (by rfl) ?_
        refine wp_iload_n d_Log_client_85 rfl rfl ?_
        refine wp_bipush (v := 6) d_Log_client_86 (by decide) ?_
        refine wp_isub d_Log_client_88 ?_
        refine wx_callV d_Log_client_89 cv_Log_138 cd_Layout_chain ⟨by decide, by decide⟩ (ct_chain G μ1 _ a0 a1 _ _ k0) (by exact k0) rfl rfl (Nat.le_of_ble_eq_true rfl) (Nat.le_of_ble_eq_true rfl) (Nat.le_of_ble_eq_true rfl) (fun E1 μ1 hq => WX.out rfl (no_hd _) (Nat.le_of_ble_eq_true rfl) (Nat.le_of_ble_eq_true rfl) ?_) (fun v1 μ1 hq => ?_)
        · exact hq.elim
        · obtain ⟨rfl, rfl⟩ := hq
          rw [if_neg (by decide)]
          refine wx_callS d_Log_client_92 cs_Log_219 cd_Log_digitsOf ⟨by decide, by decide⟩ (ct_digitsOf G μ1 (hI.1 (1 + c) 1 (by omega) (by omega)) k2 k4) rfl rfl (Nat.le_of_ble_eq_true rfl) (Nat.le_of_ble_eq_true rfl) (Nat.le_of_ble_eq_true rfl) (fun E1 μ1 hq => WX.out rfl (no_hd _) (Nat.le_of_ble_eq_true rfl) (Nat.le_of_ble_eq_true rfl) ?_) (fun v1 μ1 hq => ?_)
          · exact hq.elim
          · obtain ⟨rfl, rfl⟩ := hq
            exact wp_iret d_Log_client_95 rfl (by decide) (by decide) ⟨rfl, rfl, g, φ, hC, sub.rf φ⟩
      · refine wp_tableIn (off := 77) (tgt := 96) d_Log_client_19 (by decide) (by decide) (by decide) (by decide) ?_
        refine wp_aload_n d_Log_client_96 rfl rfl ?_
        refine wp_get d_Log_client_97 fl_Log_179 (by first | exact hR.log | exact hR.car | exact hR.cli hc | exact k0 | exact hR.age hc) (by rfl) ?_
        refine wp_if_eq (tgt := 107) d_Log_client_100 (by decide) (fun c100 => ?_) (fun c100 => ?_)
        · refine wp_iconst (v := 0) d_Log_client_107 (by decide) ?_
          exact wp_iret d_Log_client_108 rfl (by decide) (by decide) ⟨rfl, by show _ = some (Value.int (if σ (16 + c) 3 = 0 then 0 else 1)); rw [if_pos c100], g, φ, hC, sub.rf φ⟩
        · refine wp_iconst (v := 1) d_Log_client_103 (by decide) ?_
          refine wp_goto (tgt := 108) d_Log_client_104 (by decide) ?_
          exact wp_iret d_Log_client_108 rfl (by decide) (by decide) ⟨rfl, by show _ = some (Value.int (if σ (16 + c) 3 = 0 then 0 else 1)); rw [if_neg c100], g, φ, hC, sub.rf φ⟩
def cnS (w : Nat) (σ : sg) : Int32 := if w = 0 then σ 500 0 else if w = 1 then σ 3 1 else if w = 2 then σ 3 2 else if w = 3 then (if σ 3 0 = 0 then 0 else 1) else σ w 2
def S_count (y : Int32) (σ : sg) (δ : dg) : RS := match ar y 10 with
  | some w => (0, cnS w σ, σ, δ)
  | none => (1, 0, σ, δ)
set_option maxHeartbeats 4000000 in
set_option maxRecDepth 10000 in
theorem ct_count (hC : Cx G μ φ ad g σ δ) (y : Int32) : CT G M_Log_count [.ref (ad 0), .int y] μ (PostC G φ ad (S_count y σ δ)) (PxC G φ ad ex1 (S_count y σ δ)) := by
  have hR := hC.R
  refine CT.of (by decide) rfl (Nat.le_of_ble_eq_true rfl) ?_
  refine wp_iload_n d_Log_count_0 rfl rfl ?_
  refine wp_bipush (v := 9) d_Log_count_1 (by decide) ?_
  refine wx_callS d_Log_count_3 cs_Log_65 cd_Log_requireWithin ⟨by decide, by decide⟩ (ct_requireWithin G μ y 9) rfl rfl (Nat.le_of_ble_eq_true rfl) (Nat.le_of_ble_eq_true rfl) (Nat.le_of_ble_eq_true rfl) (fun E1 μ1 hq => WX.out rfl (no_hd _) (Nat.le_of_ble_eq_true rfl) (Nat.le_of_ble_eq_true rfl) ?_) (fun v1 μ1 hq => ?_)
  · obtain ⟨rfl, rfl, hx⟩ := hq
    rw [S_count, ar_no (n := 9) rfl (by omega) hx]
    exact ⟨Nat.one_ne_zero, rfl, g, φ, hC, sub.rf φ⟩
  · obtain ⟨rfl, rfl, h1, h2⟩ := hq
    obtain ⟨w, hw, rfl⟩ := ar_ok (n := 9) rfl (by omega) h1 h2
    have hS : S_count (nI w) σ δ = (0, cnS w σ, σ, δ) := by rw [S_count, ar_nI hw (by omega)]
    rw [hS]
    obtain ⟨a0, a1, f0, f1, k0, -⟩ := hC.2.2.2.2.2.2.1
    refine wp_iload_n d_Log_count_6 rfl rfl ?_
    rcases (show w = 0 ∨ w = 1 ∨ w = 2 ∨ w = 3 ∨ 4 ≤ w by omega) with rfl | rfl | rfl | rfl | hw4
    · refine wp_tableIn (off := 29) (tgt := 36) d_Log_count_7 (by decide) (by decide) (by decide) (by decide) ?_
      refine wp_aload_n d_Log_count_36 rfl rfl ?_
      refine wp_get d_Log_count_37 fl_Log_55 (by first | exact hR.log | exact hR.seq | exact hC.at k0 | exact hR.uar) (by rfl) ?_
      refine wp_get d_Log_count_40 fl_Log_119 (by first | exact hR.log | exact hR.seq | exact hC.at k0 | exact hR.uar) (by rfl) ?_
      exact wp_iret d_Log_count_43 rfl (by decide) (by decide) ⟨rfl, rfl, g, φ, hC, sub.rf φ⟩
    · refine wp_tableIn (off := 37) (tgt := 44) d_Log_count_7 (by decide) (by decide) (by decide) (by decide) ?_
      refine wp_aload_n d_Log_count_44 rfl rfl ?_
      refine wp_get d_Log_count_45 fl_Log_24 (by first | exact hR.log | exact hR.seq | exact hC.at k0 | exact hR.uar) (by rfl) ?_
      refine wp_get d_Log_count_48 fl_Log_223 (by first | exact hR.log | exact hR.seq | exact hC.at k0 | exact hR.uar) (by rfl) ?_
      exact wp_iret d_Log_count_51 rfl (by decide) (by decide) ⟨rfl, rfl, g, φ, hC, sub.rf φ⟩
    · refine wp_tableIn (off := 45) (tgt := 52) d_Log_count_7 (by decide) (by decide) (by decide) (by decide) ?_
      refine wp_aload_n d_Log_count_52 rfl rfl ?_
      refine wp_get d_Log_count_53 fl_Log_24 (by first | exact hR.log | exact hR.seq | exact hC.at k0 | exact hR.uar) (by rfl) ?_
      refine wp_get d_Log_count_56 fl_Log_152 (by first | exact hR.log | exact hR.seq | exact hC.at k0 | exact hR.uar) (by rfl) ?_
      exact wp_iret d_Log_count_59 rfl (by decide) (by decide) ⟨rfl, rfl, g, φ, hC, sub.rf φ⟩
    · refine wp_tableIn (off := 53) (tgt := 60) d_Log_count_7 (by decide) (by decide) (by decide) (by decide) ?_
      refine wp_aload_n d_Log_count_60 rfl rfl ?_
      refine wp_get d_Log_count_61 fl_Log_24 (by first | exact hR.log | exact hR.seq | exact hC.at k0 | exact hR.uar) (by rfl) ?_
      refine wp_get d_Log_count_64 fl_Log_161 (by first | exact hR.log | exact hR.seq | exact hC.at k0 | exact hR.uar) (by rfl) ?_
      refine wp_if_eq (tgt := 74) d_Log_count_67 (by decide) (fun c67 => ?_) (fun c67 => ?_)
      · refine wp_iconst (v := 0) d_Log_count_74 (by decide) ?_
        exact wp_iret d_Log_count_75 rfl (by decide) (by decide) ⟨rfl, by show _ = some (Value.int (if σ 3 0 = 0 then 0 else 1)); rw [if_pos c67], g, φ, hC, sub.rf φ⟩
      · refine wp_iconst (v := 1) d_Log_count_70 (by decide) ?_
        refine wp_goto (tgt := 75) d_Log_count_71 (by decide) ?_
        exact wp_iret d_Log_count_75 rfl (by decide) (by decide) ⟨rfl, by show _ = some (Value.int (if σ 3 0 = 0 then 0 else 1)); rw [if_neg c67], g, φ, hC, sub.rf φ⟩
    · refine wp_tableOut (tgt := 76) d_Log_count_7 (Or.inr (by rw [nI_toInt (by omega)]; omega)) (by decide) ?_
      obtain ⟨u, rfl⟩ : ∃ u, w = 4 + u := ⟨w - 4, by omega⟩
      have hu : u < 6 := by omega
      refine wp_aload_n d_Log_count_76 rfl rfl ?_
      refine wp_get d_Log_count_77 fl_Log_11 (by first | exact hR.log | exact hR.seq | exact hC.at k0 | exact hR.uar) (by rfl) ?_
      refine wp_iload_n d_Log_count_80 rfl rfl ?_
      refine wp_iconst (v := 4) d_Log_count_81 (by decide) ?_
      refine wp_isub d_Log_count_82 ?_
      refine wp_aald d_Log_count_83 (t := 3) (C := "SharedLog$Unit") rfl (by first | exact hR.log | exact hR.seq | exact hC.at k0 | exact hR.uar) (by exact (pk_sub (b := 4) (by omega)).trans (by rw [show 4 + u - 4 = u by omega])) (by exact hu) (by omega) (by rfl) ?_
      refine wp_get d_Log_count_84 fl_Log_158 (by exact hR.unit hu) (by rfl) ?_
      refine wp_iret d_Log_count_87 rfl (by decide) (by decide) ⟨rfl, ?_, g, φ, hC, sub.rf φ⟩
      show _ = some (Value.int (cnS (4 + u) σ))
      unfold cnS
      rw [if_neg (by omega), if_neg (by omega), if_neg (by omega), if_neg (by omega)]
end Pub6
