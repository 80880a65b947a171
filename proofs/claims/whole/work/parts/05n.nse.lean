/-! 'throw new NoSuchElementException("trimmed")': its constructor calls by another place of its pool than the other throwables' -/
theorem wp_nse {G : mt_G} {M : mt_M} {lo : List (Nat × Value)} {pc : Nat} {rest : List Value} {μ : mu_M} {cn sn : Nat} {post : Option Value → mu_M → Prop} {px : String → mu_M → Prop} {hh : List (Nat × Nat × Nat × Nat)} (hcl : (mt_y M).cls = "SharedLog") (hh0 : mt_h M = some hh) (hcov : ∀ x ∈ tableOf hh, covers x (pc + 9) = false)
    (d0 : decode (mt_c M) pc = .ok (.new 249, 3)) (d3 : decode (mt_c M) (pc + 3) = .ok (.dup, 1)) (d4 : decode (mt_c M) (pc + 4) = .ok (.ldc 251, 2)) (d6 : decode (mt_c M) (pc + 6) = .ok (.invokespecial 252, 3)) (d9 : decode (mt_c M) (pc + 9) = .ok (.athrow, 1))
    (hRf : 5 < (mt_R M).frames) (hRl : (rest.map fun v => v.category).sum + 82 ≤ (mt_R M).locals) (hc : cn + 1 ≤ (mt_R M).cells) (hs : sn + 6 ≤ (mt_R M).slots) (hp : px "java/util/NoSuchElementException" μ) : WP G M (EC G M post px) lo pc rest μ cn sn := by
  sorry
