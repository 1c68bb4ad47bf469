-- Mo.undo: blocks [0, 10, 22, 56]
theorem k_Mo_undo {d n : Nat} {Q : QT} {μ : Mem} (hn : μ 510 4 = (n : Int)) (h6 : n ≤ 6) (hf : n = 0 → Q (.inl (-5)) μ)
    (hq : ∀ m : Nat, n = m + 1 → ∀ μ', (∀ k, k ≠ 510 → k ≠ 511 → μ' k = μ k) → (∀ j, j ≠ 4 → μ' 510 j = μ 510 j) → μ' 510 4 = (m : Int) → (∀ k, k < 956 → μ' 511 k = μ 512 (956 * m + k)) → Q (.inl (m : Int)) μ') : Call σ1 (d + 1) 107 [.inr (.inr 510)] μ Q := by
  refine e_107 ?_
  rcases Nat.eq_zero_or_pos n with h | h
  · subst h
    have hf := hf rfl
    refine wp_go b107_0 ?_; simp only [l107_0, sg_aload_0, sg_getf0, sg_if_ne, sg_bipush, sg_iret0, nLg_n, nLg_i, nLg_r, tc_c, tc_l, tc_r, tc_m, tc_n, tc_o, tc_0, inR, true_and, and_true, ne_eq, not_true_eq_false, not_false_eq_true, true_imp_iff, false_imp_iff, Int.toNat_natCast, lit_a, Nat.reduceAdd, or_true, true_or, or_false, false_or, Int.reduceEq, Int.reduceNe, Int.reduceLT, Int.reduceLE, Int.reduceNeg, sg_nil, s1p, x510, x511, x512, x513, x514, x515, x516, x517, hn]
    repeat' (first | with_reducible apply And.intro | intro _)
    all_goals (try omega)
  · obtain ⟨m, rfl⟩ : ∃ m, n = m + 1 := ⟨n - 1, by omega⟩
    have hq := hq m rfl
    have loop : ∀ k i : Nat, i + k = 956 → ∀ μ1 : Mem, (∀ k, k ≠ 510 → k ≠ 511 → μ1 k = μ k) → (∀ j, j ≠ 4 → μ1 510 j = μ 510 j) → μ1 510 4 = (m : Int) → (∀ x, x < i → μ1 511 x = μ 512 (956 * m + x)) → wp σ1 (Call σ1 d) 107 Q 22 [some (.inr (.inr 510)), some (.inl (i : Int))] [] μ1 := by
      intro k
      induction k with
      | zero =>
        intro i hi μ1 f1 f2 w4 g1
        have hq := hq μ1 f1 f2 w4 (fun x hx => g1 x (by omega))
        refine wp_go b107_22 ?_; simp only [l107_22, sg_iload_1, sg_sipush, sg_ic_ge, sg_aload_0, sg_getfp, sg_getf0, sg_imul, sg_iadd, sg_iaload, sg_iastore, sg_iinc, ldI_1, okS_1, stL_1, sg_goto, nLg_n, nLg_i, nLg_r, tc_c, tc_l, tc_r, tc_m, tc_n, tc_o, tc_0, inR, true_and, and_true, ne_eq, not_true_eq_false, not_false_eq_true, true_imp_iff, false_imp_iff, Int.toNat_natCast, lit_a, Nat.reduceAdd, or_true, true_or, or_false, false_or, Int.reduceEq, Int.reduceNe, Int.reduceLT, Int.reduceLE, Int.reduceNeg, sg_nil]
        repeat' (first | with_reducible apply And.intro | intro _)
        all_goals (try omega)
        refine wp_go b107_56 ?_; simp only [l107_56, sg_aload_0, sg_getf0, sg_iret0, nLg_n, nLg_i, nLg_r, tc_c, tc_l, tc_r, tc_m, tc_n, tc_o, tc_0, inR, true_and, and_true, ne_eq, not_true_eq_false, not_false_eq_true, true_imp_iff, false_imp_iff, Int.toNat_natCast, lit_a, Nat.reduceAdd, or_true, true_or, or_false, false_or, Int.reduceEq, Int.reduceNe, Int.reduceLT, Int.reduceLE, Int.reduceNeg, sg_nil, s1p, x510, x511, x512, x513, x514, x515, x516, x517, w4]
        exact hq
      | succ k ih =>
        intro i hi μ1 f1 f2 w4 g1
        have e : μ1 512 (m * 956 + i) = μ 512 (m * 956 + i) := by rw [f1 512 (by omega) (by omega)]
        have ih1 := ih (i + 1) (by omega) (ms μ1 511 i (μ 512 (m * 956 + i))) (fun k h1 h2 => by rw [← f1 k h1 h2]; funext j; simp only [ms_at]; (repeat (first | rw [if_neg (by omega)] | rw [if_pos (by omega)]))) (fun j hj => by rw [← f2 j hj]; simp only [ms_at]; (repeat (first | rw [if_neg (by omega)] | rw [if_pos (by omega)]))) (by rw [← w4]; simp only [ms_at]; (repeat (first | rw [if_neg (by omega)] | rw [if_pos (by omega)]))) (fun x hx => by
          simp only [ms_at, true_and]
          by_cases hx2 : x = i
          · rw [if_pos hx2, hx2, show m * 956 + i = 956 * m + i by omega]
          · rw [if_neg hx2, g1 x (by omega)])
        refine wp_go b107_22 ?_; simp only [l107_22, sg_iload_1, sg_sipush, sg_ic_ge, sg_aload_0, sg_getfp, sg_getf0, sg_imul, sg_iadd, sg_iaload, sg_iastore, sg_iinc, ldI_1, okS_1, stL_1, sg_goto, nLg_n, nLg_i, nLg_r, tc_c, tc_l, tc_r, tc_m, tc_n, tc_o, tc_0, inR, true_and, and_true, ne_eq, not_true_eq_false, not_false_eq_true, true_imp_iff, false_imp_iff, Int.toNat_natCast, lit_a, Nat.reduceAdd, or_true, true_or, or_false, false_or, Int.reduceEq, Int.reduceNe, Int.reduceLT, Int.reduceLE, Int.reduceNeg, sg_nil, s1p, x510, x511, x512, x513, x514, x515, x516, x517, w4, e]
        repeat' (first | with_reducible apply And.intro | intro _)
        all_goals (try omega)
    have st := loop 956 0 (by omega) (ms μ 510 4 (m : Int)) (fun k h1 h2 => by funext j; simp only [ms_at]; (repeat (first | rw [if_neg (by omega)] | rw [if_pos (by omega)]))) (fun j hj => by simp only [ms_at]; (repeat (first | rw [if_neg (by omega)] | rw [if_pos (by omega)]))) (by simp [ms_at]) (fun x hx => absurd hx (by omega))
    have e7 : ((m + 1 : Nat) : Int) - 1 = (m : Int) := by omega
    refine wp_go b107_0 ?_; simp only [l107_0, sg_aload_0, sg_getf0, sg_if_ne, sg_bipush, sg_iret0, nLg_n, nLg_i, nLg_r, tc_c, tc_l, tc_r, tc_m, tc_n, tc_o, tc_0, inR, true_and, and_true, ne_eq, not_true_eq_false, not_false_eq_true, true_imp_iff, false_imp_iff, Int.toNat_natCast, lit_a, Nat.reduceAdd, or_true, true_or, or_false, false_or, Int.reduceEq, Int.reduceNe, Int.reduceLT, Int.reduceLE, Int.reduceNeg, sg_nil, s1p, x510, x511, x512, x513, x514, x515, x516, x517, hn]
    repeat' (first | with_reducible apply And.intro | intro _)
    all_goals (try omega)
    refine wp_go b107_10 ?_; simp only [l107_10, sg_aload_0, sg_dup_i, sg_dup_r, sg_getf0, sg_iconst, sg_isub, sg_putf0, sg_istore_1, nLg_n, nLg_i, nLg_r, tc_c, tc_l, tc_r, tc_m, tc_n, tc_o, tc_0, inR, true_and, and_true, ne_eq, not_true_eq_false, not_false_eq_true, true_imp_iff, false_imp_iff, Int.toNat_natCast, lit_a, Nat.reduceAdd, or_true, true_or, or_false, false_or, Int.reduceEq, Int.reduceNe, Int.reduceLT, Int.reduceLE, Int.reduceNeg, sg_nil, s1p, x510, x511, x512, x513, x514, x515, x516, x517, hn, e7]
    repeat' (first | with_reducible apply And.intro | intro _)
    all_goals (try omega)
