-- Mo.save: blocks [0, 6, 12, 21, 52]
theorem k_Mo_save {d : Nat} {Q : QT} {μ : Mem} {s : Int} {z : Rw} (hM : μ 511 = z) (hs : inR s) (hf : (s < 0 ∨ 1 < s) → Q (.inl (-2)) μ)
    (hq : 0 ≤ s → s ≤ 1 → ∀ μ', (∀ k, k ≠ 513 → k ≠ 514 → μ' k = μ k) → (∀ j, μ' 514 j = if j = s.toNat then 1 else μ 514 j) → (∀ x, μ' 513 x = if 956 * s.toNat ≤ x ∧ x < 956 * s.toNat + 956 then z (x - 956 * s.toNat) else μ 513 x) → Q (.inl (z 0)) μ') : Call σ1 (d + 2) 108 [.inr (.inr 510), .inl s] μ Q := by
  refine e_108 ?_
  refine wp_go b108_0 ?_; simp only [l108_0, sg_iload_1, sg_iconst, len4_0, len4_1, len4_2, len4_3, len4_4, sg_is3_1, nLg_n, nLg_i, nLg_r, tc_c, tc_l, tc_r, tc_m, tc_n, tc_o, tc_0, inR, true_and, and_true, ne_eq, not_true_eq_false, not_false_eq_true, true_imp_iff, false_imp_iff, Int.toNat_natCast, lit_a, Nat.reduceAdd, or_true, true_or, or_false, false_or, Int.reduceEq, Int.reduceNe, Int.reduceLT, Int.reduceLE, Int.reduceNeg, sg_nil]
  refine k_Mo_in hs (by unfold inR; omega) (by unfold inR; omega) (fun g1 g2 => ?_) (fun g0 => ?_)
  · obtain ⟨m, rfl⟩ := nat_of g1
    have hq := hq g1 g2
    rw [Int.toNat_natCast] at hq
    have loop : ∀ k i : Nat, i + k = 956 → ∀ μ1 : Mem, (∀ k, k ≠ 513 → k ≠ 514 → μ1 k = μ k) → (∀ j, μ1 514 j = if j = m then 1 else μ 514 j) → (∀ x, μ1 513 x = if 956 * m ≤ x ∧ x < 956 * m + i then z (x - 956 * m) else μ 513 x) → wp σ1 (Call σ1 (d + 1)) 108 Q 21 [some (.inr (.inr 510)), some (.inl (m : Int)), some (.inl (i : Int))] [] μ1 := by
      intro k
      induction k with
      | zero =>
        intro i hi μ1 f1 f2 g1
        have hi6 : i = 956 := by omega
        subst hi6
        have hq := hq μ1 f1 f2 g1
        have M1 : μ1 511 = z := by rw [f1 511 (by omega) (by omega)]; exact hM
        refine wp_go b108_21 ?_; simp only [l108_21, sg_iload_2, sg_sipush, sg_ic_ge, sg_aload_0, sg_getfp, sg_iload_1, sg_imul, sg_iadd, sg_iaload, sg_iastore, sg_iinc, ldI_2, okS_2, stL_2, sg_goto, nLg_n, nLg_i, nLg_r, tc_c, tc_l, tc_r, tc_m, tc_n, tc_o, tc_0, inR, true_and, and_true, ne_eq, not_true_eq_false, not_false_eq_true, true_imp_iff, false_imp_iff, Int.toNat_natCast, lit_a, Nat.reduceAdd, or_true, true_or, or_false, false_or, Int.reduceEq, Int.reduceNe, Int.reduceLT, Int.reduceLE, Int.reduceNeg, sg_nil]
        repeat' (first | with_reducible apply And.intro | intro _)
        all_goals (try omega)
        refine wp_go b108_52 ?_; simp only [l108_52, sg_aload_0, sg_getfp, sg_iconst, sg_iaload, sg_iret0, nLg_n, nLg_i, nLg_r, tc_c, tc_l, tc_r, tc_m, tc_n, tc_o, tc_0, inR, true_and, and_true, ne_eq, not_true_eq_false, not_false_eq_true, true_imp_iff, false_imp_iff, Int.toNat_natCast, lit_a, Nat.reduceAdd, or_true, true_or, or_false, false_or, Int.reduceEq, Int.reduceNe, Int.reduceLT, Int.reduceLE, Int.reduceNeg, sg_nil, s1p, x510, x511, x512, x513, x514, x515, x516, x517, M1, Int.toNat_zero]
        exact hq
      | succ k ih =>
        intro i hi μ1 f1 f2 g1
        have M1 : μ1 511 = z := by rw [f1 511 (by omega) (by omega)]; exact hM
        have ih1 := ih (i + 1) (by omega) (ms μ1 513 (956 * m + i) (z i)) (fun k h1 h2 => by rw [← f1 k h1 h2]; funext j; simp only [ms_at]; (repeat (first | rw [if_neg (by omega)] | rw [if_pos (by omega)]))) (fun j => by rw [← f2 j]; simp only [ms_at]; (repeat (first | rw [if_neg (by omega)] | rw [if_pos (by omega)]))) (fun x => by
          simp only [ms_at, true_and]
          by_cases hx : x = 956 * m + i
          · rw [if_pos hx, if_pos (by omega), hx, show 956 * m + i - 956 * m = i by omega]
          · rw [if_neg hx, g1 x]
            by_cases hy : 956 * m ≤ x ∧ x < 956 * m + i
            · rw [if_pos hy, if_pos (by omega)]
            · rw [if_neg hy, if_neg (by omega)])
        rw [show 956 * m + i = m * 956 + i by omega] at ih1
        refine wp_go b108_21 ?_; simp only [l108_21, sg_iload_2, sg_sipush, sg_ic_ge, sg_aload_0, sg_getfp, sg_iload_1, sg_imul, sg_iadd, sg_iaload, sg_iastore, sg_iinc, ldI_2, okS_2, stL_2, sg_goto, nLg_n, nLg_i, nLg_r, tc_c, tc_l, tc_r, tc_m, tc_n, tc_o, tc_0, inR, true_and, and_true, ne_eq, not_true_eq_false, not_false_eq_true, true_imp_iff, false_imp_iff, Int.toNat_natCast, lit_a, Nat.reduceAdd, or_true, true_or, or_false, false_or, Int.reduceEq, Int.reduceNe, Int.reduceLT, Int.reduceLE, Int.reduceNeg, sg_nil, s1p, x510, x511, x512, x513, x514, x515, x516, x517, M1]
        repeat' (first | with_reducible apply And.intro | intro _)
        all_goals (try omega)
    have st := loop 956 0 (by omega) (ms μ 514 m 1) (fun k h1 h2 => by funext j; simp only [ms_at]; (repeat (first | rw [if_neg (by omega)] | rw [if_pos (by omega)]))) (fun j => by simp [ms_at]) (fun x => by rw [if_neg (by omega)]; simp only [ms_at]; (repeat (first | rw [if_neg (by omega)] | rw [if_pos (by omega)])))
    refine wp_go b108_6 ?_; simp only [l108_6, sg_if_ne, sg_bipush, sg_iret0, nLg_n, nLg_i, nLg_r, tc_c, tc_l, tc_r, tc_m, tc_n, tc_o, tc_0, inR, true_and, and_true, ne_eq, not_true_eq_false, not_false_eq_true, true_imp_iff, false_imp_iff, Int.toNat_natCast, lit_a, Nat.reduceAdd, or_true, true_or, or_false, false_or, Int.reduceEq, Int.reduceNe, Int.reduceLT, Int.reduceLE, Int.reduceNeg, sg_nil]
    repeat' (first | with_reducible apply And.intro | intro _)
    all_goals (try omega)
    refine wp_go b108_12 ?_; simp only [l108_12, sg_aload_0, sg_getfp, sg_iload_1, sg_iconst, sg_bastore, sg_istore_2, nLg_n, nLg_i, nLg_r, tc_c, tc_l, tc_r, tc_m, tc_n, tc_o, tc_0, inR, true_and, and_true, ne_eq, not_true_eq_false, not_false_eq_true, true_imp_iff, false_imp_iff, Int.toNat_natCast, lit_a, Nat.reduceAdd, or_true, true_or, or_false, false_or, Int.reduceEq, Int.reduceNe, Int.reduceLT, Int.reduceLE, Int.reduceNeg, sg_nil, s1p, x510, x511, x512, x513, x514, x515, x516, x517]
    repeat' (first | with_reducible apply And.intro | intro _)
    all_goals (try omega)
  · have hf := hf (by omega)
    refine wp_go b108_6 ?_; simp only [l108_6, sg_if_ne, sg_bipush, sg_iret0, nLg_n, nLg_i, nLg_r, tc_c, tc_l, tc_r, tc_m, tc_n, tc_o, tc_0, inR, true_and, and_true, ne_eq, not_true_eq_false, not_false_eq_true, true_imp_iff, false_imp_iff, Int.toNat_natCast, lit_a, Nat.reduceAdd, or_true, true_or, or_false, false_or, Int.reduceEq, Int.reduceNe, Int.reduceLT, Int.reduceLE, Int.reduceNeg, sg_nil]
    repeat' (first | with_reducible apply And.intro | (intro _) | ((first | refine wp_go b108_0 ?_ | refine wp_go b108_6 ?_ | refine wp_go b108_12 ?_ | refine wp_go b108_52 ?_); simp only [l108_0, l108_6, l108_12, l108_52, sg_iload_1, sg_iconst, len4_0, len4_1, len4_2, len4_3, len4_4, sg_is3_1, sg_if_ne, sg_bipush, sg_iret0, sg_aload_0, sg_getfp, sg_bastore, sg_istore_2, sg_iaload, nLg_n, nLg_i, nLg_r, tc_c, tc_l, tc_r, tc_m, tc_n, tc_o, tc_0, inR, true_and, and_true, ne_eq, not_true_eq_false, not_false_eq_true, true_imp_iff, false_imp_iff, Int.toNat_natCast, lit_a, Nat.reduceAdd, or_true, true_or, or_false, false_or, Int.reduceEq, Int.reduceNe, Int.reduceLT, Int.reduceLE, Int.reduceNeg, sg_nil]))
    all_goals (try omega)
    all_goals exact hf
