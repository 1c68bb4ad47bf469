theorem exI_s (p : Nat → Bool) (n : Nat) : exI p (n + 1) = if p n = true then 1 else exI p n := rfl
-- Mo.hasHeard: blocks [0, 4, 32, 36, 37, 44]
theorem k_Mo_hasHeard {d n : Nat} {Q : QT} {μ : Mem} {t : Int} {w : Rw} (hW : WH w) (hH : HM w μ) (hn : w 0 = (n : Int)) (ht : inR t) (h : Q (.inl (exI (fun s => decide (w (5 * s + 1) = t)) n)) μ) : Call σ1 (d + 1) 116 [.inr (.inr 510), .inl t] μ Q := by
  refine e_116 ?_
  have hn24 := hW.1
  unfold inR at ht
  have e0 : μ 516 0 = (n : Int) := (hH 0 (by omega)).trans hn
  have loop : ∀ k i : Nat, i + k = n → wp σ1 (Call σ1 d) 116 Q 4 [some (.inr (.inr 510)), some (.inl t), some (.inl (exI (fun s => decide (w (5 * s + 1) = t)) i)), some (.inl (i : Int))] [] μ := by
    intro k
    induction k with
    | zero =>
      intro i hi
      have hin : i = n := by omega
      subst hin
      refine wp_go b116_4 ?_; simp only [l116_4, sg_iload_3, sg_aload_0, sg_getfp, sg_iconst, sg_iaload, sg_ic_ge, sg_iload_2, sg_if_ne, sg_imul, sg_iadd, sg_iload_1, sg_ic_ne, nLg_n, nLg_i, nLg_r, tc_c, tc_l, tc_r, tc_m, tc_n, tc_o, tc_0, inR, true_and, and_true, ne_eq, not_true_eq_false, not_false_eq_true, true_imp_iff, false_imp_iff, Int.toNat_natCast, lit_a, Nat.reduceAdd, or_true, true_or, or_false, false_or, Int.reduceEq, Int.reduceNe, Int.reduceLT, Int.reduceLE, Int.reduceNeg, sg_nil, s1p, x510, x511, x512, x513, x514, x515, x516, x517, e0, Int.toNat_zero]
      repeat' (first | with_reducible apply And.intro | intro _)
      all_goals (try omega)
      refine wp_go b116_44 ?_; simp only [l116_44, sg_iload_2, sg_iret1, nLg_n, nLg_i, nLg_r, tc_c, tc_l, tc_r, tc_m, tc_n, tc_o, tc_0, inR, true_and, and_true, ne_eq, not_true_eq_false, not_false_eq_true, true_imp_iff, false_imp_iff, Int.toNat_natCast, lit_a, Nat.reduceAdd, or_true, true_or, or_false, false_or, Int.reduceEq, Int.reduceNe, Int.reduceLT, Int.reduceLE, Int.reduceNeg, sg_nil]
      exact ⟨exI_01 _, h⟩
    | succ k ih =>
      intro i hi
      have ih1 := ih (i + 1) (by omega)
      have e2 : μ 516 (5 * i + 1) = w (5 * i + 1) := hH _ (by omega)
      have no := WH.no hW (i := i) (by omega)
      rw [exI_s] at ih1
      by_cases g : w (5 * i + 1) = t
      · rw [if_pos (decide_eq_true g)] at ih1
        rcases exI_01 (p := fun s => decide (w (5 * s + 1) = t)) i with e | e
        · rw [e]
          refine wp_go b116_4 ?_; simp only [l116_4, sg_iload_3, sg_aload_0, sg_getfp, sg_iconst, sg_iaload, sg_ic_ge, sg_iload_2, sg_if_ne, sg_imul, sg_iadd, sg_iload_1, sg_ic_ne, nLg_n, nLg_i, nLg_r, tc_c, tc_l, tc_r, tc_m, tc_n, tc_o, tc_0, inR, true_and, and_true, ne_eq, not_true_eq_false, not_false_eq_true, true_imp_iff, false_imp_iff, Int.toNat_natCast, lit_a, Nat.reduceAdd, or_true, true_or, or_false, false_or, Int.reduceEq, Int.reduceNe, Int.reduceLT, Int.reduceLE, Int.reduceNeg, sg_nil, s1p, x510, x511, x512, x513, x514, x515, x516, x517, e0, e2, Int.toNat_zero]
          repeat' (first | with_reducible apply And.intro | (intro _) | ((first | refine wp_go b116_0 ?_ | refine wp_go b116_32 ?_ | refine wp_go b116_36 ?_ | refine wp_go b116_37 ?_ | refine wp_go b116_44 ?_); simp only [l116_0, l116_32, l116_36, l116_37, l116_44, sg_iconst, sg_istore_2, sg_istore_3, sg_goto, sg_iinc, ldI_3, okS_3, stL_3, sg_iload_2, sg_iret1, nLg_n, nLg_i, nLg_r, tc_c, tc_l, tc_r, tc_m, tc_n, tc_o, tc_0, inR, true_and, and_true, ne_eq, not_true_eq_false, not_false_eq_true, true_imp_iff, false_imp_iff, Int.toNat_natCast, lit_a, Nat.reduceAdd, or_true, true_or, or_false, false_or, Int.reduceEq, Int.reduceNe, Int.reduceLT, Int.reduceLE, Int.reduceNeg, sg_nil, s1p, x510, x511, x512, x513, x514, x515, x516, x517]))
          all_goals (try omega)
          all_goals exact ih1
        · rw [e]
          refine wp_go b116_4 ?_; simp only [l116_4, sg_iload_3, sg_aload_0, sg_getfp, sg_iconst, sg_iaload, sg_ic_ge, sg_iload_2, sg_if_ne, sg_imul, sg_iadd, sg_iload_1, sg_ic_ne, nLg_n, nLg_i, nLg_r, tc_c, tc_l, tc_r, tc_m, tc_n, tc_o, tc_0, inR, true_and, and_true, ne_eq, not_true_eq_false, not_false_eq_true, true_imp_iff, false_imp_iff, Int.toNat_natCast, lit_a, Nat.reduceAdd, or_true, true_or, or_false, false_or, Int.reduceEq, Int.reduceNe, Int.reduceLT, Int.reduceLE, Int.reduceNeg, sg_nil, s1p, x510, x511, x512, x513, x514, x515, x516, x517, e0, e2, Int.toNat_zero]
          repeat' (first | with_reducible apply And.intro | (intro _) | ((first | refine wp_go b116_0 ?_ | refine wp_go b116_32 ?_ | refine wp_go b116_36 ?_ | refine wp_go b116_37 ?_ | refine wp_go b116_44 ?_); simp only [l116_0, l116_32, l116_36, l116_37, l116_44, sg_iconst, sg_istore_2, sg_istore_3, sg_goto, sg_iinc, ldI_3, okS_3, stL_3, sg_iload_2, sg_iret1, nLg_n, nLg_i, nLg_r, tc_c, tc_l, tc_r, tc_m, tc_n, tc_o, tc_0, inR, true_and, and_true, ne_eq, not_true_eq_false, not_false_eq_true, true_imp_iff, false_imp_iff, Int.toNat_natCast, lit_a, Nat.reduceAdd, or_true, true_or, or_false, false_or, Int.reduceEq, Int.reduceNe, Int.reduceLT, Int.reduceLE, Int.reduceNeg, sg_nil, s1p, x510, x511, x512, x513, x514, x515, x516, x517]))
          all_goals (try omega)
          all_goals exact ih1
      · rw [if_neg (by rw [decide_eq_false g]; decide)] at ih1
        rcases exI_01 (p := fun s => decide (w (5 * s + 1) = t)) i with e | e
        · rw [e] at ih1 ⊢
          refine wp_go b116_4 ?_; simp only [l116_4, sg_iload_3, sg_aload_0, sg_getfp, sg_iconst, sg_iaload, sg_ic_ge, sg_iload_2, sg_if_ne, sg_imul, sg_iadd, sg_iload_1, sg_ic_ne, nLg_n, nLg_i, nLg_r, tc_c, tc_l, tc_r, tc_m, tc_n, tc_o, tc_0, inR, true_and, and_true, ne_eq, not_true_eq_false, not_false_eq_true, true_imp_iff, false_imp_iff, Int.toNat_natCast, lit_a, Nat.reduceAdd, or_true, true_or, or_false, false_or, Int.reduceEq, Int.reduceNe, Int.reduceLT, Int.reduceLE, Int.reduceNeg, sg_nil, s1p, x510, x511, x512, x513, x514, x515, x516, x517, e0, e2, Int.toNat_zero]
          repeat' (first | with_reducible apply And.intro | (intro _) | ((first | refine wp_go b116_0 ?_ | refine wp_go b116_32 ?_ | refine wp_go b116_36 ?_ | refine wp_go b116_37 ?_ | refine wp_go b116_44 ?_); simp only [l116_0, l116_32, l116_36, l116_37, l116_44, sg_iconst, sg_istore_2, sg_istore_3, sg_goto, sg_iinc, ldI_3, okS_3, stL_3, sg_iload_2, sg_iret1, nLg_n, nLg_i, nLg_r, tc_c, tc_l, tc_r, tc_m, tc_n, tc_o, tc_0, inR, true_and, and_true, ne_eq, not_true_eq_false, not_false_eq_true, true_imp_iff, false_imp_iff, Int.toNat_natCast, lit_a, Nat.reduceAdd, or_true, true_or, or_false, false_or, Int.reduceEq, Int.reduceNe, Int.reduceLT, Int.reduceLE, Int.reduceNeg, sg_nil, s1p, x510, x511, x512, x513, x514, x515, x516, x517]))
          all_goals (try omega)
          all_goals exact ih1
        · rw [e] at ih1 ⊢
          refine wp_go b116_4 ?_; simp only [l116_4, sg_iload_3, sg_aload_0, sg_getfp, sg_iconst, sg_iaload, sg_ic_ge, sg_iload_2, sg_if_ne, sg_imul, sg_iadd, sg_iload_1, sg_ic_ne, nLg_n, nLg_i, nLg_r, tc_c, tc_l, tc_r, tc_m, tc_n, tc_o, tc_0, inR, true_and, and_true, ne_eq, not_true_eq_false, not_false_eq_true, true_imp_iff, false_imp_iff, Int.toNat_natCast, lit_a, Nat.reduceAdd, or_true, true_or, or_false, false_or, Int.reduceEq, Int.reduceNe, Int.reduceLT, Int.reduceLE, Int.reduceNeg, sg_nil, s1p, x510, x511, x512, x513, x514, x515, x516, x517, e0, e2, Int.toNat_zero]
          repeat' (first | with_reducible apply And.intro | (intro _) | ((first | refine wp_go b116_0 ?_ | refine wp_go b116_32 ?_ | refine wp_go b116_36 ?_ | refine wp_go b116_37 ?_ | refine wp_go b116_44 ?_); simp only [l116_0, l116_32, l116_36, l116_37, l116_44, sg_iconst, sg_istore_2, sg_istore_3, sg_goto, sg_iinc, ldI_3, okS_3, stL_3, sg_iload_2, sg_iret1, nLg_n, nLg_i, nLg_r, tc_c, tc_l, tc_r, tc_m, tc_n, tc_o, tc_0, inR, true_and, and_true, ne_eq, not_true_eq_false, not_false_eq_true, true_imp_iff, false_imp_iff, Int.toNat_natCast, lit_a, Nat.reduceAdd, or_true, true_or, or_false, false_or, Int.reduceEq, Int.reduceNe, Int.reduceLT, Int.reduceLE, Int.reduceNeg, sg_nil, s1p, x510, x511, x512, x513, x514, x515, x516, x517]))
          all_goals (try omega)
          all_goals exact ih1
  refine wp_go b116_0 ?_; simp only [l116_0, sg_iconst, sg_istore_2, sg_istore_3, nLg_n, nLg_i, nLg_r, tc_c, tc_l, tc_r, tc_m, tc_n, tc_o, tc_0, inR, true_and, and_true, ne_eq, not_true_eq_false, not_false_eq_true, true_imp_iff, false_imp_iff, Int.toNat_natCast, lit_a, Nat.reduceAdd, or_true, true_or, or_false, false_or, Int.reduceEq, Int.reduceNe, Int.reduceLT, Int.reduceLE, Int.reduceNeg, sg_nil]
  exact loop n 0 (by omega)
