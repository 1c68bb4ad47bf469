-- Mo.seconds: blocks [0, 4, 42, 43, 52]
theorem k_Mo_seconds {d n : Nat} {Q : QT} {μ : Mem} {b : Int} {w : Rw} (hW : WH w) (hH : HM w μ) (hn : w 0 = (n : Int)) (hb : b = 0 ∨ b = 1) (h : Q (.inl (if b = 1 then ht w n else sm (fun i => w (5 * i + 2)) n)) μ) : Call σ1 (d + 1) 114 [.inr (.inr 510), .inl b] μ Q := by
  refine e_114 ?_
  have hn24 := hW.1
  have e0 : μ 516 0 = (n : Int) := (hH 0 (by omega)).trans hn
  have loop : ∀ k i : Nat, i + k = n → wp σ1 (Call σ1 d) 114 Q 4 [some (.inr (.inr 510)), some (.inl b), some (.inl (if b = 1 then ht w i else sm (fun i => w (5 * i + 2)) i)), some (.inl (i : Int))] [] μ := by
    intro k
    induction k with
    | zero =>
      intro i hi
      have hin : i = n := by omega
      subst hin
      refine wp_go b114_4 ?_; simp only [l114_4, sg_iload_3, sg_aload_0, sg_getfp, sg_iconst, sg_iaload, sg_ic_ge, sg_iload_2, sg_imul, sg_iadd, sg_iload_1, sg_if_eq, sg_goto, nLg_n, nLg_i, nLg_r, tc_c, tc_l, tc_r, tc_m, tc_n, tc_o, tc_0, inR, true_and, and_true, ne_eq, not_true_eq_false, not_false_eq_true, true_imp_iff, false_imp_iff, Int.toNat_natCast, lit_a, Nat.reduceAdd, or_true, true_or, or_false, false_or, Int.reduceEq, Int.reduceNe, Int.reduceLT, Int.reduceLE, Int.reduceNeg, sg_nil, s1p, x510, x511, x512, x513, x514, x515, x516, x517, e0, Int.toNat_zero]
      repeat' (first | with_reducible apply And.intro | (intro _) | ((first | refine wp_go b114_0 ?_ | refine wp_go b114_42 ?_ | refine wp_go b114_43 ?_ | refine wp_go b114_52 ?_); simp only [l114_0, l114_42, l114_43, l114_52, sg_iconst, sg_istore_2, sg_istore_3, sg_iadd, sg_iinc, ldI_3, okS_3, stL_3, sg_goto, sg_iload_2, sg_iret0, nLg_n, nLg_i, nLg_r, tc_c, tc_l, tc_r, tc_m, tc_n, tc_o, tc_0, inR, true_and, and_true, ne_eq, not_true_eq_false, not_false_eq_true, true_imp_iff, false_imp_iff, Int.toNat_natCast, lit_a, Nat.reduceAdd, or_true, true_or, or_false, false_or, Int.reduceEq, Int.reduceNe, Int.reduceLT, Int.reduceLE, Int.reduceNeg, sg_nil]))
      all_goals (try omega)
      all_goals exact h
    | succ k ih =>
      intro i hi
      have ih1 := ih (i + 1) (by omega)
      have e2 : μ 516 (5 * i + 2) = w (5 * i + 2) := hH _ (by omega)
      have e4 : μ 516 (5 * i + 4) = w (5 * i + 4) := hH _ (by omega)
      have r := hW.2.1 i (by omega)
      have nt := WH.nt hW (i := i) (by omega)
      have hb1 := sm_b (f := fun i => w (5 * i + 2) + w (5 * i + 4)) (b := 420) (n := i) (fun j hj => by
        have := WH.nt hW (i := j) (by omega)
        have := (hW.2.1 j (by omega)).2.1
        omega)
      have hb2 := sm_b (f := fun i => w (5 * i + 2)) (b := 120) (n := i) (fun j hj => WH.nt hW (i := j) (by omega))
      rcases hb with rfl | rfl
      · rw [if_neg (by omega), sm_s] at ih1
        rw [if_neg (by omega)]
        refine wp_go b114_4 ?_; simp only [l114_4, sg_iload_3, sg_aload_0, sg_getfp, sg_iconst, sg_iaload, sg_ic_ge, sg_iload_2, sg_imul, sg_iadd, sg_iload_1, sg_if_eq, sg_goto, nLg_n, nLg_i, nLg_r, tc_c, tc_l, tc_r, tc_m, tc_n, tc_o, tc_0, inR, true_and, and_true, ne_eq, not_true_eq_false, not_false_eq_true, true_imp_iff, false_imp_iff, Int.toNat_natCast, lit_a, Nat.reduceAdd, or_true, true_or, or_false, false_or, Int.reduceEq, Int.reduceNe, Int.reduceLT, Int.reduceLE, Int.reduceNeg, sg_nil, s1p, x510, x511, x512, x513, x514, x515, x516, x517, e0, e2, e4, Int.toNat_zero]
        repeat' (first | with_reducible apply And.intro | (intro _) | ((first | refine wp_go b114_0 ?_ | refine wp_go b114_42 ?_ | refine wp_go b114_43 ?_ | refine wp_go b114_52 ?_); simp only [l114_0, l114_42, l114_43, l114_52, sg_iconst, sg_istore_2, sg_istore_3, sg_iadd, sg_iinc, ldI_3, okS_3, stL_3, sg_goto, sg_iload_2, sg_iret0, nLg_n, nLg_i, nLg_r, tc_c, tc_l, tc_r, tc_m, tc_n, tc_o, tc_0, inR, true_and, and_true, ne_eq, not_true_eq_false, not_false_eq_true, true_imp_iff, false_imp_iff, Int.toNat_natCast, lit_a, Nat.reduceAdd, or_true, true_or, or_false, false_or, Int.reduceEq, Int.reduceNe, Int.reduceLT, Int.reduceLE, Int.reduceNeg, sg_nil, s1p, x510, x511, x512, x513, x514, x515, x516, x517]))
        all_goals (try omega)
        all_goals first | exact ih1 | (rw [Int.add_zero]; exact ih1)
      · have e5 : ht w (i + 1) = ht w i + (w (5 * i + 2) + w (5 * i + 4)) := rfl
        have hb1 : 0 ≤ ht w i ∧ ht w i ≤ 420 * i := hb1
        rw [if_pos rfl, e5] at ih1
        rw [if_pos rfl]
        refine wp_go b114_4 ?_; simp only [l114_4, sg_iload_3, sg_aload_0, sg_getfp, sg_iconst, sg_iaload, sg_ic_ge, sg_iload_2, sg_imul, sg_iadd, sg_iload_1, sg_if_eq, sg_goto, nLg_n, nLg_i, nLg_r, tc_c, tc_l, tc_r, tc_m, tc_n, tc_o, tc_0, inR, true_and, and_true, ne_eq, not_true_eq_false, not_false_eq_true, true_imp_iff, false_imp_iff, Int.toNat_natCast, lit_a, Nat.reduceAdd, or_true, true_or, or_false, false_or, Int.reduceEq, Int.reduceNe, Int.reduceLT, Int.reduceLE, Int.reduceNeg, sg_nil, s1p, x510, x511, x512, x513, x514, x515, x516, x517, e0, e2, e4, Int.toNat_zero]
        repeat' (first | with_reducible apply And.intro | (intro _) | ((first | refine wp_go b114_0 ?_ | refine wp_go b114_42 ?_ | refine wp_go b114_43 ?_ | refine wp_go b114_52 ?_); simp only [l114_0, l114_42, l114_43, l114_52, sg_iconst, sg_istore_2, sg_istore_3, sg_iadd, sg_iinc, ldI_3, okS_3, stL_3, sg_goto, sg_iload_2, sg_iret0, nLg_n, nLg_i, nLg_r, tc_c, tc_l, tc_r, tc_m, tc_n, tc_o, tc_0, inR, true_and, and_true, ne_eq, not_true_eq_false, not_false_eq_true, true_imp_iff, false_imp_iff, Int.toNat_natCast, lit_a, Nat.reduceAdd, or_true, true_or, or_false, false_or, Int.reduceEq, Int.reduceNe, Int.reduceLT, Int.reduceLE, Int.reduceNeg, sg_nil, s1p, x510, x511, x512, x513, x514, x515, x516, x517]))
        all_goals (try omega)
        all_goals exact ih1
  have st := loop n 0 (by omega)
  rw [show (if b = 1 then ht w 0 else sm (fun i => w (5 * i + 2)) 0) = 0 from by split <;> rfl] at st
  refine wp_go b114_0 ?_; simp only [l114_0, sg_iconst, sg_istore_2, sg_istore_3, nLg_n, nLg_i, nLg_r, tc_c, tc_l, tc_r, tc_m, tc_n, tc_o, tc_0, inR, true_and, and_true, ne_eq, not_true_eq_false, not_false_eq_true, true_imp_iff, false_imp_iff, Int.toNat_natCast, lit_a, Nat.reduceAdd, or_true, true_or, or_false, false_or, Int.reduceEq, Int.reduceNe, Int.reduceLT, Int.reduceLE, Int.reduceNeg, sg_nil]
  exact st
-- Mo.notices: blocks [0, 4, 34, 35, 43]
theorem k_Mo_notices {d n : Nat} {Q : QT} {μ : Mem} {w : Rw} (hW : WH w) (hH : HM w μ) (hn : w 0 = (n : Int)) (h : Q (.inl (sm (fun i => bI (w (5 * i + 1) ≠ -6)) n)) μ) : Call σ1 (d + 1) 115 [.inr (.inr 510)] μ Q := by
  refine e_115 ?_
  have hn24 := hW.1
  have e0 : μ 516 0 = (n : Int) := (hH 0 (by omega)).trans hn
  have loop : ∀ k i : Nat, i + k = n → wp σ1 (Call σ1 d) 115 Q 4 [some (.inr (.inr 510)), some (.inl (sm (fun i => bI (w (5 * i + 1) ≠ -6)) i)), some (.inl (i : Int))] [] μ := by
    intro k
    induction k with
    | zero =>
      intro i hi
      have hin : i = n := by omega
      subst hin
      refine wp_go b115_4 ?_; simp only [l115_4, sg_iload_2, sg_aload_0, sg_getfp, sg_iconst, sg_iaload, sg_ic_ge, sg_iload_1, sg_imul, sg_iadd, sg_bipush, sg_ic_ne, sg_goto, nLg_n, nLg_i, nLg_r, tc_c, tc_l, tc_r, tc_m, tc_n, tc_o, tc_0, inR, true_and, and_true, ne_eq, not_true_eq_false, not_false_eq_true, true_imp_iff, false_imp_iff, Int.toNat_natCast, lit_a, Nat.reduceAdd, or_true, true_or, or_false, false_or, Int.reduceEq, Int.reduceNe, Int.reduceLT, Int.reduceLE, Int.reduceNeg, sg_nil, s1p, x510, x511, x512, x513, x514, x515, x516, x517, e0, Int.toNat_zero]
      repeat' (first | with_reducible apply And.intro | (intro _) | ((first | refine wp_go b115_0 ?_ | refine wp_go b115_34 ?_ | refine wp_go b115_35 ?_ | refine wp_go b115_43 ?_); simp only [l115_0, l115_34, l115_35, l115_43, sg_iconst, sg_istore_1, sg_istore_2, sg_iadd, sg_iinc, ldI_2, okS_2, stL_2, sg_goto, sg_iload_1, sg_iret0, nLg_n, nLg_i, nLg_r, tc_c, tc_l, tc_r, tc_m, tc_n, tc_o, tc_0, inR, true_and, and_true, ne_eq, not_true_eq_false, not_false_eq_true, true_imp_iff, false_imp_iff, Int.toNat_natCast, lit_a, Nat.reduceAdd, or_true, true_or, or_false, false_or, Int.reduceEq, Int.reduceNe, Int.reduceLT, Int.reduceLE, Int.reduceNeg, sg_nil]))
      all_goals (try omega)
      all_goals exact h
    | succ k ih =>
      intro i hi
      have ih1 := ih (i + 1) (by omega)
      have e2 : μ 516 (5 * i + 1) = w (5 * i + 1) := hH _ (by omega)
      have no := WH.no hW (i := i) (by omega)
      have hb1 := sm_b (f := fun i => bI (w (5 * i + 1) ≠ -6)) (b := 1) (n := i) (fun j hj => by show 0 ≤ bI _ ∧ bI _ ≤ 1; unfold bI; split <;> omega)
      rw [sm_s] at ih1
      by_cases g : w (5 * i + 1) = -6
      · rw [show bI (w (5 * i + 1) ≠ -6) = 0 from by unfold bI; rw [if_neg (by omega)]] at ih1
        refine wp_go b115_4 ?_; simp only [l115_4, sg_iload_2, sg_aload_0, sg_getfp, sg_iconst, sg_iaload, sg_ic_ge, sg_iload_1, sg_imul, sg_iadd, sg_bipush, sg_ic_ne, sg_goto, nLg_n, nLg_i, nLg_r, tc_c, tc_l, tc_r, tc_m, tc_n, tc_o, tc_0, inR, true_and, and_true, ne_eq, not_true_eq_false, not_false_eq_true, true_imp_iff, false_imp_iff, Int.toNat_natCast, lit_a, Nat.reduceAdd, or_true, true_or, or_false, false_or, Int.reduceEq, Int.reduceNe, Int.reduceLT, Int.reduceLE, Int.reduceNeg, sg_nil, s1p, x510, x511, x512, x513, x514, x515, x516, x517, e0, e2, Int.toNat_zero]
        repeat' (first | with_reducible apply And.intro | (intro _) | ((first | refine wp_go b115_0 ?_ | refine wp_go b115_34 ?_ | refine wp_go b115_35 ?_ | refine wp_go b115_43 ?_); simp only [l115_0, l115_34, l115_35, l115_43, sg_iconst, sg_istore_1, sg_istore_2, sg_iadd, sg_iinc, ldI_2, okS_2, stL_2, sg_goto, sg_iload_1, sg_iret0, nLg_n, nLg_i, nLg_r, tc_c, tc_l, tc_r, tc_m, tc_n, tc_o, tc_0, inR, true_and, and_true, ne_eq, not_true_eq_false, not_false_eq_true, true_imp_iff, false_imp_iff, Int.toNat_natCast, lit_a, Nat.reduceAdd, or_true, true_or, or_false, false_or, Int.reduceEq, Int.reduceNe, Int.reduceLT, Int.reduceLE, Int.reduceNeg, sg_nil, s1p, x510, x511, x512, x513, x514, x515, x516, x517]))
        all_goals (try omega)
        all_goals first | exact ih1 | (rw [Int.add_zero] at ih1 ⊢; exact ih1)
      · rw [show bI (w (5 * i + 1) ≠ -6) = 1 from by unfold bI; rw [if_pos g]] at ih1
        refine wp_go b115_4 ?_; simp only [l115_4, sg_iload_2, sg_aload_0, sg_getfp, sg_iconst, sg_iaload, sg_ic_ge, sg_iload_1, sg_imul, sg_iadd, sg_bipush, sg_ic_ne, sg_goto, nLg_n, nLg_i, nLg_r, tc_c, tc_l, tc_r, tc_m, tc_n, tc_o, tc_0, inR, true_and, and_true, ne_eq, not_true_eq_false, not_false_eq_true, true_imp_iff, false_imp_iff, Int.toNat_natCast, lit_a, Nat.reduceAdd, or_true, true_or, or_false, false_or, Int.reduceEq, Int.reduceNe, Int.reduceLT, Int.reduceLE, Int.reduceNeg, sg_nil, s1p, x510, x511, x512, x513, x514, x515, x516, x517, e0, e2, Int.toNat_zero]
        repeat' (first | with_reducible apply And.intro | (intro _) | ((first | refine wp_go b115_0 ?_ | refine wp_go b115_34 ?_ | refine wp_go b115_35 ?_ | refine wp_go b115_43 ?_); simp only [l115_0, l115_34, l115_35, l115_43, sg_iconst, sg_istore_1, sg_istore_2, sg_iadd, sg_iinc, ldI_2, okS_2, stL_2, sg_goto, sg_iload_1, sg_iret0, nLg_n, nLg_i, nLg_r, tc_c, tc_l, tc_r, tc_m, tc_n, tc_o, tc_0, inR, true_and, and_true, ne_eq, not_true_eq_false, not_false_eq_true, true_imp_iff, false_imp_iff, Int.toNat_natCast, lit_a, Nat.reduceAdd, or_true, true_or, or_false, false_or, Int.reduceEq, Int.reduceNe, Int.reduceLT, Int.reduceLE, Int.reduceNeg, sg_nil, s1p, x510, x511, x512, x513, x514, x515, x516, x517]))
        all_goals (try omega)
        all_goals exact ih1
  refine wp_go b115_0 ?_; simp only [l115_0, sg_iconst, sg_istore_1, sg_istore_2, nLg_n, nLg_i, nLg_r, tc_c, tc_l, tc_r, tc_m, tc_n, tc_o, tc_0, inR, true_and, and_true, ne_eq, not_true_eq_false, not_false_eq_true, true_imp_iff, false_imp_iff, Int.toNat_natCast, lit_a, Nat.reduceAdd, or_true, true_or, or_false, false_or, Int.reduceEq, Int.reduceNe, Int.reduceLT, Int.reduceLE, Int.reduceNeg, sg_nil]
  exact loop n 0 (by omega)
