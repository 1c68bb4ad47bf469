-- Mo.layNow: blocks [0, 7, 10]
theorem k_Mo_layNow {d l : Nat} {Q : QT} {μ : Mem} {z : Rw} (hM : μ 511 = z) (hz : IZ z) (hl : (l : Int) < z 3)
    (hq : ∀ μ', (∀ k, k ≠ 516 → μ' k = μ k) → HM (hrL z l) μ' → Q (.inl 0) μ') : Call σ1 (d + 3) 111 [.inr (.inr 510), .inl (l : Int)] μ Q := by
  refine e_111 ?_
  have q := hz.1
  have lb := (hz.2.2.2.2 l hl).2.1
  refine wp_go b111_0 ?_; simp only [l111_0, sg_aload_0, sg_iload_1, sg_iv2_i, len4_0, len4_1, len4_2, len4_3, len4_4, nLg_n, nLg_i, nLg_r, tc_c, tc_l, tc_r, tc_m, tc_n, tc_o, tc_0, inR, true_and, and_true, ne_eq, not_true_eq_false, not_false_eq_true, true_imp_iff, false_imp_iff, Int.toNat_natCast, lit_a, Nat.reduceAdd, or_true, true_or, or_false, false_or, Int.reduceEq, Int.reduceNe, Int.reduceLT, Int.reduceLE, Int.reduceNeg, sg_nil, s1p, x510, x511, x512, x513, x514, x515, x516, x517]
  refine k_Mo_boundOf hM (by omega) ?_
  refine wp_go b111_7 ?_; simp only [l111_7, sg_iv3_v, len4_0, len4_1, len4_2, len4_3, len4_4, nLg_n, nLg_i, nLg_r, tc_c, tc_l, tc_r, tc_m, tc_n, tc_o, tc_0, inR, true_and, and_true, ne_eq, not_true_eq_false, not_false_eq_true, true_imp_iff, false_imp_iff, Int.toNat_natCast, lit_a, Nat.reduceAdd, or_true, true_or, or_false, false_or, Int.reduceEq, Int.reduceNe, Int.reduceLT, Int.reduceLE, Int.reduceNeg, sg_nil, s1p, x510, x511, x512, x513, x514, x515, x516, x517]
  refine k_Mo_layWith hM hz hl lb (fun μ' f h => ?_)
  have hq := hq μ' f h
  refine wp_go b111_10 ?_; simp only [l111_10, sg_ret, nLg_n, nLg_i, nLg_r, tc_c, tc_l, tc_r, tc_m, tc_n, tc_o, tc_0, inR, true_and, and_true, ne_eq, not_true_eq_false, not_false_eq_true, true_imp_iff, false_imp_iff, Int.toNat_natCast, lit_a, Nat.reduceAdd, or_true, true_or, or_false, false_or, Int.reduceEq, Int.reduceNe, Int.reduceLT, Int.reduceLE, Int.reduceNeg, sg_nil]
  exact hq
-- Mo.lay: blocks [0, 5, 10, 43, 46, 51]
theorem k_Mo_lay {d l : Nat} {Q : QT} {μ : Mem} {z : Rw} (hM : μ 511 = z) (hz : IZ z) (hl : (l : Int) < z 3)
    (hq : ∀ μ', (∀ k, k ≠ 516 → μ' k = μ k) → HM (wO z l) μ' → Q (.inl 0) μ') : Call σ1 (d + 4) 112 [.inr (.inr 510), .inl (l : Int)] μ Q := by
  refine e_112 ?_
  have q := hz.1
  have lb := (hz.2.2.2.2 l hl).2.2.1
  refine wp_go b112_0 ?_; simp only [l112_0, sg_aload_0, sg_iload_1, sg_iv2_i, len4_0, len4_1, len4_2, len4_3, len4_4, nLg_n, nLg_i, nLg_r, tc_c, tc_l, tc_r, tc_m, tc_n, tc_o, tc_0, inR, true_and, and_true, ne_eq, not_true_eq_false, not_false_eq_true, true_imp_iff, false_imp_iff, Int.toNat_natCast, lit_a, Nat.reduceAdd, or_true, true_or, or_false, false_or, Int.reduceEq, Int.reduceNe, Int.reduceLT, Int.reduceLE, Int.reduceNeg, sg_nil, s1p, x510, x511, x512, x513, x514, x515, x516, x517]
  refine k_Mo_hasFile hM (by omega) (by omega) ?_
  by_cases hf : z (214 + 3 * l) = 1
  · have hW : wO z l = fw z l := by unfold wO; rw [if_pos hf]
    rw [hW] at hq
    have loop : ∀ k i : Nat, i + k = 121 → ∀ μ1 : Mem, (∀ k, k ≠ 516 → μ1 k = μ k) → (∀ j, j < i → μ1 516 j = fw z l j) → wp σ1 (Call σ1 (d + 3)) 112 Q 10 [some (.inr (.inr 510)), some (.inl (l : Int)), some (.inl (i : Int))] [] μ1 := by
      intro k
      induction k with
      | zero =>
        intro i hi μ1 f1 g1
        have hq := hq μ1 f1 (fun j hj => g1 j (by omega))
        refine wp_go b112_10 ?_; simp only [l112_10, sg_iload_2, sg_bipush, sg_ic_ge, sg_aload_0, sg_getfp, sg_sipush, sg_iload_1, sg_imul, sg_iadd, sg_iaload, sg_iastore, sg_iinc, ldI_2, okS_2, stL_2, sg_goto, nLg_n, nLg_i, nLg_r, tc_c, tc_l, tc_r, tc_m, tc_n, tc_o, tc_0, inR, true_and, and_true, ne_eq, not_true_eq_false, not_false_eq_true, true_imp_iff, false_imp_iff, Int.toNat_natCast, lit_a, Nat.reduceAdd, or_true, true_or, or_false, false_or, Int.reduceEq, Int.reduceNe, Int.reduceLT, Int.reduceLE, Int.reduceNeg, sg_nil]
        repeat' (first | with_reducible apply And.intro | intro _)
        all_goals (try omega)
        refine wp_go b112_43 ?_; simp only [l112_43, sg_goto, nLg_n, nLg_i, nLg_r, tc_c, tc_l, tc_r, tc_m, tc_n, tc_o, tc_0, inR, true_and, and_true, ne_eq, not_true_eq_false, not_false_eq_true, true_imp_iff, false_imp_iff, Int.toNat_natCast, lit_a, Nat.reduceAdd, or_true, true_or, or_false, false_or, Int.reduceEq, Int.reduceNe, Int.reduceLT, Int.reduceLE, Int.reduceNeg, sg_nil]
        refine wp_go b112_51 ?_; simp only [l112_51, sg_ret, nLg_n, nLg_i, nLg_r, tc_c, tc_l, tc_r, tc_m, tc_n, tc_o, tc_0, inR, true_and, and_true, ne_eq, not_true_eq_false, not_false_eq_true, true_imp_iff, false_imp_iff, Int.toNat_natCast, lit_a, Nat.reduceAdd, or_true, true_or, or_false, false_or, Int.reduceEq, Int.reduceNe, Int.reduceLT, Int.reduceLE, Int.reduceNeg, sg_nil]
        exact hq
      | succ k ih =>
        intro i hi μ1 f1 g1
        have M1 : μ1 511 = z := by rw [f1 511 (by omega)]; exact hM
        have ih1 := ih (i + 1) (by omega) (ms μ1 516 i (z (230 + 121 * l + i))) (fun k hk => by rw [← f1 k hk]; funext j; simp only [ms_at]; (repeat (first | rw [if_neg (by omega)] | rw [if_pos (by omega)]))) (fun j hj => by
          simp only [ms_at, true_and]
          by_cases h : j = i
          · rw [if_pos h, h]; rfl
          · rw [if_neg h]; exact g1 j (by omega))
        refine wp_go b112_10 ?_; simp only [l112_10, sg_iload_2, sg_bipush, sg_ic_ge, sg_aload_0, sg_getfp, sg_sipush, sg_iload_1, sg_imul, sg_iadd, sg_iaload, sg_iastore, sg_iinc, ldI_2, okS_2, stL_2, sg_goto, nLg_n, nLg_i, nLg_r, tc_c, tc_l, tc_r, tc_m, tc_n, tc_o, tc_0, inR, true_and, and_true, ne_eq, not_true_eq_false, not_false_eq_true, true_imp_iff, false_imp_iff, Int.toNat_natCast, lit_a, Nat.reduceAdd, or_true, true_or, or_false, false_or, Int.reduceEq, Int.reduceNe, Int.reduceLT, Int.reduceLE, Int.reduceNeg, sg_nil, s1p, x510, x511, x512, x513, x514, x515, x516, x517, M1]
        repeat' (first | with_reducible apply And.intro | intro _)
        all_goals (try omega)
    rw [hf]
    refine wp_go b112_5 ?_; simp only [l112_5, sg_if_eq, sg_iconst, sg_istore_2, nLg_n, nLg_i, nLg_r, tc_c, tc_l, tc_r, tc_m, tc_n, tc_o, tc_0, inR, true_and, and_true, ne_eq, not_true_eq_false, not_false_eq_true, true_imp_iff, false_imp_iff, Int.toNat_natCast, lit_a, Nat.reduceAdd, or_true, true_or, or_false, false_or, Int.reduceEq, Int.reduceNe, Int.reduceLT, Int.reduceLE, Int.reduceNeg, sg_nil]
    repeat' (first | with_reducible apply And.intro | intro _)
    all_goals (try omega)
    all_goals exact loop 121 0 (by omega) μ (fun _ _ => rfl) (fun j hj => absurd hj (by omega))
  · have hW : wO z l = hrL z l := by unfold wO; rw [if_neg hf]
    rw [hW] at hq
    rw [show z (214 + 3 * l) = 0 by omega]
    refine wp_go b112_5 ?_; simp only [l112_5, sg_if_eq, sg_iconst, sg_istore_2, nLg_n, nLg_i, nLg_r, tc_c, tc_l, tc_r, tc_m, tc_n, tc_o, tc_0, inR, true_and, and_true, ne_eq, not_true_eq_false, not_false_eq_true, true_imp_iff, false_imp_iff, Int.toNat_natCast, lit_a, Nat.reduceAdd, or_true, true_or, or_false, false_or, Int.reduceEq, Int.reduceNe, Int.reduceLT, Int.reduceLE, Int.reduceNeg, sg_nil]
    repeat' (first | with_reducible apply And.intro | intro _)
    all_goals (try omega)
    refine wp_go b112_46 ?_; simp only [l112_46, sg_aload_0, sg_iload_1, sg_iv2_v, len4_0, len4_1, len4_2, len4_3, len4_4, nLg_n, nLg_i, nLg_r, tc_c, tc_l, tc_r, tc_m, tc_n, tc_o, tc_0, inR, true_and, and_true, ne_eq, not_true_eq_false, not_false_eq_true, true_imp_iff, false_imp_iff, Int.toNat_natCast, lit_a, Nat.reduceAdd, or_true, true_or, or_false, false_or, Int.reduceEq, Int.reduceNe, Int.reduceLT, Int.reduceLE, Int.reduceNeg, sg_nil, s1p, x510, x511, x512, x513, x514, x515, x516, x517]
    repeat' (first | with_reducible apply And.intro | intro _)
    all_goals (try omega)
    refine k_Mo_layNow hM hz hl (fun μ' f h => ?_)
    have hq := hq μ' f h
    refine wp_go b112_51 ?_; simp only [l112_51, sg_ret, nLg_n, nLg_i, nLg_r, tc_c, tc_l, tc_r, tc_m, tc_n, tc_o, tc_0, inR, true_and, and_true, ne_eq, not_true_eq_false, not_false_eq_true, true_imp_iff, false_imp_iff, Int.toNat_natCast, lit_a, Nat.reduceAdd, or_true, true_or, or_false, false_or, Int.reduceEq, Int.reduceNe, Int.reduceLT, Int.reduceLE, Int.reduceNeg, sg_nil]
    exact hq
