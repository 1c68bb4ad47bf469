/-- what the reading of the model's pad leaves -/
def FP (μ μ' : Mem) : Prop := (∀ k, k ≠ 510 → k ≠ 517 → μ' k = μ k) ∧ ∀ j, j < 12 → μ' 510 j = μ 510 j
theorem FP_r (μ : Mem) : FP μ μ := ⟨fun _ _ _ => rfl, fun _ _ => rfl⟩
theorem FP_t {μ μ1 μ2 : Mem} (h1 : FP μ μ1) (h2 : FP μ1 μ2) : FP μ μ2 := ⟨fun k a b => (h2.1 k a b).trans (h1.1 k a b), fun j hj => (h2.2 j hj).trans (h1.2 j hj)⟩
def bo (o : Bool) : Int := if o = true then 1 else 0
-- Mo.stands: blocks [0, 31, 35, 36, 54, 55, 89, 92, 118, 119, 127, 152, 155, 157]
theorem k_Mo_stands {d i r c : Nat} {o : Bool} {f : Nat → Int} {Q : QT} {μ : Mem} (H : PRD f i (μ 517) r c o) (m12 : μ 510 12 = ((r + 1 : Nat) : Int)) (m13 : μ 510 13 = bo o) (hv : 33 ≤ f i ∧ f i ≤ 126)
    (h0 : pst f (i + 1) = none → ∀ μ', FP μ μ' → Q (.inl 0) μ')
    (h1 : ∀ (μ' : Mem) (r' c' : Nat) (o' : Bool), FP μ μ' → PRD f (i + 1) (μ' 517) r' c' o' → μ' 510 12 = ((r' + 1 : Nat) : Int) → μ' 510 13 = bo o' → Q (.inl 1) μ') : Call σ1 (d + 2) 161 [.inr (.inr 510), .inl (f i)] μ Q := by
  refine e_161 ?_
  obtain ⟨b1, b2, b3⟩ := pst_b H.1
  have e7 : ((r + 1 : Nat) : Int) - 1 = (r : Int) := by omega
  have e2 : μ 517 (5 * r) = (c : Int) := H.2.1
  have ps := pst_s H.1
  unfold stD at ps
  by_cases g47 : f i = 47
  · rw [if_pos g47] at ps
    by_cases gm : (o = true ∨ 0 < c) ∧ r < 23
    · have hS := h1 (ms (ms (ms μ 517 (5 * (r + 1)) 0) 510 12 ((r + 1 + 1 : Nat) : Int)) 510 13 0) (r + 1) 0 false ⟨fun k h1 h2 => by funext j; simp only [ms_at]; (repeat (first | rw [if_neg (by omega)] | rw [if_pos (by omega)])), fun j hj => by simp only [ms_at]; (repeat (first | rw [if_neg (by omega)] | rw [if_pos (by omega)]))⟩
        (PRD_sl H g47 gm.1 gm.2 (by simp [ms_at]) (fun x hx => by simp only [ms_at]; (repeat (first | rw [if_neg (by omega)] | rw [if_pos (by omega)])))) (by simp [ms_at]) (by simp [ms_at, bo])
      have e3 : ms μ 517 (5 * (r + 1)) 0 510 12 = ((r + 1 : Nat) : Int) := by rw [← m12]; simp only [ms_at]; (repeat (first | rw [if_neg (by omega)] | rw [if_pos (by omega)]))
      cases o with
      | true =>
        have m13 : μ 510 13 = 1 := m13
        rw [g47]
        refine wp_go b161_0 ?_; simp only [l161_0, sg_iconst, sg_aload_0, sg_getf0, sg_isub, sg_imul, sg_istore_2, sg_iload_1, sg_bipush, sg_ic_ne, sg_getf1, sg_if_ne, sg_getfp, sg_iload_2, sg_iaload, sg_if_le, nLg_n, nLg_i, nLg_r, tc_c, tc_l, tc_r, tc_m, tc_n, tc_o, tc_0, inR, true_and, and_true, ne_eq, not_true_eq_false, not_false_eq_true, true_imp_iff, false_imp_iff, Int.toNat_natCast, lit_a, Nat.reduceAdd, or_true, true_or, or_false, false_or, Int.reduceEq, Int.reduceNe, Int.reduceLT, Int.reduceLE, Int.reduceNeg, sg_nil, s1p, x510, x511, x512, x513, x514, x515, x516, x517, m12, e7]
        repeat' (first | with_reducible apply And.intro | (intro _) | ((first | refine wp_go b161_0 ?_ | refine wp_go b161_31 ?_ | refine wp_go b161_35 ?_ | refine wp_go b161_36 ?_ | refine wp_go b161_54 ?_ | refine wp_go b161_55 ?_ | refine wp_go b161_89 ?_ | refine wp_go b161_92 ?_ | refine wp_go b161_118 ?_ | refine wp_go b161_119 ?_ | refine wp_go b161_127 ?_ | refine wp_go b161_152 ?_ | refine wp_go b161_155 ?_ | refine wp_go b161_157 ?_); simp only [l161_0, l161_31, l161_35, l161_36, l161_54, l161_55, l161_89, l161_92, l161_118, l161_119, l161_127, l161_152, l161_155, l161_157, sg_iconst, sg_aload_0, sg_getf0, sg_isub, sg_imul, sg_istore_2, sg_iload_1, sg_bipush, sg_ic_ne, sg_getf1, sg_if_ne, sg_getfp, sg_iload_2, sg_iaload, sg_if_le, sg_goto, sg_istore_3, sg_iload_3, sg_if_eq, sg_ic_ge, sg_istore, okS_4, stL_4, sg_iload, ldI_4, sg_iastore, sg_dup_i, sg_dup_r, sg_iadd, sg_putf0, sg_putf1, sg_iret1, sg_ic_eq, len4_0, len4_1, len4_2, len4_3, len4_4, sg_is3_1, sg_dup2, nLg_n, nLg_i, nLg_r, tc_c, tc_l, tc_r, tc_m, tc_n, tc_o, tc_0, inR, true_and, and_true, ne_eq, not_true_eq_false, not_false_eq_true, true_imp_iff, false_imp_iff, Int.toNat_natCast, lit_a, Nat.reduceAdd, or_true, true_or, or_false, false_or, Int.reduceEq, Int.reduceNe, Int.reduceLT, Int.reduceLE, Int.reduceNeg, sg_nil, s1p, x510, x511, x512, x513, x514, x515, x516, x517, m12, m13, e2, e3]))
        all_goals (try omega)
        all_goals exact hS
      | false =>
        have m13 : μ 510 13 = 0 := m13
        have c0 : 0 < c := by rcases gm.1 with h | h; exact absurd h (by decide); exact h
        rw [g47]
        refine wp_go b161_0 ?_; simp only [l161_0, sg_iconst, sg_aload_0, sg_getf0, sg_isub, sg_imul, sg_istore_2, sg_iload_1, sg_bipush, sg_ic_ne, sg_getf1, sg_if_ne, sg_getfp, sg_iload_2, sg_iaload, sg_if_le, nLg_n, nLg_i, nLg_r, tc_c, tc_l, tc_r, tc_m, tc_n, tc_o, tc_0, inR, true_and, and_true, ne_eq, not_true_eq_false, not_false_eq_true, true_imp_iff, false_imp_iff, Int.toNat_natCast, lit_a, Nat.reduceAdd, or_true, true_or, or_false, false_or, Int.reduceEq, Int.reduceNe, Int.reduceLT, Int.reduceLE, Int.reduceNeg, sg_nil, s1p, x510, x511, x512, x513, x514, x515, x516, x517, m12, e7]
        repeat' (first | with_reducible apply And.intro | (intro _) | ((first | refine wp_go b161_0 ?_ | refine wp_go b161_31 ?_ | refine wp_go b161_35 ?_ | refine wp_go b161_36 ?_ | refine wp_go b161_54 ?_ | refine wp_go b161_55 ?_ | refine wp_go b161_89 ?_ | refine wp_go b161_92 ?_ | refine wp_go b161_118 ?_ | refine wp_go b161_119 ?_ | refine wp_go b161_127 ?_ | refine wp_go b161_152 ?_ | refine wp_go b161_155 ?_ | refine wp_go b161_157 ?_); simp only [l161_0, l161_31, l161_35, l161_36, l161_54, l161_55, l161_89, l161_92, l161_118, l161_119, l161_127, l161_152, l161_155, l161_157, sg_iconst, sg_aload_0, sg_getf0, sg_isub, sg_imul, sg_istore_2, sg_iload_1, sg_bipush, sg_ic_ne, sg_getf1, sg_if_ne, sg_getfp, sg_iload_2, sg_iaload, sg_if_le, sg_goto, sg_istore_3, sg_iload_3, sg_if_eq, sg_ic_ge, sg_istore, okS_4, stL_4, sg_iload, ldI_4, sg_iastore, sg_dup_i, sg_dup_r, sg_iadd, sg_putf0, sg_putf1, sg_iret1, sg_ic_eq, len4_0, len4_1, len4_2, len4_3, len4_4, sg_is3_1, sg_dup2, nLg_n, nLg_i, nLg_r, tc_c, tc_l, tc_r, tc_m, tc_n, tc_o, tc_0, inR, true_and, and_true, ne_eq, not_true_eq_false, not_false_eq_true, true_imp_iff, false_imp_iff, Int.toNat_natCast, lit_a, Nat.reduceAdd, or_true, true_or, or_false, false_or, Int.reduceEq, Int.reduceNe, Int.reduceLT, Int.reduceLE, Int.reduceNeg, sg_nil, s1p, x510, x511, x512, x513, x514, x515, x516, x517, m12, m13, e2, e3]))
        all_goals (try omega)
        all_goals exact hS
    · rw [if_neg gm] at ps
      have hF := h0 ps μ (FP_r μ)
      cases o with
      | true =>
        have m13 : μ 510 13 = 1 := m13
        have r23 : ¬ r < 23 := fun h => gm ⟨Or.inl rfl, h⟩
        rw [g47]
        refine wp_go b161_0 ?_; simp only [l161_0, sg_iconst, sg_aload_0, sg_getf0, sg_isub, sg_imul, sg_istore_2, sg_iload_1, sg_bipush, sg_ic_ne, sg_getf1, sg_if_ne, sg_getfp, sg_iload_2, sg_iaload, sg_if_le, nLg_n, nLg_i, nLg_r, tc_c, tc_l, tc_r, tc_m, tc_n, tc_o, tc_0, inR, true_and, and_true, ne_eq, not_true_eq_false, not_false_eq_true, true_imp_iff, false_imp_iff, Int.toNat_natCast, lit_a, Nat.reduceAdd, or_true, true_or, or_false, false_or, Int.reduceEq, Int.reduceNe, Int.reduceLT, Int.reduceLE, Int.reduceNeg, sg_nil, s1p, x510, x511, x512, x513, x514, x515, x516, x517, m12, e7]
        repeat' (first | with_reducible apply And.intro | (intro _) | ((first | refine wp_go b161_0 ?_ | refine wp_go b161_31 ?_ | refine wp_go b161_35 ?_ | refine wp_go b161_36 ?_ | refine wp_go b161_54 ?_ | refine wp_go b161_55 ?_ | refine wp_go b161_89 ?_ | refine wp_go b161_92 ?_ | refine wp_go b161_118 ?_ | refine wp_go b161_119 ?_ | refine wp_go b161_127 ?_ | refine wp_go b161_152 ?_ | refine wp_go b161_155 ?_ | refine wp_go b161_157 ?_); simp only [l161_0, l161_31, l161_35, l161_36, l161_54, l161_55, l161_89, l161_92, l161_118, l161_119, l161_127, l161_152, l161_155, l161_157, sg_iconst, sg_aload_0, sg_getf0, sg_isub, sg_imul, sg_istore_2, sg_iload_1, sg_bipush, sg_ic_ne, sg_getf1, sg_if_ne, sg_getfp, sg_iload_2, sg_iaload, sg_if_le, sg_goto, sg_istore_3, sg_iload_3, sg_if_eq, sg_ic_ge, sg_istore, okS_4, stL_4, sg_iload, ldI_4, sg_iastore, sg_dup_i, sg_dup_r, sg_iadd, sg_putf0, sg_putf1, sg_iret1, sg_ic_eq, len4_0, len4_1, len4_2, len4_3, len4_4, sg_is3_1, sg_dup2, nLg_n, nLg_i, nLg_r, tc_c, tc_l, tc_r, tc_m, tc_n, tc_o, tc_0, inR, true_and, and_true, ne_eq, not_true_eq_false, not_false_eq_true, true_imp_iff, false_imp_iff, Int.toNat_natCast, lit_a, Nat.reduceAdd, or_true, true_or, or_false, false_or, Int.reduceEq, Int.reduceNe, Int.reduceLT, Int.reduceLE, Int.reduceNeg, sg_nil, s1p, x510, x511, x512, x513, x514, x515, x516, x517, m12, m13, e2]))
        all_goals (try omega)
        all_goals exact hF
      | false =>
        have m13 : μ 510 13 = 0 := m13
        have gm2 : ¬ (0 < c ∧ r < 23) := fun h => gm ⟨Or.inr h.1, h.2⟩
        rw [g47]
        refine wp_go b161_0 ?_; simp only [l161_0, sg_iconst, sg_aload_0, sg_getf0, sg_isub, sg_imul, sg_istore_2, sg_iload_1, sg_bipush, sg_ic_ne, sg_getf1, sg_if_ne, sg_getfp, sg_iload_2, sg_iaload, sg_if_le, nLg_n, nLg_i, nLg_r, tc_c, tc_l, tc_r, tc_m, tc_n, tc_o, tc_0, inR, true_and, and_true, ne_eq, not_true_eq_false, not_false_eq_true, true_imp_iff, false_imp_iff, Int.toNat_natCast, lit_a, Nat.reduceAdd, or_true, true_or, or_false, false_or, Int.reduceEq, Int.reduceNe, Int.reduceLT, Int.reduceLE, Int.reduceNeg, sg_nil, s1p, x510, x511, x512, x513, x514, x515, x516, x517, m12, e7]
        repeat' (first | with_reducible apply And.intro | (intro _) | ((first | refine wp_go b161_0 ?_ | refine wp_go b161_31 ?_ | refine wp_go b161_35 ?_ | refine wp_go b161_36 ?_ | refine wp_go b161_54 ?_ | refine wp_go b161_55 ?_ | refine wp_go b161_89 ?_ | refine wp_go b161_92 ?_ | refine wp_go b161_118 ?_ | refine wp_go b161_119 ?_ | refine wp_go b161_127 ?_ | refine wp_go b161_152 ?_ | refine wp_go b161_155 ?_ | refine wp_go b161_157 ?_); simp only [l161_0, l161_31, l161_35, l161_36, l161_54, l161_55, l161_89, l161_92, l161_118, l161_119, l161_127, l161_152, l161_155, l161_157, sg_iconst, sg_aload_0, sg_getf0, sg_isub, sg_imul, sg_istore_2, sg_iload_1, sg_bipush, sg_ic_ne, sg_getf1, sg_if_ne, sg_getfp, sg_iload_2, sg_iaload, sg_if_le, sg_goto, sg_istore_3, sg_iload_3, sg_if_eq, sg_ic_ge, sg_istore, okS_4, stL_4, sg_iload, ldI_4, sg_iastore, sg_dup_i, sg_dup_r, sg_iadd, sg_putf0, sg_putf1, sg_iret1, sg_ic_eq, len4_0, len4_1, len4_2, len4_3, len4_4, sg_is3_1, sg_dup2, nLg_n, nLg_i, nLg_r, tc_c, tc_l, tc_r, tc_m, tc_n, tc_o, tc_0, inR, true_and, and_true, ne_eq, not_true_eq_false, not_false_eq_true, true_imp_iff, false_imp_iff, Int.toNat_natCast, lit_a, Nat.reduceAdd, or_true, true_or, or_false, false_or, Int.reduceEq, Int.reduceNe, Int.reduceLT, Int.reduceLE, Int.reduceNeg, sg_nil, s1p, x510, x511, x512, x513, x514, x515, x516, x517, m12, m13, e2]))
        all_goals (try omega)
        all_goals exact hF
  · rw [if_neg g47] at ps
    by_cases g46 : f i = 46
    · rw [if_pos g46] at ps
      have fp : FP μ (ms μ 510 13 1) := ⟨fun k h1 h2 => by funext j; simp only [ms_at]; (repeat (first | rw [if_neg (by omega)] | rw [if_pos (by omega)])), fun j hj => by simp only [ms_at]; (repeat (first | rw [if_neg (by omega)] | rw [if_pos (by omega)]))⟩
      have e17 : ms μ 510 13 1 517 = μ 517 := by funext j; simp only [ms_at]; (repeat (first | rw [if_neg (by omega)] | rw [if_pos (by omega)]))
      by_cases gm : o = false ∧ c = 0
      · obtain ⟨rfl, rfl⟩ := gm
        have m13 : μ 510 13 = 0 := m13
        have hS := h1 (ms μ 510 13 1) r 0 true fp (by rw [e17]; exact PRD_dot H g46 rfl) (by rw [← m12]; simp only [ms_at]; (repeat (first | rw [if_neg (by omega)] | rw [if_pos (by omega)]))) (by simp [ms_at, bo])
        have e2 : μ 517 (5 * r) = 0 := e2
        rw [g46]
        refine wp_go b161_0 ?_; simp only [l161_0, sg_iconst, sg_aload_0, sg_getf0, sg_isub, sg_imul, sg_istore_2, sg_iload_1, sg_bipush, sg_ic_ne, sg_getf1, sg_if_ne, sg_getfp, sg_iload_2, sg_iaload, sg_if_le, nLg_n, nLg_i, nLg_r, tc_c, tc_l, tc_r, tc_m, tc_n, tc_o, tc_0, inR, true_and, and_true, ne_eq, not_true_eq_false, not_false_eq_true, true_imp_iff, false_imp_iff, Int.toNat_natCast, lit_a, Nat.reduceAdd, or_true, true_or, or_false, false_or, Int.reduceEq, Int.reduceNe, Int.reduceLT, Int.reduceLE, Int.reduceNeg, sg_nil, s1p, x510, x511, x512, x513, x514, x515, x516, x517, m12, e7]
        repeat' (first | with_reducible apply And.intro | (intro _) | ((first | refine wp_go b161_0 ?_ | refine wp_go b161_31 ?_ | refine wp_go b161_35 ?_ | refine wp_go b161_36 ?_ | refine wp_go b161_54 ?_ | refine wp_go b161_55 ?_ | refine wp_go b161_89 ?_ | refine wp_go b161_92 ?_ | refine wp_go b161_118 ?_ | refine wp_go b161_119 ?_ | refine wp_go b161_127 ?_ | refine wp_go b161_152 ?_ | refine wp_go b161_155 ?_ | refine wp_go b161_157 ?_); simp only [l161_0, l161_31, l161_35, l161_36, l161_54, l161_55, l161_89, l161_92, l161_118, l161_119, l161_127, l161_152, l161_155, l161_157, sg_iconst, sg_aload_0, sg_getf0, sg_isub, sg_imul, sg_istore_2, sg_iload_1, sg_bipush, sg_ic_ne, sg_getf1, sg_if_ne, sg_getfp, sg_iload_2, sg_iaload, sg_if_le, sg_goto, sg_istore_3, sg_iload_3, sg_if_eq, sg_ic_ge, sg_istore, okS_4, stL_4, sg_iload, ldI_4, sg_iastore, sg_dup_i, sg_dup_r, sg_iadd, sg_putf0, sg_putf1, sg_iret1, sg_ic_eq, len4_0, len4_1, len4_2, len4_3, len4_4, sg_is3_1, sg_dup2, nLg_n, nLg_i, nLg_r, tc_c, tc_l, tc_r, tc_m, tc_n, tc_o, tc_0, inR, true_and, and_true, ne_eq, not_true_eq_false, not_false_eq_true, true_imp_iff, false_imp_iff, Int.toNat_natCast, lit_a, Nat.reduceAdd, or_true, true_or, or_false, false_or, Int.reduceEq, Int.reduceNe, Int.reduceLT, Int.reduceLE, Int.reduceNeg, sg_nil, s1p, x510, x511, x512, x513, x514, x515, x516, x517, m12, m13, e2]))
        all_goals (try omega)
        all_goals exact hS
      · rw [if_neg gm] at ps
        have hF := h0 ps _ fp
        cases o with
        | true =>
          have m13 : μ 510 13 = 1 := m13
          rw [g46]
          refine wp_go b161_0 ?_; simp only [l161_0, sg_iconst, sg_aload_0, sg_getf0, sg_isub, sg_imul, sg_istore_2, sg_iload_1, sg_bipush, sg_ic_ne, sg_getf1, sg_if_ne, sg_getfp, sg_iload_2, sg_iaload, sg_if_le, nLg_n, nLg_i, nLg_r, tc_c, tc_l, tc_r, tc_m, tc_n, tc_o, tc_0, inR, true_and, and_true, ne_eq, not_true_eq_false, not_false_eq_true, true_imp_iff, false_imp_iff, Int.toNat_natCast, lit_a, Nat.reduceAdd, or_true, true_or, or_false, false_or, Int.reduceEq, Int.reduceNe, Int.reduceLT, Int.reduceLE, Int.reduceNeg, sg_nil, s1p, x510, x511, x512, x513, x514, x515, x516, x517, m12, e7]
          repeat' (first | with_reducible apply And.intro | (intro _) | ((first | refine wp_go b161_0 ?_ | refine wp_go b161_31 ?_ | refine wp_go b161_35 ?_ | refine wp_go b161_36 ?_ | refine wp_go b161_54 ?_ | refine wp_go b161_55 ?_ | refine wp_go b161_89 ?_ | refine wp_go b161_92 ?_ | refine wp_go b161_118 ?_ | refine wp_go b161_119 ?_ | refine wp_go b161_127 ?_ | refine wp_go b161_152 ?_ | refine wp_go b161_155 ?_ | refine wp_go b161_157 ?_); simp only [l161_0, l161_31, l161_35, l161_36, l161_54, l161_55, l161_89, l161_92, l161_118, l161_119, l161_127, l161_152, l161_155, l161_157, sg_iconst, sg_aload_0, sg_getf0, sg_isub, sg_imul, sg_istore_2, sg_iload_1, sg_bipush, sg_ic_ne, sg_getf1, sg_if_ne, sg_getfp, sg_iload_2, sg_iaload, sg_if_le, sg_goto, sg_istore_3, sg_iload_3, sg_if_eq, sg_ic_ge, sg_istore, okS_4, stL_4, sg_iload, ldI_4, sg_iastore, sg_dup_i, sg_dup_r, sg_iadd, sg_putf0, sg_putf1, sg_iret1, sg_ic_eq, len4_0, len4_1, len4_2, len4_3, len4_4, sg_is3_1, sg_dup2, nLg_n, nLg_i, nLg_r, tc_c, tc_l, tc_r, tc_m, tc_n, tc_o, tc_0, inR, true_and, and_true, ne_eq, not_true_eq_false, not_false_eq_true, true_imp_iff, false_imp_iff, Int.toNat_natCast, lit_a, Nat.reduceAdd, or_true, true_or, or_false, false_or, Int.reduceEq, Int.reduceNe, Int.reduceLT, Int.reduceLE, Int.reduceNeg, sg_nil, s1p, x510, x511, x512, x513, x514, x515, x516, x517, m12, m13, e2]))
          all_goals (try omega)
          all_goals exact hF
        | false =>
          have m13 : μ 510 13 = 0 := m13
          have gm2 : c ≠ 0 := fun h => gm ⟨rfl, h⟩
          rw [g46]
          refine wp_go b161_0 ?_; simp only [l161_0, sg_iconst, sg_aload_0, sg_getf0, sg_isub, sg_imul, sg_istore_2, sg_iload_1, sg_bipush, sg_ic_ne, sg_getf1, sg_if_ne, sg_getfp, sg_iload_2, sg_iaload, sg_if_le, nLg_n, nLg_i, nLg_r, tc_c, tc_l, tc_r, tc_m, tc_n, tc_o, tc_0, inR, true_and, and_true, ne_eq, not_true_eq_false, not_false_eq_true, true_imp_iff, false_imp_iff, Int.toNat_natCast, lit_a, Nat.reduceAdd, or_true, true_or, or_false, false_or, Int.reduceEq, Int.reduceNe, Int.reduceLT, Int.reduceLE, Int.reduceNeg, sg_nil, s1p, x510, x511, x512, x513, x514, x515, x516, x517, m12, e7]
          repeat' (first | with_reducible apply And.intro | (intro _) | ((first | refine wp_go b161_0 ?_ | refine wp_go b161_31 ?_ | refine wp_go b161_35 ?_ | refine wp_go b161_36 ?_ | refine wp_go b161_54 ?_ | refine wp_go b161_55 ?_ | refine wp_go b161_89 ?_ | refine wp_go b161_92 ?_ | refine wp_go b161_118 ?_ | refine wp_go b161_119 ?_ | refine wp_go b161_127 ?_ | refine wp_go b161_152 ?_ | refine wp_go b161_155 ?_ | refine wp_go b161_157 ?_); simp only [l161_0, l161_31, l161_35, l161_36, l161_54, l161_55, l161_89, l161_92, l161_118, l161_119, l161_127, l161_152, l161_155, l161_157, sg_iconst, sg_aload_0, sg_getf0, sg_isub, sg_imul, sg_istore_2, sg_iload_1, sg_bipush, sg_ic_ne, sg_getf1, sg_if_ne, sg_getfp, sg_iload_2, sg_iaload, sg_if_le, sg_goto, sg_istore_3, sg_iload_3, sg_if_eq, sg_ic_ge, sg_istore, okS_4, stL_4, sg_iload, ldI_4, sg_iastore, sg_dup_i, sg_dup_r, sg_iadd, sg_putf0, sg_putf1, sg_iret1, sg_ic_eq, len4_0, len4_1, len4_2, len4_3, len4_4, sg_is3_1, sg_dup2, nLg_n, nLg_i, nLg_r, tc_c, tc_l, tc_r, tc_m, tc_n, tc_o, tc_0, inR, true_and, and_true, ne_eq, not_true_eq_false, not_false_eq_true, true_imp_iff, false_imp_iff, Int.toNat_natCast, lit_a, Nat.reduceAdd, or_true, true_or, or_false, false_or, Int.reduceEq, Int.reduceNe, Int.reduceLT, Int.reduceLE, Int.reduceNeg, sg_nil, s1p, x510, x511, x512, x513, x514, x515, x516, x517, m12, m13, e2]))
          all_goals (try omega)
          all_goals exact hF
    · rw [if_neg g46] at ps
      have b92 : wp σ1 (Call σ1 (d + 1)) 161 Q 127 [some (.inr (.inr 510)), some (.inl (f i)), some (.inl ((5 * r : Nat) : Int)), none, none] [] μ := by
        cases o with
        | true =>
          have m13 : μ 510 13 = 1 := m13
          rw [if_pos (Or.inl rfl)] at ps
          have hF := h0 ps μ (FP_r μ)
          refine wp_go b161_127 ?_; simp only [l161_127, sg_aload_0, sg_getf1, sg_if_ne, sg_getfp, sg_iload_2, sg_iaload, sg_iconst, sg_ic_eq, sg_iload_1, sg_bipush, len4_0, len4_1, len4_2, len4_3, len4_4, sg_is3_1, nLg_n, nLg_i, nLg_r, tc_c, tc_l, tc_r, tc_m, tc_n, tc_o, tc_0, inR, true_and, and_true, ne_eq, not_true_eq_false, not_false_eq_true, true_imp_iff, false_imp_iff, Int.toNat_natCast, lit_a, Nat.reduceAdd, or_true, true_or, or_false, false_or, Int.reduceEq, Int.reduceNe, Int.reduceLT, Int.reduceLE, Int.reduceNeg, sg_nil, s1p, x510, x511, x512, x513, x514, x515, x516, x517, m13]
          repeat' (first | with_reducible apply And.intro | (intro _) | ((first | refine wp_go b161_0 ?_ | refine wp_go b161_31 ?_ | refine wp_go b161_35 ?_ | refine wp_go b161_36 ?_ | refine wp_go b161_54 ?_ | refine wp_go b161_55 ?_ | refine wp_go b161_89 ?_ | refine wp_go b161_92 ?_ | refine wp_go b161_118 ?_ | refine wp_go b161_119 ?_ | refine wp_go b161_127 ?_ | refine wp_go b161_152 ?_ | refine wp_go b161_155 ?_ | refine wp_go b161_157 ?_); simp only [l161_0, l161_31, l161_35, l161_36, l161_54, l161_55, l161_89, l161_92, l161_118, l161_119, l161_127, l161_152, l161_155, l161_157, sg_iconst, sg_aload_0, sg_getf0, sg_isub, sg_imul, sg_istore_2, sg_iload_1, sg_bipush, sg_ic_ne, sg_getf1, sg_if_ne, sg_getfp, sg_iload_2, sg_iaload, sg_if_le, sg_goto, sg_istore_3, sg_iload_3, sg_if_eq, sg_ic_ge, sg_istore, okS_4, stL_4, sg_iload, ldI_4, sg_iastore, sg_dup_i, sg_dup_r, sg_iadd, sg_putf0, sg_putf1, sg_iret1, sg_ic_eq, len4_0, len4_1, len4_2, len4_3, len4_4, sg_is3_1, sg_dup2, nLg_n, nLg_i, nLg_r, tc_c, tc_l, tc_r, tc_m, tc_n, tc_o, tc_0, inR, true_and, and_true, ne_eq, not_true_eq_false, not_false_eq_true, true_imp_iff, false_imp_iff, Int.toNat_natCast, lit_a, Nat.reduceAdd, or_true, true_or, or_false, false_or, Int.reduceEq, Int.reduceNe, Int.reduceLT, Int.reduceLE, Int.reduceNeg, sg_nil, s1p, x510, x511, x512, x513, x514, x515, x516, x517]))
          all_goals (try omega)
          all_goals exact hF
        | false =>
          have m13 : μ 510 13 = 0 := m13
          by_cases c4 : c = 4
          · rw [if_pos (by omega)] at ps
            have hF := h0 ps μ (FP_r μ)
            rw [c4] at e2
            refine wp_go b161_127 ?_; simp only [l161_127, sg_aload_0, sg_getf1, sg_if_ne, sg_getfp, sg_iload_2, sg_iaload, sg_iconst, sg_ic_eq, sg_iload_1, sg_bipush, len4_0, len4_1, len4_2, len4_3, len4_4, sg_is3_1, nLg_n, nLg_i, nLg_r, tc_c, tc_l, tc_r, tc_m, tc_n, tc_o, tc_0, inR, true_and, and_true, ne_eq, not_true_eq_false, not_false_eq_true, true_imp_iff, false_imp_iff, Int.toNat_natCast, lit_a, Nat.reduceAdd, or_true, true_or, or_false, false_or, Int.reduceEq, Int.reduceNe, Int.reduceLT, Int.reduceLE, Int.reduceNeg, sg_nil, s1p, x510, x511, x512, x513, x514, x515, x516, x517, m13, e2]
            repeat' (first | with_reducible apply And.intro | (intro _) | ((first | refine wp_go b161_0 ?_ | refine wp_go b161_31 ?_ | refine wp_go b161_35 ?_ | refine wp_go b161_36 ?_ | refine wp_go b161_54 ?_ | refine wp_go b161_55 ?_ | refine wp_go b161_89 ?_ | refine wp_go b161_92 ?_ | refine wp_go b161_118 ?_ | refine wp_go b161_119 ?_ | refine wp_go b161_127 ?_ | refine wp_go b161_152 ?_ | refine wp_go b161_155 ?_ | refine wp_go b161_157 ?_); simp only [l161_0, l161_31, l161_35, l161_36, l161_54, l161_55, l161_89, l161_92, l161_118, l161_119, l161_127, l161_152, l161_155, l161_157, sg_iconst, sg_aload_0, sg_getf0, sg_isub, sg_imul, sg_istore_2, sg_iload_1, sg_bipush, sg_ic_ne, sg_getf1, sg_if_ne, sg_getfp, sg_iload_2, sg_iaload, sg_if_le, sg_goto, sg_istore_3, sg_iload_3, sg_if_eq, sg_ic_ge, sg_istore, okS_4, stL_4, sg_iload, ldI_4, sg_iastore, sg_dup_i, sg_dup_r, sg_iadd, sg_putf0, sg_putf1, sg_iret1, sg_ic_eq, len4_0, len4_1, len4_2, len4_3, len4_4, sg_is3_1, sg_dup2, nLg_n, nLg_i, nLg_r, tc_c, tc_l, tc_r, tc_m, tc_n, tc_o, tc_0, inR, true_and, and_true, ne_eq, not_true_eq_false, not_false_eq_true, true_imp_iff, false_imp_iff, Int.toNat_natCast, lit_a, Nat.reduceAdd, or_true, true_or, or_false, false_or, Int.reduceEq, Int.reduceNe, Int.reduceLT, Int.reduceLE, Int.reduceNeg, sg_nil, s1p, x510, x511, x512, x513, x514, x515, x516, x517]))
            all_goals (try omega)
            all_goals exact hF
          · refine wp_go b161_127 ?_; simp only [l161_127, sg_aload_0, sg_getf1, sg_if_ne, sg_getfp, sg_iload_2, sg_iaload, sg_iconst, sg_ic_eq, sg_iload_1, sg_bipush, len4_0, len4_1, len4_2, len4_3, len4_4, sg_is3_1, nLg_n, nLg_i, nLg_r, tc_c, tc_l, tc_r, tc_m, tc_n, tc_o, tc_0, inR, true_and, and_true, ne_eq, not_true_eq_false, not_false_eq_true, true_imp_iff, false_imp_iff, Int.toNat_natCast, lit_a, Nat.reduceAdd, or_true, true_or, or_false, false_or, Int.reduceEq, Int.reduceNe, Int.reduceLT, Int.reduceLE, Int.reduceNeg, sg_nil, s1p, x510, x511, x512, x513, x514, x515, x516, x517, m13, e2]
            repeat' (first | with_reducible apply And.intro | intro _)
            all_goals (try omega)
            refine k_Mo_in (by unfold inR; omega) (by unfold inR; omega) (by unfold inR; omega) (fun g1 g2 => ?_) (fun g0 => ?_)
            · have e3 : ms μ 517 (5 * r) ((c + 1 : Nat) : Int) 517 (5 * r) = ((c + 1 : Nat) : Int) := by simp [ms_at]
              have hS := h1 (ms (ms μ 517 (5 * r) ((c + 1 : Nat) : Int)) 517 (5 * r + (c + 1)) (f i - 48)) r (c + 1) false ⟨fun k h1 h2 => by funext j; simp only [ms_at]; (repeat (first | rw [if_neg (by omega)] | rw [if_pos (by omega)])), fun j hj => by simp only [ms_at]; (repeat (first | rw [if_neg (by omega)] | rw [if_pos (by omega)]))⟩
                (PRD_dig H (by omega) g1 g2 (by simp only [ms_at, true_and]; rw [if_neg (by omega)]; exact if_pos trivial) (by simp only [ms_at, true_and]; rw [if_pos (by omega)]) (fun x h1 h2 => by simp only [ms_at, true_and]; rw [if_neg (by omega), if_neg h1])) (by rw [← m12]; simp only [ms_at]; (repeat (first | rw [if_neg (by omega)] | rw [if_pos (by omega)]))) (by simp only [ms_at]; rw [if_neg (by omega), if_neg (by omega)]; exact m13)
              refine wp_go b161_152 ?_; simp only [l161_152, sg_if_ne, nLg_n, nLg_i, nLg_r, tc_c, tc_l, tc_r, tc_m, tc_n, tc_o, tc_0, inR, true_and, and_true, ne_eq, not_true_eq_false, not_false_eq_true, true_imp_iff, false_imp_iff, Int.toNat_natCast, lit_a, Nat.reduceAdd, or_true, true_or, or_false, false_or, Int.reduceEq, Int.reduceNe, Int.reduceLT, Int.reduceLE, Int.reduceNeg, sg_nil, s1p, x510, x511, x512, x513, x514, x515, x516, x517]
              repeat' (first | with_reducible apply And.intro | intro _)
              all_goals (try omega)
              refine wp_go b161_157 ?_; simp only [l161_157, sg_aload_0, sg_getfp, sg_iload_2, sg_dup2, sg_iaload, sg_iconst, sg_iadd, sg_iastore, sg_iload_1, sg_bipush, sg_isub, sg_iret1, nLg_n, nLg_i, nLg_r, tc_c, tc_l, tc_r, tc_m, tc_n, tc_o, tc_0, inR, true_and, and_true, ne_eq, not_true_eq_false, not_false_eq_true, true_imp_iff, false_imp_iff, Int.toNat_natCast, lit_a, Nat.reduceAdd, or_true, true_or, or_false, false_or, Int.reduceEq, Int.reduceNe, Int.reduceLT, Int.reduceLE, Int.reduceNeg, sg_nil, s1p, x510, x511, x512, x513, x514, x515, x516, x517, e2, e3]
              repeat' (first | with_reducible apply And.intro | intro _)
              all_goals (try omega)
            · rw [if_pos (by omega)] at ps
              have hF := h0 ps μ (FP_r μ)
              refine wp_go b161_152 ?_; simp only [l161_152, sg_if_ne, nLg_n, nLg_i, nLg_r, tc_c, tc_l, tc_r, tc_m, tc_n, tc_o, tc_0, inR, true_and, and_true, ne_eq, not_true_eq_false, not_false_eq_true, true_imp_iff, false_imp_iff, Int.toNat_natCast, lit_a, Nat.reduceAdd, or_true, true_or, or_false, false_or, Int.reduceEq, Int.reduceNe, Int.reduceLT, Int.reduceLE, Int.reduceNeg, sg_nil, s1p, x510, x511, x512, x513, x514, x515, x516, x517]
              repeat' (first | with_reducible apply And.intro | (intro _) | ((first | refine wp_go b161_0 ?_ | refine wp_go b161_31 ?_ | refine wp_go b161_35 ?_ | refine wp_go b161_36 ?_ | refine wp_go b161_54 ?_ | refine wp_go b161_55 ?_ | refine wp_go b161_89 ?_ | refine wp_go b161_92 ?_ | refine wp_go b161_118 ?_ | refine wp_go b161_119 ?_ | refine wp_go b161_127 ?_ | refine wp_go b161_152 ?_ | refine wp_go b161_155 ?_ | refine wp_go b161_157 ?_); simp only [l161_0, l161_31, l161_35, l161_36, l161_54, l161_55, l161_89, l161_92, l161_118, l161_119, l161_127, l161_152, l161_155, l161_157, sg_iconst, sg_aload_0, sg_getf0, sg_isub, sg_imul, sg_istore_2, sg_iload_1, sg_bipush, sg_ic_ne, sg_getf1, sg_if_ne, sg_getfp, sg_iload_2, sg_iaload, sg_if_le, sg_goto, sg_istore_3, sg_iload_3, sg_if_eq, sg_ic_ge, sg_istore, okS_4, stL_4, sg_iload, ldI_4, sg_iastore, sg_dup_i, sg_dup_r, sg_iadd, sg_putf0, sg_putf1, sg_iret1, sg_ic_eq, len4_0, len4_1, len4_2, len4_3, len4_4, sg_is3_1, sg_dup2, nLg_n, nLg_i, nLg_r, tc_c, tc_l, tc_r, tc_m, tc_n, tc_o, tc_0, inR, true_and, and_true, ne_eq, not_true_eq_false, not_false_eq_true, true_imp_iff, false_imp_iff, Int.toNat_natCast, lit_a, Nat.reduceAdd, or_true, true_or, or_false, false_or, Int.reduceEq, Int.reduceNe, Int.reduceLT, Int.reduceLE, Int.reduceNeg, sg_nil, s1p, x510, x511, x512, x513, x514, x515, x516, x517]))
              all_goals (try omega)
              all_goals exact hF
      refine wp_go b161_0 ?_; simp only [l161_0, sg_iconst, sg_aload_0, sg_getf0, sg_isub, sg_imul, sg_istore_2, sg_iload_1, sg_bipush, sg_ic_ne, sg_getf1, sg_if_ne, sg_getfp, sg_iload_2, sg_iaload, sg_if_le, nLg_n, nLg_i, nLg_r, tc_c, tc_l, tc_r, tc_m, tc_n, tc_o, tc_0, inR, true_and, and_true, ne_eq, not_true_eq_false, not_false_eq_true, true_imp_iff, false_imp_iff, Int.toNat_natCast, lit_a, Nat.reduceAdd, or_true, true_or, or_false, false_or, Int.reduceEq, Int.reduceNe, Int.reduceLT, Int.reduceLE, Int.reduceNeg, sg_nil, s1p, x510, x511, x512, x513, x514, x515, x516, x517, m12, e7]
      repeat' (first | with_reducible apply And.intro | intro _)
      all_goals (try omega)
      refine wp_go b161_92 ?_; simp only [l161_92, sg_iload_1, sg_bipush, sg_ic_ne, sg_aload_0, sg_getf1, sg_if_ne, sg_getfp, sg_iload_2, sg_iaload, sg_iconst, sg_goto, nLg_n, nLg_i, nLg_r, tc_c, tc_l, tc_r, tc_m, tc_n, tc_o, tc_0, inR, true_and, and_true, ne_eq, not_true_eq_false, not_false_eq_true, true_imp_iff, false_imp_iff, Int.toNat_natCast, lit_a, Nat.reduceAdd, or_true, true_or, or_false, false_or, Int.reduceEq, Int.reduceNe, Int.reduceLT, Int.reduceLE, Int.reduceNeg, sg_nil, s1p, x510, x511, x512, x513, x514, x515, x516, x517]
      repeat' (first | with_reducible apply And.intro | intro _)
      all_goals (try omega)
-- Mo.readPad: blocks [0, 19, 37, 42, 48, 71, 76, 80]
theorem k_Mo_readPad {d n : Nat} {f : Nat → Int} {Q : QT} {μ : Mem} (hn : n ≤ 60) (m6 : μ 510 6 = (n : Int)) (h2 : ∀ i, i < n → 33 ≤ f i ∧ f i ≤ 126 ∧ μ 515 i = f i)
    (hq0 : fltF f n ≠ -6 → ∀ μ', FP μ μ' → Q (.inl (fltF f n)) μ')
    (hq1 : fltF f n = -6 → ∀ (μ' : Mem) (r c : Nat) (o : Bool), FP μ μ' → PRD f n (μ' 517) r c o → μ' 510 12 = ((r + 1 : Nat) : Int) → Q (.inl (-6)) μ') : Call σ1 (d + 3) 162 [.inr (.inr 510)] μ Q := by
  refine e_162 ?_
  have loop : ∀ k i : Nat, i + k = n → ∀ (μ1 : Mem) (r c : Nat) (o : Bool), FP μ μ1 → PRD f i (μ1 517) r c o → μ1 510 12 = ((r + 1 : Nat) : Int) → μ1 510 13 = bo o → wp σ1 (Call σ1 (d + 2)) 162 Q 19 [some (.inr (.inr 510)), some (.inl (i : Int))] [] μ1 := by
    intro k
    induction k with
    | zero =>
      intro i hi μ1 r c o f1 H m12 m13
      have hin : i = n := by omega
      subst hin
      obtain ⟨b1, b2, b3⟩ := pst_b H.1
      have w6 : μ1 510 6 = (i : Int) := (f1.2 6 (by omega)).trans m6
      have e7 : ((r + 1 : Nat) : Int) - 1 = (r : Int) := by omega
      have e2 : μ1 517 (5 * r) = (c : Int) := H.2.1
      have fe := fltF_e H.1
      cases o with
      | true =>
        have m13 : μ1 510 13 = 1 := m13
        rw [if_pos (Or.inl rfl)] at fe
        have hq := hq1 fe μ1 r c true f1 H m12
        refine wp_go b162_19 ?_; simp only [l162_19, sg_iload_1, sg_aload_0, sg_getf0, sg_ic_ge, sg_getfp, sg_caload, sg_iv2_i, len4_0, len4_1, len4_2, len4_3, len4_4, nLg_n, nLg_i, nLg_r, tc_c, tc_l, tc_r, tc_m, tc_n, tc_o, tc_0, inR, true_and, and_true, ne_eq, not_true_eq_false, not_false_eq_true, true_imp_iff, false_imp_iff, Int.toNat_natCast, lit_a, Nat.reduceAdd, or_true, true_or, or_false, false_or, Int.reduceEq, Int.reduceNe, Int.reduceLT, Int.reduceLE, Int.reduceNeg, sg_nil, s1p, x510, x511, x512, x513, x514, x515, x516, x517, w6]
        repeat' (first | with_reducible apply And.intro | intro _)
        all_goals (try omega)
        refine wp_go b162_48 ?_; simp only [l162_48, sg_aload_0, sg_getf1, sg_if_ne, sg_getfp, sg_iconst, sg_getf0, sg_isub, sg_imul, sg_iaload, sg_if_le, nLg_n, nLg_i, nLg_r, tc_c, tc_l, tc_r, tc_m, tc_n, tc_o, tc_0, inR, true_and, and_true, ne_eq, not_true_eq_false, not_false_eq_true, true_imp_iff, false_imp_iff, Int.toNat_natCast, lit_a, Nat.reduceAdd, or_true, true_or, or_false, false_or, Int.reduceEq, Int.reduceNe, Int.reduceLT, Int.reduceLE, Int.reduceNeg, sg_nil, s1p, x510, x511, x512, x513, x514, x515, x516, x517, m12, m13, e2, e7]
        repeat' (first | with_reducible apply And.intro | (intro _) | ((first | refine wp_go b162_0 ?_ | refine wp_go b162_37 ?_ | refine wp_go b162_42 ?_ | refine wp_go b162_48 ?_ | refine wp_go b162_71 ?_ | refine wp_go b162_76 ?_ | refine wp_go b162_80 ?_); simp only [l162_0, l162_37, l162_42, l162_48, l162_71, l162_76, l162_80, sg_aload_0, sg_iconst, sg_putf0, sg_getfp, sg_iastore, sg_putf1, sg_istore_1, sg_if_ne, sg_iload_1, sg_iret0, sg_iinc, ldI_1, okS_1, stL_1, sg_goto, sg_getf1, sg_getf0, sg_isub, sg_imul, sg_iaload, sg_if_le, sg_bipush, nLg_n, nLg_i, nLg_r, tc_c, tc_l, tc_r, tc_m, tc_n, tc_o, tc_0, inR, true_and, and_true, ne_eq, not_true_eq_false, not_false_eq_true, true_imp_iff, false_imp_iff, Int.toNat_natCast, lit_a, Nat.reduceAdd, or_true, true_or, or_false, false_or, Int.reduceEq, Int.reduceNe, Int.reduceLT, Int.reduceLE, Int.reduceNeg, sg_nil, s1p, x510, x511, x512, x513, x514, x515, x516, x517]))
        all_goals (try omega)
        all_goals exact hq
      | false =>
        have m13 : μ1 510 13 = 0 := m13
        by_cases c0 : 0 < c
        · rw [if_pos (Or.inr c0)] at fe
          have hq := hq1 fe μ1 r c false f1 H m12
          refine wp_go b162_19 ?_; simp only [l162_19, sg_iload_1, sg_aload_0, sg_getf0, sg_ic_ge, sg_getfp, sg_caload, sg_iv2_i, len4_0, len4_1, len4_2, len4_3, len4_4, nLg_n, nLg_i, nLg_r, tc_c, tc_l, tc_r, tc_m, tc_n, tc_o, tc_0, inR, true_and, and_true, ne_eq, not_true_eq_false, not_false_eq_true, true_imp_iff, false_imp_iff, Int.toNat_natCast, lit_a, Nat.reduceAdd, or_true, true_or, or_false, false_or, Int.reduceEq, Int.reduceNe, Int.reduceLT, Int.reduceLE, Int.reduceNeg, sg_nil, s1p, x510, x511, x512, x513, x514, x515, x516, x517, w6]
          repeat' (first | with_reducible apply And.intro | intro _)
          all_goals (try omega)
          refine wp_go b162_48 ?_; simp only [l162_48, sg_aload_0, sg_getf1, sg_if_ne, sg_getfp, sg_iconst, sg_getf0, sg_isub, sg_imul, sg_iaload, sg_if_le, nLg_n, nLg_i, nLg_r, tc_c, tc_l, tc_r, tc_m, tc_n, tc_o, tc_0, inR, true_and, and_true, ne_eq, not_true_eq_false, not_false_eq_true, true_imp_iff, false_imp_iff, Int.toNat_natCast, lit_a, Nat.reduceAdd, or_true, true_or, or_false, false_or, Int.reduceEq, Int.reduceNe, Int.reduceLT, Int.reduceLE, Int.reduceNeg, sg_nil, s1p, x510, x511, x512, x513, x514, x515, x516, x517, m12, m13, e2, e7]
          repeat' (first | with_reducible apply And.intro | (intro _) | ((first | refine wp_go b162_0 ?_ | refine wp_go b162_37 ?_ | refine wp_go b162_42 ?_ | refine wp_go b162_48 ?_ | refine wp_go b162_71 ?_ | refine wp_go b162_76 ?_ | refine wp_go b162_80 ?_); simp only [l162_0, l162_37, l162_42, l162_48, l162_71, l162_76, l162_80, sg_aload_0, sg_iconst, sg_putf0, sg_getfp, sg_iastore, sg_putf1, sg_istore_1, sg_if_ne, sg_iload_1, sg_iret0, sg_iinc, ldI_1, okS_1, stL_1, sg_goto, sg_getf1, sg_getf0, sg_isub, sg_imul, sg_iaload, sg_if_le, sg_bipush, nLg_n, nLg_i, nLg_r, tc_c, tc_l, tc_r, tc_m, tc_n, tc_o, tc_0, inR, true_and, and_true, ne_eq, not_true_eq_false, not_false_eq_true, true_imp_iff, false_imp_iff, Int.toNat_natCast, lit_a, Nat.reduceAdd, or_true, true_or, or_false, false_or, Int.reduceEq, Int.reduceNe, Int.reduceLT, Int.reduceLE, Int.reduceNeg, sg_nil, s1p, x510, x511, x512, x513, x514, x515, x516, x517]))
          all_goals (try omega)
          all_goals exact hq
        · rw [if_neg (fun h => by rcases h with h | h; exact absurd h (by decide); exact c0 h)] at fe
          rw [fe] at hq0
          have hq := hq0 (by omega) μ1 f1
          refine wp_go b162_19 ?_; simp only [l162_19, sg_iload_1, sg_aload_0, sg_getf0, sg_ic_ge, sg_getfp, sg_caload, sg_iv2_i, len4_0, len4_1, len4_2, len4_3, len4_4, nLg_n, nLg_i, nLg_r, tc_c, tc_l, tc_r, tc_m, tc_n, tc_o, tc_0, inR, true_and, and_true, ne_eq, not_true_eq_false, not_false_eq_true, true_imp_iff, false_imp_iff, Int.toNat_natCast, lit_a, Nat.reduceAdd, or_true, true_or, or_false, false_or, Int.reduceEq, Int.reduceNe, Int.reduceLT, Int.reduceLE, Int.reduceNeg, sg_nil, s1p, x510, x511, x512, x513, x514, x515, x516, x517, w6]
          repeat' (first | with_reducible apply And.intro | intro _)
          all_goals (try omega)
          refine wp_go b162_48 ?_; simp only [l162_48, sg_aload_0, sg_getf1, sg_if_ne, sg_getfp, sg_iconst, sg_getf0, sg_isub, sg_imul, sg_iaload, sg_if_le, nLg_n, nLg_i, nLg_r, tc_c, tc_l, tc_r, tc_m, tc_n, tc_o, tc_0, inR, true_and, and_true, ne_eq, not_true_eq_false, not_false_eq_true, true_imp_iff, false_imp_iff, Int.toNat_natCast, lit_a, Nat.reduceAdd, or_true, true_or, or_false, false_or, Int.reduceEq, Int.reduceNe, Int.reduceLT, Int.reduceLE, Int.reduceNeg, sg_nil, s1p, x510, x511, x512, x513, x514, x515, x516, x517, m12, m13, e2, e7]
          repeat' (first | with_reducible apply And.intro | (intro _) | ((first | refine wp_go b162_0 ?_ | refine wp_go b162_37 ?_ | refine wp_go b162_42 ?_ | refine wp_go b162_48 ?_ | refine wp_go b162_71 ?_ | refine wp_go b162_76 ?_ | refine wp_go b162_80 ?_); simp only [l162_0, l162_37, l162_42, l162_48, l162_71, l162_76, l162_80, sg_aload_0, sg_iconst, sg_putf0, sg_getfp, sg_iastore, sg_putf1, sg_istore_1, sg_if_ne, sg_iload_1, sg_iret0, sg_iinc, ldI_1, okS_1, stL_1, sg_goto, sg_getf1, sg_getf0, sg_isub, sg_imul, sg_iaload, sg_if_le, sg_bipush, nLg_n, nLg_i, nLg_r, tc_c, tc_l, tc_r, tc_m, tc_n, tc_o, tc_0, inR, true_and, and_true, ne_eq, not_true_eq_false, not_false_eq_true, true_imp_iff, false_imp_iff, Int.toNat_natCast, lit_a, Nat.reduceAdd, or_true, true_or, or_false, false_or, Int.reduceEq, Int.reduceNe, Int.reduceLT, Int.reduceLE, Int.reduceNeg, sg_nil, s1p, x510, x511, x512, x513, x514, x515, x516, x517, w6]))
          all_goals (try omega)
          all_goals exact hq
    | succ k ih =>
      intro i hi μ1 r c o f1 H m12 m13
      obtain ⟨v1, v2, v3⟩ := h2 i (by omega)
      have w6 : μ1 510 6 = (n : Int) := (f1.2 6 (by omega)).trans m6
      have w5 : μ1 515 i = f i := by rw [f1.1 515 (by omega) (by omega)]; exact v3
      refine wp_go b162_19 ?_; simp only [l162_19, sg_iload_1, sg_aload_0, sg_getf0, sg_ic_ge, sg_getfp, sg_caload, sg_iv2_i, len4_0, len4_1, len4_2, len4_3, len4_4, nLg_n, nLg_i, nLg_r, tc_c, tc_l, tc_r, tc_m, tc_n, tc_o, tc_0, inR, true_and, and_true, ne_eq, not_true_eq_false, not_false_eq_true, true_imp_iff, false_imp_iff, Int.toNat_natCast, lit_a, Nat.reduceAdd, or_true, true_or, or_false, false_or, Int.reduceEq, Int.reduceNe, Int.reduceLT, Int.reduceLE, Int.reduceNeg, sg_nil, s1p, x510, x511, x512, x513, x514, x515, x516, x517, w6, w5]
      repeat' (first | with_reducible apply And.intro | intro _)
      all_goals (try omega)
      refine k_Mo_stands H m12 m13 ⟨v1, v2⟩ (fun hn μ2 f2 => ?_) (fun μ2 r' c' o' f2 H2 m12' m13' => ?_)
      · have e : fltF f n = (i : Int) := fltF_f (by omega) (by rw [H.1]; simp) hn
        rw [e] at hq0
        have hq := hq0 (by omega) μ2 (FP_t f1 f2)
        refine wp_go b162_37 ?_; simp only [l162_37, sg_if_ne, sg_iload_1, sg_iret0, nLg_n, nLg_i, nLg_r, tc_c, tc_l, tc_r, tc_m, tc_n, tc_o, tc_0, inR, true_and, and_true, ne_eq, not_true_eq_false, not_false_eq_true, true_imp_iff, false_imp_iff, Int.toNat_natCast, lit_a, Nat.reduceAdd, or_true, true_or, or_false, false_or, Int.reduceEq, Int.reduceNe, Int.reduceLT, Int.reduceLE, Int.reduceNeg, sg_nil, s1p, x510, x511, x512, x513, x514, x515, x516, x517]
        repeat' (first | with_reducible apply And.intro | (intro _) | ((first | refine wp_go b162_0 ?_ | refine wp_go b162_37 ?_ | refine wp_go b162_42 ?_ | refine wp_go b162_48 ?_ | refine wp_go b162_71 ?_ | refine wp_go b162_76 ?_ | refine wp_go b162_80 ?_); simp only [l162_0, l162_37, l162_42, l162_48, l162_71, l162_76, l162_80, sg_aload_0, sg_iconst, sg_putf0, sg_getfp, sg_iastore, sg_putf1, sg_istore_1, sg_if_ne, sg_iload_1, sg_iret0, sg_iinc, ldI_1, okS_1, stL_1, sg_goto, sg_getf1, sg_getf0, sg_isub, sg_imul, sg_iaload, sg_if_le, sg_bipush, nLg_n, nLg_i, nLg_r, tc_c, tc_l, tc_r, tc_m, tc_n, tc_o, tc_0, inR, true_and, and_true, ne_eq, not_true_eq_false, not_false_eq_true, true_imp_iff, false_imp_iff, Int.toNat_natCast, lit_a, Nat.reduceAdd, or_true, true_or, or_false, false_or, Int.reduceEq, Int.reduceNe, Int.reduceLT, Int.reduceLE, Int.reduceNeg, sg_nil, s1p, x510, x511, x512, x513, x514, x515, x516, x517]))
        all_goals (try omega)
        all_goals exact hq
      · have ih1 := ih (i + 1) (by omega) μ2 r' c' o' (FP_t f1 f2) H2 m12' m13'
        refine wp_go b162_37 ?_; simp only [l162_37, sg_if_ne, sg_iload_1, sg_iret0, nLg_n, nLg_i, nLg_r, tc_c, tc_l, tc_r, tc_m, tc_n, tc_o, tc_0, inR, true_and, and_true, ne_eq, not_true_eq_false, not_false_eq_true, true_imp_iff, false_imp_iff, Int.toNat_natCast, lit_a, Nat.reduceAdd, or_true, true_or, or_false, false_or, Int.reduceEq, Int.reduceNe, Int.reduceLT, Int.reduceLE, Int.reduceNeg, sg_nil, s1p, x510, x511, x512, x513, x514, x515, x516, x517]
        repeat' (first | with_reducible apply And.intro | (intro _) | ((first | refine wp_go b162_0 ?_ | refine wp_go b162_37 ?_ | refine wp_go b162_42 ?_ | refine wp_go b162_48 ?_ | refine wp_go b162_71 ?_ | refine wp_go b162_76 ?_ | refine wp_go b162_80 ?_); simp only [l162_0, l162_37, l162_42, l162_48, l162_71, l162_76, l162_80, sg_aload_0, sg_iconst, sg_putf0, sg_getfp, sg_iastore, sg_putf1, sg_istore_1, sg_if_ne, sg_iload_1, sg_iret0, sg_iinc, ldI_1, okS_1, stL_1, sg_goto, sg_getf1, sg_getf0, sg_isub, sg_imul, sg_iaload, sg_if_le, sg_bipush, nLg_n, nLg_i, nLg_r, tc_c, tc_l, tc_r, tc_m, tc_n, tc_o, tc_0, inR, true_and, and_true, ne_eq, not_true_eq_false, not_false_eq_true, true_imp_iff, false_imp_iff, Int.toNat_natCast, lit_a, Nat.reduceAdd, or_true, true_or, or_false, false_or, Int.reduceEq, Int.reduceNe, Int.reduceLT, Int.reduceLE, Int.reduceNeg, sg_nil, s1p, x510, x511, x512, x513, x514, x515, x516, x517]))
        all_goals (try omega)
        all_goals exact ih1
  have st := loop n 0 (by omega) (ms (ms (ms μ 510 12 1) 517 0 0) 510 13 0) 0 0 false ⟨fun k h1 h2 => by funext j; simp only [ms_at]; (repeat (first | rw [if_neg (by omega)] | rw [if_pos (by omega)])), fun j hj => by simp only [ms_at]; (repeat (first | rw [if_neg (by omega)] | rw [if_pos (by omega)]))⟩ (PRD_0 (by simp [ms_at])) (by simp [ms_at]) (by simp [ms_at, bo])
  refine wp_go b162_0 ?_; simp only [l162_0, sg_aload_0, sg_iconst, sg_putf0, sg_getfp, sg_iastore, sg_putf1, sg_istore_1, nLg_n, nLg_i, nLg_r, tc_c, tc_l, tc_r, tc_m, tc_n, tc_o, tc_0, inR, true_and, and_true, ne_eq, not_true_eq_false, not_false_eq_true, true_imp_iff, false_imp_iff, Int.toNat_natCast, lit_a, Nat.reduceAdd, or_true, true_or, or_false, false_or, Int.reduceEq, Int.reduceNe, Int.reduceLT, Int.reduceLE, Int.reduceNeg, sg_nil, s1p, x510, x511, x512, x513, x514, x515, x516, x517, Int.toNat_zero]
  repeat' (first | with_reducible apply And.intro | intro _)
  all_goals (try omega)
-- Mo.fault: blocks [0, 4]
theorem k_Mo_fault {d n : Nat} {f : Nat → Int} {Q : QT} {μ : Mem} (hn : n ≤ 60) (m6 : μ 510 6 = (n : Int)) (h2 : ∀ i, i < n → 33 ≤ f i ∧ f i ≤ 126 ∧ μ 515 i = f i) (hq : ∀ μ', FP μ μ' → Q (.inl (fltF f n)) μ') : Call σ1 (d + 4) 163 [.inr (.inr 510)] μ Q := by
  refine e_163 ?_
  refine wp_go b163_0 ?_; simp only [l163_0, sg_aload_0, sg_iv1_i, len4_0, len4_1, len4_2, len4_3, len4_4, nLg_n, nLg_i, nLg_r, tc_c, tc_l, tc_r, tc_m, tc_n, tc_o, tc_0, inR, true_and, and_true, ne_eq, not_true_eq_false, not_false_eq_true, true_imp_iff, false_imp_iff, Int.toNat_natCast, lit_a, Nat.reduceAdd, or_true, true_or, or_false, false_or, Int.reduceEq, Int.reduceNe, Int.reduceLT, Int.reduceLE, Int.reduceNeg, sg_nil, s1p, x510, x511, x512, x513, x514, x515, x516, x517]
  refine k_Mo_readPad hn m6 h2 (fun h μ' f1 => ?_) (fun h μ' r c o f1 _ _ => ?_)
  · have hq := hq μ' f1
    refine wp_go b163_4 ?_; simp only [l163_4, sg_iret0, nLg_n, nLg_i, nLg_r, tc_c, tc_l, tc_r, tc_m, tc_n, tc_o, tc_0, inR, true_and, and_true, ne_eq, not_true_eq_false, not_false_eq_true, true_imp_iff, false_imp_iff, Int.toNat_natCast, lit_a, Nat.reduceAdd, or_true, true_or, or_false, false_or, Int.reduceEq, Int.reduceNe, Int.reduceLT, Int.reduceLE, Int.reduceNeg, sg_nil, s1p, x510, x511, x512, x513, x514, x515, x516, x517]
    exact hq
  · have hq := hq μ' f1
    rw [h] at hq
    refine wp_go b163_4 ?_; simp only [l163_4, sg_iret0, nLg_n, nLg_i, nLg_r, tc_c, tc_l, tc_r, tc_m, tc_n, tc_o, tc_0, inR, true_and, and_true, ne_eq, not_true_eq_false, not_false_eq_true, true_imp_iff, false_imp_iff, Int.toNat_natCast, lit_a, Nat.reduceAdd, or_true, true_or, or_false, false_or, Int.reduceEq, Int.reduceNe, Int.reduceLT, Int.reduceLE, Int.reduceNeg, sg_nil, s1p, x510, x511, x512, x513, x514, x515, x516, x517]
    exact hq
