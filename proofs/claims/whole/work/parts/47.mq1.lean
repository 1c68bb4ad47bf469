/-- what a question leaves of the model's cells -/
def QM (μ μ' : Mem) : Prop := (∀ k, k ≠ 510 → k ≠ 511 → k ≠ 516 → k ≠ 517 → μ' k = μ k) ∧ ∀ j, j < 8 → μ' 510 j = μ 510 j
theorem QM_r (μ : Mem) : QM μ μ := ⟨fun _ _ _ _ _ => rfl, fun _ _ => rfl⟩
theorem QM_s {μ μ' : Mem} (h : ∀ k, k ≠ 516 → μ' k = μ k) : QM μ μ' := ⟨fun k _ _ h3 _ => h k h3, fun j _ => by rw [h 510 (by omega)]⟩
theorem QM_t {μ μ1 μ2 : Mem} (h1 : QM μ μ1) (h2 : QM μ1 μ2) : QM μ μ2 := ⟨fun k a b c e => (h2.1 k a b c e).trans (h1.1 k a b c e), fun j hj => (h2.2 j hj).trans (h1.2 j hj)⟩
theorem WH_r {w : Rw} (hW : WH w) {k : Nat} (hk : k < 121) : inR (w k) := by
  have q0 := hW.1
  unfold inR
  rcases Nat.eq_zero_or_pos k with h0 | h0
  · subst h0; omega
  · rcases (show 5 * w 0 + 1 ≤ (k : Int) ∨ (k : Int) < 5 * w 0 + 1 by omega) with h1 | h1
    · rw [hW.2.2.2 k h1 hk]; omega
    · have q := hW.2.1 ((k - 1) / 5) (by omega)
      generalize hg : (k - 1) / 5 = i at q
      rcases (show k = 5 * i + 1 ∨ k = 5 * i + 2 ∨ k = 5 * i + 3 ∨ k = 5 * i + 4 ∨ k = 5 * i + 5 by omega) with h | h | h | h | h <;> rw [h] <;> omega
theorem old_ex (z : Rw) (l : Nat) : exI (fun k => decide (z (214 + 3 * l) = 1 ∧ hrL z l k ≠ fw z l k)) 121 = old z l := by
  unfold old bI
  split
  · rename_i h
    have hx : ¬ ∀ k, k < 121 → hrL z l k = fw z l k := fun ha => by have := h.2; rw [eqW_t ha] at this; exact absurd this (by decide)
    obtain ⟨k, hk⟩ := Classical.not_forall.mp hx
    have hk1 : k < 121 := Classical.byContradiction (fun hn => hk (fun h2 => absurd h2 hn))
    exact exI_t hk1 (decide_eq_true ⟨h.1, fun e => hk (fun _ => e)⟩)
  · rename_i h
    exact exI_f (fun k hk => decide_eq_false (fun g => h ⟨g.1, eqW_f (fun ha => g.2 (ha k hk))⟩))
-- Mo.isOld: blocks [0, 7, 9, 24, 51, 55, 56, 63]
theorem k_Mo_isOld {d l : Nat} {Q : QT} {μ : Mem} {z : Rw} (hM : μ 511 = z) (hz : IZ z) (hl : (l : Int) < z 3)
    (hq : ∀ μ', (∀ k, k ≠ 516 → μ' k = μ k) → Q (.inl (old z l)) μ') : Call σ1 (d + 4) 113 [.inr (.inr 510), .inl (l : Int)] μ Q := by
  refine e_113 ?_
  have q := hz.1
  have z01 := (hz.2.2.2.2 l hl).2.2.1
  refine wp_go b113_0 ?_; simp only [l113_0, sg_iconst, sg_istore_2, sg_aload_0, sg_iload_1, sg_iv2_v, len4_0, len4_1, len4_2, len4_3, len4_4, nLg_n, nLg_i, nLg_r, tc_c, tc_l, tc_r, tc_m, tc_n, tc_o, tc_0, inR, true_and, and_true, ne_eq, not_true_eq_false, not_false_eq_true, true_imp_iff, false_imp_iff, Int.toNat_natCast, lit_a, Nat.reduceAdd, or_true, true_or, or_false, false_or, Int.reduceEq, Int.reduceNe, Int.reduceLT, Int.reduceLE, Int.reduceNeg, sg_nil, s1p, x510, x511, x512, x513, x514, x515, x516, x517]
  refine k_Mo_layNow hM hz hl (fun μ1 f1 H1 => ?_)
  have M1 : μ1 511 = z := by rw [f1 511 (by omega)]; exact hM
  have hq := hq μ1 f1
  have W : WH (hrL z l) := hr_W (g := z (212 + 3 * l)) (b := z (213 + 3 * l)) hz
  have loop : ∀ k i : Nat, i + k = 121 → wp σ1 (Call σ1 (d + 3)) 113 Q 9 [some (.inr (.inr 510)), some (.inl (l : Int)), some (.inl (exI (fun k => decide (z (214 + 3 * l) = 1 ∧ hrL z l k ≠ fw z l k)) i)), some (.inl (i : Int))] [] μ1 := by
    intro k
    induction k with
    | zero =>
      intro i hi
      have hin : i = 121 := by omega
      subst hin
      rw [old_ex]
      refine wp_go b113_9 ?_; simp only [l113_9, sg_iload_3, sg_bipush, sg_ic_ge, sg_iload_2, sg_if_ne, sg_aload_0, sg_iload_1, sg_iv2_i, len4_0, len4_1, len4_2, len4_3, len4_4, nLg_n, nLg_i, nLg_r, tc_c, tc_l, tc_r, tc_m, tc_n, tc_o, tc_0, inR, true_and, and_true, ne_eq, not_true_eq_false, not_false_eq_true, true_imp_iff, false_imp_iff, Int.toNat_natCast, lit_a, Nat.reduceAdd, or_true, true_or, or_false, false_or, Int.reduceEq, Int.reduceNe, Int.reduceLT, Int.reduceLE, Int.reduceNeg, sg_nil, s1p, x510, x511, x512, x513, x514, x515, x516, x517]
      repeat' (first | with_reducible apply And.intro | intro _)
      all_goals (try omega)
      refine wp_go b113_63 ?_; simp only [l113_63, sg_iload_2, sg_iret1, nLg_n, nLg_i, nLg_r, tc_c, tc_l, tc_r, tc_m, tc_n, tc_o, tc_0, inR, true_and, and_true, ne_eq, not_true_eq_false, not_false_eq_true, true_imp_iff, false_imp_iff, Int.toNat_natCast, lit_a, Nat.reduceAdd, or_true, true_or, or_false, false_or, Int.reduceEq, Int.reduceNe, Int.reduceLT, Int.reduceLE, Int.reduceNeg, sg_nil, s1p, x510, x511, x512, x513, x514, x515, x516, x517]
      exact ⟨old_01 z l, hq⟩
    | succ k ih =>
      intro i hi
      have ih1 := ih (i + 1) (by omega)
      rw [exI_s] at ih1
      have e1 : μ1 516 i = hrL z l i := H1 i (by omega)
      have r1 := WH_r W (k := i) (by omega)
      by_cases hf : z (214 + 3 * l) = 1
      · have r2 : inR (z (230 + 121 * l + i)) := WH_r ((hz.2.2.2.2 l hl).2.2.2 hf) (k := i) (by omega)
        unfold inR at r1 r2
        by_cases g : hrL z l i = z (230 + 121 * l + i)
        · rw [if_neg (fun h => (of_decide_eq_true h).2 g)] at ih1
          rcases exI_01 (p := fun k => decide (z (214 + 3 * l) = 1 ∧ hrL z l k ≠ fw z l k)) i with e | e
          · rw [e] at ih1 ⊢
            refine wp_go b113_9 ?_; simp only [l113_9, sg_iload_3, sg_bipush, sg_ic_ge, sg_iload_2, sg_if_ne, sg_aload_0, sg_iload_1, sg_iv2_i, len4_0, len4_1, len4_2, len4_3, len4_4, nLg_n, nLg_i, nLg_r, tc_c, tc_l, tc_r, tc_m, tc_n, tc_o, tc_0, inR, true_and, and_true, ne_eq, not_true_eq_false, not_false_eq_true, true_imp_iff, false_imp_iff, Int.toNat_natCast, lit_a, Nat.reduceAdd, or_true, true_or, or_false, false_or, Int.reduceEq, Int.reduceNe, Int.reduceLT, Int.reduceLE, Int.reduceNeg, sg_nil, s1p, x510, x511, x512, x513, x514, x515, x516, x517]
            repeat' (first | with_reducible apply And.intro | intro _)
            all_goals (try omega)
            refine k_Mo_hasFile (n := l) M1 (by omega) (by omega) ?_
            rw [hf]
            refine wp_go b113_24 ?_; simp only [l113_24, sg_if_eq, sg_aload_0, sg_getfp, sg_iload_3, sg_iaload, sg_sipush, sg_bipush, sg_iload_1, sg_imul, sg_iadd, sg_ic_eq, nLg_n, nLg_i, nLg_r, tc_c, tc_l, tc_r, tc_m, tc_n, tc_o, tc_0, inR, true_and, and_true, ne_eq, not_true_eq_false, not_false_eq_true, true_imp_iff, false_imp_iff, Int.toNat_natCast, lit_a, Nat.reduceAdd, or_true, true_or, or_false, false_or, Int.reduceEq, Int.reduceNe, Int.reduceLT, Int.reduceLE, Int.reduceNeg, sg_nil, s1p, x510, x511, x512, x513, x514, x515, x516, x517, M1, e1]
            repeat' (first | with_reducible apply And.intro | (intro _) | ((first | refine wp_go b113_0 ?_ | refine wp_go b113_7 ?_ | refine wp_go b113_24 ?_ | refine wp_go b113_51 ?_ | refine wp_go b113_55 ?_ | refine wp_go b113_56 ?_ | refine wp_go b113_63 ?_); simp only [l113_0, l113_7, l113_24, l113_51, l113_55, l113_56, l113_63, sg_iconst, sg_istore_2, sg_aload_0, sg_iload_1, sg_iv2_v, len4_0, len4_1, len4_2, len4_3, len4_4, sg_istore_3, sg_if_eq, sg_getfp, sg_iload_3, sg_iaload, sg_sipush, sg_bipush, sg_imul, sg_iadd, sg_ic_eq, sg_goto, sg_iinc, ldI_3, okS_3, stL_3, sg_iload_2, sg_iret1, nLg_n, nLg_i, nLg_r, tc_c, tc_l, tc_r, tc_m, tc_n, tc_o, tc_0, inR, true_and, and_true, ne_eq, not_true_eq_false, not_false_eq_true, true_imp_iff, false_imp_iff, Int.toNat_natCast, lit_a, Nat.reduceAdd, or_true, true_or, or_false, false_or, Int.reduceEq, Int.reduceNe, Int.reduceLT, Int.reduceLE, Int.reduceNeg, sg_nil, s1p, x510, x511, x512, x513, x514, x515, x516, x517]))
            all_goals (try omega)
            all_goals exact ih1
          · rw [e] at ih1 ⊢
            refine wp_go b113_9 ?_; simp only [l113_9, sg_iload_3, sg_bipush, sg_ic_ge, sg_iload_2, sg_if_ne, sg_aload_0, sg_iload_1, sg_iv2_i, len4_0, len4_1, len4_2, len4_3, len4_4, nLg_n, nLg_i, nLg_r, tc_c, tc_l, tc_r, tc_m, tc_n, tc_o, tc_0, inR, true_and, and_true, ne_eq, not_true_eq_false, not_false_eq_true, true_imp_iff, false_imp_iff, Int.toNat_natCast, lit_a, Nat.reduceAdd, or_true, true_or, or_false, false_or, Int.reduceEq, Int.reduceNe, Int.reduceLT, Int.reduceLE, Int.reduceNeg, sg_nil, s1p, x510, x511, x512, x513, x514, x515, x516, x517]
            repeat' (first | with_reducible apply And.intro | (intro _) | ((first | refine wp_go b113_0 ?_ | refine wp_go b113_7 ?_ | refine wp_go b113_24 ?_ | refine wp_go b113_51 ?_ | refine wp_go b113_55 ?_ | refine wp_go b113_56 ?_ | refine wp_go b113_63 ?_); simp only [l113_0, l113_7, l113_24, l113_51, l113_55, l113_56, l113_63, sg_iconst, sg_istore_2, sg_aload_0, sg_iload_1, sg_iv2_v, len4_0, len4_1, len4_2, len4_3, len4_4, sg_istore_3, sg_if_eq, sg_getfp, sg_iload_3, sg_iaload, sg_sipush, sg_bipush, sg_imul, sg_iadd, sg_ic_eq, sg_goto, sg_iinc, ldI_3, okS_3, stL_3, sg_iload_2, sg_iret1, nLg_n, nLg_i, nLg_r, tc_c, tc_l, tc_r, tc_m, tc_n, tc_o, tc_0, inR, true_and, and_true, ne_eq, not_true_eq_false, not_false_eq_true, true_imp_iff, false_imp_iff, Int.toNat_natCast, lit_a, Nat.reduceAdd, or_true, true_or, or_false, false_or, Int.reduceEq, Int.reduceNe, Int.reduceLT, Int.reduceLE, Int.reduceNeg, sg_nil, s1p, x510, x511, x512, x513, x514, x515, x516, x517]))
            all_goals (try omega)
            all_goals exact ih1
        · rw [if_pos (decide_eq_true ⟨hf, g⟩)] at ih1
          rcases exI_01 (p := fun k => decide (z (214 + 3 * l) = 1 ∧ hrL z l k ≠ fw z l k)) i with e | e
          · rw [e]
            refine wp_go b113_9 ?_; simp only [l113_9, sg_iload_3, sg_bipush, sg_ic_ge, sg_iload_2, sg_if_ne, sg_aload_0, sg_iload_1, sg_iv2_i, len4_0, len4_1, len4_2, len4_3, len4_4, nLg_n, nLg_i, nLg_r, tc_c, tc_l, tc_r, tc_m, tc_n, tc_o, tc_0, inR, true_and, and_true, ne_eq, not_true_eq_false, not_false_eq_true, true_imp_iff, false_imp_iff, Int.toNat_natCast, lit_a, Nat.reduceAdd, or_true, true_or, or_false, false_or, Int.reduceEq, Int.reduceNe, Int.reduceLT, Int.reduceLE, Int.reduceNeg, sg_nil, s1p, x510, x511, x512, x513, x514, x515, x516, x517]
            repeat' (first | with_reducible apply And.intro | intro _)
            all_goals (try omega)
            refine k_Mo_hasFile (n := l) M1 (by omega) (by omega) ?_
            rw [hf]
            refine wp_go b113_24 ?_; simp only [l113_24, sg_if_eq, sg_aload_0, sg_getfp, sg_iload_3, sg_iaload, sg_sipush, sg_bipush, sg_iload_1, sg_imul, sg_iadd, sg_ic_eq, nLg_n, nLg_i, nLg_r, tc_c, tc_l, tc_r, tc_m, tc_n, tc_o, tc_0, inR, true_and, and_true, ne_eq, not_true_eq_false, not_false_eq_true, true_imp_iff, false_imp_iff, Int.toNat_natCast, lit_a, Nat.reduceAdd, or_true, true_or, or_false, false_or, Int.reduceEq, Int.reduceNe, Int.reduceLT, Int.reduceLE, Int.reduceNeg, sg_nil, s1p, x510, x511, x512, x513, x514, x515, x516, x517, M1, e1]
            repeat' (first | with_reducible apply And.intro | (intro _) | ((first | refine wp_go b113_0 ?_ | refine wp_go b113_7 ?_ | refine wp_go b113_24 ?_ | refine wp_go b113_51 ?_ | refine wp_go b113_55 ?_ | refine wp_go b113_56 ?_ | refine wp_go b113_63 ?_); simp only [l113_0, l113_7, l113_24, l113_51, l113_55, l113_56, l113_63, sg_iconst, sg_istore_2, sg_aload_0, sg_iload_1, sg_iv2_v, len4_0, len4_1, len4_2, len4_3, len4_4, sg_istore_3, sg_if_eq, sg_getfp, sg_iload_3, sg_iaload, sg_sipush, sg_bipush, sg_imul, sg_iadd, sg_ic_eq, sg_goto, sg_iinc, ldI_3, okS_3, stL_3, sg_iload_2, sg_iret1, nLg_n, nLg_i, nLg_r, tc_c, tc_l, tc_r, tc_m, tc_n, tc_o, tc_0, inR, true_and, and_true, ne_eq, not_true_eq_false, not_false_eq_true, true_imp_iff, false_imp_iff, Int.toNat_natCast, lit_a, Nat.reduceAdd, or_true, true_or, or_false, false_or, Int.reduceEq, Int.reduceNe, Int.reduceLT, Int.reduceLE, Int.reduceNeg, sg_nil, s1p, x510, x511, x512, x513, x514, x515, x516, x517]))
            all_goals (try omega)
            all_goals exact ih1
          · rw [e]
            refine wp_go b113_9 ?_; simp only [l113_9, sg_iload_3, sg_bipush, sg_ic_ge, sg_iload_2, sg_if_ne, sg_aload_0, sg_iload_1, sg_iv2_i, len4_0, len4_1, len4_2, len4_3, len4_4, nLg_n, nLg_i, nLg_r, tc_c, tc_l, tc_r, tc_m, tc_n, tc_o, tc_0, inR, true_and, and_true, ne_eq, not_true_eq_false, not_false_eq_true, true_imp_iff, false_imp_iff, Int.toNat_natCast, lit_a, Nat.reduceAdd, or_true, true_or, or_false, false_or, Int.reduceEq, Int.reduceNe, Int.reduceLT, Int.reduceLE, Int.reduceNeg, sg_nil, s1p, x510, x511, x512, x513, x514, x515, x516, x517]
            repeat' (first | with_reducible apply And.intro | (intro _) | ((first | refine wp_go b113_0 ?_ | refine wp_go b113_7 ?_ | refine wp_go b113_24 ?_ | refine wp_go b113_51 ?_ | refine wp_go b113_55 ?_ | refine wp_go b113_56 ?_ | refine wp_go b113_63 ?_); simp only [l113_0, l113_7, l113_24, l113_51, l113_55, l113_56, l113_63, sg_iconst, sg_istore_2, sg_aload_0, sg_iload_1, sg_iv2_v, len4_0, len4_1, len4_2, len4_3, len4_4, sg_istore_3, sg_if_eq, sg_getfp, sg_iload_3, sg_iaload, sg_sipush, sg_bipush, sg_imul, sg_iadd, sg_ic_eq, sg_goto, sg_iinc, ldI_3, okS_3, stL_3, sg_iload_2, sg_iret1, nLg_n, nLg_i, nLg_r, tc_c, tc_l, tc_r, tc_m, tc_n, tc_o, tc_0, inR, true_and, and_true, ne_eq, not_true_eq_false, not_false_eq_true, true_imp_iff, false_imp_iff, Int.toNat_natCast, lit_a, Nat.reduceAdd, or_true, true_or, or_false, false_or, Int.reduceEq, Int.reduceNe, Int.reduceLT, Int.reduceLE, Int.reduceNeg, sg_nil, s1p, x510, x511, x512, x513, x514, x515, x516, x517]))
            all_goals (try omega)
            all_goals exact ih1
      · rw [if_neg (fun h => hf (of_decide_eq_true h).1)] at ih1
        have e0 : exI (fun k => decide (z (214 + 3 * l) = 1 ∧ hrL z l k ≠ fw z l k)) i = 0 := exI_f (fun j hj => decide_eq_false (fun h => hf h.1))
        rw [e0] at ih1 ⊢
        refine wp_go b113_9 ?_; simp only [l113_9, sg_iload_3, sg_bipush, sg_ic_ge, sg_iload_2, sg_if_ne, sg_aload_0, sg_iload_1, sg_iv2_i, len4_0, len4_1, len4_2, len4_3, len4_4, nLg_n, nLg_i, nLg_r, tc_c, tc_l, tc_r, tc_m, tc_n, tc_o, tc_0, inR, true_and, and_true, ne_eq, not_true_eq_false, not_false_eq_true, true_imp_iff, false_imp_iff, Int.toNat_natCast, lit_a, Nat.reduceAdd, or_true, true_or, or_false, false_or, Int.reduceEq, Int.reduceNe, Int.reduceLT, Int.reduceLE, Int.reduceNeg, sg_nil, s1p, x510, x511, x512, x513, x514, x515, x516, x517]
        repeat' (first | with_reducible apply And.intro | intro _)
        all_goals (try omega)
        refine k_Mo_hasFile (n := l) M1 (by omega) (by omega) ?_
        rw [show z (214 + 3 * l) = 0 by omega]
        refine wp_go b113_24 ?_; simp only [l113_24, sg_if_eq, sg_aload_0, sg_getfp, sg_iload_3, sg_iaload, sg_sipush, sg_bipush, sg_iload_1, sg_imul, sg_iadd, sg_ic_eq, nLg_n, nLg_i, nLg_r, tc_c, tc_l, tc_r, tc_m, tc_n, tc_o, tc_0, inR, true_and, and_true, ne_eq, not_true_eq_false, not_false_eq_true, true_imp_iff, false_imp_iff, Int.toNat_natCast, lit_a, Nat.reduceAdd, or_true, true_or, or_false, false_or, Int.reduceEq, Int.reduceNe, Int.reduceLT, Int.reduceLE, Int.reduceNeg, sg_nil, s1p, x510, x511, x512, x513, x514, x515, x516, x517, M1, e1]
        repeat' (first | with_reducible apply And.intro | (intro _) | ((first | refine wp_go b113_0 ?_ | refine wp_go b113_7 ?_ | refine wp_go b113_24 ?_ | refine wp_go b113_51 ?_ | refine wp_go b113_55 ?_ | refine wp_go b113_56 ?_ | refine wp_go b113_63 ?_); simp only [l113_0, l113_7, l113_24, l113_51, l113_55, l113_56, l113_63, sg_iconst, sg_istore_2, sg_aload_0, sg_iload_1, sg_iv2_v, len4_0, len4_1, len4_2, len4_3, len4_4, sg_istore_3, sg_if_eq, sg_getfp, sg_iload_3, sg_iaload, sg_sipush, sg_bipush, sg_imul, sg_iadd, sg_ic_eq, sg_goto, sg_iinc, ldI_3, okS_3, stL_3, sg_iload_2, sg_iret1, nLg_n, nLg_i, nLg_r, tc_c, tc_l, tc_r, tc_m, tc_n, tc_o, tc_0, inR, true_and, and_true, ne_eq, not_true_eq_false, not_false_eq_true, true_imp_iff, false_imp_iff, Int.toNat_natCast, lit_a, Nat.reduceAdd, or_true, true_or, or_false, false_or, Int.reduceEq, Int.reduceNe, Int.reduceLT, Int.reduceLE, Int.reduceNeg, sg_nil, s1p, x510, x511, x512, x513, x514, x515, x516, x517]))
        all_goals (try omega)
        all_goals exact ih1
  refine wp_go b113_7 ?_; simp only [l113_7, sg_iconst, sg_istore_3, nLg_n, nLg_i, nLg_r, tc_c, tc_l, tc_r, tc_m, tc_n, tc_o, tc_0, inR, true_and, and_true, ne_eq, not_true_eq_false, not_false_eq_true, true_imp_iff, false_imp_iff, Int.toNat_natCast, lit_a, Nat.reduceAdd, or_true, true_or, or_false, false_or, Int.reduceEq, Int.reduceNe, Int.reduceLT, Int.reduceLE, Int.reduceNeg, sg_nil, s1p, x510, x511, x512, x513, x514, x515, x516, x517]
  exact loop 121 0 (by omega)
-- Mo.timeOf: blocks [0, 4, 16, 24]
theorem k_Mo_timeOf {d s : Nat} {Q : QT} {μ : Mem} {z : Rw} (hM : μ 511 = z) (hs : s ≤ 24) (h : Q (.inl (sm (zl z) s)) μ) : Call σ1 (d + 2) 134 [.inr (.inr 510), .inl (s : Int)] μ Q := by
  refine e_134 ?_
  have loop : ∀ k i : Nat, i + k = s → wp σ1 (Call σ1 (d + 1)) 134 Q 4 [some (.inr (.inr 510)), some (.inl (s : Int)), some (.inl (sm (zl z) i)), some (.inl (i : Int))] [] μ := by
    intro k
    induction k with
    | zero =>
      intro i hi
      have hin : i = s := by omega
      subst hin
      refine wp_go b134_4 ?_; simp only [l134_4, sg_iload_3, sg_iload_1, sg_ic_ge, sg_iload_2, sg_aload_0, sg_iconst, sg_iv3_i, len4_0, len4_1, len4_2, len4_3, len4_4, nLg_n, nLg_i, nLg_r, tc_c, tc_l, tc_r, tc_m, tc_n, tc_o, tc_0, inR, true_and, and_true, ne_eq, not_true_eq_false, not_false_eq_true, true_imp_iff, false_imp_iff, Int.toNat_natCast, lit_a, Nat.reduceAdd, or_true, true_or, or_false, false_or, Int.reduceEq, Int.reduceNe, Int.reduceLT, Int.reduceLE, Int.reduceNeg, sg_nil, s1p, x510, x511, x512, x513, x514, x515, x516, x517]
      repeat' (first | with_reducible apply And.intro | intro _)
      all_goals (try omega)
      refine wp_go b134_24 ?_; simp only [l134_24, sg_iload_2, sg_iret0, nLg_n, nLg_i, nLg_r, tc_c, tc_l, tc_r, tc_m, tc_n, tc_o, tc_0, inR, true_and, and_true, ne_eq, not_true_eq_false, not_false_eq_true, true_imp_iff, false_imp_iff, Int.toNat_natCast, lit_a, Nat.reduceAdd, or_true, true_or, or_false, false_or, Int.reduceEq, Int.reduceNe, Int.reduceLT, Int.reduceLE, Int.reduceNeg, sg_nil, s1p, x510, x511, x512, x513, x514, x515, x516, x517]
      exact h
    | succ k ih =>
      intro i hi
      have ih1 := ih (i + 1) (by omega)
      rw [sm_s] at ih1
      have e : zl z i = z (4 + 3 * i + 1) := by unfold zl; rw [show 5 + 3 * i = 4 + 3 * i + 1 by omega]
      rw [e] at ih1
      refine wp_go b134_4 ?_; simp only [l134_4, sg_iload_3, sg_iload_1, sg_ic_ge, sg_iload_2, sg_aload_0, sg_iconst, sg_iv3_i, len4_0, len4_1, len4_2, len4_3, len4_4, nLg_n, nLg_i, nLg_r, tc_c, tc_l, tc_r, tc_m, tc_n, tc_o, tc_0, inR, true_and, and_true, ne_eq, not_true_eq_false, not_false_eq_true, true_imp_iff, false_imp_iff, Int.toNat_natCast, lit_a, Nat.reduceAdd, or_true, true_or, or_false, false_or, Int.reduceEq, Int.reduceNe, Int.reduceLT, Int.reduceLE, Int.reduceNeg, sg_nil, s1p, x510, x511, x512, x513, x514, x515, x516, x517]
      repeat' (first | with_reducible apply And.intro | intro _)
      all_goals (try omega)
      refine k_Mo_its (s := i) (w := 1) hM (by omega) (by omega) ?_
      refine wp_go b134_16 ?_; simp only [l134_16, sg_iadd, sg_istore_2, sg_iinc, ldI_3, okS_3, stL_3, sg_goto, nLg_n, nLg_i, nLg_r, tc_c, tc_l, tc_r, tc_m, tc_n, tc_o, tc_0, inR, true_and, and_true, ne_eq, not_true_eq_false, not_false_eq_true, true_imp_iff, false_imp_iff, Int.toNat_natCast, lit_a, Nat.reduceAdd, or_true, true_or, or_false, false_or, Int.reduceEq, Int.reduceNe, Int.reduceLT, Int.reduceLE, Int.reduceNeg, sg_nil, s1p, x510, x511, x512, x513, x514, x515, x516, x517]
      repeat' (first | with_reducible apply And.intro | intro _)
      all_goals (try omega)
  refine wp_go b134_0 ?_; simp only [l134_0, sg_iconst, sg_istore_2, sg_istore_3, nLg_n, nLg_i, nLg_r, tc_c, tc_l, tc_r, tc_m, tc_n, tc_o, tc_0, inR, true_and, and_true, ne_eq, not_true_eq_false, not_false_eq_true, true_imp_iff, false_imp_iff, Int.toNat_natCast, lit_a, Nat.reduceAdd, or_true, true_or, or_false, false_or, Int.reduceEq, Int.reduceNe, Int.reduceLT, Int.reduceLE, Int.reduceNeg, sg_nil, s1p, x510, x511, x512, x513, x514, x515, x516, x517]
  exact loop s 0 (by omega)
-- Mo.chapterOf: blocks [0, 4, 16, 24]
theorem k_Mo_chapterOf {d s : Nat} {Q : QT} {μ : Mem} {z : Rw} (hM : μ 511 = z) (hs : s < 24) (h : Q (.inl (sm (zb z) (s + 1) - 1)) μ) : Call σ1 (d + 2) 135 [.inr (.inr 510), .inl (s : Int)] μ Q := by
  refine e_135 ?_
  have loop : ∀ k i : Nat, i + k = s + 1 → ∀ v : Int, v = sm (zb z) i - 1 → wp σ1 (Call σ1 (d + 1)) 135 Q 4 [some (.inr (.inr 510)), some (.inl (s : Int)), some (.inl v), some (.inl (i : Int))] [] μ := by
    intro k
    induction k with
    | zero =>
      intro i hi v hv
      have hin : i = s + 1 := by omega
      subst hin
      rw [← hv] at h
      refine wp_go b135_4 ?_; simp only [l135_4, sg_iload_3, sg_iload_1, sg_ic_gt, sg_iload_2, sg_aload_0, sg_iconst, sg_iv3_i, len4_0, len4_1, len4_2, len4_3, len4_4, nLg_n, nLg_i, nLg_r, tc_c, tc_l, tc_r, tc_m, tc_n, tc_o, tc_0, inR, true_and, and_true, ne_eq, not_true_eq_false, not_false_eq_true, true_imp_iff, false_imp_iff, Int.toNat_natCast, lit_a, Nat.reduceAdd, or_true, true_or, or_false, false_or, Int.reduceEq, Int.reduceNe, Int.reduceLT, Int.reduceLE, Int.reduceNeg, sg_nil, s1p, x510, x511, x512, x513, x514, x515, x516, x517]
      repeat' (first | with_reducible apply And.intro | intro _)
      all_goals (try omega)
      refine wp_go b135_24 ?_; simp only [l135_24, sg_iload_2, sg_iret0, nLg_n, nLg_i, nLg_r, tc_c, tc_l, tc_r, tc_m, tc_n, tc_o, tc_0, inR, true_and, and_true, ne_eq, not_true_eq_false, not_false_eq_true, true_imp_iff, false_imp_iff, Int.toNat_natCast, lit_a, Nat.reduceAdd, or_true, true_or, or_false, false_or, Int.reduceEq, Int.reduceNe, Int.reduceLT, Int.reduceLE, Int.reduceNeg, sg_nil, s1p, x510, x511, x512, x513, x514, x515, x516, x517]
      exact h
    | succ k ih =>
      intro i hi v hv
      have e : zb z i = z (4 + 3 * i + 2) := by unfold zb; rw [show 6 + 3 * i = 4 + 3 * i + 2 by omega]
      have ih1 := ih (i + 1) (by omega) (v + z (4 + 3 * i + 2)) (by rw [sm_s, hv, e]; omega)
      refine wp_go b135_4 ?_; simp only [l135_4, sg_iload_3, sg_iload_1, sg_ic_gt, sg_iload_2, sg_aload_0, sg_iconst, sg_iv3_i, len4_0, len4_1, len4_2, len4_3, len4_4, nLg_n, nLg_i, nLg_r, tc_c, tc_l, tc_r, tc_m, tc_n, tc_o, tc_0, inR, true_and, and_true, ne_eq, not_true_eq_false, not_false_eq_true, true_imp_iff, false_imp_iff, Int.toNat_natCast, lit_a, Nat.reduceAdd, or_true, true_or, or_false, false_or, Int.reduceEq, Int.reduceNe, Int.reduceLT, Int.reduceLE, Int.reduceNeg, sg_nil, s1p, x510, x511, x512, x513, x514, x515, x516, x517]
      repeat' (first | with_reducible apply And.intro | intro _)
      all_goals (try omega)
      refine k_Mo_its (s := i) (w := 2) hM (by omega) (by omega) ?_
      refine wp_go b135_16 ?_; simp only [l135_16, sg_iadd, sg_istore_2, sg_iinc, ldI_3, okS_3, stL_3, sg_goto, nLg_n, nLg_i, nLg_r, tc_c, tc_l, tc_r, tc_m, tc_n, tc_o, tc_0, inR, true_and, and_true, ne_eq, not_true_eq_false, not_false_eq_true, true_imp_iff, false_imp_iff, Int.toNat_natCast, lit_a, Nat.reduceAdd, or_true, true_or, or_false, false_or, Int.reduceEq, Int.reduceNe, Int.reduceLT, Int.reduceLE, Int.reduceNeg, sg_nil, s1p, x510, x511, x512, x513, x514, x515, x516, x517]
      repeat' (first | with_reducible apply And.intro | intro _)
      all_goals (try omega)
  refine wp_go b135_0 ?_; simp only [l135_0, sg_iconst, sg_istore_2, sg_istore_3, nLg_n, nLg_i, nLg_r, tc_c, tc_l, tc_r, tc_m, tc_n, tc_o, tc_0, inR, true_and, and_true, ne_eq, not_true_eq_false, not_false_eq_true, true_imp_iff, false_imp_iff, Int.toNat_natCast, lit_a, Nat.reduceAdd, or_true, true_or, or_false, false_or, Int.reduceEq, Int.reduceNe, Int.reduceLT, Int.reduceLE, Int.reduceNeg, sg_nil, s1p, x510, x511, x512, x513, x514, x515, x516, x517]
  exact loop (s + 1) 0 (by omega) (-1) rfl
-- Mo.chapters: blocks [0, 4, 21, 29]
theorem k_Mo_chapters {d n : Nat} {Q : QT} {μ : Mem} {z : Rw} (hM : μ 511 = z) (hn : z 0 = (n : Int)) (hn24 : n ≤ 24) (h : Q (.inl (sm (zb z) n)) μ) : Call σ1 (d + 2) 123 [.inr (.inr 510)] μ Q := by
  refine e_123 ?_
  have loop : ∀ k i : Nat, i + k = n → wp σ1 (Call σ1 (d + 1)) 123 Q 4 [some (.inr (.inr 510)), some (.inl (sm (zb z) i)), some (.inl (i : Int))] [] μ := by
    intro k
    induction k with
    | zero =>
      intro i hi
      have hin : i = n := by omega
      subst hin
      refine wp_go b123_4 ?_; simp only [l123_4, sg_iload_2, sg_aload_0, sg_getfp, sg_iconst, sg_iaload, sg_ic_ge, sg_iload_1, sg_iv3_i, len4_0, len4_1, len4_2, len4_3, len4_4, nLg_n, nLg_i, nLg_r, tc_c, tc_l, tc_r, tc_m, tc_n, tc_o, tc_0, inR, true_and, and_true, ne_eq, not_true_eq_false, not_false_eq_true, true_imp_iff, false_imp_iff, Int.toNat_natCast, lit_a, Nat.reduceAdd, or_true, true_or, or_false, false_or, Int.reduceEq, Int.reduceNe, Int.reduceLT, Int.reduceLE, Int.reduceNeg, sg_nil, s1p, x510, x511, x512, x513, x514, x515, x516, x517, hM, hn, Int.toNat_zero]
      repeat' (first | with_reducible apply And.intro | intro _)
      all_goals (try omega)
      refine wp_go b123_29 ?_; simp only [l123_29, sg_iload_1, sg_iret0, nLg_n, nLg_i, nLg_r, tc_c, tc_l, tc_r, tc_m, tc_n, tc_o, tc_0, inR, true_and, and_true, ne_eq, not_true_eq_false, not_false_eq_true, true_imp_iff, false_imp_iff, Int.toNat_natCast, lit_a, Nat.reduceAdd, or_true, true_or, or_false, false_or, Int.reduceEq, Int.reduceNe, Int.reduceLT, Int.reduceLE, Int.reduceNeg, sg_nil, s1p, x510, x511, x512, x513, x514, x515, x516, x517]
      exact h
    | succ k ih =>
      intro i hi
      have ih1 := ih (i + 1) (by omega)
      rw [sm_s] at ih1
      have e : zb z i = z (4 + 3 * i + 2) := by unfold zb; rw [show 6 + 3 * i = 4 + 3 * i + 2 by omega]
      rw [e] at ih1
      refine wp_go b123_4 ?_; simp only [l123_4, sg_iload_2, sg_aload_0, sg_getfp, sg_iconst, sg_iaload, sg_ic_ge, sg_iload_1, sg_iv3_i, len4_0, len4_1, len4_2, len4_3, len4_4, nLg_n, nLg_i, nLg_r, tc_c, tc_l, tc_r, tc_m, tc_n, tc_o, tc_0, inR, true_and, and_true, ne_eq, not_true_eq_false, not_false_eq_true, true_imp_iff, false_imp_iff, Int.toNat_natCast, lit_a, Nat.reduceAdd, or_true, true_or, or_false, false_or, Int.reduceEq, Int.reduceNe, Int.reduceLT, Int.reduceLE, Int.reduceNeg, sg_nil, s1p, x510, x511, x512, x513, x514, x515, x516, x517, hM, hn, Int.toNat_zero]
      repeat' (first | with_reducible apply And.intro | intro _)
      all_goals (try omega)
      refine k_Mo_its (s := i) (w := 2) hM (by omega) (by omega) ?_
      refine wp_go b123_21 ?_; simp only [l123_21, sg_iadd, sg_istore_1, sg_iinc, ldI_2, okS_2, stL_2, sg_goto, nLg_n, nLg_i, nLg_r, tc_c, tc_l, tc_r, tc_m, tc_n, tc_o, tc_0, inR, true_and, and_true, ne_eq, not_true_eq_false, not_false_eq_true, true_imp_iff, false_imp_iff, Int.toNat_natCast, lit_a, Nat.reduceAdd, or_true, true_or, or_false, false_or, Int.reduceEq, Int.reduceNe, Int.reduceLT, Int.reduceLE, Int.reduceNeg, sg_nil, s1p, x510, x511, x512, x513, x514, x515, x516, x517]
      repeat' (first | with_reducible apply And.intro | intro _)
      all_goals (try omega)
  refine wp_go b123_0 ?_; simp only [l123_0, sg_iconst, sg_istore_1, sg_istore_2, nLg_n, nLg_i, nLg_r, tc_c, tc_l, tc_r, tc_m, tc_n, tc_o, tc_0, inR, true_and, and_true, ne_eq, not_true_eq_false, not_false_eq_true, true_imp_iff, false_imp_iff, Int.toNat_natCast, lit_a, Nat.reduceAdd, or_true, true_or, or_false, false_or, Int.reduceEq, Int.reduceNe, Int.reduceLT, Int.reduceLE, Int.reduceNeg, sg_nil, s1p, x510, x511, x512, x513, x514, x515, x516, x517]
  exact loop n 0 (by omega)
-- Mo.marked: blocks [0, 2, 18, 24, 30]
theorem k_Mo_marked {d : Nat} {Q : QT} {μ : Mem} {m : Int} {z : Rw} (hM : μ 511 = z) (hz : IZ z) (hm : inR m) (h : Q (.inl (F_marked z m)) μ) : Call σ1 (d + 2) 137 [.inr (.inr 510), .inl m] μ Q := by
  refine e_137 ?_
  have e0 := zn_eq hz
  have z0 := e0.1
  unfold inR at hm
  have loop : ∀ k i : Nat, i + k = zn z → (∀ j, j < i → ¬ z (4 + 3 * j) = m) → wp σ1 (Call σ1 (d + 1)) 137 Q 2 [some (.inr (.inr 510)), some (.inl m), some (.inl (i : Int))] [] μ := by
    intro k
    induction k with
    | zero =>
      intro i hi hj
      have hin : i = zn z := by omega
      have eF : F_marked z m = -1 := fsI_n (fun j hj' => decide_eq_false (hj j (by omega)))
      rw [eF] at h
      refine wp_go b137_2 ?_; simp only [l137_2, sg_iload_2, sg_aload_0, sg_getfp, sg_iconst, sg_iaload, sg_ic_ge, sg_iv3_i, len4_0, len4_1, len4_2, len4_3, len4_4, nLg_n, nLg_i, nLg_r, tc_c, tc_l, tc_r, tc_m, tc_n, tc_o, tc_0, inR, true_and, and_true, ne_eq, not_true_eq_false, not_false_eq_true, true_imp_iff, false_imp_iff, Int.toNat_natCast, lit_a, Nat.reduceAdd, or_true, true_or, or_false, false_or, Int.reduceEq, Int.reduceNe, Int.reduceLT, Int.reduceLE, Int.reduceNeg, sg_nil, s1p, x510, x511, x512, x513, x514, x515, x516, x517, hM, z0, Int.toNat_zero]
      repeat' (first | with_reducible apply And.intro | intro _)
      all_goals (try omega)
      refine wp_go b137_30 ?_; simp only [l137_30, sg_iconst, sg_iret0, nLg_n, nLg_i, nLg_r, tc_c, tc_l, tc_r, tc_m, tc_n, tc_o, tc_0, inR, true_and, and_true, ne_eq, not_true_eq_false, not_false_eq_true, true_imp_iff, false_imp_iff, Int.toNat_natCast, lit_a, Nat.reduceAdd, or_true, true_or, or_false, false_or, Int.reduceEq, Int.reduceNe, Int.reduceLT, Int.reduceLE, Int.reduceNeg, sg_nil, s1p, x510, x511, x512, x513, x514, x515, x516, x517]
      exact h
    | succ k ih =>
      intro i hi hj
      have a1 := (hz.2.1 i (by omega)).1
      refine wp_go b137_2 ?_; simp only [l137_2, sg_iload_2, sg_aload_0, sg_getfp, sg_iconst, sg_iaload, sg_ic_ge, sg_iv3_i, len4_0, len4_1, len4_2, len4_3, len4_4, nLg_n, nLg_i, nLg_r, tc_c, tc_l, tc_r, tc_m, tc_n, tc_o, tc_0, inR, true_and, and_true, ne_eq, not_true_eq_false, not_false_eq_true, true_imp_iff, false_imp_iff, Int.toNat_natCast, lit_a, Nat.reduceAdd, or_true, true_or, or_false, false_or, Int.reduceEq, Int.reduceNe, Int.reduceLT, Int.reduceLE, Int.reduceNeg, sg_nil, s1p, x510, x511, x512, x513, x514, x515, x516, x517, hM, z0, Int.toNat_zero]
      repeat' (first | with_reducible apply And.intro | intro _)
      all_goals (try omega)
      refine k_Mo_its (s := i) (w := 0) hM (by omega) (by omega) ?_
      simp only [Nat.add_zero]
      by_cases g : z (4 + 3 * i) = m
      · have eF : F_marked z m = (i : Int) := fsI_s (show i < zn z by omega) (decide_eq_true g) (fun j hj' => decide_eq_false (hj j hj'))
        rw [eF] at h
        refine wp_go b137_18 ?_; simp only [l137_18, sg_iload_1, sg_ic_ne, sg_iload_2, sg_iret0, nLg_n, nLg_i, nLg_r, tc_c, tc_l, tc_r, tc_m, tc_n, tc_o, tc_0, inR, true_and, and_true, ne_eq, not_true_eq_false, not_false_eq_true, true_imp_iff, false_imp_iff, Int.toNat_natCast, lit_a, Nat.reduceAdd, or_true, true_or, or_false, false_or, Int.reduceEq, Int.reduceNe, Int.reduceLT, Int.reduceLE, Int.reduceNeg, sg_nil, s1p, x510, x511, x512, x513, x514, x515, x516, x517]
        repeat' (first | with_reducible apply And.intro | (intro _) | ((first | refine wp_go b137_0 ?_ | refine wp_go b137_18 ?_ | refine wp_go b137_24 ?_ | refine wp_go b137_30 ?_); simp only [l137_0, l137_18, l137_24, l137_30, sg_iconst, sg_istore_2, sg_iload_1, sg_ic_ne, sg_iload_2, sg_iret0, sg_iinc, ldI_2, okS_2, stL_2, sg_goto, nLg_n, nLg_i, nLg_r, tc_c, tc_l, tc_r, tc_m, tc_n, tc_o, tc_0, inR, true_and, and_true, ne_eq, not_true_eq_false, not_false_eq_true, true_imp_iff, false_imp_iff, Int.toNat_natCast, lit_a, Nat.reduceAdd, or_true, true_or, or_false, false_or, Int.reduceEq, Int.reduceNe, Int.reduceLT, Int.reduceLE, Int.reduceNeg, sg_nil, s1p, x510, x511, x512, x513, x514, x515, x516, x517]))
        all_goals (try omega)
        all_goals exact h
      · have ih1 := ih (i + 1) (by omega) (fun j hj' => by
          rcases Nat.lt_or_ge j i with r | r
          · exact hj j r
          · rw [show j = i by omega]; exact g)
        refine wp_go b137_18 ?_; simp only [l137_18, sg_iload_1, sg_ic_ne, sg_iload_2, sg_iret0, nLg_n, nLg_i, nLg_r, tc_c, tc_l, tc_r, tc_m, tc_n, tc_o, tc_0, inR, true_and, and_true, ne_eq, not_true_eq_false, not_false_eq_true, true_imp_iff, false_imp_iff, Int.toNat_natCast, lit_a, Nat.reduceAdd, or_true, true_or, or_false, false_or, Int.reduceEq, Int.reduceNe, Int.reduceLT, Int.reduceLE, Int.reduceNeg, sg_nil, s1p, x510, x511, x512, x513, x514, x515, x516, x517]
        repeat' (first | with_reducible apply And.intro | (intro _) | ((first | refine wp_go b137_0 ?_ | refine wp_go b137_18 ?_ | refine wp_go b137_24 ?_ | refine wp_go b137_30 ?_); simp only [l137_0, l137_18, l137_24, l137_30, sg_iconst, sg_istore_2, sg_iload_1, sg_ic_ne, sg_iload_2, sg_iret0, sg_iinc, ldI_2, okS_2, stL_2, sg_goto, nLg_n, nLg_i, nLg_r, tc_c, tc_l, tc_r, tc_m, tc_n, tc_o, tc_0, inR, true_and, and_true, ne_eq, not_true_eq_false, not_false_eq_true, true_imp_iff, false_imp_iff, Int.toNat_natCast, lit_a, Nat.reduceAdd, or_true, true_or, or_false, false_or, Int.reduceEq, Int.reduceNe, Int.reduceLT, Int.reduceLE, Int.reduceNeg, sg_nil, s1p, x510, x511, x512, x513, x514, x515, x516, x517]))
        all_goals (try omega)
        all_goals exact ih1
  refine wp_go b137_0 ?_; simp only [l137_0, sg_iconst, sg_istore_2, nLg_n, nLg_i, nLg_r, tc_c, tc_l, tc_r, tc_m, tc_n, tc_o, tc_0, inR, true_and, and_true, ne_eq, not_true_eq_false, not_false_eq_true, true_imp_iff, false_imp_iff, Int.toNat_natCast, lit_a, Nat.reduceAdd, or_true, true_or, or_false, false_or, Int.reduceEq, Int.reduceNe, Int.reduceLT, Int.reduceLE, Int.reduceNeg, sg_nil, s1p, x510, x511, x512, x513, x514, x515, x516, x517]
  exact loop (zn z) 0 (by omega) (fun j hj => absurd hj (by omega))
-- Mo.breaksWith: blocks [0, 4, 20, 27, 42, 46, 50, 51, 59, 69, 70, 78]
theorem k_Mo_breaksWith {d : Nat} {Q : QT} {μ : Mem} {t : Int} {z : Rw} (hM : μ 511 = z) (hz : IZ z) (ht : inR t) (h : Q (.inl (sm (brk z t) (zn z))) μ) : Call σ1 (d + 2) 139 [.inr (.inr 510), .inl t] μ Q := by
  refine e_139 ?_
  have q := hz.1
  have e0 := zn_eq hz
  have z0 := e0.1
  unfold inR at ht
  have loop : ∀ k i : Nat, i + k = zn z → ∀ (o4 o5 : Option MV), nLg o4 → nLg o5 → wp σ1 (Call σ1 (d + 1)) 139 Q 4 [some (.inr (.inr 510)), some (.inl t), some (.inl (sm (brk z t) i)), some (.inl (i : Int)), o4, o5] [] μ := by
    intro k
    induction k with
    | zero =>
      intro i hi o4 o5 l4 l5
      have hin : i = zn z := by omega
      subst hin
      refine wp_go b139_4 ?_; simp only [l139_4, sg_iload_3, sg_aload_0, sg_getfp, sg_iconst, sg_iaload, sg_ic_ge, sg_istore, okS_4, stL_4, okS_5, stL_5, nLg_n, nLg_i, nLg_r, tc_c, tc_l, tc_r, tc_m, tc_n, tc_o, tc_0, inR, true_and, and_true, ne_eq, not_true_eq_false, not_false_eq_true, true_imp_iff, false_imp_iff, Int.toNat_natCast, lit_a, Nat.reduceAdd, or_true, true_or, or_false, false_or, Int.reduceEq, Int.reduceNe, Int.reduceLT, Int.reduceLE, Int.reduceNeg, sg_nil, s1p, x510, x511, x512, x513, x514, x515, x516, x517, hM, z0, Int.toNat_zero]
      repeat' (first | with_reducible apply And.intro | intro _)
      all_goals (try omega)
      refine wp_go b139_78 ?_; simp only [l139_78, sg_iload_2, sg_iret0, nLg_n, nLg_i, nLg_r, tc_c, tc_l, tc_r, tc_m, tc_n, tc_o, tc_0, inR, true_and, and_true, ne_eq, not_true_eq_false, not_false_eq_true, true_imp_iff, false_imp_iff, Int.toNat_natCast, lit_a, Nat.reduceAdd, or_true, true_or, or_false, false_or, Int.reduceEq, Int.reduceNe, Int.reduceLT, Int.reduceLE, Int.reduceNeg, sg_nil, s1p, x510, x511, x512, x513, x514, x515, x516, x517]
      exact h
    | succ k ih =>
      intro i hi o4 o5 l4 l5
      obtain ⟨a1, a2, a3, a4, a5⟩ := hz.2.1 i (by omega)
      obtain ⟨m, hm⟩ := nat_of a4.1
      have inner : ∀ c j : Nat, j + c = m → wp σ1 (Call σ1 (d + 1)) 139 Q 20 [some (.inr (.inr 510)), some (.inl t), some (.inl (sm (brk z t) i)), some (.inl (i : Int)), some (.inl (exI (fun j => decide (z (77 + 5 * i + j) = t)) j)), some (.inl (j : Int))] [] μ := by
        intro c
        induction c with
        | zero =>
          intro j hj
          have hjm : j = m := by omega
          subst hjm
          have ih1 := ih (i + 1) (by omega)
          rw [sm_s] at ih1
          have eb : brk z t i = exI (fun j => decide (z (77 + 5 * i + j) = t)) j := by unfold brk; rw [hm, Int.toNat_natCast]
          rw [eb] at ih1
          refine wp_go b139_20 ?_; simp only [l139_20, sg_iload, ldI_5, sg_aload_0, sg_iload_3, sg_iv2_i, len4_0, len4_1, len4_2, len4_3, len4_4, nLg_n, nLg_i, nLg_r, tc_c, tc_l, tc_r, tc_m, tc_n, tc_o, tc_0, inR, true_and, and_true, ne_eq, not_true_eq_false, not_false_eq_true, true_imp_iff, false_imp_iff, Int.toNat_natCast, lit_a, Nat.reduceAdd, or_true, true_or, or_false, false_or, Int.reduceEq, Int.reduceNe, Int.reduceLT, Int.reduceLE, Int.reduceNeg, sg_nil, s1p, x510, x511, x512, x513, x514, x515, x516, x517]
          refine k_Mo_inBreak hM (by omega) ?_
          rw [hm]
          rcases exI_01 (p := fun j => decide (z (77 + 5 * i + j) = t)) j with e | e
          · rw [e] at ih1 ⊢
            refine wp_go b139_27 ?_; simp only [l139_27, sg_ic_ge, sg_iload, ldI_4, sg_if_ne, sg_aload_0, sg_iload_3, ldI_5, sg_iv3_i, len4_0, len4_1, len4_2, len4_3, len4_4, nLg_n, nLg_i, nLg_r, tc_c, tc_l, tc_r, tc_m, tc_n, tc_o, tc_0, inR, true_and, and_true, ne_eq, not_true_eq_false, not_false_eq_true, true_imp_iff, false_imp_iff, Int.toNat_natCast, lit_a, Nat.reduceAdd, or_true, true_or, or_false, false_or, Int.reduceEq, Int.reduceNe, Int.reduceLT, Int.reduceLE, Int.reduceNeg, sg_nil, s1p, x510, x511, x512, x513, x514, x515, x516, x517]
            repeat' (first | with_reducible apply And.intro | (intro _) | ((first | refine wp_go b139_0 ?_ | refine wp_go b139_27 ?_ | refine wp_go b139_42 ?_ | refine wp_go b139_46 ?_ | refine wp_go b139_50 ?_ | refine wp_go b139_51 ?_ | refine wp_go b139_59 ?_ | refine wp_go b139_69 ?_ | refine wp_go b139_70 ?_ | refine wp_go b139_78 ?_); simp only [l139_0, l139_27, l139_42, l139_46, l139_50, l139_51, l139_59, l139_69, l139_70, l139_78, sg_iconst, sg_istore_2, sg_istore_3, sg_ic_ge, sg_iload, ldI_4, sg_if_ne, sg_aload_0, sg_iload_3, ldI_5, sg_iv3_i, len4_0, len4_1, len4_2, len4_3, len4_4, sg_iload_1, sg_ic_ne, sg_goto, sg_istore, okS_4, stL_4, sg_iinc, okS_5, stL_5, sg_iload_2, sg_if_eq, sg_iadd, ldI_3, okS_3, stL_3, sg_iret0, nLg_n, nLg_i, nLg_r, tc_c, tc_l, tc_r, tc_m, tc_n, tc_o, tc_0, inR, true_and, and_true, ne_eq, not_true_eq_false, not_false_eq_true, true_imp_iff, false_imp_iff, Int.toNat_natCast, lit_a, Nat.reduceAdd, or_true, true_or, or_false, false_or, Int.reduceEq, Int.reduceNe, Int.reduceLT, Int.reduceLE, Int.reduceNeg, sg_nil, s1p, x510, x511, x512, x513, x514, x515, x516, x517]))
            all_goals (try omega)
            all_goals first | exact ih1 _ _ trivial trivial | (rw [Int.add_zero] at ih1 ⊢; exact ih1 _ _ trivial trivial)
          · rw [e] at ih1 ⊢
            refine wp_go b139_27 ?_; simp only [l139_27, sg_ic_ge, sg_iload, ldI_4, sg_if_ne, sg_aload_0, sg_iload_3, ldI_5, sg_iv3_i, len4_0, len4_1, len4_2, len4_3, len4_4, nLg_n, nLg_i, nLg_r, tc_c, tc_l, tc_r, tc_m, tc_n, tc_o, tc_0, inR, true_and, and_true, ne_eq, not_true_eq_false, not_false_eq_true, true_imp_iff, false_imp_iff, Int.toNat_natCast, lit_a, Nat.reduceAdd, or_true, true_or, or_false, false_or, Int.reduceEq, Int.reduceNe, Int.reduceLT, Int.reduceLE, Int.reduceNeg, sg_nil, s1p, x510, x511, x512, x513, x514, x515, x516, x517]
            repeat' (first | with_reducible apply And.intro | (intro _) | ((first | refine wp_go b139_0 ?_ | refine wp_go b139_27 ?_ | refine wp_go b139_42 ?_ | refine wp_go b139_46 ?_ | refine wp_go b139_50 ?_ | refine wp_go b139_51 ?_ | refine wp_go b139_59 ?_ | refine wp_go b139_69 ?_ | refine wp_go b139_70 ?_ | refine wp_go b139_78 ?_); simp only [l139_0, l139_27, l139_42, l139_46, l139_50, l139_51, l139_59, l139_69, l139_70, l139_78, sg_iconst, sg_istore_2, sg_istore_3, sg_ic_ge, sg_iload, ldI_4, sg_if_ne, sg_aload_0, sg_iload_3, ldI_5, sg_iv3_i, len4_0, len4_1, len4_2, len4_3, len4_4, sg_iload_1, sg_ic_ne, sg_goto, sg_istore, okS_4, stL_4, sg_iinc, okS_5, stL_5, sg_iload_2, sg_if_eq, sg_iadd, ldI_3, okS_3, stL_3, sg_iret0, nLg_n, nLg_i, nLg_r, tc_c, tc_l, tc_r, tc_m, tc_n, tc_o, tc_0, inR, true_and, and_true, ne_eq, not_true_eq_false, not_false_eq_true, true_imp_iff, false_imp_iff, Int.toNat_natCast, lit_a, Nat.reduceAdd, or_true, true_or, or_false, false_or, Int.reduceEq, Int.reduceNe, Int.reduceLT, Int.reduceLE, Int.reduceNeg, sg_nil, s1p, x510, x511, x512, x513, x514, x515, x516, x517]))
            all_goals (try omega)
            all_goals exact ih1 _ _ trivial trivial
        | succ c ihc =>
          intro j hj
          have ih1 := ihc (j + 1) (by omega)
          rw [exI_s] at ih1
          have nt := a5 j (by omega)
          refine wp_go b139_20 ?_; simp only [l139_20, sg_iload, ldI_5, sg_aload_0, sg_iload_3, sg_iv2_i, len4_0, len4_1, len4_2, len4_3, len4_4, nLg_n, nLg_i, nLg_r, tc_c, tc_l, tc_r, tc_m, tc_n, tc_o, tc_0, inR, true_and, and_true, ne_eq, not_true_eq_false, not_false_eq_true, true_imp_iff, false_imp_iff, Int.toNat_natCast, lit_a, Nat.reduceAdd, or_true, true_or, or_false, false_or, Int.reduceEq, Int.reduceNe, Int.reduceLT, Int.reduceLE, Int.reduceNeg, sg_nil, s1p, x510, x511, x512, x513, x514, x515, x516, x517]
          refine k_Mo_inBreak hM (by omega) ?_
          rw [hm]
          by_cases g : z (77 + 5 * i + j) = t
          · rw [if_pos (decide_eq_true g)] at ih1
            rcases exI_01 (p := fun j => decide (z (77 + 5 * i + j) = t)) j with e | e
            · rw [e]
              refine wp_go b139_27 ?_; simp only [l139_27, sg_ic_ge, sg_iload, ldI_4, sg_if_ne, sg_aload_0, sg_iload_3, ldI_5, sg_iv3_i, len4_0, len4_1, len4_2, len4_3, len4_4, nLg_n, nLg_i, nLg_r, tc_c, tc_l, tc_r, tc_m, tc_n, tc_o, tc_0, inR, true_and, and_true, ne_eq, not_true_eq_false, not_false_eq_true, true_imp_iff, false_imp_iff, Int.toNat_natCast, lit_a, Nat.reduceAdd, or_true, true_or, or_false, false_or, Int.reduceEq, Int.reduceNe, Int.reduceLT, Int.reduceLE, Int.reduceNeg, sg_nil, s1p, x510, x511, x512, x513, x514, x515, x516, x517]
              repeat' (first | with_reducible apply And.intro | (intro _) | refine k_Mo_inRow hM (by omega) (by omega) ?_ | ((first | refine wp_go b139_0 ?_ | refine wp_go b139_27 ?_ | refine wp_go b139_42 ?_ | refine wp_go b139_46 ?_ | refine wp_go b139_50 ?_ | refine wp_go b139_51 ?_ | refine wp_go b139_59 ?_ | refine wp_go b139_69 ?_ | refine wp_go b139_70 ?_ | refine wp_go b139_78 ?_); simp only [l139_0, l139_27, l139_42, l139_46, l139_50, l139_51, l139_59, l139_69, l139_70, l139_78, sg_iconst, sg_istore_2, sg_istore_3, sg_ic_ge, sg_iload, ldI_4, sg_if_ne, sg_aload_0, sg_iload_3, ldI_5, sg_iv3_i, len4_0, len4_1, len4_2, len4_3, len4_4, sg_iload_1, sg_ic_ne, sg_goto, sg_istore, okS_4, stL_4, sg_iinc, okS_5, stL_5, sg_iload_2, sg_if_eq, sg_iadd, ldI_3, okS_3, stL_3, sg_iret0, nLg_n, nLg_i, nLg_r, tc_c, tc_l, tc_r, tc_m, tc_n, tc_o, tc_0, inR, true_and, and_true, ne_eq, not_true_eq_false, not_false_eq_true, true_imp_iff, false_imp_iff, Int.toNat_natCast, lit_a, Nat.reduceAdd, or_true, true_or, or_false, false_or, Int.reduceEq, Int.reduceNe, Int.reduceLT, Int.reduceLE, Int.reduceNeg, sg_nil, s1p, x510, x511, x512, x513, x514, x515, x516, x517]))
              all_goals (try omega)
              all_goals exact ih1
            · rw [e]
              refine wp_go b139_27 ?_; simp only [l139_27, sg_ic_ge, sg_iload, ldI_4, sg_if_ne, sg_aload_0, sg_iload_3, ldI_5, sg_iv3_i, len4_0, len4_1, len4_2, len4_3, len4_4, nLg_n, nLg_i, nLg_r, tc_c, tc_l, tc_r, tc_m, tc_n, tc_o, tc_0, inR, true_and, and_true, ne_eq, not_true_eq_false, not_false_eq_true, true_imp_iff, false_imp_iff, Int.toNat_natCast, lit_a, Nat.reduceAdd, or_true, true_or, or_false, false_or, Int.reduceEq, Int.reduceNe, Int.reduceLT, Int.reduceLE, Int.reduceNeg, sg_nil, s1p, x510, x511, x512, x513, x514, x515, x516, x517]
              repeat' (first | with_reducible apply And.intro | (intro _) | refine k_Mo_inRow hM (by omega) (by omega) ?_ | ((first | refine wp_go b139_0 ?_ | refine wp_go b139_27 ?_ | refine wp_go b139_42 ?_ | refine wp_go b139_46 ?_ | refine wp_go b139_50 ?_ | refine wp_go b139_51 ?_ | refine wp_go b139_59 ?_ | refine wp_go b139_69 ?_ | refine wp_go b139_70 ?_ | refine wp_go b139_78 ?_); simp only [l139_0, l139_27, l139_42, l139_46, l139_50, l139_51, l139_59, l139_69, l139_70, l139_78, sg_iconst, sg_istore_2, sg_istore_3, sg_ic_ge, sg_iload, ldI_4, sg_if_ne, sg_aload_0, sg_iload_3, ldI_5, sg_iv3_i, len4_0, len4_1, len4_2, len4_3, len4_4, sg_iload_1, sg_ic_ne, sg_goto, sg_istore, okS_4, stL_4, sg_iinc, okS_5, stL_5, sg_iload_2, sg_if_eq, sg_iadd, ldI_3, okS_3, stL_3, sg_iret0, nLg_n, nLg_i, nLg_r, tc_c, tc_l, tc_r, tc_m, tc_n, tc_o, tc_0, inR, true_and, and_true, ne_eq, not_true_eq_false, not_false_eq_true, true_imp_iff, false_imp_iff, Int.toNat_natCast, lit_a, Nat.reduceAdd, or_true, true_or, or_false, false_or, Int.reduceEq, Int.reduceNe, Int.reduceLT, Int.reduceLE, Int.reduceNeg, sg_nil, s1p, x510, x511, x512, x513, x514, x515, x516, x517]))
              all_goals (try omega)
              all_goals exact ih1
          · rw [if_neg (by rw [decide_eq_false g]; decide)] at ih1
            rcases exI_01 (p := fun j => decide (z (77 + 5 * i + j) = t)) j with e | e
            · rw [e] at ih1 ⊢
              refine wp_go b139_27 ?_; simp only [l139_27, sg_ic_ge, sg_iload, ldI_4, sg_if_ne, sg_aload_0, sg_iload_3, ldI_5, sg_iv3_i, len4_0, len4_1, len4_2, len4_3, len4_4, nLg_n, nLg_i, nLg_r, tc_c, tc_l, tc_r, tc_m, tc_n, tc_o, tc_0, inR, true_and, and_true, ne_eq, not_true_eq_false, not_false_eq_true, true_imp_iff, false_imp_iff, Int.toNat_natCast, lit_a, Nat.reduceAdd, or_true, true_or, or_false, false_or, Int.reduceEq, Int.reduceNe, Int.reduceLT, Int.reduceLE, Int.reduceNeg, sg_nil, s1p, x510, x511, x512, x513, x514, x515, x516, x517]
              repeat' (first | with_reducible apply And.intro | (intro _) | refine k_Mo_inRow hM (by omega) (by omega) ?_ | ((first | refine wp_go b139_0 ?_ | refine wp_go b139_27 ?_ | refine wp_go b139_42 ?_ | refine wp_go b139_46 ?_ | refine wp_go b139_50 ?_ | refine wp_go b139_51 ?_ | refine wp_go b139_59 ?_ | refine wp_go b139_69 ?_ | refine wp_go b139_70 ?_ | refine wp_go b139_78 ?_); simp only [l139_0, l139_27, l139_42, l139_46, l139_50, l139_51, l139_59, l139_69, l139_70, l139_78, sg_iconst, sg_istore_2, sg_istore_3, sg_ic_ge, sg_iload, ldI_4, sg_if_ne, sg_aload_0, sg_iload_3, ldI_5, sg_iv3_i, len4_0, len4_1, len4_2, len4_3, len4_4, sg_iload_1, sg_ic_ne, sg_goto, sg_istore, okS_4, stL_4, sg_iinc, okS_5, stL_5, sg_iload_2, sg_if_eq, sg_iadd, ldI_3, okS_3, stL_3, sg_iret0, nLg_n, nLg_i, nLg_r, tc_c, tc_l, tc_r, tc_m, tc_n, tc_o, tc_0, inR, true_and, and_true, ne_eq, not_true_eq_false, not_false_eq_true, true_imp_iff, false_imp_iff, Int.toNat_natCast, lit_a, Nat.reduceAdd, or_true, true_or, or_false, false_or, Int.reduceEq, Int.reduceNe, Int.reduceLT, Int.reduceLE, Int.reduceNeg, sg_nil, s1p, x510, x511, x512, x513, x514, x515, x516, x517]))
              all_goals (try omega)
              all_goals exact ih1
            · rw [e] at ih1 ⊢
              refine wp_go b139_27 ?_; simp only [l139_27, sg_ic_ge, sg_iload, ldI_4, sg_if_ne, sg_aload_0, sg_iload_3, ldI_5, sg_iv3_i, len4_0, len4_1, len4_2, len4_3, len4_4, nLg_n, nLg_i, nLg_r, tc_c, tc_l, tc_r, tc_m, tc_n, tc_o, tc_0, inR, true_and, and_true, ne_eq, not_true_eq_false, not_false_eq_true, true_imp_iff, false_imp_iff, Int.toNat_natCast, lit_a, Nat.reduceAdd, or_true, true_or, or_false, false_or, Int.reduceEq, Int.reduceNe, Int.reduceLT, Int.reduceLE, Int.reduceNeg, sg_nil, s1p, x510, x511, x512, x513, x514, x515, x516, x517]
              repeat' (first | with_reducible apply And.intro | (intro _) | refine k_Mo_inRow hM (by omega) (by omega) ?_ | ((first | refine wp_go b139_0 ?_ | refine wp_go b139_27 ?_ | refine wp_go b139_42 ?_ | refine wp_go b139_46 ?_ | refine wp_go b139_50 ?_ | refine wp_go b139_51 ?_ | refine wp_go b139_59 ?_ | refine wp_go b139_69 ?_ | refine wp_go b139_70 ?_ | refine wp_go b139_78 ?_); simp only [l139_0, l139_27, l139_42, l139_46, l139_50, l139_51, l139_59, l139_69, l139_70, l139_78, sg_iconst, sg_istore_2, sg_istore_3, sg_ic_ge, sg_iload, ldI_4, sg_if_ne, sg_aload_0, sg_iload_3, ldI_5, sg_iv3_i, len4_0, len4_1, len4_2, len4_3, len4_4, sg_iload_1, sg_ic_ne, sg_goto, sg_istore, okS_4, stL_4, sg_iinc, okS_5, stL_5, sg_iload_2, sg_if_eq, sg_iadd, ldI_3, okS_3, stL_3, sg_iret0, nLg_n, nLg_i, nLg_r, tc_c, tc_l, tc_r, tc_m, tc_n, tc_o, tc_0, inR, true_and, and_true, ne_eq, not_true_eq_false, not_false_eq_true, true_imp_iff, false_imp_iff, Int.toNat_natCast, lit_a, Nat.reduceAdd, or_true, true_or, or_false, false_or, Int.reduceEq, Int.reduceNe, Int.reduceLT, Int.reduceLE, Int.reduceNeg, sg_nil, s1p, x510, x511, x512, x513, x514, x515, x516, x517]))
              all_goals (try omega)
              all_goals exact ih1
      have st := inner m 0 (by omega)
      refine wp_go b139_4 ?_; simp only [l139_4, sg_iload_3, sg_aload_0, sg_getfp, sg_iconst, sg_iaload, sg_ic_ge, sg_istore, okS_4, stL_4, okS_5, stL_5, nLg_n, nLg_i, nLg_r, tc_c, tc_l, tc_r, tc_m, tc_n, tc_o, tc_0, inR, true_and, and_true, ne_eq, not_true_eq_false, not_false_eq_true, true_imp_iff, false_imp_iff, Int.toNat_natCast, lit_a, Nat.reduceAdd, or_true, true_or, or_false, false_or, Int.reduceEq, Int.reduceNe, Int.reduceLT, Int.reduceLE, Int.reduceNeg, sg_nil, s1p, x510, x511, x512, x513, x514, x515, x516, x517, hM, z0, Int.toNat_zero, l4, l5]
      repeat' (first | with_reducible apply And.intro | intro _)
      all_goals (try omega)
      exact st
  refine wp_go b139_0 ?_; simp only [l139_0, sg_iconst, sg_istore_2, sg_istore_3, nLg_n, nLg_i, nLg_r, tc_c, tc_l, tc_r, tc_m, tc_n, tc_o, tc_0, inR, true_and, and_true, ne_eq, not_true_eq_false, not_false_eq_true, true_imp_iff, false_imp_iff, Int.toNat_natCast, lit_a, Nat.reduceAdd, or_true, true_or, or_false, false_or, Int.reduceEq, Int.reduceNe, Int.reduceLT, Int.reduceLE, Int.reduceNeg, sg_nil, s1p, x510, x511, x512, x513, x514, x515, x516, x517]
  exact loop (zn z) 0 (by omega) none none trivial trivial
