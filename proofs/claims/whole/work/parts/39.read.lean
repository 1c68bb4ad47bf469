def nSl (f : Nat → Int) (n : Nat) : Int := sm (fun i => bI (f i = 47)) n
def hiF (f : Nat → Int) : Nat → Int
  | 0 => -1
  | n + 1 => if 48 ≤ f n ∧ f n ≤ 55 then (if hiF f n < f n - 48 then f n - 48 else hiF f n) else hiF f n
theorem hiF_b (f : Nat → Int) : ∀ n : Nat, -1 ≤ hiF f n ∧ hiF f n ≤ 7
  | 0 => by simp [hiF]
  | n + 1 => by
    have := hiF_b f n
    unfold hiF
    split
    · split <;> omega
    · omega
theorem hiF_lt {f : Nat → Int} {m : Int} (hm : 0 ≤ m) : ∀ n : Nat, hiF f n < m ↔ ∀ i, i < n → 48 ≤ f i → f i ≤ 55 → f i - 48 < m
  | 0 => by simp only [hiF]; exact ⟨fun _ i hi => absurd hi (by omega), fun _ => by omega⟩
  | n + 1 => by
    have ih := hiF_lt (f := f) hm n
    unfold hiF
    constructor
    · intro h i hi h1 h2
      split at h
      · rcases Nat.lt_or_ge i n with hh | hh
        · refine ih.mp ?_ i hh h1 h2
          split at h <;> omega
        · rw [show i = n by omega]
          split at h <;> omega
      · rename_i hx
        rcases Nat.lt_or_ge i n with hh | hh
        · exact ih.mp h i hh h1 h2
        · have : i = n := by omega
          subst this
          exact absurd ⟨h1, h2⟩ hx
    · intro h
      have h0 := ih.mpr (fun i hi => h i (by omega))
      split
      · rename_i hx
        have := h n (by omega) hx.1 hx.2
        split <;> omega
      · exact h0
theorem nSl_b (f : Nat → Int) (n : Nat) : 0 ≤ nSl f n ∧ nSl f n ≤ n := by
  have := sm_b (f := fun i => bI (f i = 47)) (b := 1) (n := n) (fun i _ => by show 0 ≤ bI _ ∧ bI _ ≤ 1; unfold bI; split <;> omega)
  unfold nSl; omega
theorem nSl_m (f : Nat → Int) {m n : Nat} (h : m ≤ n) : nSl f m ≤ nSl f n := sm_mono h (fun i _ => by show 0 ≤ bI _; unfold bI; split <;> omega)
-- Pad.countRows: blocks [0, 4, 28, 29, 32, 40]
theorem k_Pad_countRows {d : Nat} {Q : QT} {μ : Mem} {n : Nat} {f : Nat → Int} (hn : n ≤ 60) (h1 : μ 390 1 = (n : Int)) (h2 : ∀ i, i < n → 33 ≤ f i ∧ f i ≤ 126 ∧ μ 391 i = f i) (h : Q (.inl (1 + nSl f n)) μ) : Call σ1 (d + 2) 22 [.inr (.inr 390)] μ Q := by
  refine e_22 ?_
  have loop : ∀ k i : Nat, i + k = n → wp σ1 (Call σ1 (d + 1)) 22 Q 4 [some (.inr (.inr 390)), some (.inl (1 + nSl f i)), some (.inl (i : Int))] [] μ := by
    intro k
    induction k with
    | zero =>
      intro i hi
      have hin : i = n := by omega
      subst hin
      refine wp_go b22_4 ?_; simp only [l22_4, sg_iload_2, sg_aload_0, sg_getf0, sg_ic_ge, sg_iload_1, sg_getfp, sg_caload, sg_bipush, sg_ic_ne, sg_iconst, sg_goto, nLg_n, nLg_i, nLg_r, tc_c, tc_l, tc_r, tc_m, tc_n, tc_o, tc_0, inR, true_and, and_true, ne_eq, not_true_eq_false, not_false_eq_true, true_imp_iff, false_imp_iff, Int.toNat_natCast, lit_a, Nat.reduceAdd, or_true, true_or, or_false, false_or, Int.reduceEq, Int.reduceNe, Int.reduceLT, Int.reduceLE, Int.reduceNeg, sg_nil, s1p, x0, x1, x2, x3, x4, x5, x6, x7, x8, x9, x10, x11, x12, x13, x56, x57, x388, x389, x390, x391, x392, x393, x394, x395, x396, x397, x398, x399, h1]
      repeat' (first | with_reducible apply And.intro | (intro _) | ((first | refine wp_go b22_0 ?_ | refine wp_go b22_28 ?_ | refine wp_go b22_29 ?_ | refine wp_go b22_32 ?_ | refine wp_go b22_40 ?_); simp only [l22_0, l22_28, l22_29, l22_32, l22_40, sg_iconst, sg_istore_1, sg_istore_2, len4_0, len4_1, len4_2, len4_3, len4_4, sg_is1_2, sg_iadd, sg_iinc, ldI_2, okS_2, stL_2, sg_goto, sg_iload_1, sg_iret0, nLg_n, nLg_i, nLg_r, tc_c, tc_l, tc_r, tc_m, tc_n, tc_o, tc_0, inR, true_and, and_true, ne_eq, not_true_eq_false, not_false_eq_true, true_imp_iff, false_imp_iff, Int.toNat_natCast, lit_a, Nat.reduceAdd, or_true, true_or, or_false, false_or, Int.reduceEq, Int.reduceNe, Int.reduceLT, Int.reduceLE, Int.reduceNeg, sg_nil]))
      all_goals (try omega)
      all_goals exact h
    | succ k ih =>
      intro i hi
      obtain ⟨c1, c2, c3⟩ := h2 i (by omega)
      have nb := nSl_b f i
      have ih1 := ih (i + 1) (by omega)
      have e : 1 + nSl f (i + 1) = 1 + nSl f i + bI (f i = 47) := by unfold nSl; rw [sm_s]; omega
      rw [e] at ih1
      by_cases g : f i = 47
      · rw [show bI (f i = 47) = 1 from by unfold bI; rw [if_pos g]] at ih1
        rw [g] at c3
        refine wp_go b22_4 ?_; simp only [l22_4, sg_iload_2, sg_aload_0, sg_getf0, sg_ic_ge, sg_iload_1, sg_getfp, sg_caload, sg_bipush, sg_ic_ne, sg_iconst, sg_goto, nLg_n, nLg_i, nLg_r, tc_c, tc_l, tc_r, tc_m, tc_n, tc_o, tc_0, inR, true_and, and_true, ne_eq, not_true_eq_false, not_false_eq_true, true_imp_iff, false_imp_iff, Int.toNat_natCast, lit_a, Nat.reduceAdd, or_true, true_or, or_false, false_or, Int.reduceEq, Int.reduceNe, Int.reduceLT, Int.reduceLE, Int.reduceNeg, sg_nil, s1p, x0, x1, x2, x3, x4, x5, x6, x7, x8, x9, x10, x11, x12, x13, x56, x57, x388, x389, x390, x391, x392, x393, x394, x395, x396, x397, x398, x399, h1, c3]
        repeat' (first | with_reducible apply And.intro | (intro _) | refine k_NS_asNumber (Or.inr rfl) ?_ | ((first | refine wp_go b22_0 ?_ | refine wp_go b22_28 ?_ | refine wp_go b22_29 ?_ | refine wp_go b22_32 ?_ | refine wp_go b22_40 ?_); simp only [l22_0, l22_28, l22_29, l22_32, l22_40, sg_iconst, sg_istore_1, sg_istore_2, len4_0, len4_1, len4_2, len4_3, len4_4, sg_is1_2, sg_iadd, sg_iinc, ldI_2, okS_2, stL_2, sg_goto, sg_iload_1, sg_iret0, nLg_n, nLg_i, nLg_r, tc_c, tc_l, tc_r, tc_m, tc_n, tc_o, tc_0, inR, true_and, and_true, ne_eq, not_true_eq_false, not_false_eq_true, true_imp_iff, false_imp_iff, Int.toNat_natCast, lit_a, Nat.reduceAdd, or_true, true_or, or_false, false_or, Int.reduceEq, Int.reduceNe, Int.reduceLT, Int.reduceLE, Int.reduceNeg, sg_nil]))
        all_goals (try omega)
        all_goals exact ih1
      · rw [show bI (f i = 47) = 0 from by unfold bI; rw [if_neg g]] at ih1
        refine wp_go b22_4 ?_; simp only [l22_4, sg_iload_2, sg_aload_0, sg_getf0, sg_ic_ge, sg_iload_1, sg_getfp, sg_caload, sg_bipush, sg_ic_ne, sg_iconst, sg_goto, nLg_n, nLg_i, nLg_r, tc_c, tc_l, tc_r, tc_m, tc_n, tc_o, tc_0, inR, true_and, and_true, ne_eq, not_true_eq_false, not_false_eq_true, true_imp_iff, false_imp_iff, Int.toNat_natCast, lit_a, Nat.reduceAdd, or_true, true_or, or_false, false_or, Int.reduceEq, Int.reduceNe, Int.reduceLT, Int.reduceLE, Int.reduceNeg, sg_nil, s1p, x0, x1, x2, x3, x4, x5, x6, x7, x8, x9, x10, x11, x12, x13, x56, x57, x388, x389, x390, x391, x392, x393, x394, x395, x396, x397, x398, x399, h1, c3]
        repeat' (first | with_reducible apply And.intro | (intro _) | refine k_NS_asNumber (Or.inl rfl) ?_ | ((first | refine wp_go b22_0 ?_ | refine wp_go b22_28 ?_ | refine wp_go b22_29 ?_ | refine wp_go b22_32 ?_ | refine wp_go b22_40 ?_); simp only [l22_0, l22_28, l22_29, l22_32, l22_40, sg_iconst, sg_istore_1, sg_istore_2, len4_0, len4_1, len4_2, len4_3, len4_4, sg_is1_2, sg_iadd, sg_iinc, ldI_2, okS_2, stL_2, sg_goto, sg_iload_1, sg_iret0, nLg_n, nLg_i, nLg_r, tc_c, tc_l, tc_r, tc_m, tc_n, tc_o, tc_0, inR, true_and, and_true, ne_eq, not_true_eq_false, not_false_eq_true, true_imp_iff, false_imp_iff, Int.toNat_natCast, lit_a, Nat.reduceAdd, or_true, true_or, or_false, false_or, Int.reduceEq, Int.reduceNe, Int.reduceLT, Int.reduceLE, Int.reduceNeg, sg_nil]))
        all_goals (try omega)
        all_goals exact ih1
  refine wp_go b22_0 ?_; simp only [l22_0, sg_iconst, sg_istore_1, sg_istore_2, nLg_n, nLg_i, nLg_r, tc_c, tc_l, tc_r, tc_m, tc_n, tc_o, tc_0, inR, true_and, and_true, ne_eq, not_true_eq_false, not_false_eq_true, true_imp_iff, false_imp_iff, Int.toNat_natCast, lit_a, Nat.reduceAdd, or_true, true_or, or_false, false_or, Int.reduceEq, Int.reduceNe, Int.reduceLT, Int.reduceLE, Int.reduceNeg, sg_nil]
  exact loop n 0 (by omega)
-- Pad.highestNotice: blocks [0, 4, 21, 38, 44]
theorem k_Pad_highestNotice {d : Nat} {Q : QT} {μ : Mem} {n : Nat} {f : Nat → Int} (hn : n ≤ 60) (h1 : μ 390 1 = (n : Int)) (h2 : ∀ i, i < n → 33 ≤ f i ∧ f i ≤ 126 ∧ μ 391 i = f i) (h : Q (.inl (hiF f n)) μ) : Call σ1 (d + 2) 23 [.inr (.inr 390)] μ Q := by
  refine e_23 ?_
  have loop : ∀ k i : Nat, i + k = n → wp σ1 (Call σ1 (d + 1)) 23 Q 4 [some (.inr (.inr 390)), some (.inl (hiF f i)), some (.inl (i : Int))] [] μ := by
    intro k
    induction k with
    | zero =>
      intro i hi
      have hin : i = n := by omega
      subst hin
      refine wp_go b23_4 ?_; simp only [l23_4, sg_iload_2, sg_aload_0, sg_getf0, sg_ic_ge, sg_getfp, sg_caload, len4_0, len4_1, len4_2, len4_3, len4_4, sg_is1_1, nLg_n, nLg_i, nLg_r, tc_c, tc_l, tc_r, tc_m, tc_n, tc_o, tc_0, inR, true_and, and_true, ne_eq, not_true_eq_false, not_false_eq_true, true_imp_iff, false_imp_iff, Int.toNat_natCast, lit_a, Nat.reduceAdd, or_true, true_or, or_false, false_or, Int.reduceEq, Int.reduceNe, Int.reduceLT, Int.reduceLE, Int.reduceNeg, sg_nil, s1p, x0, x1, x2, x3, x4, x5, x6, x7, x8, x9, x10, x11, x12, x13, x56, x57, x388, x389, x390, x391, x392, x393, x394, x395, x396, x397, x398, x399, h1]
      repeat' (first | with_reducible apply And.intro | (intro _) | ((first | refine wp_go b23_0 ?_ | refine wp_go b23_21 ?_ | refine wp_go b23_38 ?_ | refine wp_go b23_44 ?_); simp only [l23_0, l23_21, l23_38, l23_44, sg_iconst, sg_istore_1, sg_istore_2, sg_if_eq, sg_iload_1, sg_aload_0, sg_getfp, sg_iload_2, sg_caload, sg_bipush, sg_isub, len4_0, len4_1, len4_2, len4_3, len4_4, sg_max, sg_iinc, ldI_2, okS_2, stL_2, sg_goto, sg_iret0, nLg_n, nLg_i, nLg_r, tc_c, tc_l, tc_r, tc_m, tc_n, tc_o, tc_0, inR, true_and, and_true, ne_eq, not_true_eq_false, not_false_eq_true, true_imp_iff, false_imp_iff, Int.toNat_natCast, lit_a, Nat.reduceAdd, or_true, true_or, or_false, false_or, Int.reduceEq, Int.reduceNe, Int.reduceLT, Int.reduceLE, Int.reduceNeg, sg_nil]))
      all_goals (try omega)
      all_goals exact h
    | succ k ih =>
      intro i hi
      obtain ⟨c1, c2, c3⟩ := h2 i (by omega)
      have nb := hiF_b f i
      have ih1 := ih (i + 1) (by omega)
      have e : hiF f (i + 1) = if 48 ≤ f i ∧ f i ≤ 55 then (if hiF f i < f i - 48 then f i - 48 else hiF f i) else hiF f i := rfl
      rw [e] at ih1
      refine wp_go b23_4 ?_; simp only [l23_4, sg_iload_2, sg_aload_0, sg_getf0, sg_ic_ge, sg_getfp, sg_caload, len4_0, len4_1, len4_2, len4_3, len4_4, sg_is1_1, nLg_n, nLg_i, nLg_r, tc_c, tc_l, tc_r, tc_m, tc_n, tc_o, tc_0, inR, true_and, and_true, ne_eq, not_true_eq_false, not_false_eq_true, true_imp_iff, false_imp_iff, Int.toNat_natCast, lit_a, Nat.reduceAdd, or_true, true_or, or_false, false_or, Int.reduceEq, Int.reduceNe, Int.reduceLT, Int.reduceLE, Int.reduceNeg, sg_nil, s1p, x0, x1, x2, x3, x4, x5, x6, x7, x8, x9, x10, x11, x12, x13, x56, x57, x388, x389, x390, x391, x392, x393, x394, x395, x396, x397, x398, x399, h1, c3]
      repeat' (first | with_reducible apply And.intro | intro _)
      all_goals (try omega)
      refine k_Pad_isNotice (by unfold inR; omega) (fun g1 g2 => ?_) (fun g => ?_)
      · rw [if_pos ⟨g1, g2⟩] at ih1
        by_cases g : hiF f i < f i - 48
        · rw [if_pos g] at ih1
          refine wp_go b23_21 ?_; simp only [l23_21, sg_if_eq, sg_iload_1, sg_aload_0, sg_getfp, sg_iload_2, sg_caload, sg_bipush, sg_isub, len4_0, len4_1, len4_2, len4_3, len4_4, sg_max, sg_istore_1, nLg_n, nLg_i, nLg_r, tc_c, tc_l, tc_r, tc_m, tc_n, tc_o, tc_0, inR, true_and, and_true, ne_eq, not_true_eq_false, not_false_eq_true, true_imp_iff, false_imp_iff, Int.toNat_natCast, lit_a, Nat.reduceAdd, or_true, true_or, or_false, false_or, Int.reduceEq, Int.reduceNe, Int.reduceLT, Int.reduceLE, Int.reduceNeg, sg_nil, s1p, x0, x1, x2, x3, x4, x5, x6, x7, x8, x9, x10, x11, x12, x13, x56, x57, x388, x389, x390, x391, x392, x393, x394, x395, x396, x397, x398, x399, c3]
          repeat' (first | with_reducible apply And.intro | (intro _) | ((first | refine wp_go b23_0 ?_ | refine wp_go b23_21 ?_ | refine wp_go b23_38 ?_ | refine wp_go b23_44 ?_); simp only [l23_0, l23_21, l23_38, l23_44, sg_iconst, sg_istore_1, sg_istore_2, sg_if_eq, sg_iload_1, sg_aload_0, sg_getfp, sg_iload_2, sg_caload, sg_bipush, sg_isub, len4_0, len4_1, len4_2, len4_3, len4_4, sg_max, sg_iinc, ldI_2, okS_2, stL_2, sg_goto, sg_iret0, nLg_n, nLg_i, nLg_r, tc_c, tc_l, tc_r, tc_m, tc_n, tc_o, tc_0, inR, true_and, and_true, ne_eq, not_true_eq_false, not_false_eq_true, true_imp_iff, false_imp_iff, Int.toNat_natCast, lit_a, Nat.reduceAdd, or_true, true_or, or_false, false_or, Int.reduceEq, Int.reduceNe, Int.reduceLT, Int.reduceLE, Int.reduceNeg, sg_nil]))
          all_goals (try omega)
          all_goals first | exact ih1 | (rw [if_pos (by omega)]; exact ih1) | (rw [if_neg (by omega)]; exact ih1)
        · rw [if_neg g] at ih1
          refine wp_go b23_21 ?_; simp only [l23_21, sg_if_eq, sg_iload_1, sg_aload_0, sg_getfp, sg_iload_2, sg_caload, sg_bipush, sg_isub, len4_0, len4_1, len4_2, len4_3, len4_4, sg_max, sg_istore_1, nLg_n, nLg_i, nLg_r, tc_c, tc_l, tc_r, tc_m, tc_n, tc_o, tc_0, inR, true_and, and_true, ne_eq, not_true_eq_false, not_false_eq_true, true_imp_iff, false_imp_iff, Int.toNat_natCast, lit_a, Nat.reduceAdd, or_true, true_or, or_false, false_or, Int.reduceEq, Int.reduceNe, Int.reduceLT, Int.reduceLE, Int.reduceNeg, sg_nil, s1p, x0, x1, x2, x3, x4, x5, x6, x7, x8, x9, x10, x11, x12, x13, x56, x57, x388, x389, x390, x391, x392, x393, x394, x395, x396, x397, x398, x399, c3]
          repeat' (first | with_reducible apply And.intro | (intro _) | ((first | refine wp_go b23_0 ?_ | refine wp_go b23_21 ?_ | refine wp_go b23_38 ?_ | refine wp_go b23_44 ?_); simp only [l23_0, l23_21, l23_38, l23_44, sg_iconst, sg_istore_1, sg_istore_2, sg_if_eq, sg_iload_1, sg_aload_0, sg_getfp, sg_iload_2, sg_caload, sg_bipush, sg_isub, len4_0, len4_1, len4_2, len4_3, len4_4, sg_max, sg_iinc, ldI_2, okS_2, stL_2, sg_goto, sg_iret0, nLg_n, nLg_i, nLg_r, tc_c, tc_l, tc_r, tc_m, tc_n, tc_o, tc_0, inR, true_and, and_true, ne_eq, not_true_eq_false, not_false_eq_true, true_imp_iff, false_imp_iff, Int.toNat_natCast, lit_a, Nat.reduceAdd, or_true, true_or, or_false, false_or, Int.reduceEq, Int.reduceNe, Int.reduceLT, Int.reduceLE, Int.reduceNeg, sg_nil]))
          all_goals (try omega)
          all_goals first | exact ih1 | (rw [if_pos (by omega)]; exact ih1) | (rw [if_neg (by omega)]; exact ih1)
      · rw [if_neg (by omega)] at ih1
        refine wp_go b23_21 ?_; simp only [l23_21, sg_if_eq, sg_iload_1, sg_aload_0, sg_getfp, sg_iload_2, sg_caload, sg_bipush, sg_isub, len4_0, len4_1, len4_2, len4_3, len4_4, sg_max, sg_istore_1, nLg_n, nLg_i, nLg_r, tc_c, tc_l, tc_r, tc_m, tc_n, tc_o, tc_0, inR, true_and, and_true, ne_eq, not_true_eq_false, not_false_eq_true, true_imp_iff, false_imp_iff, Int.toNat_natCast, lit_a, Nat.reduceAdd, or_true, true_or, or_false, false_or, Int.reduceEq, Int.reduceNe, Int.reduceLT, Int.reduceLE, Int.reduceNeg, sg_nil]
        repeat' (first | with_reducible apply And.intro | (intro _) | ((first | refine wp_go b23_0 ?_ | refine wp_go b23_21 ?_ | refine wp_go b23_38 ?_ | refine wp_go b23_44 ?_); simp only [l23_0, l23_21, l23_38, l23_44, sg_iconst, sg_istore_1, sg_istore_2, sg_if_eq, sg_iload_1, sg_aload_0, sg_getfp, sg_iload_2, sg_caload, sg_bipush, sg_isub, len4_0, len4_1, len4_2, len4_3, len4_4, sg_max, sg_iinc, ldI_2, okS_2, stL_2, sg_goto, sg_iret0, nLg_n, nLg_i, nLg_r, tc_c, tc_l, tc_r, tc_m, tc_n, tc_o, tc_0, inR, true_and, and_true, ne_eq, not_true_eq_false, not_false_eq_true, true_imp_iff, false_imp_iff, Int.toNat_natCast, lit_a, Nat.reduceAdd, or_true, true_or, or_false, false_or, Int.reduceEq, Int.reduceNe, Int.reduceLT, Int.reduceLE, Int.reduceNeg, sg_nil]))
        all_goals (try omega)
        all_goals exact ih1
  refine wp_go b23_0 ?_; simp only [l23_0, sg_iconst, sg_istore_1, sg_istore_2, nLg_n, nLg_i, nLg_r, tc_c, tc_l, tc_r, tc_m, tc_n, tc_o, tc_0, inR, true_and, and_true, ne_eq, not_true_eq_false, not_false_eq_true, true_imp_iff, false_imp_iff, Int.toNat_natCast, lit_a, Nat.reduceAdd, or_true, true_or, or_false, false_or, Int.reduceEq, Int.reduceNe, Int.reduceLT, Int.reduceLE, Int.reduceNeg, sg_nil]
  exact loop n 0 (by omega)
/-- the rows taken from the text -/
def tkF (f : Nat → Int) (z : Rw) : Nat → Rw × Nat
  | 0 => (emZ z 0, 0)
  | n + 1 => if f n = 47 then (emZ (tkF f z n).1 ((tkF f z n).2 + 1), (tkF f z n).2 + 1) else if 48 ≤ f n ∧ f n ≤ 55 then (bookZ (tkF f z n).1 (tkF f z n).2 (f n - 48), (tkF f z n).2) else tkF f z n
theorem pst_pre {f : Nat → Int} {n r c : Nat} {o : Bool} (h : pst f (n + 1) = some (r, c, o)) : ∃ r' c' o', pst f n = some (r', c', o') ∧ stD f n r' c' o' = some (r, c, o) := by
  cases e : pst f n with
  | none => rw [pst_n e] at h; exact absurd h (by simp)
  | some q =>
    obtain ⟨r', c', o'⟩ := q
    exact ⟨r', c', o', rfl, by rw [← pst_s e]; exact h⟩
theorem stD_c {f : Nat → Int} {n r c r' c' : Nat} {o o' : Bool} (h : stD f n r' c' o' = some (r, c, o)) : (f n = 47 ∧ r = r' + 1 ∧ c = 0) ∨ (f n = 46 ∧ r = r' ∧ c = c') ∨ (48 ≤ f n ∧ f n ≤ 55 ∧ r = r' ∧ c = c' + 1 ∧ c' < 4) := by
  unfold stD at h
  split at h
  · split at h
    · injection h with h; injection h with h1 h; injection h with h2 h3
      left; omega
    · exact absurd h (by simp)
  · split at h
    · split at h
      · injection h with h; injection h with h1 h; injection h with h2 h3
        right; left; omega
      · exact absurd h (by simp)
    · split at h
      · exact absurd h (by simp)
      · rename_i hh
        injection h with h; injection h with h1 h; injection h with h2 h3
        have h4 : ¬ (4 ≤ c' ∨ f n < 48 ∨ 55 < f n) := fun hx => hh (Or.inr hx)
        right; right; omega
theorem tkF_inv {f : Nat → Int} {z : Rw} {m : Nat} (hz : IZ z) (hr : 1 + nSl f m ≤ z 0) (hh : hiF f m < z 2) : ∀ (i : Nat), i ≤ m → ∀ (r c : Nat) (o : Bool), pst f i = some (r, c, o) → IZ (tkF f z i).1 ∧ (tkF f z i).2 = r ∧ nSl f i = (r : Int) ∧ (tkF f z i).1 (76 + 5 * r) = (c : Int) ∧ ∀ k, k < 76 ∨ 196 ≤ k → (tkF f z i).1 k = z k := by
  have q := hz.1
  intro i
  induction i with
  | zero =>
    intro _ r c o h
    have h : some (0, 0, false) = some (r, c, o) := h
    injection h with h; injection h with h1 h; injection h with h2 h3
    subst h1; subst h2
    exact ⟨IZ_em hz (by omega), rfl, rfl, emZ_s z 0, fun k hk => emZ_o z 0 (by omega)⟩
  | succ i ih =>
    intro hi r c o h
    obtain ⟨r', c', o', h1, h2⟩ := pst_pre h
    obtain ⟨i1, i2, i3, i4, i5⟩ := ih (by omega) r' c' o' h1
    have nm := nSl_m f (show i + 1 ≤ m from hi)
    have b0 : (tkF f z i).1 0 = z 0 := i5 0 (by omega)
    have b2 : (tkF f z i).1 2 = z 2 := i5 2 (by omega)
    have ns : nSl f (i + 1) = nSl f i + bI (f i = 47) := by unfold nSl; rw [sm_s]
    have hd := (hiF_lt (f := f) (m := z 2) (by omega) m).mp hh i (by omega)
    show IZ (if f i = 47 then (emZ (tkF f z i).1 ((tkF f z i).2 + 1), (tkF f z i).2 + 1) else if 48 ≤ f i ∧ f i ≤ 55 then (bookZ (tkF f z i).1 (tkF f z i).2 (f i - 48), (tkF f z i).2) else tkF f z i).1 ∧ (if f i = 47 then (emZ (tkF f z i).1 ((tkF f z i).2 + 1), (tkF f z i).2 + 1) else if 48 ≤ f i ∧ f i ≤ 55 then (bookZ (tkF f z i).1 (tkF f z i).2 (f i - 48), (tkF f z i).2) else tkF f z i).2 = r ∧ _ ∧ (if f i = 47 then (emZ (tkF f z i).1 ((tkF f z i).2 + 1), (tkF f z i).2 + 1) else if 48 ≤ f i ∧ f i ≤ 55 then (bookZ (tkF f z i).1 (tkF f z i).2 (f i - 48), (tkF f z i).2) else tkF f z i).1 (76 + 5 * r) = (c : Int) ∧ ∀ k, k < 76 ∨ 196 ≤ k → (if f i = 47 then (emZ (tkF f z i).1 ((tkF f z i).2 + 1), (tkF f z i).2 + 1) else if 48 ≤ f i ∧ f i ≤ 55 then (bookZ (tkF f z i).1 (tkF f z i).2 (f i - 48), (tkF f z i).2) else tkF f z i).1 k = z k
    rw [ns, i3, i2]
    rcases stD_c h2 with ⟨g1, g2, g3⟩ | ⟨g1, g2, g3⟩ | ⟨g1, g2, g3, g4, g5⟩
    · have eb : bI (f i = 47) = 1 := by unfold bI; rw [if_pos g1]
      rw [ns, i3, eb] at nm
      rw [if_pos g1, eb, g2, g3]
      dsimp only
      exact ⟨IZ_em i1 (by rw [b0]; omega), rfl, by omega, emZ_s _ _, fun k hk => by rw [emZ_o _ _ (by omega)]; exact i5 k hk⟩
    · have eb : bI (f i = 47) = 0 := by unfold bI; rw [if_neg (by omega)]
      rw [if_neg (by omega), if_neg (by omega), eb, g2, g3]
      exact ⟨i1, i2, by omega, i4, i5⟩
    · have eb : bI (f i = 47) = 0 := by unfold bI; rw [if_neg (by omega)]
      rw [ns, i3, eb] at nm
      rw [if_neg (by omega), if_pos ⟨g1, g2⟩, eb, g3, g4]
      dsimp only
      exact ⟨IZ_book i1 (by rw [b0]; omega) (by rw [i4]; omega) (by rw [b2]; omega), rfl, by omega, by rw [bookZ_s, i4]; omega, fun k hk => by rw [bookZ_o _ _ _ _ (by omega) (by rw [i4]; omega)]; exact i5 k hk⟩
-- NS.takeRows: blocks [0, 14, 57, 61, 76, 82]
theorem k_NS_takeRows {d : Nat} {Q : QT} {μ : Mem} {n r c : Nat} {o : Bool} {f : Nat → Int} {z : Rw} (hz : IZ z) (hR : RC z μ 1) (hn : n ≤ 60) (h1 : μ 390 1 = (n : Int)) (h2 : ∀ i, i < n → 33 ≤ f i ∧ f i ≤ 126 ∧ μ 391 i = f i) (hp : pst f n = some (r, c, o)) (hr : 1 + nSl f n ≤ z 0) (hh : hiF f n < z 2)
    (hq : ∀ μ', (∀ k, k ≠ 6 → k ≠ 7 → μ' k = μ k) → RC (tkF f z n).1 μ' 1 → Q (.inl 0) μ') : Call σ1 (d + 2) 82 [.inr (.inr 0)] μ Q := by
  refine e_82 ?_
  have q := hz.1
  have loop : ∀ k i : Nat, i + k = n → ∀ (r c : Nat) (o : Bool) (μ1 : Mem) (o3 : Option MV), pst f i = some (r, c, o) → (∀ k, k ≠ 6 → k ≠ 7 → μ1 k = μ k) → RC (tkF f z i).1 μ1 1 → wp σ1 (Call σ1 (d + 1)) 82 Q 14 [some (.inr (.inr 0)), some (.inl (r : Int)), some (.inl (i : Int)), o3] [] μ1 := by
    intro k
    induction k with
    | zero =>
      intro i hi r c o μ1 o3 hp f1 R1
      have hin : i = n := by omega
      subst hin
      have hq := hq μ1 f1 R1
      have e1 : μ1 390 1 = (i : Int) := by rw [f1 390 (by omega) (by omega)]; exact h1
      refine wp_go b82_14 ?_; simp only [l82_14, sg_iload_2, sg_aload_0, sg_getfp, sg_getf0, sg_ic_ge, sg_caload, sg_istore_3, sg_iload_3, sg_bipush, sg_ic_ne, sg_iinc, ldI_1, okS_1, stL_1, sg_iload_1, sg_iconst, sg_iastore, sg_goto, nLg_n, nLg_i, nLg_r, tc_c, tc_l, tc_r, tc_m, tc_n, tc_o, tc_0, inR, true_and, and_true, ne_eq, not_true_eq_false, not_false_eq_true, true_imp_iff, false_imp_iff, Int.toNat_natCast, lit_a, Nat.reduceAdd, or_true, true_or, or_false, false_or, Int.reduceEq, Int.reduceNe, Int.reduceLT, Int.reduceLE, Int.reduceNeg, sg_nil, s1p, x0, x1, x2, x3, x4, x5, x6, x7, x8, x9, x10, x11, x12, x13, x56, x57, x388, x389, x390, x391, x392, x393, x394, x395, x396, x397, x398, x399, e1]
      repeat' (first | with_reducible apply And.intro | (intro _) | ((first | refine wp_go b82_0 ?_ | refine wp_go b82_57 ?_ | refine wp_go b82_61 ?_ | refine wp_go b82_76 ?_ | refine wp_go b82_82 ?_); simp only [l82_0, l82_57, l82_61, l82_76, l82_82, sg_iconst, sg_istore_1, sg_aload_0, sg_getfp, sg_iload_1, sg_iastore, sg_istore_2, sg_iload_3, len4_0, len4_1, len4_2, len4_3, len4_4, sg_is1_1, sg_if_eq, sg_bipush, sg_isub, sg_iv3_v, sg_iinc, ldI_2, okS_2, stL_2, sg_goto, sg_ret, nLg_n, nLg_i, nLg_r, tc_c, tc_l, tc_r, tc_m, tc_n, tc_o, tc_0, inR, true_and, and_true, ne_eq, not_true_eq_false, not_false_eq_true, true_imp_iff, false_imp_iff, Int.toNat_natCast, lit_a, Nat.reduceAdd, or_true, true_or, or_false, false_or, Int.reduceEq, Int.reduceNe, Int.reduceLT, Int.reduceLE, Int.reduceNeg, sg_nil]))
      all_goals (try omega)
      all_goals exact hq
    | succ k ih =>
      intro i hi r c o μ1 o3 hpi f1 R1
      obtain ⟨i1, i2, i3, i4, i5⟩ := tkF_inv hz hr hh i (by omega) r c o hpi
      have e1 : μ1 390 1 = (n : Int) := by rw [f1 390 (by omega) (by omega)]; exact h1
      obtain ⟨c1, c2, c3⟩ := h2 i (by omega)
      have c3 : μ1 391 i = f i := by rw [f1 391 (by omega) (by omega)]; exact c3
      have hne := pst_lt (i := i + 1) (by rw [hp]; simp) (show i + 1 ≤ n by omega)
      have nm := nSl_m f (show i + 1 ≤ n by omega)
      have ns : nSl f (i + 1) = nSl f i + bI (f i = 47) := by unfold nSl; rw [sm_s]
      have b0 : (tkF f z i).1 0 = z 0 := i5 0 (by omega)
      have b2 : (tkF f z i).1 2 = z 2 := i5 2 (by omega)
      have tke : tkF f z (i + 1) = if f i = 47 then (emZ (tkF f z i).1 ((tkF f z i).2 + 1), (tkF f z i).2 + 1) else if 48 ≤ f i ∧ f i ≤ 55 then (bookZ (tkF f z i).1 (tkF f z i).2 (f i - 48), (tkF f z i).2) else tkF f z i := rfl
      rw [i2] at tke
      cases e : pst f (i + 1) with
      | none => exact absurd e hne
      | some s =>
        obtain ⟨r', c', o'⟩ := s
        obtain ⟨r2, c4, o2, g0, g⟩ := pst_pre e
        rw [hpi] at g0
        injection g0 with g0; injection g0 with y1 g0; injection g0 with y2 y3
        subst y1; subst y2; subst y3
        rcases stD_c g with ⟨g1, g2, g3⟩ | ⟨g1, g2, g3⟩ | ⟨g1, g2, g3, g4, g5⟩
        · have eb : bI (f i = 47) = 1 := by unfold bI; rw [if_pos g1]
          rw [ns, i3, eb] at nm
          rw [if_pos g1] at tke
          have R2 : RC (tkF f z (i + 1)).1 (ms μ1 6 (r + 1) 0) 1 := by rw [tke]; exact RC_em i1 (by rw [b0]; omega) R1
          have ih1 := ih (i + 1) (by omega) r' c' o' (ms μ1 6 (r + 1) 0) (some (.inl (f i))) e (fun k h1 h2 => by rw [← f1 k h1 h2]; funext j; simp only [ms_at]; (repeat (first | rw [if_neg (by omega)] | rw [if_pos (by omega)]))) R2
          rw [g2] at ih1
          rw [g1] at c3 ih1
          refine wp_go b82_14 ?_; simp only [l82_14, sg_iload_2, sg_aload_0, sg_getfp, sg_getf0, sg_ic_ge, sg_caload, sg_istore_3, sg_iload_3, sg_bipush, sg_ic_ne, sg_iinc, ldI_1, okS_1, stL_1, sg_iload_1, sg_iconst, sg_iastore, sg_goto, nLg_n, nLg_i, nLg_r, tc_c, tc_l, tc_r, tc_m, tc_n, tc_o, tc_0, inR, true_and, and_true, ne_eq, not_true_eq_false, not_false_eq_true, true_imp_iff, false_imp_iff, Int.toNat_natCast, lit_a, Nat.reduceAdd, or_true, true_or, or_false, false_or, Int.reduceEq, Int.reduceNe, Int.reduceLT, Int.reduceLE, Int.reduceNeg, sg_nil, s1p, x0, x1, x2, x3, x4, x5, x6, x7, x8, x9, x10, x11, x12, x13, x56, x57, x388, x389, x390, x391, x392, x393, x394, x395, x396, x397, x398, x399, e1, c3]
          repeat' (first | with_reducible apply And.intro | (intro _) | ((first | refine wp_go b82_0 ?_ | refine wp_go b82_57 ?_ | refine wp_go b82_61 ?_ | refine wp_go b82_76 ?_ | refine wp_go b82_82 ?_); simp only [l82_0, l82_57, l82_61, l82_76, l82_82, sg_iconst, sg_istore_1, sg_aload_0, sg_getfp, sg_iload_1, sg_iastore, sg_istore_2, sg_iload_3, len4_0, len4_1, len4_2, len4_3, len4_4, sg_is1_1, sg_if_eq, sg_bipush, sg_isub, sg_iv3_v, sg_iinc, ldI_2, okS_2, stL_2, sg_goto, sg_ret, nLg_n, nLg_i, nLg_r, tc_c, tc_l, tc_r, tc_m, tc_n, tc_o, tc_0, inR, true_and, and_true, ne_eq, not_true_eq_false, not_false_eq_true, true_imp_iff, false_imp_iff, Int.toNat_natCast, lit_a, Nat.reduceAdd, or_true, true_or, or_false, false_or, Int.reduceEq, Int.reduceNe, Int.reduceLT, Int.reduceLE, Int.reduceNeg, sg_nil, s1p, x0, x1, x2, x3, x4, x5, x6, x7, x8, x9, x10, x11, x12, x13, x56, x57, x388, x389, x390, x391, x392, x393, x394, x395, x396, x397, x398, x399]))
          all_goals (try omega)
          all_goals exact ih1
        · rw [if_neg (by omega), if_neg (by omega)] at tke
          have ih1 := ih (i + 1) (by omega) r' c' o' μ1 (some (.inl (f i))) e f1 (by rw [tke]; exact R1)
          rw [g2] at ih1
          refine wp_go b82_14 ?_; simp only [l82_14, sg_iload_2, sg_aload_0, sg_getfp, sg_getf0, sg_ic_ge, sg_caload, sg_istore_3, sg_iload_3, sg_bipush, sg_ic_ne, sg_iinc, ldI_1, okS_1, stL_1, sg_iload_1, sg_iconst, sg_iastore, sg_goto, nLg_n, nLg_i, nLg_r, tc_c, tc_l, tc_r, tc_m, tc_n, tc_o, tc_0, inR, true_and, and_true, ne_eq, not_true_eq_false, not_false_eq_true, true_imp_iff, false_imp_iff, Int.toNat_natCast, lit_a, Nat.reduceAdd, or_true, true_or, or_false, false_or, Int.reduceEq, Int.reduceNe, Int.reduceLT, Int.reduceLE, Int.reduceNeg, sg_nil, s1p, x0, x1, x2, x3, x4, x5, x6, x7, x8, x9, x10, x11, x12, x13, x56, x57, x388, x389, x390, x391, x392, x393, x394, x395, x396, x397, x398, x399, e1, c3]
          repeat' (first | with_reducible apply And.intro | intro _)
          all_goals (try omega)
          refine wp_go b82_57 ?_; simp only [l82_57, sg_iload_3, len4_0, len4_1, len4_2, len4_3, len4_4, sg_is1_1, nLg_n, nLg_i, nLg_r, tc_c, tc_l, tc_r, tc_m, tc_n, tc_o, tc_0, inR, true_and, and_true, ne_eq, not_true_eq_false, not_false_eq_true, true_imp_iff, false_imp_iff, Int.toNat_natCast, lit_a, Nat.reduceAdd, or_true, true_or, or_false, false_or, Int.reduceEq, Int.reduceNe, Int.reduceLT, Int.reduceLE, Int.reduceNeg, sg_nil]
          refine k_Pad_isNotice (by unfold inR; omega) (fun _ _ => by omega) (fun _ => ?_)
          refine wp_go b82_61 ?_; simp only [l82_61, sg_if_eq, sg_aload_0, sg_getfp, sg_iload_1, sg_iload_3, sg_bipush, sg_isub, sg_iv3_v, len4_0, len4_1, len4_2, len4_3, len4_4, nLg_n, nLg_i, nLg_r, tc_c, tc_l, tc_r, tc_m, tc_n, tc_o, tc_0, inR, true_and, and_true, ne_eq, not_true_eq_false, not_false_eq_true, true_imp_iff, false_imp_iff, Int.toNat_natCast, lit_a, Nat.reduceAdd, or_true, true_or, or_false, false_or, Int.reduceEq, Int.reduceNe, Int.reduceLT, Int.reduceLE, Int.reduceNeg, sg_nil]
          repeat' (first | with_reducible apply And.intro | (intro _) | ((first | refine wp_go b82_0 ?_ | refine wp_go b82_57 ?_ | refine wp_go b82_61 ?_ | refine wp_go b82_76 ?_ | refine wp_go b82_82 ?_); simp only [l82_0, l82_57, l82_61, l82_76, l82_82, sg_iconst, sg_istore_1, sg_aload_0, sg_getfp, sg_iload_1, sg_iastore, sg_istore_2, sg_iload_3, len4_0, len4_1, len4_2, len4_3, len4_4, sg_is1_1, sg_if_eq, sg_bipush, sg_isub, sg_iv3_v, sg_iinc, ldI_2, okS_2, stL_2, sg_goto, sg_ret, nLg_n, nLg_i, nLg_r, tc_c, tc_l, tc_r, tc_m, tc_n, tc_o, tc_0, inR, true_and, and_true, ne_eq, not_true_eq_false, not_false_eq_true, true_imp_iff, false_imp_iff, Int.toNat_natCast, lit_a, Nat.reduceAdd, or_true, true_or, or_false, false_or, Int.reduceEq, Int.reduceNe, Int.reduceLT, Int.reduceLE, Int.reduceNeg, sg_nil]))
          all_goals (try omega)
          all_goals exact ih1
        · rw [if_neg (by omega), if_pos ⟨g1, g2⟩] at tke
          have eb : bI (f i = 47) = 0 := by unfold bI; rw [if_neg (by omega)]
          rw [ns, i3, eb] at nm
          refine wp_go b82_14 ?_; simp only [l82_14, sg_iload_2, sg_aload_0, sg_getfp, sg_getf0, sg_ic_ge, sg_caload, sg_istore_3, sg_iload_3, sg_bipush, sg_ic_ne, sg_iinc, ldI_1, okS_1, stL_1, sg_iload_1, sg_iconst, sg_iastore, sg_goto, nLg_n, nLg_i, nLg_r, tc_c, tc_l, tc_r, tc_m, tc_n, tc_o, tc_0, inR, true_and, and_true, ne_eq, not_true_eq_false, not_false_eq_true, true_imp_iff, false_imp_iff, Int.toNat_natCast, lit_a, Nat.reduceAdd, or_true, true_or, or_false, false_or, Int.reduceEq, Int.reduceNe, Int.reduceLT, Int.reduceLE, Int.reduceNeg, sg_nil, s1p, x0, x1, x2, x3, x4, x5, x6, x7, x8, x9, x10, x11, x12, x13, x56, x57, x388, x389, x390, x391, x392, x393, x394, x395, x396, x397, x398, x399, e1, c3]
          repeat' (first | with_reducible apply And.intro | intro _)
          all_goals (try omega)
          refine wp_go b82_57 ?_; simp only [l82_57, sg_iload_3, len4_0, len4_1, len4_2, len4_3, len4_4, sg_is1_1, nLg_n, nLg_i, nLg_r, tc_c, tc_l, tc_r, tc_m, tc_n, tc_o, tc_0, inR, true_and, and_true, ne_eq, not_true_eq_false, not_false_eq_true, true_imp_iff, false_imp_iff, Int.toNat_natCast, lit_a, Nat.reduceAdd, or_true, true_or, or_false, false_or, Int.reduceEq, Int.reduceNe, Int.reduceLT, Int.reduceLE, Int.reduceNeg, sg_nil]
          refine k_Pad_isNotice (by unfold inR; omega) (fun _ _ => ?_) (fun _ => by omega)
          refine wp_go b82_61 ?_; simp only [l82_61, sg_if_eq, sg_aload_0, sg_getfp, sg_iload_1, sg_iload_3, sg_bipush, sg_isub, sg_iv3_v, len4_0, len4_1, len4_2, len4_3, len4_4, nLg_n, nLg_i, nLg_r, tc_c, tc_l, tc_r, tc_m, tc_n, tc_o, tc_0, inR, true_and, and_true, ne_eq, not_true_eq_false, not_false_eq_true, true_imp_iff, false_imp_iff, Int.toNat_natCast, lit_a, Nat.reduceAdd, or_true, true_or, or_false, false_or, Int.reduceEq, Int.reduceNe, Int.reduceLT, Int.reduceLE, Int.reduceNeg, sg_nil, s1p, x0, x1, x2, x3, x4, x5, x6, x7, x8, x9, x10, x11, x12, x13, x56, x57, x388, x389, x390, x391, x392, x393, x394, x395, x396, x397, x398, x399]
          repeat' (first | with_reducible apply And.intro | intro _)
          all_goals (try omega)
          refine k_Sta_appendToRow st1 R1 i1 (by rw [b0]; omega) (by rw [i4]; omega) (fun μ2 f2 R2 => ?_)
          have ih1 := ih (i + 1) (by omega) r' c' o' μ2 (some (.inl (f i))) e (fun k h1 h2 => by rw [f2 k (by omega) (by omega)]; exact f1 k h1 h2) (by rw [tke]; exact R2)
          rw [g3] at ih1
          refine wp_go b82_76 ?_; simp only [l82_76, sg_iinc, ldI_2, okS_2, stL_2, sg_goto, nLg_n, nLg_i, nLg_r, tc_c, tc_l, tc_r, tc_m, tc_n, tc_o, tc_0, inR, true_and, and_true, ne_eq, not_true_eq_false, not_false_eq_true, true_imp_iff, false_imp_iff, Int.toNat_natCast, lit_a, Nat.reduceAdd, or_true, true_or, or_false, false_or, Int.reduceEq, Int.reduceNe, Int.reduceLT, Int.reduceLE, Int.reduceNeg, sg_nil]
          repeat' (first | with_reducible apply And.intro | (intro _) | ((first | refine wp_go b82_0 ?_ | refine wp_go b82_57 ?_ | refine wp_go b82_61 ?_ | refine wp_go b82_76 ?_ | refine wp_go b82_82 ?_); simp only [l82_0, l82_57, l82_61, l82_76, l82_82, sg_iconst, sg_istore_1, sg_aload_0, sg_getfp, sg_iload_1, sg_iastore, sg_istore_2, sg_iload_3, len4_0, len4_1, len4_2, len4_3, len4_4, sg_is1_1, sg_if_eq, sg_bipush, sg_isub, sg_iv3_v, sg_iinc, ldI_2, okS_2, stL_2, sg_goto, sg_ret, nLg_n, nLg_i, nLg_r, tc_c, tc_l, tc_r, tc_m, tc_n, tc_o, tc_0, inR, true_and, and_true, ne_eq, not_true_eq_false, not_false_eq_true, true_imp_iff, false_imp_iff, Int.toNat_natCast, lit_a, Nat.reduceAdd, or_true, true_or, or_false, false_or, Int.reduceEq, Int.reduceNe, Int.reduceLT, Int.reduceLE, Int.reduceNeg, sg_nil]))
          all_goals (try omega)
          all_goals exact ih1
  have R0 : RC (emZ z 0) (ms μ 6 0 0) 1 := RC_em hz (by omega) hR
  have st := loop n 0 (by omega) 0 0 false (ms μ 6 0 0) none rfl (fun k h1 h2 => by funext j; simp only [ms_at]; (repeat (first | rw [if_neg (by omega)] | rw [if_pos (by omega)]))) R0
  refine wp_go b82_0 ?_; simp only [l82_0, sg_iconst, sg_istore_1, sg_aload_0, sg_getfp, sg_iload_1, sg_iastore, sg_istore_2, nLg_n, nLg_i, nLg_r, tc_c, tc_l, tc_r, tc_m, tc_n, tc_o, tc_0, inR, true_and, and_true, ne_eq, not_true_eq_false, not_false_eq_true, true_imp_iff, false_imp_iff, Int.toNat_natCast, lit_a, Nat.reduceAdd, or_true, true_or, or_false, false_or, Int.reduceEq, Int.reduceNe, Int.reduceLT, Int.reduceLE, Int.reduceNeg, sg_nil, s1p, x0, x1, x2, x3, x4, x5, x6, x7, x8, x9, x10, x11, x12, x13, x56, x57, x388, x389, x390, x391, x392, x393, x394, x395, x396, x397, x398, x399]
  exact st
def c_read (z : Rw) (a : Hs) : Int := if fltF (hsC a) (hsP a) ≠ -6 then -3 else if z 0 < 1 + nSl (hsC a) (hsP a) ∨ z 2 ≤ hiF (hsC a) (hsP a) then -1 else 0
-- NS.read: blocks [0, 7, 15, 22, 44, 54, 56, 67, 71]
theorem k_NS_read {d : Nat} {Q : QT} {μ : Mem} {z : Rw} {a : Hs} (hz : IZ z) (hR : RC z μ 1) (hC : CRr a μ) (hf : c_read z a < 0 → Q (.inl (c_read z a)) μ)
    (hq : c_read z a = 0 → ∀ μ', MF (tkF (hsC a) z (hsP a)).1 (hsWipe (hsPush a z)) μ μ' → Q (.inl (1 + nSl (hsC a) (hsP a))) μ') : Call σ1 (d + 5) 56 [.inr (.inr 0)] μ Q := by
  refine e_56 ?_
  have q := hz.1
  obtain ⟨c1, c2, c3⟩ := hC.2.2
  have nb := nSl_b (hsC a) (hsP a)
  have hb := hiF_b (hsC a) (hsP a)
  have e3 : μ 2 3 = z 0 := hR.1.1
  have e10 : μ 1 10 = z 2 := hR.1.2.2.1
  have fb : -6 ≤ fltF (hsC a) (hsP a) ∧ fltF (hsC a) (hsP a) ≤ 60 := by
    cases e : pst (hsC a) (hsP a) with
    | none =>
      unfold fltF
      rw [e]
      rcases fsI_in (fun i => (pst (hsC a) (i + 1)).isNone) (hsP a : Int) (hsP a) with h | ⟨i, h1, h2, -⟩
      · show -6 ≤ fsI (fun i => (pst (hsC a) (i + 1)).isNone) (hsP a : Int) (hsP a) ∧ fsI (fun i => (pst (hsC a) (i + 1)).isNone) (hsP a : Int) (hsP a) ≤ 60
        omega
      · show -6 ≤ fsI (fun i => (pst (hsC a) (i + 1)).isNone) (hsP a : Int) (hsP a) ∧ fsI (fun i => (pst (hsC a) (i + 1)).isNone) (hsP a : Int) (hsP a) ≤ 60
        omega
    | some s =>
      obtain ⟨r, c, o⟩ := s
      rw [fltF_e e]
      split <;> omega
  by_cases h6 : fltF (hsC a) (hsP a) = -6
  · refine wp_go b56_0 ?_; simp only [l56_0, sg_aload_0, sg_getfp, sg_iv1_i, len4_0, len4_1, len4_2, len4_3, len4_4, nLg_n, nLg_i, nLg_r, tc_c, tc_l, tc_r, tc_m, tc_n, tc_o, tc_0, inR, true_and, and_true, ne_eq, not_true_eq_false, not_false_eq_true, true_imp_iff, false_imp_iff, Int.toNat_natCast, lit_a, Nat.reduceAdd, or_true, true_or, or_false, false_or, Int.reduceEq, Int.reduceNe, Int.reduceLT, Int.reduceLE, Int.reduceNeg, sg_nil, s1p, x0, x1, x2, x3, x4, x5, x6, x7, x8, x9, x10, x11, x12, x13, x56, x57, x388, x389, x390, x391, x392, x393, x394, x395, x396, x397, x398, x399]
    refine k_Pad_findFault c1 c2 c3 ?_
    rw [h6]
    by_cases hg : z 0 < 1 + nSl (hsC a) (hsP a) ∨ z 2 ≤ hiF (hsC a) (hsP a)
    · have ec : c_read z a = -1 := by unfold c_read; rw [if_neg (by omega), if_pos hg]
      rw [ec] at hf
      have hf := hf (by omega)
      refine wp_go b56_7 ?_; simp only [l56_7, sg_bipush, sg_ic_eq, sg_iret0, nLg_n, nLg_i, nLg_r, tc_c, tc_l, tc_r, tc_m, tc_n, tc_o, tc_0, inR, true_and, and_true, ne_eq, not_true_eq_false, not_false_eq_true, true_imp_iff, false_imp_iff, Int.toNat_natCast, lit_a, Nat.reduceAdd, or_true, true_or, or_false, false_or, Int.reduceEq, Int.reduceNe, Int.reduceLT, Int.reduceLE, Int.reduceNeg, sg_nil]
      repeat' (first | with_reducible apply And.intro | intro _)
      all_goals (try omega)
      refine wp_go b56_15 ?_; simp only [l56_15, sg_aload_0, sg_getfp, sg_iv1_i, len4_0, len4_1, len4_2, len4_3, len4_4, nLg_n, nLg_i, nLg_r, tc_c, tc_l, tc_r, tc_m, tc_n, tc_o, tc_0, inR, true_and, and_true, ne_eq, not_true_eq_false, not_false_eq_true, true_imp_iff, false_imp_iff, Int.toNat_natCast, lit_a, Nat.reduceAdd, or_true, true_or, or_false, false_or, Int.reduceEq, Int.reduceNe, Int.reduceLT, Int.reduceLE, Int.reduceNeg, sg_nil, s1p, x0, x1, x2, x3, x4, x5, x6, x7, x8, x9, x10, x11, x12, x13, x56, x57, x388, x389, x390, x391, x392, x393, x394, x395, x396, x397, x398, x399]
      refine k_Pad_countRows c1 c2 c3 ?_
      refine wp_go b56_22 ?_; simp only [l56_22, sg_istore_1, sg_iload_1, sg_aload_0, sg_getfp, sg_getf0, sg_ic_gt, sg_iv1_i, len4_0, len4_1, len4_2, len4_3, len4_4, nLg_n, nLg_i, nLg_r, tc_c, tc_l, tc_r, tc_m, tc_n, tc_o, tc_0, inR, true_and, and_true, ne_eq, not_true_eq_false, not_false_eq_true, true_imp_iff, false_imp_iff, Int.toNat_natCast, lit_a, Nat.reduceAdd, or_true, true_or, or_false, false_or, Int.reduceEq, Int.reduceNe, Int.reduceLT, Int.reduceLE, Int.reduceNeg, sg_nil, s1p, x0, x1, x2, x3, x4, x5, x6, x7, x8, x9, x10, x11, x12, x13, x56, x57, x388, x389, x390, x391, x392, x393, x394, x395, x396, x397, x398, x399, e3]
      repeat' (first | with_reducible apply And.intro | intro _)
      all_goals (try omega)
      · refine wp_go b56_54 ?_; simp only [l56_54, sg_iconst, sg_iret0, nLg_n, nLg_i, nLg_r, tc_c, tc_l, tc_r, tc_m, tc_n, tc_o, tc_0, inR, true_and, and_true, ne_eq, not_true_eq_false, not_false_eq_true, true_imp_iff, false_imp_iff, Int.toNat_natCast, lit_a, Nat.reduceAdd, or_true, true_or, or_false, false_or, Int.reduceEq, Int.reduceNe, Int.reduceLT, Int.reduceLE, Int.reduceNeg, sg_nil]
        exact hf
      · refine k_Pad_highestNotice c1 c2 c3 ?_
        refine wp_go b56_44 ?_; simp only [l56_44, sg_aload_0, sg_getfp, sg_getf0, sg_ic_lt, nLg_n, nLg_i, nLg_r, tc_c, tc_l, tc_r, tc_m, tc_n, tc_o, tc_0, inR, true_and, and_true, ne_eq, not_true_eq_false, not_false_eq_true, true_imp_iff, false_imp_iff, Int.toNat_natCast, lit_a, Nat.reduceAdd, or_true, true_or, or_false, false_or, Int.reduceEq, Int.reduceNe, Int.reduceLT, Int.reduceLE, Int.reduceNeg, sg_nil, s1p, x0, x1, x2, x3, x4, x5, x6, x7, x8, x9, x10, x11, x12, x13, x56, x57, x388, x389, x390, x391, x392, x393, x394, x395, x396, x397, x398, x399, e10]
        repeat' (first | with_reducible apply And.intro | (intro _) | ((first | refine wp_go b56_0 ?_ | refine wp_go b56_7 ?_ | refine wp_go b56_15 ?_ | refine wp_go b56_22 ?_ | refine wp_go b56_44 ?_ | refine wp_go b56_54 ?_ | refine wp_go b56_56 ?_ | refine wp_go b56_67 ?_ | refine wp_go b56_71 ?_); simp only [l56_0, l56_7, l56_15, l56_22, l56_44, l56_54, l56_56, l56_67, l56_71, sg_aload_0, sg_getfp, sg_iv1_i, len4_0, len4_1, len4_2, len4_3, len4_4, sg_bipush, sg_ic_eq, sg_iret0, sg_istore_1, sg_iload_1, sg_getf0, sg_ic_gt, sg_ic_lt, sg_iconst, sg_iv2_v, sg_iv1_v, sg_putf0, nLg_n, nLg_i, nLg_r, tc_c, tc_l, tc_r, tc_m, tc_n, tc_o, tc_0, inR, true_and, and_true, ne_eq, not_true_eq_false, not_false_eq_true, true_imp_iff, false_imp_iff, Int.toNat_natCast, lit_a, Nat.reduceAdd, or_true, true_or, or_false, false_or, Int.reduceEq, Int.reduceNe, Int.reduceLT, Int.reduceLE, Int.reduceNeg, sg_nil]))
        all_goals (try omega)
        all_goals exact hf
    · have ec : c_read z a = 0 := by unfold c_read; rw [if_neg (by omega), if_neg hg]
      have hq := hq ec
      refine wp_go b56_7 ?_; simp only [l56_7, sg_bipush, sg_ic_eq, sg_iret0, nLg_n, nLg_i, nLg_r, tc_c, tc_l, tc_r, tc_m, tc_n, tc_o, tc_0, inR, true_and, and_true, ne_eq, not_true_eq_false, not_false_eq_true, true_imp_iff, false_imp_iff, Int.toNat_natCast, lit_a, Nat.reduceAdd, or_true, true_or, or_false, false_or, Int.reduceEq, Int.reduceNe, Int.reduceLT, Int.reduceLE, Int.reduceNeg, sg_nil]
      repeat' (first | with_reducible apply And.intro | intro _)
      all_goals (try omega)
      refine wp_go b56_15 ?_; simp only [l56_15, sg_aload_0, sg_getfp, sg_iv1_i, len4_0, len4_1, len4_2, len4_3, len4_4, nLg_n, nLg_i, nLg_r, tc_c, tc_l, tc_r, tc_m, tc_n, tc_o, tc_0, inR, true_and, and_true, ne_eq, not_true_eq_false, not_false_eq_true, true_imp_iff, false_imp_iff, Int.toNat_natCast, lit_a, Nat.reduceAdd, or_true, true_or, or_false, false_or, Int.reduceEq, Int.reduceNe, Int.reduceLT, Int.reduceLE, Int.reduceNeg, sg_nil, s1p, x0, x1, x2, x3, x4, x5, x6, x7, x8, x9, x10, x11, x12, x13, x56, x57, x388, x389, x390, x391, x392, x393, x394, x395, x396, x397, x398, x399]
      refine k_Pad_countRows c1 c2 c3 ?_
      refine wp_go b56_22 ?_; simp only [l56_22, sg_istore_1, sg_iload_1, sg_aload_0, sg_getfp, sg_getf0, sg_ic_gt, sg_iv1_i, len4_0, len4_1, len4_2, len4_3, len4_4, nLg_n, nLg_i, nLg_r, tc_c, tc_l, tc_r, tc_m, tc_n, tc_o, tc_0, inR, true_and, and_true, ne_eq, not_true_eq_false, not_false_eq_true, true_imp_iff, false_imp_iff, Int.toNat_natCast, lit_a, Nat.reduceAdd, or_true, true_or, or_false, false_or, Int.reduceEq, Int.reduceNe, Int.reduceLT, Int.reduceLE, Int.reduceNeg, sg_nil, s1p, x0, x1, x2, x3, x4, x5, x6, x7, x8, x9, x10, x11, x12, x13, x56, x57, x388, x389, x390, x391, x392, x393, x394, x395, x396, x397, x398, x399, e3]
      repeat' (first | with_reducible apply And.intro | intro _)
      all_goals (try omega)
      refine k_Pad_highestNotice c1 c2 c3 ?_
      refine wp_go b56_44 ?_; simp only [l56_44, sg_aload_0, sg_getfp, sg_getf0, sg_ic_lt, nLg_n, nLg_i, nLg_r, tc_c, tc_l, tc_r, tc_m, tc_n, tc_o, tc_0, inR, true_and, and_true, ne_eq, not_true_eq_false, not_false_eq_true, true_imp_iff, false_imp_iff, Int.toNat_natCast, lit_a, Nat.reduceAdd, or_true, true_or, or_false, false_or, Int.reduceEq, Int.reduceNe, Int.reduceLT, Int.reduceLE, Int.reduceNeg, sg_nil, s1p, x0, x1, x2, x3, x4, x5, x6, x7, x8, x9, x10, x11, x12, x13, x56, x57, x388, x389, x390, x391, x392, x393, x394, x395, x396, x397, x398, x399, e10]
      repeat' (first | with_reducible apply And.intro | intro _)
      all_goals (try omega)
      refine wp_go b56_56 ?_; simp only [l56_56, sg_aload_0, sg_getfp, sg_iv2_v, len4_0, len4_1, len4_2, len4_3, len4_4, nLg_n, nLg_i, nLg_r, tc_c, tc_l, tc_r, tc_m, tc_n, tc_o, tc_0, inR, true_and, and_true, ne_eq, not_true_eq_false, not_false_eq_true, true_imp_iff, false_imp_iff, Int.toNat_natCast, lit_a, Nat.reduceAdd, or_true, true_or, or_false, false_or, Int.reduceEq, Int.reduceNe, Int.reduceLT, Int.reduceLE, Int.reduceNeg, sg_nil, s1p, x0, x1, x2, x3, x4, x5, x6, x7, x8, x9, x10, x11, x12, x13, x56, x57, x388, x389, x390, x391, x392, x393, x394, x395, x396, x397, x398, x399]
      refine k_His_keep hz hR hC (fun μ1 f1 C1 => ?_)
      have R1 := keep_R hz f1 hR
      cases e : pst (hsC a) (hsP a) with
      | none =>
        exfalso
        unfold fltF at h6
        rw [e] at h6
        rcases fsI_in (fun i => (pst (hsC a) (i + 1)).isNone) (hsP a : Int) (hsP a) with h | ⟨i, h1, h2, -⟩
        · have : fsI (fun i => (pst (hsC a) (i + 1)).isNone) (hsP a : Int) (hsP a) = -6 := h6
          omega
        · have : fsI (fun i => (pst (hsC a) (i + 1)).isNone) (hsP a : Int) (hsP a) = -6 := h6
          omega
      | some s =>
        obtain ⟨r, c, o⟩ := s
        refine wp_go b56_67 ?_; simp only [l56_67, sg_aload_0, sg_iv1_v, len4_0, len4_1, len4_2, len4_3, len4_4, nLg_n, nLg_i, nLg_r, tc_c, tc_l, tc_r, tc_m, tc_n, tc_o, tc_0, inR, true_and, and_true, ne_eq, not_true_eq_false, not_false_eq_true, true_imp_iff, false_imp_iff, Int.toNat_natCast, lit_a, Nat.reduceAdd, or_true, true_or, or_false, false_or, Int.reduceEq, Int.reduceNe, Int.reduceLT, Int.reduceLE, Int.reduceNeg, sg_nil, s1p, x0, x1, x2, x3, x4, x5, x6, x7, x8, x9, x10, x11, x12, x13, x56, x57, x388, x389, x390, x391, x392, x393, x394, x395, x396, x397, x398, x399]
        repeat' (first | with_reducible apply And.intro | intro _)
        all_goals (try omega)
        refine k_NS_takeRows hz R1 c1 (by rw [f1 390 (by omega)]; exact c2) (fun i hi => by rw [f1 391 (by omega)]; exact c3 i hi) e (by omega) (by omega) (fun μ2 f2 R2 => ?_)
        have b3 : (tkF (hsC a) z (hsP a)).1 3 = z 3 := (tkF_inv hz (by omega) (by omega) (hsP a) (Nat.le_refl _) r c o e).2.2.2.2 3 (by omega)
        have C2 := CRr_f (fun k hk => f2 k (by omega) (by omega)) C1
        have hq := hq _ ⟨fun k hk => by rw [← f1 k (by omega), ← f2 k (by omega) (by omega)]; funext j; simp only [ms_at]; (repeat (first | rw [if_neg (by omega)] | rw [if_pos (by omega)])), RC_f (by omega) (fun k _ _ => by funext j; simp only [ms_at]; (repeat (first | rw [if_neg (by omega)] | rw [if_pos (by omega)]))) R2, CRr_wipe C2⟩
        refine wp_go b56_71 ?_; simp only [l56_71, sg_aload_0, sg_getfp, sg_iconst, sg_putf0, sg_iload_1, sg_iret0, nLg_n, nLg_i, nLg_r, tc_c, tc_l, tc_r, tc_m, tc_n, tc_o, tc_0, inR, true_and, and_true, ne_eq, not_true_eq_false, not_false_eq_true, true_imp_iff, false_imp_iff, Int.toNat_natCast, lit_a, Nat.reduceAdd, or_true, true_or, or_false, false_or, Int.reduceEq, Int.reduceNe, Int.reduceLT, Int.reduceLE, Int.reduceNeg, sg_nil, s1p, x0, x1, x2, x3, x4, x5, x6, x7, x8, x9, x10, x11, x12, x13, x56, x57, x388, x389, x390, x391, x392, x393, x394, x395, x396, x397, x398, x399]
        repeat' (first | with_reducible apply And.intro | (intro _) | ((first | refine wp_go b56_0 ?_ | refine wp_go b56_7 ?_ | refine wp_go b56_15 ?_ | refine wp_go b56_22 ?_ | refine wp_go b56_44 ?_ | refine wp_go b56_54 ?_ | refine wp_go b56_56 ?_ | refine wp_go b56_67 ?_ | refine wp_go b56_71 ?_); simp only [l56_0, l56_7, l56_15, l56_22, l56_44, l56_54, l56_56, l56_67, l56_71, sg_aload_0, sg_getfp, sg_iv1_i, len4_0, len4_1, len4_2, len4_3, len4_4, sg_bipush, sg_ic_eq, sg_iret0, sg_istore_1, sg_iload_1, sg_getf0, sg_ic_gt, sg_ic_lt, sg_iconst, sg_iv2_v, sg_iv1_v, sg_putf0, nLg_n, nLg_i, nLg_r, tc_c, tc_l, tc_r, tc_m, tc_n, tc_o, tc_0, inR, true_and, and_true, ne_eq, not_true_eq_false, not_false_eq_true, true_imp_iff, false_imp_iff, Int.toNat_natCast, lit_a, Nat.reduceAdd, or_true, true_or, or_false, false_or, Int.reduceEq, Int.reduceNe, Int.reduceLT, Int.reduceLE, Int.reduceNeg, sg_nil]))
        all_goals (try omega)
        all_goals exact hq
  · have ec : c_read z a = -3 := by unfold c_read; rw [if_pos h6]
    rw [ec] at hf
    have hf := hf (by omega)
    refine wp_go b56_0 ?_; simp only [l56_0, sg_aload_0, sg_getfp, sg_iv1_i, len4_0, len4_1, len4_2, len4_3, len4_4, nLg_n, nLg_i, nLg_r, tc_c, tc_l, tc_r, tc_m, tc_n, tc_o, tc_0, inR, true_and, and_true, ne_eq, not_true_eq_false, not_false_eq_true, true_imp_iff, false_imp_iff, Int.toNat_natCast, lit_a, Nat.reduceAdd, or_true, true_or, or_false, false_or, Int.reduceEq, Int.reduceNe, Int.reduceLT, Int.reduceLE, Int.reduceNeg, sg_nil, s1p, x0, x1, x2, x3, x4, x5, x6, x7, x8, x9, x10, x11, x12, x13, x56, x57, x388, x389, x390, x391, x392, x393, x394, x395, x396, x397, x398, x399]
    refine k_Pad_findFault c1 c2 c3 ?_
    refine wp_go b56_7 ?_; simp only [l56_7, sg_bipush, sg_ic_eq, sg_iret0, nLg_n, nLg_i, nLg_r, tc_c, tc_l, tc_r, tc_m, tc_n, tc_o, tc_0, inR, true_and, and_true, ne_eq, not_true_eq_false, not_false_eq_true, true_imp_iff, false_imp_iff, Int.toNat_natCast, lit_a, Nat.reduceAdd, or_true, true_or, or_false, false_or, Int.reduceEq, Int.reduceNe, Int.reduceLT, Int.reduceLE, Int.reduceNeg, sg_nil]
    repeat' (first | with_reducible apply And.intro | (intro _) | ((first | refine wp_go b56_0 ?_ | refine wp_go b56_7 ?_ | refine wp_go b56_15 ?_ | refine wp_go b56_22 ?_ | refine wp_go b56_44 ?_ | refine wp_go b56_54 ?_ | refine wp_go b56_56 ?_ | refine wp_go b56_67 ?_ | refine wp_go b56_71 ?_); simp only [l56_0, l56_7, l56_15, l56_22, l56_44, l56_54, l56_56, l56_67, l56_71, sg_aload_0, sg_getfp, sg_iv1_i, len4_0, len4_1, len4_2, len4_3, len4_4, sg_bipush, sg_ic_eq, sg_iret0, sg_istore_1, sg_iload_1, sg_getf0, sg_ic_gt, sg_ic_lt, sg_iconst, sg_iv2_v, sg_iv1_v, sg_putf0, nLg_n, nLg_i, nLg_r, tc_c, tc_l, tc_r, tc_m, tc_n, tc_o, tc_0, inR, true_and, and_true, ne_eq, not_true_eq_false, not_false_eq_true, true_imp_iff, false_imp_iff, Int.toNat_natCast, lit_a, Nat.reduceAdd, or_true, true_or, or_false, false_or, Int.reduceEq, Int.reduceNe, Int.reduceLT, Int.reduceLE, Int.reduceNeg, sg_nil]))
    all_goals (try omega)
    all_goals exact hf
