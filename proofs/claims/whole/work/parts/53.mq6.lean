-- Mo.bookIt: blocks [0, 17]
theorem k_Mo_bookIt {d s : Nat} {Q : QT} {μ : Mem} {t : Int} {z : Rw} (hM : μ 511 = z) (hs : s < 24) (h4 : 0 ≤ z (76 + 5 * s) ∧ z (76 + 5 * s) < 4) (hq : ∀ μ', (∀ k, k ≠ 511 → μ' k = μ k) → μ' 511 = bookZ z s t → Q (.inl 0) μ') : Call σ1 (d + 2) 126 [.inr (.inr 510), .inl (s : Int), .inl t] μ Q := by
  refine e_126 ?_
  obtain ⟨n, hn⟩ := nat_of h4.1
  have hq := hq (ms (ms μ 511 (77 + 5 * s + n) t) 511 (76 + 5 * s) ((n : Int) + 1)) (fun k hk => by funext j; simp only [ms_at]; (repeat (first | rw [if_neg (by omega)] | rw [if_pos (by omega)]))) (by
    funext j
    simp only [ms_at, true_and]
    unfold bookZ
    rw [hn, Int.toNat_natCast, hM]
    by_cases h1 : j = 76 + 5 * s
    · rw [if_pos h1, if_pos h1, h1, hn]
    · rw [if_neg h1, if_neg h1])
  have e1 : 76 + 5 * s + 1 + n = 77 + 5 * s + n := by omega
  have e2 : ms μ 511 (77 + 5 * s + n) t 511 (76 + 5 * s) = (n : Int) := by simp only [ms_at]; rw [if_neg (by omega), hM]; exact hn
  refine wp_go b126_0 ?_; simp only [l126_0, sg_aload_0, sg_getfp, sg_bipush, sg_iconst, sg_iload_1, sg_imul, sg_iadd, sg_iv2_i, len4_0, len4_1, len4_2, len4_3, len4_4, nLg_n, nLg_i, nLg_r, tc_c, tc_l, tc_r, tc_m, tc_n, tc_o, tc_0, inR, true_and, and_true, ne_eq, not_true_eq_false, not_false_eq_true, true_imp_iff, false_imp_iff, Int.toNat_natCast, lit_a, Nat.reduceAdd, or_true, true_or, or_false, false_or, Int.reduceEq, Int.reduceNe, Int.reduceLT, Int.reduceLE, Int.reduceNeg, sg_nil, s1p, x510, x511, x512, x513, x514, x515, x516, x517]
  refine k_Mo_inBreak hM hs ?_
  rw [hn]
  refine wp_go b126_17 ?_; simp only [l126_17, sg_iadd, sg_iload_2, sg_iastore, sg_aload_0, sg_getfp, sg_bipush, sg_iconst, sg_iload_1, sg_imul, sg_dup2, sg_iaload, sg_ret, nLg_n, nLg_i, nLg_r, tc_c, tc_l, tc_r, tc_m, tc_n, tc_o, tc_0, inR, true_and, and_true, ne_eq, not_true_eq_false, not_false_eq_true, true_imp_iff, false_imp_iff, Int.toNat_natCast, lit_a, Nat.reduceAdd, or_true, true_or, or_false, false_or, Int.reduceEq, Int.reduceNe, Int.reduceLT, Int.reduceLE, Int.reduceNeg, sg_nil, s1p, x510, x511, x512, x513, x514, x515, x516, x517, e1, e2]
  repeat' (first | with_reducible apply And.intro | (intro _) | ((first | refine wp_go b126_0 ?_ | refine wp_go b126_17 ?_); simp only [l126_0, l126_17, sg_aload_0, sg_getfp, sg_bipush, sg_iconst, sg_iload_1, sg_imul, sg_iadd, sg_iv2_i, len4_0, len4_1, len4_2, len4_3, len4_4, sg_iload_2, sg_iastore, sg_dup2, sg_iaload, sg_ret, nLg_n, nLg_i, nLg_r, tc_c, tc_l, tc_r, tc_m, tc_n, tc_o, tc_0, inR, true_and, and_true, ne_eq, not_true_eq_false, not_false_eq_true, true_imp_iff, false_imp_iff, Int.toNat_natCast, lit_a, Nat.reduceAdd, or_true, true_or, or_false, false_or, Int.reduceEq, Int.reduceNe, Int.reduceLT, Int.reduceLE, Int.reduceNeg, sg_nil, s1p, x510, x511, x512, x513, x514, x515, x516, x517, e1, e2]))
  all_goals (try omega)
  all_goals exact hq
-- Mo.unbookLast: blocks [0, 32]
theorem k_Mo_unbookLast {d s n : Nat} {Q : QT} {μ : Mem} {z : Rw} (hM : μ 511 = z) (hs : s < 24) (hn : z (76 + 5 * s) = ((n + 1 : Nat) : Int)) (h4 : n < 4) (hq : ∀ μ', (∀ k, k ≠ 511 → μ' k = μ k) → μ' 511 = uz (uz z (76 + 5 * s) (n : Int)) (77 + 5 * s + n) 0 → Q (.inl 0) μ') : Call σ1 (d + 2) 127 [.inr (.inr 510), .inl (s : Int)] μ Q := by
  refine e_127 ?_
  have e0 : ((n + 1 : Nat) : Int) - 1 = (n : Int) := by omega
  have hq := hq (ms (ms μ 511 (76 + 5 * s) (n : Int)) 511 (77 + 5 * s + n) 0) (fun k hk => by funext j; simp only [ms_at]; (repeat (first | rw [if_neg (by omega)] | rw [if_pos (by omega)]))) (by
    funext j
    simp only [ms_at, true_and, uz_at]
    rw [hM])
  have e1 : 76 + 5 * s + 1 + n = 77 + 5 * s + n := by omega
  refine wp_go b127_0 ?_; simp only [l127_0, sg_aload_0, sg_getfp, sg_bipush, sg_iconst, sg_iload_1, sg_imul, sg_iadd, sg_dup2, sg_iaload, sg_isub, sg_iastore, sg_iv2_i, len4_0, len4_1, len4_2, len4_3, len4_4, nLg_n, nLg_i, nLg_r, tc_c, tc_l, tc_r, tc_m, tc_n, tc_o, tc_0, inR, true_and, and_true, ne_eq, not_true_eq_false, not_false_eq_true, true_imp_iff, false_imp_iff, Int.toNat_natCast, lit_a, Nat.reduceAdd, or_true, true_or, or_false, false_or, Int.reduceEq, Int.reduceNe, Int.reduceLT, Int.reduceLE, Int.reduceNeg, sg_nil, s1p, x510, x511, x512, x513, x514, x515, x516, x517, hM, hn, e0]
  repeat' (first | with_reducible apply And.intro | intro _)
  all_goals (try omega)
  refine k_Mo_inBreak (z := uz z (76 + 5 * s) (n : Int)) (by funext j; simp only [ms_at, true_and, uz_at]; rw [hM]) hs ?_
  rw [uz_s]
  refine wp_go b127_32 ?_; simp only [l127_32, sg_iadd, sg_iconst, sg_iastore, sg_ret, nLg_n, nLg_i, nLg_r, tc_c, tc_l, tc_r, tc_m, tc_n, tc_o, tc_0, inR, true_and, and_true, ne_eq, not_true_eq_false, not_false_eq_true, true_imp_iff, false_imp_iff, Int.toNat_natCast, lit_a, Nat.reduceAdd, or_true, true_or, or_false, false_or, Int.reduceEq, Int.reduceNe, Int.reduceLT, Int.reduceLE, Int.reduceNeg, sg_nil, s1p, x510, x511, x512, x513, x514, x515, x516, x517, e1]
  repeat' (first | with_reducible apply And.intro | (intro _) | ((first | refine wp_go b127_0 ?_ | refine wp_go b127_32 ?_); simp only [l127_0, l127_32, sg_aload_0, sg_getfp, sg_bipush, sg_iconst, sg_iload_1, sg_imul, sg_iadd, sg_dup2, sg_iaload, sg_isub, sg_iastore, sg_iv2_i, len4_0, len4_1, len4_2, len4_3, len4_4, sg_ret, nLg_n, nLg_i, nLg_r, tc_c, tc_l, tc_r, tc_m, tc_n, tc_o, tc_0, inR, true_and, and_true, ne_eq, not_true_eq_false, not_false_eq_true, true_imp_iff, false_imp_iff, Int.toNat_natCast, lit_a, Nat.reduceAdd, or_true, true_or, or_false, false_or, Int.reduceEq, Int.reduceNe, Int.reduceLT, Int.reduceLE, Int.reduceNeg, sg_nil, s1p, x510, x511, x512, x513, x514, x515, x516, x517, e1]))
  all_goals (try omega)
  all_goals exact hq
theorem ub_book {z : Rw} {s n : Nat} {t : Int} (hn : z (76 + 5 * s) = (n : Int)) : uz (uz (bookZ z s t) (76 + 5 * s) (n : Int)) (77 + 5 * s + n) 0 = ubZ z s := by
  funext k
  unfold ubZ bookZ
  simp only [uz_at]
  rw [hn, Int.toNat_natCast]
  by_cases h1 : k = 77 + 5 * s + n
  · rw [if_pos h1, if_pos h1]
  · rw [if_neg h1, if_neg h1]
    by_cases h2 : k = 76 + 5 * s
    · rw [if_pos h2, h2, hn, if_neg (by omega)]
    · rw [if_neg h2, if_neg h2, if_neg h1]
-- Mo.whyNotBook: blocks [0, 5, 13, 16, 20, 25, 34, 35]
theorem k_Mo_whyNotBook {d : Nat} {Q : QT} {μ : Mem} {s t : Int} {z : Rw} (hM : μ 511 = z) (hz : IZ z) (hs : inR s) (ht : inR t) (h : Q (.inl (c_book z s t)) μ) : Call σ1 (d + 2) 128 [.inr (.inr 510), .inl s, .inl t] μ Q := by
  refine e_128 ?_
  have q := hz.1
  refine wp_go b128_0 ?_; simp only [l128_0, sg_aload_0, sg_iload_1, sg_iv2_i, len4_0, len4_1, len4_2, len4_3, len4_4, nLg_n, nLg_i, nLg_r, tc_c, tc_l, tc_r, tc_m, tc_n, tc_o, tc_0, inR, true_and, and_true, ne_eq, not_true_eq_false, not_false_eq_true, true_imp_iff, false_imp_iff, Int.toNat_natCast, lit_a, Nat.reduceAdd, or_true, true_or, or_false, false_or, Int.reduceEq, Int.reduceNe, Int.reduceLT, Int.reduceLE, Int.reduceNeg, sg_nil, s1p, x510, x511, x512, x513, x514, x515, x516, x517]
  refine k_Mo_isSentence hM hz hs (fun h1 h2 => ?_) (fun h0 => ?_)
  · obtain ⟨n, rfl⟩ := nat_of h1
    have r := (hz.2.1 n h2).2.2.2.1
    refine wp_go b128_5 ?_; simp only [l128_5, sg_if_eq, sg_aload_0, sg_iload_2, sg_iv2_i, len4_0, len4_1, len4_2, len4_3, len4_4, nLg_n, nLg_i, nLg_r, tc_c, tc_l, tc_r, tc_m, tc_n, tc_o, tc_0, inR, true_and, and_true, ne_eq, not_true_eq_false, not_false_eq_true, true_imp_iff, false_imp_iff, Int.toNat_natCast, lit_a, Nat.reduceAdd, or_true, true_or, or_false, false_or, Int.reduceEq, Int.reduceNe, Int.reduceLT, Int.reduceLE, Int.reduceNeg, sg_nil, s1p, x510, x511, x512, x513, x514, x515, x516, x517]
    repeat' (first | with_reducible apply And.intro | intro _)
    all_goals (try omega)
    refine k_Mo_isNotice hM hz ht (fun h3 h4 => ?_) (fun h0 => ?_)
    · refine wp_go b128_13 ?_; simp only [l128_13, sg_if_ne, nLg_n, nLg_i, nLg_r, tc_c, tc_l, tc_r, tc_m, tc_n, tc_o, tc_0, inR, true_and, and_true, ne_eq, not_true_eq_false, not_false_eq_true, true_imp_iff, false_imp_iff, Int.toNat_natCast, lit_a, Nat.reduceAdd, or_true, true_or, or_false, false_or, Int.reduceEq, Int.reduceNe, Int.reduceLT, Int.reduceLE, Int.reduceNeg, sg_nil, s1p, x510, x511, x512, x513, x514, x515, x516, x517]
      repeat' (first | with_reducible apply And.intro | intro _)
      all_goals (try omega)
      refine wp_go b128_20 ?_; simp only [l128_20, sg_aload_0, sg_iload_1, sg_iv2_i, len4_0, len4_1, len4_2, len4_3, len4_4, nLg_n, nLg_i, nLg_r, tc_c, tc_l, tc_r, tc_m, tc_n, tc_o, tc_0, inR, true_and, and_true, ne_eq, not_true_eq_false, not_false_eq_true, true_imp_iff, false_imp_iff, Int.toNat_natCast, lit_a, Nat.reduceAdd, or_true, true_or, or_false, false_or, Int.reduceEq, Int.reduceNe, Int.reduceLT, Int.reduceLE, Int.reduceNeg, sg_nil, s1p, x510, x511, x512, x513, x514, x515, x516, x517]
      refine k_Mo_inBreak hM (by omega) ?_
      by_cases g : z (76 + 5 * n) = 4
      · have ec : c_book z (n : Int) t = -4 := by unfold c_book; rw [Int.toNat_natCast, if_neg (by omega), if_pos (by omega)]
        rw [ec] at h
        refine wp_go b128_25 ?_; simp only [l128_25, sg_iconst, sg_ic_ne, sg_bipush, sg_goto, nLg_n, nLg_i, nLg_r, tc_c, tc_l, tc_r, tc_m, tc_n, tc_o, tc_0, inR, true_and, and_true, ne_eq, not_true_eq_false, not_false_eq_true, true_imp_iff, false_imp_iff, Int.toNat_natCast, lit_a, Nat.reduceAdd, or_true, true_or, or_false, false_or, Int.reduceEq, Int.reduceNe, Int.reduceLT, Int.reduceLE, Int.reduceNeg, sg_nil, s1p, x510, x511, x512, x513, x514, x515, x516, x517]
        repeat' (first | with_reducible apply And.intro | (intro _) | ((first | refine wp_go b128_0 ?_ | refine wp_go b128_5 ?_ | refine wp_go b128_13 ?_ | refine wp_go b128_16 ?_ | refine wp_go b128_20 ?_ | refine wp_go b128_25 ?_ | refine wp_go b128_34 ?_ | refine wp_go b128_35 ?_); simp only [l128_0, l128_5, l128_13, l128_16, l128_20, l128_25, l128_34, l128_35, sg_aload_0, sg_iload_1, sg_iv2_i, len4_0, len4_1, len4_2, len4_3, len4_4, sg_if_eq, sg_iload_2, sg_if_ne, sg_iconst, sg_goto, sg_ic_ne, sg_bipush, sg_iret0, nLg_n, nLg_i, nLg_r, tc_c, tc_l, tc_r, tc_m, tc_n, tc_o, tc_0, inR, true_and, and_true, ne_eq, not_true_eq_false, not_false_eq_true, true_imp_iff, false_imp_iff, Int.toNat_natCast, lit_a, Nat.reduceAdd, or_true, true_or, or_false, false_or, Int.reduceEq, Int.reduceNe, Int.reduceLT, Int.reduceLE, Int.reduceNeg, sg_nil, s1p, x510, x511, x512, x513, x514, x515, x516, x517]))
        all_goals (try omega)
        all_goals exact h
      · have ec : c_book z (n : Int) t = 0 := by unfold c_book; rw [Int.toNat_natCast, if_neg (by omega), if_neg (by omega)]
        rw [ec] at h
        refine wp_go b128_25 ?_; simp only [l128_25, sg_iconst, sg_ic_ne, sg_bipush, sg_goto, nLg_n, nLg_i, nLg_r, tc_c, tc_l, tc_r, tc_m, tc_n, tc_o, tc_0, inR, true_and, and_true, ne_eq, not_true_eq_false, not_false_eq_true, true_imp_iff, false_imp_iff, Int.toNat_natCast, lit_a, Nat.reduceAdd, or_true, true_or, or_false, false_or, Int.reduceEq, Int.reduceNe, Int.reduceLT, Int.reduceLE, Int.reduceNeg, sg_nil, s1p, x510, x511, x512, x513, x514, x515, x516, x517]
        repeat' (first | with_reducible apply And.intro | (intro _) | ((first | refine wp_go b128_0 ?_ | refine wp_go b128_5 ?_ | refine wp_go b128_13 ?_ | refine wp_go b128_16 ?_ | refine wp_go b128_20 ?_ | refine wp_go b128_25 ?_ | refine wp_go b128_34 ?_ | refine wp_go b128_35 ?_); simp only [l128_0, l128_5, l128_13, l128_16, l128_20, l128_25, l128_34, l128_35, sg_aload_0, sg_iload_1, sg_iv2_i, len4_0, len4_1, len4_2, len4_3, len4_4, sg_if_eq, sg_iload_2, sg_if_ne, sg_iconst, sg_goto, sg_ic_ne, sg_bipush, sg_iret0, nLg_n, nLg_i, nLg_r, tc_c, tc_l, tc_r, tc_m, tc_n, tc_o, tc_0, inR, true_and, and_true, ne_eq, not_true_eq_false, not_false_eq_true, true_imp_iff, false_imp_iff, Int.toNat_natCast, lit_a, Nat.reduceAdd, or_true, true_or, or_false, false_or, Int.reduceEq, Int.reduceNe, Int.reduceLT, Int.reduceLE, Int.reduceNeg, sg_nil, s1p, x510, x511, x512, x513, x514, x515, x516, x517]))
        all_goals (try omega)
        all_goals exact h
    · have ec : c_book z (n : Int) t = -1 := by unfold c_book; rw [if_pos (by omega)]
      rw [ec] at h
      refine wp_go b128_13 ?_; simp only [l128_13, sg_if_ne, nLg_n, nLg_i, nLg_r, tc_c, tc_l, tc_r, tc_m, tc_n, tc_o, tc_0, inR, true_and, and_true, ne_eq, not_true_eq_false, not_false_eq_true, true_imp_iff, false_imp_iff, Int.toNat_natCast, lit_a, Nat.reduceAdd, or_true, true_or, or_false, false_or, Int.reduceEq, Int.reduceNe, Int.reduceLT, Int.reduceLE, Int.reduceNeg, sg_nil, s1p, x510, x511, x512, x513, x514, x515, x516, x517]
      repeat' (first | with_reducible apply And.intro | (intro _) | ((first | refine wp_go b128_0 ?_ | refine wp_go b128_5 ?_ | refine wp_go b128_13 ?_ | refine wp_go b128_16 ?_ | refine wp_go b128_20 ?_ | refine wp_go b128_25 ?_ | refine wp_go b128_34 ?_ | refine wp_go b128_35 ?_); simp only [l128_0, l128_5, l128_13, l128_16, l128_20, l128_25, l128_34, l128_35, sg_aload_0, sg_iload_1, sg_iv2_i, len4_0, len4_1, len4_2, len4_3, len4_4, sg_if_eq, sg_iload_2, sg_if_ne, sg_iconst, sg_goto, sg_ic_ne, sg_bipush, sg_iret0, nLg_n, nLg_i, nLg_r, tc_c, tc_l, tc_r, tc_m, tc_n, tc_o, tc_0, inR, true_and, and_true, ne_eq, not_true_eq_false, not_false_eq_true, true_imp_iff, false_imp_iff, Int.toNat_natCast, lit_a, Nat.reduceAdd, or_true, true_or, or_false, false_or, Int.reduceEq, Int.reduceNe, Int.reduceLT, Int.reduceLE, Int.reduceNeg, sg_nil, s1p, x510, x511, x512, x513, x514, x515, x516, x517]))
      all_goals (try omega)
      all_goals exact h
  · have ec : c_book z s t = -1 := by unfold c_book; rw [if_pos (by omega)]
    rw [ec] at h
    refine wp_go b128_5 ?_; simp only [l128_5, sg_if_eq, sg_aload_0, sg_iload_2, sg_iv2_i, len4_0, len4_1, len4_2, len4_3, len4_4, nLg_n, nLg_i, nLg_r, tc_c, tc_l, tc_r, tc_m, tc_n, tc_o, tc_0, inR, true_and, and_true, ne_eq, not_true_eq_false, not_false_eq_true, true_imp_iff, false_imp_iff, Int.toNat_natCast, lit_a, Nat.reduceAdd, or_true, true_or, or_false, false_or, Int.reduceEq, Int.reduceNe, Int.reduceLT, Int.reduceLE, Int.reduceNeg, sg_nil, s1p, x510, x511, x512, x513, x514, x515, x516, x517]
    repeat' (first | with_reducible apply And.intro | (intro _) | ((first | refine wp_go b128_0 ?_ | refine wp_go b128_5 ?_ | refine wp_go b128_13 ?_ | refine wp_go b128_16 ?_ | refine wp_go b128_20 ?_ | refine wp_go b128_25 ?_ | refine wp_go b128_34 ?_ | refine wp_go b128_35 ?_); simp only [l128_0, l128_5, l128_13, l128_16, l128_20, l128_25, l128_34, l128_35, sg_aload_0, sg_iload_1, sg_iv2_i, len4_0, len4_1, len4_2, len4_3, len4_4, sg_if_eq, sg_iload_2, sg_if_ne, sg_iconst, sg_goto, sg_ic_ne, sg_bipush, sg_iret0, nLg_n, nLg_i, nLg_r, tc_c, tc_l, tc_r, tc_m, tc_n, tc_o, tc_0, inR, true_and, and_true, ne_eq, not_true_eq_false, not_false_eq_true, true_imp_iff, false_imp_iff, Int.toNat_natCast, lit_a, Nat.reduceAdd, or_true, true_or, or_false, false_or, Int.reduceEq, Int.reduceNe, Int.reduceLT, Int.reduceLE, Int.reduceNeg, sg_nil, s1p, x510, x511, x512, x513, x514, x515, x516, x517]))
    all_goals (try omega)
    all_goals exact h
theorem zn_book {z : Rw} {s : Nat} {t : Int} (hs : s < 24) (n : Nat) (h4 : z (76 + 5 * s) = (n : Int)) (h5 : n < 4) : zn (bookZ z s t) = zn z ∧ znl (bookZ z s t) = znl z ∧ zl (bookZ z s t) = fun i => if 5 + 3 * i = 76 + 5 * s ∨ 5 + 3 * i = 77 + 5 * s + n then bookZ z s t (5 + 3 * i) else zl z i := by
  have bo : ∀ k, k ≠ 76 + 5 * s → k ≠ 77 + 5 * s + n → bookZ z s t k = z k := fun k h1 h2 => bookZ_o z s k t h1 (by rw [h4]; exact h2)
  refine ⟨by unfold zn; rw [bo 0 (by omega) (by omega)], by unfold znl; rw [bo 3 (by omega) (by omega)], ?_⟩
  funext i
  unfold zl
  split
  · rfl
  · exact bo _ (by omega) (by omega)
theorem zl_book {z : Rw} {s m : Nat} {t : Int} (hm : m ≤ 24) (n : Nat) (h4 : z (76 + 5 * s) = (n : Int)) : sm (zl (bookZ z s t)) m = sm (zl z) m := sm_c (fun i hi => bookZ_o z s _ t (by omega) (by rw [h4, Int.toNat_natCast]; omega))
/-- what a question leaves that puts a notice in and takes it out again -/
-- Mo.ifBooked: blocks [0, 6, 13, 17, 25, 29, 36]
theorem k_Mo_ifBooked {d : Nat} {Q : QT} {μ : Mem} {s t : Int} {z : Rw} (hM : μ 511 = z) (hz : IZ z) (hI : IR z) (hs : inR s) (ht : inR t) (hq : ∀ μ', QM μ μ' → LV z (μ' 511) → IR (μ' 511) → Q (.inl (F_ifBooked z s t)) μ') : Call σ1 (d + 5) 156 [.inr (.inr 510), .inl s, .inl t] μ Q := by
  refine e_156 ?_
  have q := hz.1
  have n0 := zn_eq hz
  have h0 := hq μ (QM_r μ) (by rw [hM]; exact LV_r z) (by rw [hM]; exact hI)
  refine wp_go b156_0 ?_; simp only [l156_0, sg_aload_0, sg_iload_1, sg_iload_2, sg_iv3_i, len4_0, len4_1, len4_2, len4_3, len4_4, nLg_n, nLg_i, nLg_r, tc_c, tc_l, tc_r, tc_m, tc_n, tc_o, tc_0, inR, true_and, and_true, ne_eq, not_true_eq_false, not_false_eq_true, true_imp_iff, false_imp_iff, Int.toNat_natCast, lit_a, Nat.reduceAdd, or_true, true_or, or_false, false_or, Int.reduceEq, Int.reduceNe, Int.reduceLT, Int.reduceLE, Int.reduceNeg, sg_nil, s1p, x510, x511, x512, x513, x514, x515, x516, x517]
  refine k_Mo_whyNotBook hM hz hs ht ?_
  by_cases g1 : (s < 0 ∨ z 0 ≤ s) ∨ (t < 0 ∨ z 2 ≤ t)
  · have ec : c_book z s t = -1 := by unfold c_book; rw [if_pos g1]
    have eF : F_ifBooked z s t = -1 := by unfold F_ifBooked; rw [if_pos g1]
    rw [eF] at h0
    rw [ec]
    refine wp_go b156_6 ?_; simp only [l156_6, sg_istore_3, sg_iload_3, sg_if_ge, sg_iret0, nLg_n, nLg_i, nLg_r, tc_c, tc_l, tc_r, tc_m, tc_n, tc_o, tc_0, inR, true_and, and_true, ne_eq, not_true_eq_false, not_false_eq_true, true_imp_iff, false_imp_iff, Int.toNat_natCast, lit_a, Nat.reduceAdd, or_true, true_or, or_false, false_or, Int.reduceEq, Int.reduceNe, Int.reduceLT, Int.reduceLE, Int.reduceNeg, sg_nil, s1p, x510, x511, x512, x513, x514, x515, x516, x517]
    repeat' (first | with_reducible apply And.intro | (intro _) | ((first | refine wp_go b156_0 ?_ | refine wp_go b156_6 ?_ | refine wp_go b156_13 ?_ | refine wp_go b156_17 ?_ | refine wp_go b156_25 ?_ | refine wp_go b156_29 ?_ | refine wp_go b156_36 ?_); simp only [l156_0, l156_6, l156_13, l156_17, l156_25, l156_29, l156_36, sg_aload_0, sg_iload_1, sg_iload_2, sg_iv3_i, len4_0, len4_1, len4_2, len4_3, len4_4, sg_istore_3, sg_iload_3, sg_if_ge, sg_iret0, sg_iv1_i, sg_istore, okS_4, stL_4, sg_iv3_v, okS_5, stL_5, sg_iv2_v, sg_iload, ldI_5, ldI_4, sg_isub, sg_sipush, sg_iadd, nLg_n, nLg_i, nLg_r, tc_c, tc_l, tc_r, tc_m, tc_n, tc_o, tc_0, inR, true_and, and_true, ne_eq, not_true_eq_false, not_false_eq_true, true_imp_iff, false_imp_iff, Int.toNat_natCast, lit_a, Nat.reduceAdd, or_true, true_or, or_false, false_or, Int.reduceEq, Int.reduceNe, Int.reduceLT, Int.reduceLE, Int.reduceNeg, sg_nil, s1p, x510, x511, x512, x513, x514, x515, x516, x517]))
    all_goals (try omega)
    all_goals exact h0
  · obtain ⟨i, rfl⟩ := nat_of (show 0 ≤ s by omega)
    have r := (hz.2.1 i (by omega)).2.2.2.1
    obtain ⟨n, hn⟩ := nat_of r.1
    by_cases g2 : 4 ≤ z (76 + 5 * i)
    · have ec : c_book z (i : Int) t = -4 := by unfold c_book; rw [if_neg g1, Int.toNat_natCast, if_pos g2]
      have eF : F_ifBooked z (i : Int) t = -4 := by unfold F_ifBooked; rw [if_neg g1, Int.toNat_natCast, if_pos g2]
      rw [eF] at h0
      rw [ec]
      refine wp_go b156_6 ?_; simp only [l156_6, sg_istore_3, sg_iload_3, sg_if_ge, sg_iret0, nLg_n, nLg_i, nLg_r, tc_c, tc_l, tc_r, tc_m, tc_n, tc_o, tc_0, inR, true_and, and_true, ne_eq, not_true_eq_false, not_false_eq_true, true_imp_iff, false_imp_iff, Int.toNat_natCast, lit_a, Nat.reduceAdd, or_true, true_or, or_false, false_or, Int.reduceEq, Int.reduceNe, Int.reduceLT, Int.reduceLE, Int.reduceNeg, sg_nil, s1p, x510, x511, x512, x513, x514, x515, x516, x517]
      repeat' (first | with_reducible apply And.intro | (intro _) | ((first | refine wp_go b156_0 ?_ | refine wp_go b156_6 ?_ | refine wp_go b156_13 ?_ | refine wp_go b156_17 ?_ | refine wp_go b156_25 ?_ | refine wp_go b156_29 ?_ | refine wp_go b156_36 ?_); simp only [l156_0, l156_6, l156_13, l156_17, l156_25, l156_29, l156_36, sg_aload_0, sg_iload_1, sg_iload_2, sg_iv3_i, len4_0, len4_1, len4_2, len4_3, len4_4, sg_istore_3, sg_iload_3, sg_if_ge, sg_iret0, sg_iv1_i, sg_istore, okS_4, stL_4, sg_iv3_v, okS_5, stL_5, sg_iv2_v, sg_iload, ldI_5, ldI_4, sg_isub, sg_sipush, sg_iadd, nLg_n, nLg_i, nLg_r, tc_c, tc_l, tc_r, tc_m, tc_n, tc_o, tc_0, inR, true_and, and_true, ne_eq, not_true_eq_false, not_false_eq_true, true_imp_iff, false_imp_iff, Int.toNat_natCast, lit_a, Nat.reduceAdd, or_true, true_or, or_false, false_or, Int.reduceEq, Int.reduceNe, Int.reduceLT, Int.reduceLE, Int.reduceNeg, sg_nil, s1p, x510, x511, x512, x513, x514, x515, x516, x517]))
      all_goals (try omega)
      all_goals exact h0
    · have ec : c_book z (i : Int) t = 0 := by unfold c_book; rw [if_neg g1, Int.toNat_natCast, if_neg g2]
      have eF : F_ifBooked z (i : Int) t = 10000 + sm (secs (bookZ z i t) (zn z)) (znl z) - sm (secs z (zn z)) (znl z) := by unfold F_ifBooked; rw [if_neg g1, Int.toNat_natCast, if_neg g2]
      rw [ec]
      refine wp_go b156_6 ?_; simp only [l156_6, sg_istore_3, sg_iload_3, sg_if_ge, sg_iret0, nLg_n, nLg_i, nLg_r, tc_c, tc_l, tc_r, tc_m, tc_n, tc_o, tc_0, inR, true_and, and_true, ne_eq, not_true_eq_false, not_false_eq_true, true_imp_iff, false_imp_iff, Int.toNat_natCast, lit_a, Nat.reduceAdd, or_true, true_or, or_false, false_or, Int.reduceEq, Int.reduceNe, Int.reduceLT, Int.reduceLE, Int.reduceNeg, sg_nil, s1p, x510, x511, x512, x513, x514, x515, x516, x517]
      repeat' (first | with_reducible apply And.intro | intro _)
      all_goals (try omega)
      refine wp_go b156_13 ?_; simp only [l156_13, sg_aload_0, sg_iv1_i, len4_0, len4_1, len4_2, len4_3, len4_4, nLg_n, nLg_i, nLg_r, tc_c, tc_l, tc_r, tc_m, tc_n, tc_o, tc_0, inR, true_and, and_true, ne_eq, not_true_eq_false, not_false_eq_true, true_imp_iff, false_imp_iff, Int.toNat_natCast, lit_a, Nat.reduceAdd, or_true, true_or, or_false, false_or, Int.reduceEq, Int.reduceNe, Int.reduceLT, Int.reduceLE, Int.reduceNeg, sg_nil, s1p, x510, x511, x512, x513, x514, x515, x516, x517]
      refine k_Mo_allSeconds hM hz (fun μ1 f1 => ?_)
      refine wp_go b156_17 ?_; simp only [l156_17, sg_istore, okS_4, stL_4, sg_aload_0, sg_iload_1, sg_iload_2, sg_iv3_v, len4_0, len4_1, len4_2, len4_3, len4_4, nLg_n, nLg_i, nLg_r, tc_c, tc_l, tc_r, tc_m, tc_n, tc_o, tc_0, inR, true_and, and_true, ne_eq, not_true_eq_false, not_false_eq_true, true_imp_iff, false_imp_iff, Int.toNat_natCast, lit_a, Nat.reduceAdd, or_true, true_or, or_false, false_or, Int.reduceEq, Int.reduceNe, Int.reduceLT, Int.reduceLE, Int.reduceNeg, sg_nil, s1p, x510, x511, x512, x513, x514, x515, x516, x517]
      refine k_Mo_bookIt (z := z) (by rw [f1 511 (by omega)]; exact hM) (by omega) (by omega) (fun μ2 f2 M2 => ?_)
      refine wp_go b156_25 ?_; simp only [l156_25, sg_aload_0, sg_iv1_i, len4_0, len4_1, len4_2, len4_3, len4_4, nLg_n, nLg_i, nLg_r, tc_c, tc_l, tc_r, tc_m, tc_n, tc_o, tc_0, inR, true_and, and_true, ne_eq, not_true_eq_false, not_false_eq_true, true_imp_iff, false_imp_iff, Int.toNat_natCast, lit_a, Nat.reduceAdd, or_true, true_or, or_false, false_or, Int.reduceEq, Int.reduceNe, Int.reduceLT, Int.reduceLE, Int.reduceNeg, sg_nil, s1p, x510, x511, x512, x513, x514, x515, x516, x517]
      have hzb := IZ_book (s := i) (t := t) hz (by omega) (by omega) (by omega)
      obtain ⟨zb1, zb2, -⟩ := zn_book (z := z) (s := i) (t := t) (by omega) n hn (by omega)
      refine k_Mo_allSeconds M2 hzb (fun μ3 f3 => ?_)
      rw [zb1, zb2, zl_book (z := z) (s := i) (m := zn z) (t := t) (by omega) n hn]
      refine wp_go b156_29 ?_; simp only [l156_29, sg_istore, okS_5, stL_5, sg_aload_0, sg_iload_1, sg_iv2_v, len4_0, len4_1, len4_2, len4_3, len4_4, nLg_n, nLg_i, nLg_r, tc_c, tc_l, tc_r, tc_m, tc_n, tc_o, tc_0, inR, true_and, and_true, ne_eq, not_true_eq_false, not_false_eq_true, true_imp_iff, false_imp_iff, Int.toNat_natCast, lit_a, Nat.reduceAdd, or_true, true_or, or_false, false_or, Int.reduceEq, Int.reduceNe, Int.reduceLT, Int.reduceLE, Int.reduceNeg, sg_nil, s1p, x510, x511, x512, x513, x514, x515, x516, x517]
      refine k_Mo_unbookLast (n := n) (z := bookZ z i t) (by rw [f3 511 (by omega)]; exact M2) (by omega) (by rw [bookZ_s, hn]; omega) (by omega) (fun μ4 f4 M4 => ?_)
      rw [ub_book hn] at M4
      have h := hq μ4 ⟨fun k a b c e => ((f4 k b).trans (f3 k c)).trans ((f2 k b).trans (f1 k c)), fun j hj => by rw [f4 510 (by omega), f3 510 (by omega), f2 510 (by omega), f1 510 (by omega)]⟩ (by rw [M4]; exact LV_ub hz (by omega) (by omega)) (by rw [M4]; exact IR_ub hI)
      rw [eF] at h
      have ev : sm (secs (bookZ z i t) (zn z)) (znl z) + sm (fun _ => sm (zl z) (zn z)) (znl z) - (sm (secs z (zn z)) (znl z) + sm (fun _ => sm (zl z) (zn z)) (znl z)) + 10000 = 10000 + sm (secs (bookZ z i t) (zn z)) (znl z) - sm (secs z (zn z)) (znl z) := by omega
      refine wp_go b156_36 ?_; simp only [l156_36, sg_iload, ldI_5, ldI_4, sg_isub, sg_sipush, sg_iadd, sg_iret0, nLg_n, nLg_i, nLg_r, tc_c, tc_l, tc_r, tc_m, tc_n, tc_o, tc_0, inR, true_and, and_true, ne_eq, not_true_eq_false, not_false_eq_true, true_imp_iff, false_imp_iff, Int.toNat_natCast, lit_a, Nat.reduceAdd, or_true, true_or, or_false, false_or, Int.reduceEq, Int.reduceNe, Int.reduceLT, Int.reduceLE, Int.reduceNeg, sg_nil, s1p, x510, x511, x512, x513, x514, x515, x516, x517, ev]
      exact h
-- Mo.bestBreak: blocks [0, 5, 10, 16, 22, 32, 49, 60, 65, 73, 85, 86, 99, 101, 103, 109, 117, 119]
theorem k_Mo_bestBreak {d : Nat} {Q : QT} {μ : Mem} {t w : Int} {z : Rw} (hM : μ 511 = z) (hz : IZ z) (hI : IR z) (ht : inR t) (hw : inR w) (hq : ∀ μ', QM μ μ' → LV z (μ' 511) → IR (μ' 511) → Q (.inl (F_bestBreak z t w)) μ') : Call σ1 (d + 5) 157 [.inr (.inr 510), .inl t, .inl w] μ Q := by
  refine e_157 ?_
  have q := hz.1
  have h := hq μ (QM_r μ) (by rw [hM]; exact LV_r z) (by rw [hM]; exact hI)
  have n0 := zn_eq hz
  have n3 := znl_eq hz
  refine wp_go b157_0 ?_; simp only [l157_0, sg_aload_0, sg_iload_1, sg_iv2_i, len4_0, len4_1, len4_2, len4_3, len4_4, nLg_n, nLg_i, nLg_r, tc_c, tc_l, tc_r, tc_m, tc_n, tc_o, tc_0, inR, true_and, and_true, ne_eq, not_true_eq_false, not_false_eq_true, true_imp_iff, false_imp_iff, Int.toNat_natCast, lit_a, Nat.reduceAdd, or_true, true_or, or_false, false_or, Int.reduceEq, Int.reduceNe, Int.reduceLT, Int.reduceLE, Int.reduceNeg, sg_nil, s1p, x510, x511, x512, x513, x514, x515, x516, x517]
  refine k_Mo_isNotice hM hz ht (fun h1 h2 => ?_) (fun h0 => ?_)
  · obtain ⟨m, rfl⟩ := nat_of h1
    refine wp_go b157_5 ?_; simp only [l157_5, sg_if_ne, sg_iconst, sg_iret0, nLg_n, nLg_i, nLg_r, tc_c, tc_l, tc_r, tc_m, tc_n, tc_o, tc_0, inR, true_and, and_true, ne_eq, not_true_eq_false, not_false_eq_true, true_imp_iff, false_imp_iff, Int.toNat_natCast, lit_a, Nat.reduceAdd, or_true, true_or, or_false, false_or, Int.reduceEq, Int.reduceNe, Int.reduceLT, Int.reduceLE, Int.reduceNeg, sg_nil, s1p, x510, x511, x512, x513, x514, x515, x516, x517]
    repeat' (first | with_reducible apply And.intro | intro _)
    all_goals (try omega)
    refine wp_go b157_10 ?_; simp only [l157_10, sg_iload_2, sg_iconst, len4_0, len4_1, len4_2, len4_3, len4_4, sg_is3_1, nLg_n, nLg_i, nLg_r, tc_c, tc_l, tc_r, tc_m, tc_n, tc_o, tc_0, inR, true_and, and_true, ne_eq, not_true_eq_false, not_false_eq_true, true_imp_iff, false_imp_iff, Int.toNat_natCast, lit_a, Nat.reduceAdd, or_true, true_or, or_false, false_or, Int.reduceEq, Int.reduceNe, Int.reduceLT, Int.reduceLE, Int.reduceNeg, sg_nil, s1p, x510, x511, x512, x513, x514, x515, x516, x517]
    refine k_Mo_in hw (by unfold inR; omega) (by unfold inR; omega) (fun g1 g2 => ?_) (fun g0 => ?_)
    · have loop : ∀ k i : Nat, i + k = zn z → ∀ (μ1 : Mem) (o6 : Option MV), nLg o6 → QM μ μ1 → LV z (μ1 511) → IR (μ1 511) → wp σ1 (Call σ1 (d + 4)) 157 Q 32 [some (.inr (.inr 510)), some (.inl (m : Int)), some (.inl w), some (.inl (bb (hib z (m : Int)) i).1), some (.inl (bb (hib z (m : Int)) i).2), some (.inl (i : Int)), o6] [] μ1 := by
        intro k
        induction k with
        | zero =>
          intro i hi μ1 o6 l6 f1 L1 I1
          have him : i = zn z := by omega
          have h := hq μ1 f1 L1 I1
          unfold F_bestBreak at h
          rw [if_neg (by omega), if_neg (by omega), ← him] at h
          have e : μ1 511 0 = (i : Int) := (L1.1 0 (by omega)).trans (by omega)
          have hb := bb_b (f := hib z (m : Int)) (a := -6) (b := znl z) (by omega) (by omega) (hib_b z (m : Int)) i
          by_cases w0 : w = 0
          · rw [if_pos w0] at h
            subst w0
            refine wp_go b157_32 ?_; simp only [l157_32, sg_iload, ldI_5, sg_aload_0, sg_getfp, sg_iconst, sg_iaload, sg_ic_ge, sg_iv2_i, len4_0, len4_1, len4_2, len4_3, len4_4, nLg_n, nLg_i, nLg_r, tc_c, tc_l, tc_r, tc_m, tc_n, tc_o, tc_0, inR, true_and, and_true, ne_eq, not_true_eq_false, not_false_eq_true, true_imp_iff, false_imp_iff, Int.toNat_natCast, lit_a, Nat.reduceAdd, or_true, true_or, or_false, false_or, Int.reduceEq, Int.reduceNe, Int.reduceLT, Int.reduceLE, Int.reduceNeg, sg_nil, s1p, x510, x511, x512, x513, x514, x515, x516, x517, e, Int.toNat_zero]
            repeat' (first | with_reducible apply And.intro | (intro _) | ((first | refine wp_go b157_0 ?_ | refine wp_go b157_5 ?_ | refine wp_go b157_10 ?_ | refine wp_go b157_16 ?_ | refine wp_go b157_22 ?_ | refine wp_go b157_49 ?_ | refine wp_go b157_60 ?_ | refine wp_go b157_65 ?_ | refine wp_go b157_73 ?_ | refine wp_go b157_85 ?_ | refine wp_go b157_86 ?_ | refine wp_go b157_99 ?_ | refine wp_go b157_101 ?_ | refine wp_go b157_103 ?_ | refine wp_go b157_109 ?_ | refine wp_go b157_117 ?_ | refine wp_go b157_119 ?_); simp only [l157_0, l157_5, l157_10, l157_16, l157_22, l157_49, l157_60, l157_65, l157_73, l157_85, l157_86, l157_99, l157_101, l157_103, l157_109, l157_117, l157_119, sg_aload_0, sg_iload_1, sg_iv2_i, len4_0, len4_1, len4_2, len4_3, len4_4, sg_if_ne, sg_iconst, sg_iret0, sg_iload_2, sg_is3_1, sg_bipush, sg_istore_3, sg_istore, okS_4, stL_4, okS_5, stL_5, sg_ic_ge, sg_iload, ldI_5, sg_iv3_v, okS_6, stL_6, sg_iv2_v, ldI_6, ldI_4, sg_ic_le, sg_goto, sg_iload_3, sg_iinc, nLg_n, nLg_i, nLg_r, tc_c, tc_l, tc_r, tc_m, tc_n, tc_o, tc_0, inR, true_and, and_true, ne_eq, not_true_eq_false, not_false_eq_true, true_imp_iff, false_imp_iff, Int.toNat_natCast, lit_a, Nat.reduceAdd, or_true, true_or, or_false, false_or, Int.reduceEq, Int.reduceNe, Int.reduceLT, Int.reduceLE, Int.reduceNeg, sg_nil, s1p, x510, x511, x512, x513, x514, x515, x516, x517]))
            all_goals (try omega)
            all_goals exact h
          · rw [if_neg w0] at h
            refine wp_go b157_32 ?_; simp only [l157_32, sg_iload, ldI_5, sg_aload_0, sg_getfp, sg_iconst, sg_iaload, sg_ic_ge, sg_iv2_i, len4_0, len4_1, len4_2, len4_3, len4_4, nLg_n, nLg_i, nLg_r, tc_c, tc_l, tc_r, tc_m, tc_n, tc_o, tc_0, inR, true_and, and_true, ne_eq, not_true_eq_false, not_false_eq_true, true_imp_iff, false_imp_iff, Int.toNat_natCast, lit_a, Nat.reduceAdd, or_true, true_or, or_false, false_or, Int.reduceEq, Int.reduceNe, Int.reduceLT, Int.reduceLE, Int.reduceNeg, sg_nil, s1p, x510, x511, x512, x513, x514, x515, x516, x517, e, Int.toNat_zero]
            repeat' (first | with_reducible apply And.intro | (intro _) | ((first | refine wp_go b157_0 ?_ | refine wp_go b157_5 ?_ | refine wp_go b157_10 ?_ | refine wp_go b157_16 ?_ | refine wp_go b157_22 ?_ | refine wp_go b157_49 ?_ | refine wp_go b157_60 ?_ | refine wp_go b157_65 ?_ | refine wp_go b157_73 ?_ | refine wp_go b157_85 ?_ | refine wp_go b157_86 ?_ | refine wp_go b157_99 ?_ | refine wp_go b157_101 ?_ | refine wp_go b157_103 ?_ | refine wp_go b157_109 ?_ | refine wp_go b157_117 ?_ | refine wp_go b157_119 ?_); simp only [l157_0, l157_5, l157_10, l157_16, l157_22, l157_49, l157_60, l157_65, l157_73, l157_85, l157_86, l157_99, l157_101, l157_103, l157_109, l157_117, l157_119, sg_aload_0, sg_iload_1, sg_iv2_i, len4_0, len4_1, len4_2, len4_3, len4_4, sg_if_ne, sg_iconst, sg_iret0, sg_iload_2, sg_is3_1, sg_bipush, sg_istore_3, sg_istore, okS_4, stL_4, okS_5, stL_5, sg_ic_ge, sg_iload, ldI_5, sg_iv3_v, okS_6, stL_6, sg_iv2_v, ldI_6, ldI_4, sg_ic_le, sg_goto, sg_iload_3, sg_iinc, nLg_n, nLg_i, nLg_r, tc_c, tc_l, tc_r, tc_m, tc_n, tc_o, tc_0, inR, true_and, and_true, ne_eq, not_true_eq_false, not_false_eq_true, true_imp_iff, false_imp_iff, Int.toNat_natCast, lit_a, Nat.reduceAdd, or_true, true_or, or_false, false_or, Int.reduceEq, Int.reduceNe, Int.reduceLT, Int.reduceLE, Int.reduceNeg, sg_nil, s1p, x510, x511, x512, x513, x514, x515, x516, x517]))
            all_goals (try omega)
            all_goals exact h
        | succ k ih =>
          intro i hi μ1 o6 l6 f1 L1 I1
          have e : μ1 511 0 = (zn z : Int) := (L1.1 0 (by omega)).trans (by omega)
          have hzw := LV_IZ hz L1
          have er : μ1 511 (76 + 5 * i) = z (76 + 5 * i) := (L1.2.1 i (by omega)).2.2.2.1
          have r := (hz.2.1 i (by omega)).2.2.2.1
          obtain ⟨n, hn⟩ := nat_of r.1
          have bb1 := bb_b (f := hib z (m : Int)) (a := -6) (b := znl z) (by omega) (by omega) (hib_b z (m : Int)) i
          have e4 : bb (hib z (m : Int)) (i + 1) = if (bb (hib z (m : Int)) i).2 < hib z (m : Int) i then ((i : Int), hib z (m : Int) i) else bb (hib z (m : Int)) i := rfl
          refine wp_go b157_32 ?_; simp only [l157_32, sg_iload, ldI_5, sg_aload_0, sg_getfp, sg_iconst, sg_iaload, sg_ic_ge, sg_iv2_i, len4_0, len4_1, len4_2, len4_3, len4_4, nLg_n, nLg_i, nLg_r, tc_c, tc_l, tc_r, tc_m, tc_n, tc_o, tc_0, inR, true_and, and_true, ne_eq, not_true_eq_false, not_false_eq_true, true_imp_iff, false_imp_iff, Int.toNat_natCast, lit_a, Nat.reduceAdd, or_true, true_or, or_false, false_or, Int.reduceEq, Int.reduceNe, Int.reduceLT, Int.reduceLE, Int.reduceNeg, sg_nil, s1p, x510, x511, x512, x513, x514, x515, x516, x517, e, Int.toNat_zero]
          repeat' (first | with_reducible apply And.intro | intro _)
          all_goals (try omega)
          refine k_Mo_inBreak (z := μ1 511) rfl (by omega) ?_
          rw [er]
          by_cases g4 : 4 ≤ z (76 + 5 * i)
          · have eh : hib z (m : Int) i = -6 := by unfold hib; rw [if_pos g4]
            rw [if_neg (by omega)] at e4
            have ih1 := ih (i + 1) (by omega) μ1 o6 l6 f1 L1 I1
            rw [e4] at ih1
            refine wp_go b157_49 ?_; simp only [l157_49, sg_iconst, sg_ic_ge, sg_aload_0, sg_iload, ldI_5, sg_iload_1, sg_iv3_v, len4_0, len4_1, len4_2, len4_3, len4_4, nLg_n, nLg_i, nLg_r, tc_c, tc_l, tc_r, tc_m, tc_n, tc_o, tc_0, inR, true_and, and_true, ne_eq, not_true_eq_false, not_false_eq_true, true_imp_iff, false_imp_iff, Int.toNat_natCast, lit_a, Nat.reduceAdd, or_true, true_or, or_false, false_or, Int.reduceEq, Int.reduceNe, Int.reduceLT, Int.reduceLE, Int.reduceNeg, sg_nil, s1p, x510, x511, x512, x513, x514, x515, x516, x517]
            repeat' (first | with_reducible apply And.intro | intro _)
            all_goals (try omega)
            refine wp_go b157_103 ?_; simp only [l157_103, sg_iinc, ldI_5, okS_5, stL_5, sg_goto, nLg_n, nLg_i, nLg_r, tc_c, tc_l, tc_r, tc_m, tc_n, tc_o, tc_0, inR, true_and, and_true, ne_eq, not_true_eq_false, not_false_eq_true, true_imp_iff, false_imp_iff, Int.toNat_natCast, lit_a, Nat.reduceAdd, or_true, true_or, or_false, false_or, Int.reduceEq, Int.reduceNe, Int.reduceLT, Int.reduceLE, Int.reduceNeg, sg_nil, s1p, x510, x511, x512, x513, x514, x515, x516, x517]
            repeat' (first | with_reducible apply And.intro | intro _)
            all_goals (try omega)
          · have eh : hib z (m : Int) i = sm (hrs (bookZ z i (m : Int)) (zn z) (m : Int)) (znl z) := by unfold hib; rw [if_neg g4]
            have hb := hib_b z (m : Int) i
            refine wp_go b157_49 ?_; simp only [l157_49, sg_iconst, sg_ic_ge, sg_aload_0, sg_iload, ldI_5, sg_iload_1, sg_iv3_v, len4_0, len4_1, len4_2, len4_3, len4_4, nLg_n, nLg_i, nLg_r, tc_c, tc_l, tc_r, tc_m, tc_n, tc_o, tc_0, inR, true_and, and_true, ne_eq, not_true_eq_false, not_false_eq_true, true_imp_iff, false_imp_iff, Int.toNat_natCast, lit_a, Nat.reduceAdd, or_true, true_or, or_false, false_or, Int.reduceEq, Int.reduceNe, Int.reduceLT, Int.reduceLE, Int.reduceNeg, sg_nil, s1p, x510, x511, x512, x513, x514, x515, x516, x517]
            repeat' (first | with_reducible apply And.intro | intro _)
            all_goals (try omega)
            refine k_Mo_bookIt (z := μ1 511) rfl (by omega) (by omega) (fun μ2 f2 M2 => ?_)
            refine wp_go b157_60 ?_; simp only [l157_60, sg_aload_0, sg_iload_1, sg_iv2_i, len4_0, len4_1, len4_2, len4_3, len4_4, nLg_n, nLg_i, nLg_r, tc_c, tc_l, tc_r, tc_m, tc_n, tc_o, tc_0, inR, true_and, and_true, ne_eq, not_true_eq_false, not_false_eq_true, true_imp_iff, false_imp_iff, Int.toNat_natCast, lit_a, Nat.reduceAdd, or_true, true_or, or_false, false_or, Int.reduceEq, Int.reduceNe, Int.reduceLT, Int.reduceLE, Int.reduceNeg, sg_nil, s1p, x510, x511, x512, x513, x514, x515, x516, x517]
            have Lb := LV_book (t := (m : Int)) hz L1 (show (i : Int) < z 0 by omega) (by omega)
            have hzb0 := IZ_book (s := i) (t := (m : Int)) hz (by omega) (by omega) (by omega)
            have hzb := LV_IZ hzb0 Lb
            obtain ⟨zb1, zb2, -⟩ := zn_book (z := z) (s := i) (t := (m : Int)) (by omega) n hn (by omega)
            refine k_Mo_hearers M2 hzb (by omega) (fun μ3 f3 => ?_)
            rw [LV_hrs hzb0 Lb, zb1, zb2, ← eh]
            refine wp_go b157_65 ?_; simp only [l157_65, sg_istore, okS_6, stL_6, sg_aload_0, sg_iload, ldI_5, sg_iv2_v, len4_0, len4_1, len4_2, len4_3, len4_4, nLg_n, nLg_i, nLg_r, tc_c, tc_l, tc_r, tc_m, tc_n, tc_o, tc_0, inR, true_and, and_true, ne_eq, not_true_eq_false, not_false_eq_true, true_imp_iff, false_imp_iff, Int.toNat_natCast, lit_a, Nat.reduceAdd, or_true, true_or, or_false, false_or, Int.reduceEq, Int.reduceNe, Int.reduceLT, Int.reduceLE, Int.reduceNeg, sg_nil, s1p, x510, x511, x512, x513, x514, x515, x516, x517]
            repeat' (first | with_reducible apply And.intro | intro _)
            all_goals (try omega)
            refine k_Mo_unbookLast (n := n) (z := bookZ (μ1 511) i (m : Int)) (by rw [f3 511 (by omega)]; exact M2) (by omega) (by rw [bookZ_s, er, hn]; omega) (by omega) (fun μ4 f4 M4 => ?_)
            rw [ub_book (er.trans hn)] at M4
            have L4 : LV z (μ4 511) := by rw [M4]; exact LV_t L1 (LV_ub hzw (by have := L1.1 0 (by omega); omega) (by omega))
            have I4 : IR (μ4 511) := by rw [M4]; exact IR_ub I1
            have Q4 : QM μ μ4 := QM_t f1 ⟨fun k a b c e => ((f4 k b).trans (f3 k c)).trans (f2 k b), fun j hj => by rw [f4 510 (by omega), f3 510 (by omega), f2 510 (by omega)]⟩
            have ih1 := ih (i + 1) (by omega) μ4 (some (.inl (hib z (m : Int) i))) trivial Q4 L4 I4
            rw [e4] at ih1
            by_cases gl : (bb (hib z (m : Int)) i).2 < hib z (m : Int) i
            · rw [if_pos gl] at ih1
              refine wp_go b157_73 ?_; simp only [l157_73, sg_iload, ldI_6, ldI_4, sg_ic_le, ldI_5, sg_goto, nLg_n, nLg_i, nLg_r, tc_c, tc_l, tc_r, tc_m, tc_n, tc_o, tc_0, inR, true_and, and_true, ne_eq, not_true_eq_false, not_false_eq_true, true_imp_iff, false_imp_iff, Int.toNat_natCast, lit_a, Nat.reduceAdd, or_true, true_or, or_false, false_or, Int.reduceEq, Int.reduceNe, Int.reduceLT, Int.reduceLE, Int.reduceNeg, sg_nil, s1p, x510, x511, x512, x513, x514, x515, x516, x517]
              repeat' (first | with_reducible apply And.intro | (intro _) | ((first | refine wp_go b157_0 ?_ | refine wp_go b157_5 ?_ | refine wp_go b157_10 ?_ | refine wp_go b157_16 ?_ | refine wp_go b157_22 ?_ | refine wp_go b157_49 ?_ | refine wp_go b157_60 ?_ | refine wp_go b157_65 ?_ | refine wp_go b157_73 ?_ | refine wp_go b157_85 ?_ | refine wp_go b157_86 ?_ | refine wp_go b157_99 ?_ | refine wp_go b157_101 ?_ | refine wp_go b157_103 ?_ | refine wp_go b157_109 ?_ | refine wp_go b157_117 ?_ | refine wp_go b157_119 ?_); simp only [l157_0, l157_5, l157_10, l157_16, l157_22, l157_49, l157_60, l157_65, l157_73, l157_85, l157_86, l157_99, l157_101, l157_103, l157_109, l157_117, l157_119, sg_aload_0, sg_iload_1, sg_iv2_i, len4_0, len4_1, len4_2, len4_3, len4_4, sg_if_ne, sg_iconst, sg_iret0, sg_iload_2, sg_is3_1, sg_bipush, sg_istore_3, sg_istore, okS_4, stL_4, okS_5, stL_5, sg_ic_ge, sg_iload, ldI_5, sg_iv3_v, okS_6, stL_6, sg_iv2_v, ldI_6, ldI_4, sg_ic_le, sg_goto, sg_iload_3, sg_iinc, nLg_n, nLg_i, nLg_r, tc_c, tc_l, tc_r, tc_m, tc_n, tc_o, tc_0, inR, true_and, and_true, ne_eq, not_true_eq_false, not_false_eq_true, true_imp_iff, false_imp_iff, Int.toNat_natCast, lit_a, Nat.reduceAdd, or_true, true_or, or_false, false_or, Int.reduceEq, Int.reduceNe, Int.reduceLT, Int.reduceLE, Int.reduceNeg, sg_nil, s1p, x510, x511, x512, x513, x514, x515, x516, x517]))
              all_goals (try omega)
              all_goals exact ih1
            · rw [if_neg gl] at ih1
              refine wp_go b157_73 ?_; simp only [l157_73, sg_iload, ldI_6, ldI_4, sg_ic_le, ldI_5, sg_goto, nLg_n, nLg_i, nLg_r, tc_c, tc_l, tc_r, tc_m, tc_n, tc_o, tc_0, inR, true_and, and_true, ne_eq, not_true_eq_false, not_false_eq_true, true_imp_iff, false_imp_iff, Int.toNat_natCast, lit_a, Nat.reduceAdd, or_true, true_or, or_false, false_or, Int.reduceEq, Int.reduceNe, Int.reduceLT, Int.reduceLE, Int.reduceNeg, sg_nil, s1p, x510, x511, x512, x513, x514, x515, x516, x517]
              repeat' (first | with_reducible apply And.intro | (intro _) | ((first | refine wp_go b157_0 ?_ | refine wp_go b157_5 ?_ | refine wp_go b157_10 ?_ | refine wp_go b157_16 ?_ | refine wp_go b157_22 ?_ | refine wp_go b157_49 ?_ | refine wp_go b157_60 ?_ | refine wp_go b157_65 ?_ | refine wp_go b157_73 ?_ | refine wp_go b157_85 ?_ | refine wp_go b157_86 ?_ | refine wp_go b157_99 ?_ | refine wp_go b157_101 ?_ | refine wp_go b157_103 ?_ | refine wp_go b157_109 ?_ | refine wp_go b157_117 ?_ | refine wp_go b157_119 ?_); simp only [l157_0, l157_5, l157_10, l157_16, l157_22, l157_49, l157_60, l157_65, l157_73, l157_85, l157_86, l157_99, l157_101, l157_103, l157_109, l157_117, l157_119, sg_aload_0, sg_iload_1, sg_iv2_i, len4_0, len4_1, len4_2, len4_3, len4_4, sg_if_ne, sg_iconst, sg_iret0, sg_iload_2, sg_is3_1, sg_bipush, sg_istore_3, sg_istore, okS_4, stL_4, okS_5, stL_5, sg_ic_ge, sg_iload, ldI_5, sg_iv3_v, okS_6, stL_6, sg_iv2_v, ldI_6, ldI_4, sg_ic_le, sg_goto, sg_iload_3, sg_iinc, nLg_n, nLg_i, nLg_r, tc_c, tc_l, tc_r, tc_m, tc_n, tc_o, tc_0, inR, true_and, and_true, ne_eq, not_true_eq_false, not_false_eq_true, true_imp_iff, false_imp_iff, Int.toNat_natCast, lit_a, Nat.reduceAdd, or_true, true_or, or_false, false_or, Int.reduceEq, Int.reduceNe, Int.reduceLT, Int.reduceLE, Int.reduceNeg, sg_nil, s1p, x510, x511, x512, x513, x514, x515, x516, x517]))
              all_goals (try omega)
              all_goals exact ih1
      refine wp_go b157_16 ?_; simp only [l157_16, sg_if_ne, sg_bipush, sg_iret0, nLg_n, nLg_i, nLg_r, tc_c, tc_l, tc_r, tc_m, tc_n, tc_o, tc_0, inR, true_and, and_true, ne_eq, not_true_eq_false, not_false_eq_true, true_imp_iff, false_imp_iff, Int.toNat_natCast, lit_a, Nat.reduceAdd, or_true, true_or, or_false, false_or, Int.reduceEq, Int.reduceNe, Int.reduceLT, Int.reduceLE, Int.reduceNeg, sg_nil, s1p, x510, x511, x512, x513, x514, x515, x516, x517]
      repeat' (first | with_reducible apply And.intro | intro _)
      all_goals (try omega)
      refine wp_go b157_22 ?_; simp only [l157_22, sg_bipush, sg_istore_3, sg_istore, okS_4, stL_4, sg_iconst, okS_5, stL_5, nLg_n, nLg_i, nLg_r, tc_c, tc_l, tc_r, tc_m, tc_n, tc_o, tc_0, inR, true_and, and_true, ne_eq, not_true_eq_false, not_false_eq_true, true_imp_iff, false_imp_iff, Int.toNat_natCast, lit_a, Nat.reduceAdd, or_true, true_or, or_false, false_or, Int.reduceEq, Int.reduceNe, Int.reduceLT, Int.reduceLE, Int.reduceNeg, sg_nil, s1p, x510, x511, x512, x513, x514, x515, x516, x517]
      exact loop (zn z) 0 (by omega) μ none trivial (QM_r μ) (by rw [hM]; exact LV_r z) (by rw [hM]; exact hI)
    · refine wp_go b157_16 ?_; simp only [l157_16, sg_if_ne, sg_bipush, sg_iret0, nLg_n, nLg_i, nLg_r, tc_c, tc_l, tc_r, tc_m, tc_n, tc_o, tc_0, inR, true_and, and_true, ne_eq, not_true_eq_false, not_false_eq_true, true_imp_iff, false_imp_iff, Int.toNat_natCast, lit_a, Nat.reduceAdd, or_true, true_or, or_false, false_or, Int.reduceEq, Int.reduceNe, Int.reduceLT, Int.reduceLE, Int.reduceNeg, sg_nil, s1p, x510, x511, x512, x513, x514, x515, x516, x517]
      repeat' (first | with_reducible apply And.intro | (intro _) | ((first | refine wp_go b157_0 ?_ | refine wp_go b157_5 ?_ | refine wp_go b157_10 ?_ | refine wp_go b157_16 ?_ | refine wp_go b157_22 ?_ | refine wp_go b157_49 ?_ | refine wp_go b157_60 ?_ | refine wp_go b157_65 ?_ | refine wp_go b157_73 ?_ | refine wp_go b157_85 ?_ | refine wp_go b157_86 ?_ | refine wp_go b157_99 ?_ | refine wp_go b157_101 ?_ | refine wp_go b157_103 ?_ | refine wp_go b157_109 ?_ | refine wp_go b157_117 ?_ | refine wp_go b157_119 ?_); simp only [l157_0, l157_5, l157_10, l157_16, l157_22, l157_49, l157_60, l157_65, l157_73, l157_85, l157_86, l157_99, l157_101, l157_103, l157_109, l157_117, l157_119, sg_aload_0, sg_iload_1, sg_iv2_i, len4_0, len4_1, len4_2, len4_3, len4_4, sg_if_ne, sg_iconst, sg_iret0, sg_iload_2, sg_is3_1, sg_bipush, sg_istore_3, sg_istore, okS_4, stL_4, okS_5, stL_5, sg_ic_ge, sg_iload, ldI_5, sg_iv3_v, okS_6, stL_6, sg_iv2_v, ldI_6, ldI_4, sg_ic_le, sg_goto, sg_iload_3, sg_iinc, nLg_n, nLg_i, nLg_r, tc_c, tc_l, tc_r, tc_m, tc_n, tc_o, tc_0, inR, true_and, and_true, ne_eq, not_true_eq_false, not_false_eq_true, true_imp_iff, false_imp_iff, Int.toNat_natCast, lit_a, Nat.reduceAdd, or_true, true_or, or_false, false_or, Int.reduceEq, Int.reduceNe, Int.reduceLT, Int.reduceLE, Int.reduceNeg, sg_nil, s1p, x510, x511, x512, x513, x514, x515, x516, x517]))
      all_goals (try omega)
      all_goals (revert h; unfold F_bestBreak; (try simp only [Int.toNat_natCast]); (repeat (first | rw [if_neg (by omega)] | rw [if_pos (by omega)])); exact id)
  · refine wp_go b157_5 ?_; simp only [l157_5, sg_if_ne, sg_iconst, sg_iret0, nLg_n, nLg_i, nLg_r, tc_c, tc_l, tc_r, tc_m, tc_n, tc_o, tc_0, inR, true_and, and_true, ne_eq, not_true_eq_false, not_false_eq_true, true_imp_iff, false_imp_iff, Int.toNat_natCast, lit_a, Nat.reduceAdd, or_true, true_or, or_false, false_or, Int.reduceEq, Int.reduceNe, Int.reduceLT, Int.reduceLE, Int.reduceNeg, sg_nil, s1p, x510, x511, x512, x513, x514, x515, x516, x517]
    repeat' (first | with_reducible apply And.intro | (intro _) | ((first | refine wp_go b157_0 ?_ | refine wp_go b157_5 ?_ | refine wp_go b157_10 ?_ | refine wp_go b157_16 ?_ | refine wp_go b157_22 ?_ | refine wp_go b157_49 ?_ | refine wp_go b157_60 ?_ | refine wp_go b157_65 ?_ | refine wp_go b157_73 ?_ | refine wp_go b157_85 ?_ | refine wp_go b157_86 ?_ | refine wp_go b157_99 ?_ | refine wp_go b157_101 ?_ | refine wp_go b157_103 ?_ | refine wp_go b157_109 ?_ | refine wp_go b157_117 ?_ | refine wp_go b157_119 ?_); simp only [l157_0, l157_5, l157_10, l157_16, l157_22, l157_49, l157_60, l157_65, l157_73, l157_85, l157_86, l157_99, l157_101, l157_103, l157_109, l157_117, l157_119, sg_aload_0, sg_iload_1, sg_iv2_i, len4_0, len4_1, len4_2, len4_3, len4_4, sg_if_ne, sg_iconst, sg_iret0, sg_iload_2, sg_is3_1, sg_bipush, sg_istore_3, sg_istore, okS_4, stL_4, okS_5, stL_5, sg_ic_ge, sg_iload, ldI_5, sg_iv3_v, okS_6, stL_6, sg_iv2_v, ldI_6, ldI_4, sg_ic_le, sg_goto, sg_iload_3, sg_iinc, nLg_n, nLg_i, nLg_r, tc_c, tc_l, tc_r, tc_m, tc_n, tc_o, tc_0, inR, true_and, and_true, ne_eq, not_true_eq_false, not_false_eq_true, true_imp_iff, false_imp_iff, Int.toNat_natCast, lit_a, Nat.reduceAdd, or_true, true_or, or_false, false_or, Int.reduceEq, Int.reduceNe, Int.reduceLT, Int.reduceLE, Int.reduceNeg, sg_nil, s1p, x510, x511, x512, x513, x514, x515, x516, x517]))
    all_goals (try omega)
    all_goals (revert h; unfold F_bestBreak; (try simp only [Int.toNat_natCast]); (repeat (first | rw [if_neg (by omega)] | rw [if_pos (by omega)])); exact id)
