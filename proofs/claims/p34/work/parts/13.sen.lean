-- Sen.timeOf: blocks [0, 4, 24]
theorem k_Sen_timeOf {σ : Sg} {d : Nat} {Q : QT} {μ : Mem} {S p : Nat} (hS : iSen σ S) (hp : p ≤ 24) (h : Q (.inl (sm (μ (S + 2)) p)) μ) : Call σ (d + 1) 17 [.inr (.inr S), .inl (p : Int)] μ Q := by
  refine e_17 ?_
  obtain ⟨s0, s1, s2, s3, q0, q1, q2⟩ := hS
  have loop : ∀ k i : Nat, i + k = p → wp σ (Call σ d) 17 Q 4 [some (.inr (.inr S)), some (.inl (p : Int)), some (.inl (sm (μ (S + 2)) i)), some (.inl (i : Int))] [] μ := by
    intro k
    induction k with
    | zero =>
      intro i hi
      obtain rfl : i = p := by omega
      refine wp_go b17_4 ?_; simp only [l17_4, sg_iload_3, sg_iload_1, sg_ic_ge, sg_iload_2, sg_aload_0, sg_getfp, sg_iaload, sg_iadd, sg_istore_2, sg_iinc, ldI_3, okS_3, stL_3, sg_goto, nLg_n, nLg_i, nLg_r, tc_c, tc_l, tc_r, tc_m, tc_n, tc_o, tc_0, inR, true_and, and_true, ne_eq, not_true_eq_false, not_false_eq_true, true_imp_iff, false_imp_iff, Int.toNat_natCast, lit_a, Nat.reduceAdd, or_true, true_or, or_false, false_or, Int.reduceEq, Int.reduceNe, Int.reduceLT, Int.reduceLE, Int.reduceNeg, sg_nil]
      repeat' (first | with_reducible apply And.intro | intro _)
      all_goals (try omega)
      refine wp_go b17_24 ?_; simp only [l17_24, sg_iload_2, sg_iret0, nLg_n, nLg_i, nLg_r, tc_c, tc_l, tc_r, tc_m, tc_n, tc_o, tc_0, inR, true_and, and_true, ne_eq, not_true_eq_false, not_false_eq_true, true_imp_iff, false_imp_iff, Int.toNat_natCast, lit_a, Nat.reduceAdd, or_true, true_or, or_false, false_or, Int.reduceEq, Int.reduceNe, Int.reduceLT, Int.reduceLE, Int.reduceNeg, sg_nil]
      exact h
    | succ k ih =>
      intro i hi
      refine wp_go b17_4 ?_; simp only [l17_4, sg_iload_3, sg_iload_1, sg_ic_ge, sg_iload_2, sg_aload_0, sg_getfp, sg_iaload, sg_iadd, sg_istore_2, sg_iinc, ldI_3, okS_3, stL_3, sg_goto, nLg_n, nLg_i, nLg_r, tc_c, tc_l, tc_r, tc_m, tc_n, tc_o, tc_0, inR, true_and, and_true, ne_eq, not_true_eq_false, not_false_eq_true, true_imp_iff, false_imp_iff, Int.toNat_natCast, lit_a, Nat.reduceAdd, or_true, true_or, or_false, false_or, Int.reduceEq, Int.reduceNe, Int.reduceLT, Int.reduceLE, Int.reduceNeg, sg_nil, s0, s1, s2, s3, q0, q1, q2]
      repeat' (first | with_reducible apply And.intro | intro _)
      all_goals (try omega)
      exact ih (i + 1) (by omega)
  refine wp_go b17_0 ?_; simp only [l17_0, sg_iconst, sg_istore_2, sg_istore_3, nLg_n, nLg_i, nLg_r, tc_c, tc_l, tc_r, tc_m, tc_n, tc_o, tc_0, inR, true_and, and_true, ne_eq, not_true_eq_false, not_false_eq_true, true_imp_iff, false_imp_iff, Int.toNat_natCast, lit_a, Nat.reduceAdd, or_true, true_or, or_false, false_or, Int.reduceEq, Int.reduceNe, Int.reduceLT, Int.reduceLE, Int.reduceNeg, sg_nil]
  exact loop p 0 (by omega)
-- Sen.total: blocks [0, 8]
theorem k_Sen_total {σ : Sg} {d : Nat} {Q : QT} {μ : Mem} {S n : Nat} (hS : iSen σ S) (hn : μ S 3 = n) (hp : n ≤ 24) (h : Q (.inl (sm (μ (S + 2)) n)) μ) : Call σ (d + 2) 18 [.inr (.inr S)] μ Q := by
  refine e_18 ?_
  obtain ⟨s0, s1, s2, s3, q0, q1, q2⟩ := id hS
  refine wp_go b18_0 ?_; simp only [l18_0, sg_aload_0, sg_getf0, sg_iv2_i, len4_0, len4_1, len4_2, len4_3, len4_4, nLg_n, nLg_i, nLg_r, tc_c, tc_l, tc_r, tc_m, tc_n, tc_o, tc_0, inR, true_and, and_true, ne_eq, not_true_eq_false, not_false_eq_true, true_imp_iff, false_imp_iff, Int.toNat_natCast, lit_a, Nat.reduceAdd, or_true, true_or, or_false, false_or, Int.reduceEq, Int.reduceNe, Int.reduceLT, Int.reduceLE, Int.reduceNeg, sg_nil, s0, hn]
  refine k_Sen_timeOf hS hp ?_
  refine wp_go b18_8 ?_; simp only [l18_8, sg_iret0, nLg_n, nLg_i, nLg_r, tc_c, tc_l, tc_r, tc_m, tc_n, tc_o, tc_0, inR, true_and, and_true, ne_eq, not_true_eq_false, not_false_eq_true, true_imp_iff, false_imp_iff, Int.toNat_natCast, lit_a, Nat.reduceAdd, or_true, true_or, or_false, false_or, Int.reduceEq, Int.reduceNe, Int.reduceLT, Int.reduceLE, Int.reduceNeg, sg_nil]
  exact h
-- Sen.placeAtTime: blocks [0, 4, 28, 34]
theorem k_Sen_placeAtTime {σ : Sg} {d : Nat} {Q : QT} {μ : Mem} {S n : Nat} {t : Int} (hS : iSen σ S) (hn : μ S 3 = n) (hp : n ≤ 24) (hb : ∀ i, i < n → 0 ≤ μ (S + 2) i ∧ μ (S + 2) i ≤ 300) (ht : inR t) (h : Q (.inl (fsI (fun i => decide (t < sm (μ (S + 2)) (i + 1))) (-6) n)) μ) : Call σ (d + 1) 19 [.inr (.inr S), .inl t] μ Q := by
  refine e_19 ?_
  obtain ⟨s0, s1, s2, s3, q0, q1, q2⟩ := hS
  have ht2 := ht
  unfold inR at ht2
  have loop : ∀ k i : Nat, i + k = n → (∀ j, j < i → ¬ t < sm (μ (S + 2)) (j + 1)) → wp σ (Call σ d) 19 Q 4 [some (.inr (.inr S)), some (.inl t), some (.inl (sm (μ (S + 2)) i)), some (.inl (i : Int))] [] μ := by
    intro k
    induction k with
    | zero =>
      intro i hi hm
      obtain rfl : i = n := by omega
      rw [fsI_n (fun j hj => decide_eq_false (hm j hj))] at h
      refine wp_go b19_4 ?_; simp only [l19_4, sg_iload_3, sg_aload_0, sg_getf0, sg_ic_ge, sg_iload_2, sg_getfp, sg_iaload, sg_iadd, sg_istore_2, sg_iload_1, sg_iret0, nLg_n, nLg_i, nLg_r, tc_c, tc_l, tc_r, tc_m, tc_n, tc_o, tc_0, inR, true_and, and_true, ne_eq, not_true_eq_false, not_false_eq_true, true_imp_iff, false_imp_iff, Int.toNat_natCast, lit_a, Nat.reduceAdd, or_true, true_or, or_false, false_or, Int.reduceEq, Int.reduceNe, Int.reduceLT, Int.reduceLE, Int.reduceNeg, sg_nil, s0, hn]
      repeat' (first | with_reducible apply And.intro | (intro _) | ((first | refine wp_go b19_0 ?_ | refine wp_go b19_28 ?_ | refine wp_go b19_34 ?_); simp only [l19_0, l19_28, l19_34, sg_iconst, sg_istore_2, sg_istore_3, sg_iinc, ldI_3, okS_3, stL_3, sg_goto, sg_bipush, sg_iret0, nLg_n, nLg_i, nLg_r, tc_c, tc_l, tc_r, tc_m, tc_n, tc_o, tc_0, inR, true_and, and_true, ne_eq, not_true_eq_false, not_false_eq_true, true_imp_iff, false_imp_iff, Int.toNat_natCast, lit_a, Nat.reduceAdd, or_true, true_or, or_false, false_or, Int.reduceEq, Int.reduceNe, Int.reduceLT, Int.reduceLE, Int.reduceNeg, sg_nil]))
      all_goals (try omega)
    | succ k ih =>
      intro i hi hm
      have b1 := sm_b (f := μ (S + 2)) (n := i + 1) (fun j hj => hb j (by omega))
      rw [sm_s] at b1
      refine wp_go b19_4 ?_; simp only [l19_4, sg_iload_3, sg_aload_0, sg_getf0, sg_ic_ge, sg_iload_2, sg_getfp, sg_iaload, sg_iadd, sg_istore_2, sg_iload_1, sg_iret0, nLg_n, nLg_i, nLg_r, tc_c, tc_l, tc_r, tc_m, tc_n, tc_o, tc_0, inR, true_and, and_true, ne_eq, not_true_eq_false, not_false_eq_true, true_imp_iff, false_imp_iff, Int.toNat_natCast, lit_a, Nat.reduceAdd, or_true, true_or, or_false, false_or, Int.reduceEq, Int.reduceNe, Int.reduceLT, Int.reduceLE, Int.reduceNeg, sg_nil, s0, s1, s2, s3, q0, q1, q2, hn]
      repeat' (first | with_reducible apply And.intro | (intro _) | ((first | refine wp_go b19_0 ?_ | refine wp_go b19_28 ?_ | refine wp_go b19_34 ?_); simp only [l19_0, l19_28, l19_34, sg_iconst, sg_istore_2, sg_istore_3, sg_iinc, ldI_3, okS_3, stL_3, sg_goto, sg_bipush, sg_iret0, nLg_n, nLg_i, nLg_r, tc_c, tc_l, tc_r, tc_m, tc_n, tc_o, tc_0, inR, true_and, and_true, ne_eq, not_true_eq_false, not_false_eq_true, true_imp_iff, false_imp_iff, Int.toNat_natCast, lit_a, Nat.reduceAdd, or_true, true_or, or_false, false_or, Int.reduceEq, Int.reduceNe, Int.reduceLT, Int.reduceLE, Int.reduceNeg, sg_nil]))
      all_goals (try omega)
      · rw [fsI_s (i := i) (by omega) (decide_eq_true (by rw [sm_s]; assumption)) (fun j hj => decide_eq_false (hm j hj))] at h
        exact h
      · exact ih (i + 1) (by omega) (fun j hj => by
          rcases Nat.lt_or_ge j i with q | q
          · exact hm j q
          · have : j = i := by omega
            subst this; rw [sm_s]; omega)
  refine wp_go b19_0 ?_; simp only [l19_0, sg_iconst, sg_istore_2, sg_istore_3, nLg_n, nLg_i, nLg_r, tc_c, tc_l, tc_r, tc_m, tc_n, tc_o, tc_0, inR, true_and, and_true, ne_eq, not_true_eq_false, not_false_eq_true, true_imp_iff, false_imp_iff, Int.toNat_natCast, lit_a, Nat.reduceAdd, or_true, true_or, or_false, false_or, Int.reduceEq, Int.reduceNe, Int.reduceLT, Int.reduceLE, Int.reduceNeg, sg_nil]
  exact loop n 0 (by omega) (fun j hj => absurd hj (by omega))
-- Sen.placeOf: blocks [0, 2, 22, 28]
theorem k_Sen_placeOf {σ : Sg} {d : Nat} {Q : QT} {μ : Mem} {S n : Nat} {t : Int} (hS : iSen σ S) (hn : μ S 3 = n) (hp : n ≤ 24) (hb : ∀ i, i < n → inR (μ (S + 1) i)) (ht : inR t) (h : Q (.inl (fsI (fun i => decide (μ (S + 1) i = t)) (-1) n)) μ) : Call σ (d + 1) 20 [.inr (.inr S), .inl t] μ Q := by
  refine e_20 ?_
  obtain ⟨s0, s1, s2, s3, q0, q1, q2⟩ := hS
  have ht2 := ht
  unfold inR at ht2
  have loop : ∀ k i : Nat, i + k = n → (∀ j, j < i → ¬ μ (S + 1) j = t) → wp σ (Call σ d) 20 Q 2 [some (.inr (.inr S)), some (.inl t), some (.inl (i : Int))] [] μ := by
    intro k
    induction k with
    | zero =>
      intro i hi hm
      obtain rfl : i = n := by omega
      rw [fsI_n (fun j hj => decide_eq_false (hm j hj))] at h
      refine wp_go b20_2 ?_; simp only [l20_2, sg_iload_2, sg_aload_0, sg_getf0, sg_ic_ge, sg_getfp, sg_iaload, sg_iload_1, sg_ic_ne, sg_iret0, nLg_n, nLg_i, nLg_r, tc_c, tc_l, tc_r, tc_m, tc_n, tc_o, tc_0, inR, true_and, and_true, ne_eq, not_true_eq_false, not_false_eq_true, true_imp_iff, false_imp_iff, Int.toNat_natCast, lit_a, Nat.reduceAdd, or_true, true_or, or_false, false_or, Int.reduceEq, Int.reduceNe, Int.reduceLT, Int.reduceLE, Int.reduceNeg, sg_nil, s0, hn]
      repeat' (first | with_reducible apply And.intro | (intro _) | ((first | refine wp_go b20_0 ?_ | refine wp_go b20_22 ?_ | refine wp_go b20_28 ?_); simp only [l20_0, l20_22, l20_28, sg_iconst, sg_istore_2, sg_iinc, ldI_2, okS_2, stL_2, sg_goto, sg_iret0, nLg_n, nLg_i, nLg_r, tc_c, tc_l, tc_r, tc_m, tc_n, tc_o, tc_0, inR, true_and, and_true, ne_eq, not_true_eq_false, not_false_eq_true, true_imp_iff, false_imp_iff, Int.toNat_natCast, lit_a, Nat.reduceAdd, or_true, true_or, or_false, false_or, Int.reduceEq, Int.reduceNe, Int.reduceLT, Int.reduceLE, Int.reduceNeg, sg_nil]))
      all_goals (try omega)
    | succ k ih =>
      intro i hi hm
      have b1 := hb i (by omega)
      unfold inR at b1
      refine wp_go b20_2 ?_; simp only [l20_2, sg_iload_2, sg_aload_0, sg_getf0, sg_ic_ge, sg_getfp, sg_iaload, sg_iload_1, sg_ic_ne, sg_iret0, nLg_n, nLg_i, nLg_r, tc_c, tc_l, tc_r, tc_m, tc_n, tc_o, tc_0, inR, true_and, and_true, ne_eq, not_true_eq_false, not_false_eq_true, true_imp_iff, false_imp_iff, Int.toNat_natCast, lit_a, Nat.reduceAdd, or_true, true_or, or_false, false_or, Int.reduceEq, Int.reduceNe, Int.reduceLT, Int.reduceLE, Int.reduceNeg, sg_nil, s0, s1, s2, s3, q0, q1, q2, hn]
      repeat' (first | with_reducible apply And.intro | (intro _) | ((first | refine wp_go b20_0 ?_ | refine wp_go b20_22 ?_ | refine wp_go b20_28 ?_); simp only [l20_0, l20_22, l20_28, sg_iconst, sg_istore_2, sg_iinc, ldI_2, okS_2, stL_2, sg_goto, sg_iret0, nLg_n, nLg_i, nLg_r, tc_c, tc_l, tc_r, tc_m, tc_n, tc_o, tc_0, inR, true_and, and_true, ne_eq, not_true_eq_false, not_false_eq_true, true_imp_iff, false_imp_iff, Int.toNat_natCast, lit_a, Nat.reduceAdd, or_true, true_or, or_false, false_or, Int.reduceEq, Int.reduceNe, Int.reduceLT, Int.reduceLE, Int.reduceNeg, sg_nil]))
      all_goals (try omega)
      · rw [fsI_s (i := i) (by omega) (decide_eq_true (by assumption)) (fun j hj => decide_eq_false (hm j hj))] at h
        exact h
      · exact ih (i + 1) (by omega) (fun j hj => by
          rcases Nat.lt_or_ge j i with q | q
          · exact hm j q
          · have : j = i := by omega
            subst this; assumption)
  refine wp_go b20_0 ?_; simp only [l20_0, sg_iconst, sg_istore_2, nLg_n, nLg_i, nLg_r, tc_c, tc_l, tc_r, tc_m, tc_n, tc_o, tc_0, inR, true_and, and_true, ne_eq, not_true_eq_false, not_false_eq_true, true_imp_iff, false_imp_iff, Int.toNat_natCast, lit_a, Nat.reduceAdd, or_true, true_or, or_false, false_or, Int.reduceEq, Int.reduceNe, Int.reduceLT, Int.reduceLE, Int.reduceNeg, sg_nil]
  exact loop n 0 (by omega) (fun j hj => absurd hj (by omega))
-- Sen.chapterOf: blocks [0, 4, 24]
theorem k_Sen_chapterOf {σ : Sg} {d : Nat} {Q : QT} {μ : Mem} {S p : Nat} (hS : iSen σ S) (hp : p < 24) (h : Q (.inl (sm (fun i => μ (S + 3) (i + 1)) p)) μ) : Call σ (d + 1) 21 [.inr (.inr S), .inl (p : Int)] μ Q := by
  refine e_21 ?_
  obtain ⟨s0, s1, s2, s3, q0, q1, q2⟩ := hS
  have loop : ∀ k i : Nat, i + k = p → wp σ (Call σ d) 21 Q 4 [some (.inr (.inr S)), some (.inl (p : Int)), some (.inl (sm (fun i => μ (S + 3) (i + 1)) i)), some (.inl ((i + 1 : Nat) : Int))] [] μ := by
    intro k
    induction k with
    | zero =>
      intro i hi
      obtain rfl : i = p := by omega
      refine wp_go b21_4 ?_; simp only [l21_4, sg_iload_3, sg_iload_1, sg_ic_gt, sg_iload_2, sg_aload_0, sg_getfp, sg_iaload, sg_iadd, sg_istore_2, sg_iinc, ldI_3, okS_3, stL_3, sg_goto, nLg_n, nLg_i, nLg_r, tc_c, tc_l, tc_r, tc_m, tc_n, tc_o, tc_0, inR, true_and, and_true, ne_eq, not_true_eq_false, not_false_eq_true, true_imp_iff, false_imp_iff, Int.toNat_natCast, lit_a, Nat.reduceAdd, or_true, true_or, or_false, false_or, Int.reduceEq, Int.reduceNe, Int.reduceLT, Int.reduceLE, Int.reduceNeg, sg_nil]
      repeat' (first | with_reducible apply And.intro | (intro _) | ((first | refine wp_go b21_0 ?_ | refine wp_go b21_24 ?_); simp only [l21_0, l21_24, sg_iconst, sg_istore_2, sg_istore_3, sg_iload_2, sg_iret0, nLg_n, nLg_i, nLg_r, tc_c, tc_l, tc_r, tc_m, tc_n, tc_o, tc_0, inR, true_and, and_true, ne_eq, not_true_eq_false, not_false_eq_true, true_imp_iff, false_imp_iff, Int.toNat_natCast, lit_a, Nat.reduceAdd, or_true, true_or, or_false, false_or, Int.reduceEq, Int.reduceNe, Int.reduceLT, Int.reduceLE, Int.reduceNeg, sg_nil]))
      all_goals (try omega)
    | succ k ih =>
      intro i hi
      refine wp_go b21_4 ?_; simp only [l21_4, sg_iload_3, sg_iload_1, sg_ic_gt, sg_iload_2, sg_aload_0, sg_getfp, sg_iaload, sg_iadd, sg_istore_2, sg_iinc, ldI_3, okS_3, stL_3, sg_goto, nLg_n, nLg_i, nLg_r, tc_c, tc_l, tc_r, tc_m, tc_n, tc_o, tc_0, inR, true_and, and_true, ne_eq, not_true_eq_false, not_false_eq_true, true_imp_iff, false_imp_iff, Int.toNat_natCast, lit_a, Nat.reduceAdd, or_true, true_or, or_false, false_or, Int.reduceEq, Int.reduceNe, Int.reduceLT, Int.reduceLE, Int.reduceNeg, sg_nil, s0, s1, s2, s3, q0, q1, q2]
      repeat' (first | with_reducible apply And.intro | (intro _) | ((first | refine wp_go b21_0 ?_ | refine wp_go b21_24 ?_); simp only [l21_0, l21_24, sg_iconst, sg_istore_2, sg_istore_3, sg_iload_2, sg_iret0, nLg_n, nLg_i, nLg_r, tc_c, tc_l, tc_r, tc_m, tc_n, tc_o, tc_0, inR, true_and, and_true, ne_eq, not_true_eq_false, not_false_eq_true, true_imp_iff, false_imp_iff, Int.toNat_natCast, lit_a, Nat.reduceAdd, or_true, true_or, or_false, false_or, Int.reduceEq, Int.reduceNe, Int.reduceLT, Int.reduceLE, Int.reduceNeg, sg_nil]))
      all_goals (try omega)
      exact ih (i + 1) (by omega)
  refine wp_go b21_0 ?_; simp only [l21_0, sg_iconst, sg_istore_2, sg_istore_3, nLg_n, nLg_i, nLg_r, tc_c, tc_l, tc_r, tc_m, tc_n, tc_o, tc_0, inR, true_and, and_true, ne_eq, not_true_eq_false, not_false_eq_true, true_imp_iff, false_imp_iff, Int.toNat_natCast, lit_a, Nat.reduceAdd, or_true, true_or, or_false, false_or, Int.reduceEq, Int.reduceNe, Int.reduceLT, Int.reduceLE, Int.reduceNeg, sg_nil]
  exact loop p 0 (by omega)
-- Sen.chapters: blocks [0, 10]
theorem k_Sen_chapters {σ : Sg} {d : Nat} {Q : QT} {μ : Mem} {S n : Nat} (hS : iSen σ S) (hn : μ S 3 = ((n + 1 : Nat) : Int)) (hp : n < 24) (h : Q (.inl (sm (fun i => μ (S + 3) (i + 1)) n + 1)) μ) : Call σ (d + 2) 22 [.inr (.inr S)] μ Q := by
  refine e_22 ?_
  obtain ⟨s0, s1, s2, s3, q0, q1, q2⟩ := id hS
  have e : ((n + 1 : Nat) : Int) - 1 = (n : Int) := by omega
  refine wp_go b22_0 ?_; simp only [l22_0, sg_aload_0, sg_getf0, sg_iconst, sg_isub, sg_iv2_i, len4_0, len4_1, len4_2, len4_3, len4_4, nLg_n, nLg_i, nLg_r, tc_c, tc_l, tc_r, tc_m, tc_n, tc_o, tc_0, inR, true_and, and_true, ne_eq, not_true_eq_false, not_false_eq_true, true_imp_iff, false_imp_iff, Int.toNat_natCast, lit_a, Nat.reduceAdd, or_true, true_or, or_false, false_or, Int.reduceEq, Int.reduceNe, Int.reduceLT, Int.reduceLE, Int.reduceNeg, sg_nil, s0, hn, e]
  refine k_Sen_chapterOf hS hp ?_
  refine wp_go b22_10 ?_; simp only [l22_10, sg_iconst, sg_iadd, sg_iret0, nLg_n, nLg_i, nLg_r, tc_c, tc_l, tc_r, tc_m, tc_n, tc_o, tc_0, inR, true_and, and_true, ne_eq, not_true_eq_false, not_false_eq_true, true_imp_iff, false_imp_iff, Int.toNat_natCast, lit_a, Nat.reduceAdd, or_true, true_or, or_false, false_or, Int.reduceEq, Int.reduceNe, Int.reduceLT, Int.reduceLE, Int.reduceNeg, sg_nil]
  exact h
-- Sen.firstOfChapter: blocks [0, 4, 28, 34]
theorem k_Sen_firstOfChapter {σ : Sg} {d : Nat} {Q : QT} {μ : Mem} {S n : Nat} {t : Int} (hS : iSen σ S) (hn : μ S 3 = n) (hp : n ≤ 24) (hb : ∀ i, i < n → 0 ≤ μ (S + 3) i ∧ μ (S + 3) i ≤ 1) (ht : inR t) (h : Q (.inl (fsI (fun i => decide (t < sm (μ (S + 3)) (i + 1))) 0 n)) μ) : Call σ (d + 1) 23 [.inr (.inr S), .inl t] μ Q := by
  refine e_23 ?_
  obtain ⟨s0, s1, s2, s3, q0, q1, q2⟩ := hS
  have ht2 := ht
  unfold inR at ht2
  have loop : ∀ k i : Nat, i + k = n → (∀ j, j < i → ¬ t < sm (μ (S + 3)) (j + 1)) → wp σ (Call σ d) 23 Q 4 [some (.inr (.inr S)), some (.inl t), some (.inl (sm (μ (S + 3)) i)), some (.inl (i : Int))] [] μ := by
    intro k
    induction k with
    | zero =>
      intro i hi hm
      obtain rfl : i = n := by omega
      rw [fsI_n (fun j hj => decide_eq_false (hm j hj))] at h
      refine wp_go b23_4 ?_; simp only [l23_4, sg_iload_3, sg_aload_0, sg_getf0, sg_ic_ge, sg_iload_2, sg_getfp, sg_iaload, sg_iadd, sg_istore_2, sg_iload_1, sg_ic_le, sg_iret0, nLg_n, nLg_i, nLg_r, tc_c, tc_l, tc_r, tc_m, tc_n, tc_o, tc_0, inR, true_and, and_true, ne_eq, not_true_eq_false, not_false_eq_true, true_imp_iff, false_imp_iff, Int.toNat_natCast, lit_a, Nat.reduceAdd, or_true, true_or, or_false, false_or, Int.reduceEq, Int.reduceNe, Int.reduceLT, Int.reduceLE, Int.reduceNeg, sg_nil, s0, hn]
      repeat' (first | with_reducible apply And.intro | (intro _) | ((first | refine wp_go b23_0 ?_ | refine wp_go b23_28 ?_ | refine wp_go b23_34 ?_); simp only [l23_0, l23_28, l23_34, sg_iconst, sg_istore_2, sg_istore_3, sg_iinc, ldI_3, okS_3, stL_3, sg_goto, sg_iret0, nLg_n, nLg_i, nLg_r, tc_c, tc_l, tc_r, tc_m, tc_n, tc_o, tc_0, inR, true_and, and_true, ne_eq, not_true_eq_false, not_false_eq_true, true_imp_iff, false_imp_iff, Int.toNat_natCast, lit_a, Nat.reduceAdd, or_true, true_or, or_false, false_or, Int.reduceEq, Int.reduceNe, Int.reduceLT, Int.reduceLE, Int.reduceNeg, sg_nil]))
      all_goals (try omega)
    | succ k ih =>
      intro i hi hm
      have b1 := sm_b (f := μ (S + 3)) (n := i + 1) (fun j hj => hb j (by omega))
      rw [sm_s] at b1
      refine wp_go b23_4 ?_; simp only [l23_4, sg_iload_3, sg_aload_0, sg_getf0, sg_ic_ge, sg_iload_2, sg_getfp, sg_iaload, sg_iadd, sg_istore_2, sg_iload_1, sg_ic_le, sg_iret0, nLg_n, nLg_i, nLg_r, tc_c, tc_l, tc_r, tc_m, tc_n, tc_o, tc_0, inR, true_and, and_true, ne_eq, not_true_eq_false, not_false_eq_true, true_imp_iff, false_imp_iff, Int.toNat_natCast, lit_a, Nat.reduceAdd, or_true, true_or, or_false, false_or, Int.reduceEq, Int.reduceNe, Int.reduceLT, Int.reduceLE, Int.reduceNeg, sg_nil, s0, s1, s2, s3, q0, q1, q2, hn]
      repeat' (first | with_reducible apply And.intro | (intro _) | ((first | refine wp_go b23_0 ?_ | refine wp_go b23_28 ?_ | refine wp_go b23_34 ?_); simp only [l23_0, l23_28, l23_34, sg_iconst, sg_istore_2, sg_istore_3, sg_iinc, ldI_3, okS_3, stL_3, sg_goto, sg_iret0, nLg_n, nLg_i, nLg_r, tc_c, tc_l, tc_r, tc_m, tc_n, tc_o, tc_0, inR, true_and, and_true, ne_eq, not_true_eq_false, not_false_eq_true, true_imp_iff, false_imp_iff, Int.toNat_natCast, lit_a, Nat.reduceAdd, or_true, true_or, or_false, false_or, Int.reduceEq, Int.reduceNe, Int.reduceLT, Int.reduceLE, Int.reduceNeg, sg_nil]))
      all_goals (try omega)
      · rw [fsI_s (i := i) (by omega) (decide_eq_true (by rw [sm_s]; assumption)) (fun j hj => decide_eq_false (hm j hj))] at h
        exact h
      · exact ih (i + 1) (by omega) (fun j hj => by
          rcases Nat.lt_or_ge j i with q | q
          · exact hm j q
          · have : j = i := by omega
            subst this; rw [sm_s]; omega)
  refine wp_go b23_0 ?_; simp only [l23_0, sg_iconst, sg_istore_2, sg_istore_3, nLg_n, nLg_i, nLg_r, tc_c, tc_l, tc_r, tc_m, tc_n, tc_o, tc_0, inR, true_and, and_true, ne_eq, not_true_eq_false, not_false_eq_true, true_imp_iff, false_imp_iff, Int.toNat_natCast, lit_a, Nat.reduceAdd, or_true, true_or, or_false, false_or, Int.reduceEq, Int.reduceNe, Int.reduceLT, Int.reduceLE, Int.reduceNeg, sg_nil]
  exact loop n 0 (by omega) (fun j hj => absurd hj (by omega))
-- Sen.copyFrom: blocks [0]
theorem k_Sen_copyFrom {σ : Sg} {d : Nat} {Q : QT} {μ : Mem} {S o n : Nat} (hS : iSen σ S) (hO : iSen σ o) (hd : S + 4 ≤ o ∨ o + 4 ≤ S) (hn : μ o 3 = n) (hp : n ≤ 24)
    (h : ∀ μ' : Mem, (∀ k, k < S ∨ S + 4 ≤ k → μ' k = μ k) → μ' S 3 = n → (∀ i, i < n → μ' (S + 1) i = μ (o + 1) i ∧ μ' (S + 2) i = μ (o + 2) i ∧ μ' (S + 3) i = μ (o + 3) i) → Q (.inl 0) μ') : Call σ (d + 1) 24 [.inr (.inr S), .inr (.inr o)] μ Q := by
  refine e_24 ?_
  obtain ⟨s0, s1, s2, s3, q0, q1, q2⟩ := hS
  obtain ⟨o0, o1, o2, o3, p0, p1, p2⟩ := hO
  refine wp_go b24_0 ?_; simp only [l24_0, sg_aload_0, sg_aload_1, sg_getf0, sg_putf0, sg_getfp, sg_iconst, len4_0, len4_1, len4_2, len4_3, len4_4, sg_acopy, sg_ret, nLg_n, nLg_i, nLg_r, tc_c, tc_l, tc_r, tc_m, tc_n, tc_o, tc_0, inR, true_and, and_true, ne_eq, not_true_eq_false, not_false_eq_true, true_imp_iff, false_imp_iff, Int.toNat_natCast, lit_a, Nat.reduceAdd, or_true, true_or, or_false, false_or, Int.reduceEq, Int.reduceNe, Int.reduceLT, Int.reduceLE, Int.reduceNeg, sg_nil, s0, s1, s2, s3, q0, q1, q2, o0, o1, o2, o3, p0, p1, p2, hn, ms_at, mcp_at, ne_a, ne_b, false_and, if_false, if_true, and_self, Int.toNat_zero, Nat.add_left_cancel_iff, Nat.reduceEqDiff]
  repeat' (first | with_reducible apply And.intro | (intro _) | ((first | refine wp_go b24_0 ?_); simp only [l24_0, sg_aload_0, sg_aload_1, sg_getf0, sg_putf0, sg_getfp, sg_iconst, len4_0, len4_1, len4_2, len4_3, len4_4, sg_acopy, sg_ret, nLg_n, nLg_i, nLg_r, tc_c, tc_l, tc_r, tc_m, tc_n, tc_o, tc_0, inR, true_and, and_true, ne_eq, not_true_eq_false, not_false_eq_true, true_imp_iff, false_imp_iff, Int.toNat_natCast, lit_a, Nat.reduceAdd, or_true, true_or, or_false, false_or, Int.reduceEq, Int.reduceNe, Int.reduceLT, Int.reduceLE, Int.reduceNeg, sg_nil]))
  all_goals (try omega)
  refine h _ (fun k hk => ?_) ?_ (fun i hi => ⟨?_, ?_, ?_⟩)
  · funext j
    simp only [mcp_at, ms_at]
    repeat rw [if_neg (by omega)]
  all_goals simp only [mcp_at, ms_at, Nat.zero_add, Nat.sub_zero, true_and, and_true, if_true]
  all_goals repeat (first | rw [if_neg (by omega)] | rw [if_pos (by omega)])
-- Sen.isLike: blocks [0, 13, 15, 68, 70, 76]
theorem k_Sen_isLike {σ : Sg} {d : Nat} {Q : QT} {μ : Mem} {S o n n' : Nat} (hS : iSen σ S) (hO : iSen σ o) (hn : μ S 3 = n) (hn' : μ o 3 = n') (hp : n ≤ 24) (hp' : n' ≤ 24)
    (hr : ∀ i, i < n → inR (μ (S + 1) i) ∧ inR (μ (S + 2) i) ∧ inR (μ (S + 3) i)) (hr' : ∀ i, i < n' → inR (μ (o + 1) i) ∧ inR (μ (o + 2) i) ∧ inR (μ (o + 3) i))
    (h1 : n = n' → (∀ i, i < n → μ (S + 1) i = μ (o + 1) i ∧ μ (S + 2) i = μ (o + 2) i ∧ μ (S + 3) i = μ (o + 3) i) → Q (.inl 1) μ)
    (h0 : ¬ (n = n' ∧ ∀ i, i < n → μ (S + 1) i = μ (o + 1) i ∧ μ (S + 2) i = μ (o + 2) i ∧ μ (S + 3) i = μ (o + 3) i) → Q (.inl 0) μ) : Call σ (d + 1) 25 [.inr (.inr S), .inr (.inr o)] μ Q := by
  refine e_25 ?_
  obtain ⟨s0, s1, s2, s3, q0, q1, q2⟩ := hS
  obtain ⟨o0, o1, o2, o3, p0, p1, p2⟩ := hO
  have loop : n = n' → ∀ k i : Nat, i + k = n → (∀ j, j < i → μ (S + 1) j = μ (o + 1) j ∧ μ (S + 2) j = μ (o + 2) j ∧ μ (S + 3) j = μ (o + 3) j) → wp σ (Call σ d) 25 Q 15 [some (.inr (.inr S)), some (.inr (.inr o)), some (.inl (i : Int))] [] μ := by
    intro hnn k
    induction k with
    | zero =>
      intro i hi hm
      obtain rfl : i = n := by omega
      have h1 := h1 hnn hm
      refine wp_go b25_15 ?_; simp only [l25_15, sg_iload_2, sg_aload_0, sg_getf0, sg_ic_ge, sg_getfp, sg_iaload, sg_aload_1, sg_ic_ne, sg_ic_eq, nLg_n, nLg_i, nLg_r, tc_c, tc_l, tc_r, tc_m, tc_n, tc_o, tc_0, inR, true_and, and_true, ne_eq, not_true_eq_false, not_false_eq_true, true_imp_iff, false_imp_iff, Int.toNat_natCast, lit_a, Nat.reduceAdd, or_true, true_or, or_false, false_or, Int.reduceEq, Int.reduceNe, Int.reduceLT, Int.reduceLE, Int.reduceNeg, sg_nil, s0, hn]
      repeat' (first | with_reducible apply And.intro | (intro _) | ((first | refine wp_go b25_0 ?_ | refine wp_go b25_13 ?_ | refine wp_go b25_68 ?_ | refine wp_go b25_70 ?_ | refine wp_go b25_76 ?_); simp only [l25_0, l25_13, l25_68, l25_70, l25_76, sg_aload_0, sg_getf0, sg_aload_1, sg_ic_eq, sg_iconst, sg_iret1, sg_istore_2, sg_iinc, ldI_2, okS_2, stL_2, sg_goto, nLg_n, nLg_i, nLg_r, tc_c, tc_l, tc_r, tc_m, tc_n, tc_o, tc_0, inR, true_and, and_true, ne_eq, not_true_eq_false, not_false_eq_true, true_imp_iff, false_imp_iff, Int.toNat_natCast, lit_a, Nat.reduceAdd, or_true, true_or, or_false, false_or, Int.reduceEq, Int.reduceNe, Int.reduceLT, Int.reduceLE, Int.reduceNeg, sg_nil]))
      all_goals (try omega)
    | succ k ih =>
      intro i hi hm
      obtain ⟨r1, r2, r3⟩ := hr i (by omega)
      obtain ⟨r4, r5, r6⟩ := hr' i (by omega)
      unfold inR at r1 r2 r3 r4 r5 r6
      refine wp_go b25_15 ?_; simp only [l25_15, sg_iload_2, sg_aload_0, sg_getf0, sg_ic_ge, sg_getfp, sg_iaload, sg_aload_1, sg_ic_ne, sg_ic_eq, nLg_n, nLg_i, nLg_r, tc_c, tc_l, tc_r, tc_m, tc_n, tc_o, tc_0, inR, true_and, and_true, ne_eq, not_true_eq_false, not_false_eq_true, true_imp_iff, false_imp_iff, Int.toNat_natCast, lit_a, Nat.reduceAdd, or_true, true_or, or_false, false_or, Int.reduceEq, Int.reduceNe, Int.reduceLT, Int.reduceLE, Int.reduceNeg, sg_nil, s0, s1, s2, s3, q0, q1, q2, o0, o1, o2, o3, p0, p1, p2, hn]
      repeat' (first | with_reducible apply And.intro | (intro _) | ((first | refine wp_go b25_0 ?_ | refine wp_go b25_13 ?_ | refine wp_go b25_68 ?_ | refine wp_go b25_70 ?_ | refine wp_go b25_76 ?_); simp only [l25_0, l25_13, l25_68, l25_70, l25_76, sg_aload_0, sg_getf0, sg_aload_1, sg_ic_eq, sg_iconst, sg_iret1, sg_istore_2, sg_iinc, ldI_2, okS_2, stL_2, sg_goto, nLg_n, nLg_i, nLg_r, tc_c, tc_l, tc_r, tc_m, tc_n, tc_o, tc_0, inR, true_and, and_true, ne_eq, not_true_eq_false, not_false_eq_true, true_imp_iff, false_imp_iff, Int.toNat_natCast, lit_a, Nat.reduceAdd, or_true, true_or, or_false, false_or, Int.reduceEq, Int.reduceNe, Int.reduceLT, Int.reduceLE, Int.reduceNeg, sg_nil]))
      all_goals (try omega)
      all_goals first
        | exact ih (i + 1) (by omega) (fun j hj => by
            rcases Nat.lt_or_ge j i with q | q
            · exact hm j q
            · have : j = i := by omega
              subst this; exact ⟨by omega, by omega, by omega⟩)
        | exact h0 (fun q => by have := q.2 i (by omega); omega)
  refine wp_go b25_0 ?_; simp only [l25_0, sg_aload_0, sg_getf0, sg_aload_1, sg_ic_eq, sg_iconst, sg_iret1, nLg_n, nLg_i, nLg_r, tc_c, tc_l, tc_r, tc_m, tc_n, tc_o, tc_0, inR, true_and, and_true, ne_eq, not_true_eq_false, not_false_eq_true, true_imp_iff, false_imp_iff, Int.toNat_natCast, lit_a, Nat.reduceAdd, or_true, true_or, or_false, false_or, Int.reduceEq, Int.reduceNe, Int.reduceLT, Int.reduceLE, Int.reduceNeg, sg_nil, s0, o0, hn, hn']
  repeat' (first | with_reducible apply And.intro | (intro _) | ((first | refine wp_go b25_0 ?_ | refine wp_go b25_13 ?_ | refine wp_go b25_68 ?_ | refine wp_go b25_70 ?_ | refine wp_go b25_76 ?_); simp only [l25_0, l25_13, l25_68, l25_70, l25_76, sg_aload_0, sg_getf0, sg_aload_1, sg_ic_eq, sg_iconst, sg_iret1, sg_istore_2, sg_iinc, ldI_2, okS_2, stL_2, sg_goto, nLg_n, nLg_i, nLg_r, tc_c, tc_l, tc_r, tc_m, tc_n, tc_o, tc_0, inR, true_and, and_true, ne_eq, not_true_eq_false, not_false_eq_true, true_imp_iff, false_imp_iff, Int.toNat_natCast, lit_a, Nat.reduceAdd, or_true, true_or, or_false, false_or, Int.reduceEq, Int.reduceNe, Int.reduceLT, Int.reduceLE, Int.reduceNeg, sg_nil]))
  all_goals (try omega)
  · exact loop (by omega) n 0 (by omega) (fun j hj => absurd hj (by omega))
  · exact h0 (fun q => by omega)

