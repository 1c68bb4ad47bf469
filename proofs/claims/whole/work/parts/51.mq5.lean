-- Mo.chapterAt: blocks [0, 5, 10, 15, 23, 73, 105]
theorem k_Mo_chapterAt {d : Nat} {Q : QT} {μ : Mem} {l t : Int} {z : Rw} (hM : μ 511 = z) (hz : IZ z) (hl : inR l) (ht1 : inR t) (hq : ∀ μ', QM μ μ' → μ' 511 = z → Q (.inl (F_chapterAt z l t)) μ') : Call σ1 (d + 5) 151 [.inr (.inr 510), .inl l, .inl t] μ Q := by
  refine e_151 ?_
  have q := hz.1
  unfold inR at ht1
  refine wp_go b151_0 ?_; simp only [l151_0, sg_aload_0, sg_iload_1, sg_iv2_i, len4_0, len4_1, len4_2, len4_3, len4_4, nLg_n, nLg_i, nLg_r, tc_c, tc_l, tc_r, tc_m, tc_n, tc_o, tc_0, inR, true_and, and_true, ne_eq, not_true_eq_false, not_false_eq_true, true_imp_iff, false_imp_iff, Int.toNat_natCast, lit_a, Nat.reduceAdd, or_true, true_or, or_false, false_or, Int.reduceEq, Int.reduceNe, Int.reduceLT, Int.reduceLE, Int.reduceNeg, sg_nil, s1p, x510, x511, x512, x513, x514, x515, x516, x517]
  refine k_Mo_isListener hM hz hl (fun h1 h2 => ?_) (fun h0 => ?_)
  · obtain ⟨n, rfl⟩ := nat_of h1
    have nn := nw_eq hz h2
    have W := wO_W hz h2
    refine wp_go b151_5 ?_; simp only [l151_5, sg_if_ne, sg_iconst, sg_iret0, nLg_n, nLg_i, nLg_r, tc_c, tc_l, tc_r, tc_m, tc_n, tc_o, tc_0, inR, true_and, and_true, ne_eq, not_true_eq_false, not_false_eq_true, true_imp_iff, false_imp_iff, Int.toNat_natCast, lit_a, Nat.reduceAdd, or_true, true_or, or_false, false_or, Int.reduceEq, Int.reduceNe, Int.reduceLT, Int.reduceLE, Int.reduceNeg, sg_nil, s1p, x510, x511, x512, x513, x514, x515, x516, x517]
    repeat' (first | with_reducible apply And.intro | intro _)
    all_goals (try omega)
    refine wp_go b151_10 ?_; simp only [l151_10, sg_aload_0, sg_iload_1, sg_iv2_v, len4_0, len4_1, len4_2, len4_3, len4_4, nLg_n, nLg_i, nLg_r, tc_c, tc_l, tc_r, tc_m, tc_n, tc_o, tc_0, inR, true_and, and_true, ne_eq, not_true_eq_false, not_false_eq_true, true_imp_iff, false_imp_iff, Int.toNat_natCast, lit_a, Nat.reduceAdd, or_true, true_or, or_false, false_or, Int.reduceEq, Int.reduceNe, Int.reduceLT, Int.reduceLE, Int.reduceNeg, sg_nil, s1p, x510, x511, x512, x513, x514, x515, x516, x517]
    refine k_Mo_lay hM hz h2 (fun μ2 f2 H2 => ?_)
    have h := hq μ2 (QM_s f2) (by rw [f2 511 (by omega)]; exact hM)
    have e0 : μ2 516 0 = (nw z n : Int) := (H2 0 (by omega)).trans nn.1
    unfold F_chapterAt at h
    rw [if_neg (by omega), Int.toNat_natCast] at h
    have loop : ∀ k i : Nat, i + k = nw z n → (t < 0 ∨ sm (wb (wO z n)) i ≤ t) → ∀ v : Int, v = sm (wb (wO z n)) i - 1 → wp σ1 (Call σ1 (d + 4)) 151 Q 23 [some (.inr (.inr 510)), some (.inl (n : Int)), some (.inl t), some (.inl (ht (wO z n) i)), some (.inl v), some (.inl (i : Int))] [] μ2 := by
      intro k
      induction k with
      | zero =>
        intro i hi hj v hv
        have hin : i = nw z n := by omega
        rw [if_pos (by rw [← hin]; omega)] at h
        refine wp_go b151_23 ?_; simp only [l151_23, sg_iload, ldI_5, sg_aload_0, sg_getfp, sg_iconst, sg_iaload, sg_ic_ge, ldI_4, sg_imul, sg_iadd, sg_istore, okS_4, stL_4, sg_ic_ne, sg_iload_2, sg_iload_3, sg_iret0, nLg_n, nLg_i, nLg_r, tc_c, tc_l, tc_r, tc_m, tc_n, tc_o, tc_0, inR, true_and, and_true, ne_eq, not_true_eq_false, not_false_eq_true, true_imp_iff, false_imp_iff, Int.toNat_natCast, lit_a, Nat.reduceAdd, or_true, true_or, or_false, false_or, Int.reduceEq, Int.reduceNe, Int.reduceLT, Int.reduceLE, Int.reduceNeg, sg_nil, s1p, x510, x511, x512, x513, x514, x515, x516, x517, e0, Int.toNat_zero]
        repeat' (first | with_reducible apply And.intro | intro _)
        all_goals (try omega)
        refine wp_go b151_105 ?_; simp only [l151_105, sg_iconst, sg_iret0, nLg_n, nLg_i, nLg_r, tc_c, tc_l, tc_r, tc_m, tc_n, tc_o, tc_0, inR, true_and, and_true, ne_eq, not_true_eq_false, not_false_eq_true, true_imp_iff, false_imp_iff, Int.toNat_natCast, lit_a, Nat.reduceAdd, or_true, true_or, or_false, false_or, Int.reduceEq, Int.reduceNe, Int.reduceLT, Int.reduceLE, Int.reduceNeg, sg_nil, s1p, x510, x511, x512, x513, x514, x515, x516, x517]
        exact h
      | succ k ih =>
        intro i hi hj v hv
        have r := W.2.1 i (by omega)
        have nt := WH.nt W (i := i) (by omega)
        have e2 : μ2 516 (5 * i + 2) = wO z n (5 * i + 2) := H2 _ (by omega)
        have e4 : μ2 516 (5 * i + 4) = wO z n (5 * i + 4) := H2 _ (by omega)
        have e5 : μ2 516 (5 * i + 5) = wb (wO z n) i := H2 _ (by omega)
        have r5 : 0 ≤ wb (wO z n) i ∧ wb (wO z n) i ≤ 1 := r.2.2.1
        have b5 := wb_b W (p := i) (by omega)
        have s5 := sm_s (wb (wO z n)) i
        have sh : ht (wO z n) i + (wO z n (5 * i + 2) + wO z n (5 * i + 4)) = ht (wO z n) (i + 1) := rfl
        by_cases g : wb (wO z n) i = 1 ∧ sm (wb (wO z n)) i = t
        · have e6 : fsI (fun i => decide (t < sm (wb (wO z n)) (i + 1))) 0 (nw z n) = (i : Int) := fsI_s (show i < nw z n by omega) (decide_eq_true (by omega)) (fun j hj' => decide_eq_false (by
            have := sm_mono (f := wb (wO z n)) (m := j + 1) (n := i) (by omega) (fun x hx => ((W.2.1 x (by omega)).2.2.1).1)
            omega))
          have m5 := sm_mono (f := wb (wO z n)) (m := i + 1) (n := nw z n) (by omega) (fun x hx => ((W.2.1 x (by omega)).2.2.1).1)
          rw [if_neg (by omega), e6, Int.toNat_natCast, ← ht_bt] at h
          rw [g.1] at e5
          refine wp_go b151_23 ?_; simp only [l151_23, sg_iload, ldI_5, sg_aload_0, sg_getfp, sg_iconst, sg_iaload, sg_ic_ge, ldI_4, sg_imul, sg_iadd, sg_istore, okS_4, stL_4, sg_ic_ne, sg_iload_2, sg_iload_3, sg_iret0, nLg_n, nLg_i, nLg_r, tc_c, tc_l, tc_r, tc_m, tc_n, tc_o, tc_0, inR, true_and, and_true, ne_eq, not_true_eq_false, not_false_eq_true, true_imp_iff, false_imp_iff, Int.toNat_natCast, lit_a, Nat.reduceAdd, or_true, true_or, or_false, false_or, Int.reduceEq, Int.reduceNe, Int.reduceLT, Int.reduceLE, Int.reduceNeg, sg_nil, s1p, x510, x511, x512, x513, x514, x515, x516, x517, e0, e5, Int.toNat_zero]
          repeat' (first | with_reducible apply And.intro | (intro _) | ((first | refine wp_go b151_0 ?_ | refine wp_go b151_5 ?_ | refine wp_go b151_10 ?_ | refine wp_go b151_15 ?_ | refine wp_go b151_73 ?_ | refine wp_go b151_105 ?_); simp only [l151_0, l151_5, l151_10, l151_15, l151_73, l151_105, sg_aload_0, sg_iload_1, sg_iv2_i, len4_0, len4_1, len4_2, len4_3, len4_4, sg_if_ne, sg_iconst, sg_iret0, sg_iv2_v, sg_istore_3, sg_istore, okS_4, stL_4, okS_5, stL_5, sg_iload_3, sg_getfp, sg_iload, ldI_5, sg_imul, sg_iadd, sg_iaload, sg_iinc, sg_goto, nLg_n, nLg_i, nLg_r, tc_c, tc_l, tc_r, tc_m, tc_n, tc_o, tc_0, inR, true_and, and_true, ne_eq, not_true_eq_false, not_false_eq_true, true_imp_iff, false_imp_iff, Int.toNat_natCast, lit_a, Nat.reduceAdd, or_true, true_or, or_false, false_or, Int.reduceEq, Int.reduceNe, Int.reduceLT, Int.reduceLE, Int.reduceNeg, sg_nil, s1p, x510, x511, x512, x513, x514, x515, x516, x517]))
          all_goals (try omega)
          all_goals exact h
        · have ih1 := ih (i + 1) (by omega) (by omega) (v + wb (wO z n) i) (by omega)
          rcases (show wb (wO z n) i = 0 ∨ wb (wO z n) i = 1 by omega) with g5 | g5
          · rw [g5] at e5 ih1
            refine wp_go b151_23 ?_; simp only [l151_23, sg_iload, ldI_5, sg_aload_0, sg_getfp, sg_iconst, sg_iaload, sg_ic_ge, ldI_4, sg_imul, sg_iadd, sg_istore, okS_4, stL_4, sg_ic_ne, sg_iload_2, sg_iload_3, sg_iret0, nLg_n, nLg_i, nLg_r, tc_c, tc_l, tc_r, tc_m, tc_n, tc_o, tc_0, inR, true_and, and_true, ne_eq, not_true_eq_false, not_false_eq_true, true_imp_iff, false_imp_iff, Int.toNat_natCast, lit_a, Nat.reduceAdd, or_true, true_or, or_false, false_or, Int.reduceEq, Int.reduceNe, Int.reduceLT, Int.reduceLE, Int.reduceNeg, sg_nil, s1p, x510, x511, x512, x513, x514, x515, x516, x517, e0, e5, Int.toNat_zero]
            repeat' (first | with_reducible apply And.intro | (intro _) | ((first | refine wp_go b151_0 ?_ | refine wp_go b151_5 ?_ | refine wp_go b151_10 ?_ | refine wp_go b151_15 ?_ | refine wp_go b151_73 ?_ | refine wp_go b151_105 ?_); simp only [l151_0, l151_5, l151_10, l151_15, l151_73, l151_105, sg_aload_0, sg_iload_1, sg_iv2_i, len4_0, len4_1, len4_2, len4_3, len4_4, sg_if_ne, sg_iconst, sg_iret0, sg_iv2_v, sg_istore_3, sg_istore, okS_4, stL_4, okS_5, stL_5, sg_iload_3, sg_getfp, sg_iload, ldI_5, sg_imul, sg_iadd, sg_iaload, sg_iinc, sg_goto, nLg_n, nLg_i, nLg_r, tc_c, tc_l, tc_r, tc_m, tc_n, tc_o, tc_0, inR, true_and, and_true, ne_eq, not_true_eq_false, not_false_eq_true, true_imp_iff, false_imp_iff, Int.toNat_natCast, lit_a, Nat.reduceAdd, or_true, true_or, or_false, false_or, Int.reduceEq, Int.reduceNe, Int.reduceLT, Int.reduceLE, Int.reduceNeg, sg_nil, s1p, x510, x511, x512, x513, x514, x515, x516, x517, e2, e4, sh]))
            all_goals (try omega)
            all_goals exact ih1
          · rw [g5] at e5 ih1
            refine wp_go b151_23 ?_; simp only [l151_23, sg_iload, ldI_5, sg_aload_0, sg_getfp, sg_iconst, sg_iaload, sg_ic_ge, ldI_4, sg_imul, sg_iadd, sg_istore, okS_4, stL_4, sg_ic_ne, sg_iload_2, sg_iload_3, sg_iret0, nLg_n, nLg_i, nLg_r, tc_c, tc_l, tc_r, tc_m, tc_n, tc_o, tc_0, inR, true_and, and_true, ne_eq, not_true_eq_false, not_false_eq_true, true_imp_iff, false_imp_iff, Int.toNat_natCast, lit_a, Nat.reduceAdd, or_true, true_or, or_false, false_or, Int.reduceEq, Int.reduceNe, Int.reduceLT, Int.reduceLE, Int.reduceNeg, sg_nil, s1p, x510, x511, x512, x513, x514, x515, x516, x517, e0, e5, Int.toNat_zero]
            repeat' (first | with_reducible apply And.intro | (intro _) | ((first | refine wp_go b151_0 ?_ | refine wp_go b151_5 ?_ | refine wp_go b151_10 ?_ | refine wp_go b151_15 ?_ | refine wp_go b151_73 ?_ | refine wp_go b151_105 ?_); simp only [l151_0, l151_5, l151_10, l151_15, l151_73, l151_105, sg_aload_0, sg_iload_1, sg_iv2_i, len4_0, len4_1, len4_2, len4_3, len4_4, sg_if_ne, sg_iconst, sg_iret0, sg_iv2_v, sg_istore_3, sg_istore, okS_4, stL_4, okS_5, stL_5, sg_iload_3, sg_getfp, sg_iload, ldI_5, sg_imul, sg_iadd, sg_iaload, sg_iinc, sg_goto, nLg_n, nLg_i, nLg_r, tc_c, tc_l, tc_r, tc_m, tc_n, tc_o, tc_0, inR, true_and, and_true, ne_eq, not_true_eq_false, not_false_eq_true, true_imp_iff, false_imp_iff, Int.toNat_natCast, lit_a, Nat.reduceAdd, or_true, true_or, or_false, false_or, Int.reduceEq, Int.reduceNe, Int.reduceLT, Int.reduceLE, Int.reduceNeg, sg_nil, s1p, x510, x511, x512, x513, x514, x515, x516, x517, e2, e4, sh]))
            all_goals (try omega)
            all_goals exact ih1
    refine wp_go b151_15 ?_; simp only [l151_15, sg_iconst, sg_istore_3, sg_istore, okS_4, stL_4, okS_5, stL_5, nLg_n, nLg_i, nLg_r, tc_c, tc_l, tc_r, tc_m, tc_n, tc_o, tc_0, inR, true_and, and_true, ne_eq, not_true_eq_false, not_false_eq_true, true_imp_iff, false_imp_iff, Int.toNat_natCast, lit_a, Nat.reduceAdd, or_true, true_or, or_false, false_or, Int.reduceEq, Int.reduceNe, Int.reduceLT, Int.reduceLE, Int.reduceNeg, sg_nil, s1p, x510, x511, x512, x513, x514, x515, x516, x517]
    exact loop (nw z n) 0 (by omega) (by rw [sm_0]; omega) (-1) rfl
  · have h := hq μ (QM_r μ) hM
    refine wp_go b151_5 ?_; simp only [l151_5, sg_if_ne, sg_iconst, sg_iret0, nLg_n, nLg_i, nLg_r, tc_c, tc_l, tc_r, tc_m, tc_n, tc_o, tc_0, inR, true_and, and_true, ne_eq, not_true_eq_false, not_false_eq_true, true_imp_iff, false_imp_iff, Int.toNat_natCast, lit_a, Nat.reduceAdd, or_true, true_or, or_false, false_or, Int.reduceEq, Int.reduceNe, Int.reduceLT, Int.reduceLE, Int.reduceNeg, sg_nil, s1p, x510, x511, x512, x513, x514, x515, x516, x517]
    repeat' (first | with_reducible apply And.intro | (intro _) | ((first | refine wp_go b151_0 ?_ | refine wp_go b151_5 ?_ | refine wp_go b151_10 ?_ | refine wp_go b151_15 ?_ | refine wp_go b151_73 ?_ | refine wp_go b151_105 ?_); simp only [l151_0, l151_5, l151_10, l151_15, l151_73, l151_105, sg_aload_0, sg_iload_1, sg_iv2_i, len4_0, len4_1, len4_2, len4_3, len4_4, sg_if_ne, sg_iconst, sg_iret0, sg_iv2_v, sg_istore_3, sg_istore, okS_4, stL_4, okS_5, stL_5, sg_iload_3, sg_getfp, sg_iload, ldI_5, sg_imul, sg_iadd, sg_iaload, sg_iinc, sg_goto, nLg_n, nLg_i, nLg_r, tc_c, tc_l, tc_r, tc_m, tc_n, tc_o, tc_0, inR, true_and, and_true, ne_eq, not_true_eq_false, not_false_eq_true, true_imp_iff, false_imp_iff, Int.toNat_natCast, lit_a, Nat.reduceAdd, or_true, true_or, or_false, false_or, Int.reduceEq, Int.reduceNe, Int.reduceLT, Int.reduceLE, Int.reduceNeg, sg_nil, s1p, x510, x511, x512, x513, x514, x515, x516, x517]))
    all_goals (try omega)
    all_goals (revert h; unfold F_chapterAt; (try simp only [Int.toNat_natCast]); (repeat (first | rw [if_neg (by omega)] | rw [if_pos (by omega)])); exact id)
-- Mo.open: blocks [0, 5, 10, 18, 24, 29, 35, 99, 101, 102, 124]
theorem k_Mo_open {d : Nat} {Q : QT} {μ : Mem} {l m s : Int} {z : Rw} (hM : μ 511 = z) (hz : IZ z) (hl : inR l) (hm : inR m) (hs : inR s) (hq : ∀ μ', QM μ μ' → μ' 511 = z → Q (.inl (F_open z l m s)) μ') : Call σ1 (d + 5) 152 [.inr (.inr 510), .inl l, .inl m, .inl s] μ Q := by
  refine e_152 ?_
  have q := hz.1
  refine wp_go b152_0 ?_; simp only [l152_0, sg_aload_0, sg_iload_1, sg_iv2_i, len4_0, len4_1, len4_2, len4_3, len4_4, nLg_n, nLg_i, nLg_r, tc_c, tc_l, tc_r, tc_m, tc_n, tc_o, tc_0, inR, true_and, and_true, ne_eq, not_true_eq_false, not_false_eq_true, true_imp_iff, false_imp_iff, Int.toNat_natCast, lit_a, Nat.reduceAdd, or_true, true_or, or_false, false_or, Int.reduceEq, Int.reduceNe, Int.reduceLT, Int.reduceLE, Int.reduceNeg, sg_nil, s1p, x510, x511, x512, x513, x514, x515, x516, x517]
  refine k_Mo_isListener hM hz hl (fun h1 h2 => ?_) (fun h0 => ?_)
  · obtain ⟨n, rfl⟩ := nat_of h1
    have nn := nw_eq hz h2
    have W := wO_W hz h2
    refine wp_go b152_5 ?_; simp only [l152_5, sg_if_ne, sg_iconst, sg_iret0, nLg_n, nLg_i, nLg_r, tc_c, tc_l, tc_r, tc_m, tc_n, tc_o, tc_0, inR, true_and, and_true, ne_eq, not_true_eq_false, not_false_eq_true, true_imp_iff, false_imp_iff, Int.toNat_natCast, lit_a, Nat.reduceAdd, or_true, true_or, or_false, false_or, Int.reduceEq, Int.reduceNe, Int.reduceLT, Int.reduceLE, Int.reduceNeg, sg_nil, s1p, x510, x511, x512, x513, x514, x515, x516, x517]
    repeat' (first | with_reducible apply And.intro | intro _)
    all_goals (try omega)
    refine wp_go b152_10 ?_; simp only [l152_10, sg_iload_3, sg_iconst, sg_sipush, len4_0, len4_1, len4_2, len4_3, len4_4, sg_is3_1, nLg_n, nLg_i, nLg_r, tc_c, tc_l, tc_r, tc_m, tc_n, tc_o, tc_0, inR, true_and, and_true, ne_eq, not_true_eq_false, not_false_eq_true, true_imp_iff, false_imp_iff, Int.toNat_natCast, lit_a, Nat.reduceAdd, or_true, true_or, or_false, false_or, Int.reduceEq, Int.reduceNe, Int.reduceLT, Int.reduceLE, Int.reduceNeg, sg_nil, s1p, x510, x511, x512, x513, x514, x515, x516, x517]
    refine k_Mo_in hs (by unfold inR; omega) (by unfold inR; omega) (fun g1 g2 => ?_) (fun g0 => ?_)
    · refine wp_go b152_18 ?_; simp only [l152_18, sg_if_ne, sg_bipush, sg_iret0, nLg_n, nLg_i, nLg_r, tc_c, tc_l, tc_r, tc_m, tc_n, tc_o, tc_0, inR, true_and, and_true, ne_eq, not_true_eq_false, not_false_eq_true, true_imp_iff, false_imp_iff, Int.toNat_natCast, lit_a, Nat.reduceAdd, or_true, true_or, or_false, false_or, Int.reduceEq, Int.reduceNe, Int.reduceLT, Int.reduceLE, Int.reduceNeg, sg_nil, s1p, x510, x511, x512, x513, x514, x515, x516, x517]
      repeat' (first | with_reducible apply And.intro | intro _)
      all_goals (try omega)
      refine wp_go b152_24 ?_; simp only [l152_24, sg_aload_0, sg_iload_1, sg_iv2_v, len4_0, len4_1, len4_2, len4_3, len4_4, nLg_n, nLg_i, nLg_r, tc_c, tc_l, tc_r, tc_m, tc_n, tc_o, tc_0, inR, true_and, and_true, ne_eq, not_true_eq_false, not_false_eq_true, true_imp_iff, false_imp_iff, Int.toNat_natCast, lit_a, Nat.reduceAdd, or_true, true_or, or_false, false_or, Int.reduceEq, Int.reduceNe, Int.reduceLT, Int.reduceLE, Int.reduceNeg, sg_nil, s1p, x510, x511, x512, x513, x514, x515, x516, x517]
      refine k_Mo_lay hM hz h2 (fun μ2 f2 H2 => ?_)
      have h := hq μ2 (QM_s f2) (by rw [f2 511 (by omega)]; exact hM)
      have e0 : μ2 516 0 = (nw z n : Int) := (H2 0 (by omega)).trans nn.1
      unfold F_open at h
      rw [if_neg (by omega), if_neg (by omega), Int.toNat_natCast] at h
      unfold inR at hm
      have loop : ∀ k i : Nat, i + k = nw z n → (∀ j, j < i → ¬ wm (wO z n) j = m) → wp σ1 (Call σ1 (d + 4)) 152 Q 35 [some (.inr (.inr 510)), some (.inl (n : Int)), some (.inl m), some (.inl s), some (.inl (ht (wO z n) i)), some (.inl (i : Int))] [] μ2 := by
        intro k
        induction k with
        | zero =>
          intro i hi hj
          have hin : i = nw z n := by omega
          have e2 : pMk (wO z n) (nw z n) m = -1 := fsI_n (fun j hj' => decide_eq_false (hj j (by omega)))
          rw [if_pos e2] at h
          refine wp_go b152_35 ?_; simp only [l152_35, sg_iload, ldI_5, sg_aload_0, sg_getfp, sg_iconst, sg_iaload, sg_ic_ge, ldI_4, sg_imul, sg_iadd, sg_istore, okS_4, stL_4, sg_iload_2, sg_ic_ne, sg_iload_3, sg_goto, nLg_n, nLg_i, nLg_r, tc_c, tc_l, tc_r, tc_m, tc_n, tc_o, tc_0, inR, true_and, and_true, ne_eq, not_true_eq_false, not_false_eq_true, true_imp_iff, false_imp_iff, Int.toNat_natCast, lit_a, Nat.reduceAdd, or_true, true_or, or_false, false_or, Int.reduceEq, Int.reduceNe, Int.reduceLT, Int.reduceLE, Int.reduceNeg, sg_nil, s1p, x510, x511, x512, x513, x514, x515, x516, x517, e0, Int.toNat_zero]
          repeat' (first | with_reducible apply And.intro | intro _)
          all_goals (try omega)
          refine wp_go b152_124 ?_; simp only [l152_124, sg_bipush, sg_iret0, nLg_n, nLg_i, nLg_r, tc_c, tc_l, tc_r, tc_m, tc_n, tc_o, tc_0, inR, true_and, and_true, ne_eq, not_true_eq_false, not_false_eq_true, true_imp_iff, false_imp_iff, Int.toNat_natCast, lit_a, Nat.reduceAdd, or_true, true_or, or_false, false_or, Int.reduceEq, Int.reduceNe, Int.reduceLT, Int.reduceLE, Int.reduceNeg, sg_nil, s1p, x510, x511, x512, x513, x514, x515, x516, x517]
          exact h
        | succ k ih =>
          intro i hi hj
          have r := W.2.1 i (by omega)
          have nt := WH.nt W (i := i) (by omega)
          have e2 : μ2 516 (5 * i + 2) = wO z n (5 * i + 2) := H2 _ (by omega)
          have e3 : μ2 516 (5 * i + 3) = wm (wO z n) i := H2 _ (by omega)
          have e4 : μ2 516 (5 * i + 4) = wl4 (wO z n) i := H2 _ (by omega)
          have r3 : 0 ≤ wm (wO z n) i ∧ wm (wO z n) i ≤ 99 := r.1
          have r4 : 1 ≤ wl4 (wO z n) i ∧ wl4 (wO z n) i ≤ 300 := r.2.1
          have st : ht (wO z n) i + wO z n (5 * i + 2) = sT (wO z n) i := by unfold sT; rw [ht_bt]
          have sh : sT (wO z n) i + wl4 (wO z n) i = ht (wO z n) (i + 1) := by
            have e : ht (wO z n) (i + 1) = ht (wO z n) i + (wO z n (5 * i + 2) + wO z n (5 * i + 4)) := rfl
            rw [e, ← st]; unfold wl4; omega
          by_cases g : wm (wO z n) i = m
          · have e6 : pMk (wO z n) (nw z n) m = (i : Int) := fsI_s (show i < nw z n by omega) (decide_eq_true g) (fun j hj' => decide_eq_false (hj j hj'))
            rw [e6, if_neg (by omega), Int.toNat_natCast] at h
            by_cases g2 : wl4 (wO z n) i ≤ s
            · rw [if_pos g2] at h
              refine wp_go b152_35 ?_; simp only [l152_35, sg_iload, ldI_5, sg_aload_0, sg_getfp, sg_iconst, sg_iaload, sg_ic_ge, ldI_4, sg_imul, sg_iadd, sg_istore, okS_4, stL_4, sg_iload_2, sg_ic_ne, sg_iload_3, sg_goto, nLg_n, nLg_i, nLg_r, tc_c, tc_l, tc_r, tc_m, tc_n, tc_o, tc_0, inR, true_and, and_true, ne_eq, not_true_eq_false, not_false_eq_true, true_imp_iff, false_imp_iff, Int.toNat_natCast, lit_a, Nat.reduceAdd, or_true, true_or, or_false, false_or, Int.reduceEq, Int.reduceNe, Int.reduceLT, Int.reduceLE, Int.reduceNeg, sg_nil, s1p, x510, x511, x512, x513, x514, x515, x516, x517, e0, e2, e3, st, Int.toNat_zero]
              repeat' (first | with_reducible apply And.intro | (intro _) | ((first | refine wp_go b152_0 ?_ | refine wp_go b152_5 ?_ | refine wp_go b152_10 ?_ | refine wp_go b152_18 ?_ | refine wp_go b152_24 ?_ | refine wp_go b152_29 ?_ | refine wp_go b152_99 ?_ | refine wp_go b152_101 ?_ | refine wp_go b152_102 ?_ | refine wp_go b152_124 ?_); simp only [l152_0, l152_5, l152_10, l152_18, l152_24, l152_29, l152_99, l152_101, l152_102, l152_124, sg_aload_0, sg_iload_1, sg_iv2_i, len4_0, len4_1, len4_2, len4_3, len4_4, sg_if_ne, sg_iconst, sg_iret0, sg_iload_3, sg_sipush, sg_is3_1, sg_bipush, sg_iv2_v, sg_istore, okS_4, stL_4, okS_5, stL_5, sg_iload, ldI_4, sg_getfp, ldI_5, sg_imul, sg_iadd, sg_iaload, sg_iinc, sg_goto, nLg_n, nLg_i, nLg_r, tc_c, tc_l, tc_r, tc_m, tc_n, tc_o, tc_0, inR, true_and, and_true, ne_eq, not_true_eq_false, not_false_eq_true, true_imp_iff, false_imp_iff, Int.toNat_natCast, lit_a, Nat.reduceAdd, or_true, true_or, or_false, false_or, Int.reduceEq, Int.reduceNe, Int.reduceLT, Int.reduceLE, Int.reduceNeg, sg_nil, s1p, x510, x511, x512, x513, x514, x515, x516, x517, e4]))
              all_goals (try omega)
              all_goals exact h
            · rw [if_neg g2] at h
              refine wp_go b152_35 ?_; simp only [l152_35, sg_iload, ldI_5, sg_aload_0, sg_getfp, sg_iconst, sg_iaload, sg_ic_ge, ldI_4, sg_imul, sg_iadd, sg_istore, okS_4, stL_4, sg_iload_2, sg_ic_ne, sg_iload_3, sg_goto, nLg_n, nLg_i, nLg_r, tc_c, tc_l, tc_r, tc_m, tc_n, tc_o, tc_0, inR, true_and, and_true, ne_eq, not_true_eq_false, not_false_eq_true, true_imp_iff, false_imp_iff, Int.toNat_natCast, lit_a, Nat.reduceAdd, or_true, true_or, or_false, false_or, Int.reduceEq, Int.reduceNe, Int.reduceLT, Int.reduceLE, Int.reduceNeg, sg_nil, s1p, x510, x511, x512, x513, x514, x515, x516, x517, e0, e2, e3, st, Int.toNat_zero]
              repeat' (first | with_reducible apply And.intro | (intro _) | ((first | refine wp_go b152_0 ?_ | refine wp_go b152_5 ?_ | refine wp_go b152_10 ?_ | refine wp_go b152_18 ?_ | refine wp_go b152_24 ?_ | refine wp_go b152_29 ?_ | refine wp_go b152_99 ?_ | refine wp_go b152_101 ?_ | refine wp_go b152_102 ?_ | refine wp_go b152_124 ?_); simp only [l152_0, l152_5, l152_10, l152_18, l152_24, l152_29, l152_99, l152_101, l152_102, l152_124, sg_aload_0, sg_iload_1, sg_iv2_i, len4_0, len4_1, len4_2, len4_3, len4_4, sg_if_ne, sg_iconst, sg_iret0, sg_iload_3, sg_sipush, sg_is3_1, sg_bipush, sg_iv2_v, sg_istore, okS_4, stL_4, okS_5, stL_5, sg_iload, ldI_4, sg_getfp, ldI_5, sg_imul, sg_iadd, sg_iaload, sg_iinc, sg_goto, nLg_n, nLg_i, nLg_r, tc_c, tc_l, tc_r, tc_m, tc_n, tc_o, tc_0, inR, true_and, and_true, ne_eq, not_true_eq_false, not_false_eq_true, true_imp_iff, false_imp_iff, Int.toNat_natCast, lit_a, Nat.reduceAdd, or_true, true_or, or_false, false_or, Int.reduceEq, Int.reduceNe, Int.reduceLT, Int.reduceLE, Int.reduceNeg, sg_nil, s1p, x510, x511, x512, x513, x514, x515, x516, x517, e4]))
              all_goals (try omega)
              all_goals exact h
          · have ih1 := ih (i + 1) (by omega) (fun j hj' => by
              rcases Nat.lt_or_ge j i with r | r
              · exact hj j r
              · rw [show j = i by omega]; exact g)
            refine wp_go b152_35 ?_; simp only [l152_35, sg_iload, ldI_5, sg_aload_0, sg_getfp, sg_iconst, sg_iaload, sg_ic_ge, ldI_4, sg_imul, sg_iadd, sg_istore, okS_4, stL_4, sg_iload_2, sg_ic_ne, sg_iload_3, sg_goto, nLg_n, nLg_i, nLg_r, tc_c, tc_l, tc_r, tc_m, tc_n, tc_o, tc_0, inR, true_and, and_true, ne_eq, not_true_eq_false, not_false_eq_true, true_imp_iff, false_imp_iff, Int.toNat_natCast, lit_a, Nat.reduceAdd, or_true, true_or, or_false, false_or, Int.reduceEq, Int.reduceNe, Int.reduceLT, Int.reduceLE, Int.reduceNeg, sg_nil, s1p, x510, x511, x512, x513, x514, x515, x516, x517, e0, e2, e3, st, Int.toNat_zero]
            repeat' (first | with_reducible apply And.intro | (intro _) | ((first | refine wp_go b152_0 ?_ | refine wp_go b152_5 ?_ | refine wp_go b152_10 ?_ | refine wp_go b152_18 ?_ | refine wp_go b152_24 ?_ | refine wp_go b152_29 ?_ | refine wp_go b152_99 ?_ | refine wp_go b152_101 ?_ | refine wp_go b152_102 ?_ | refine wp_go b152_124 ?_); simp only [l152_0, l152_5, l152_10, l152_18, l152_24, l152_29, l152_99, l152_101, l152_102, l152_124, sg_aload_0, sg_iload_1, sg_iv2_i, len4_0, len4_1, len4_2, len4_3, len4_4, sg_if_ne, sg_iconst, sg_iret0, sg_iload_3, sg_sipush, sg_is3_1, sg_bipush, sg_iv2_v, sg_istore, okS_4, stL_4, okS_5, stL_5, sg_iload, ldI_4, sg_getfp, ldI_5, sg_imul, sg_iadd, sg_iaload, sg_iinc, sg_goto, nLg_n, nLg_i, nLg_r, tc_c, tc_l, tc_r, tc_m, tc_n, tc_o, tc_0, inR, true_and, and_true, ne_eq, not_true_eq_false, not_false_eq_true, true_imp_iff, false_imp_iff, Int.toNat_natCast, lit_a, Nat.reduceAdd, or_true, true_or, or_false, false_or, Int.reduceEq, Int.reduceNe, Int.reduceLT, Int.reduceLE, Int.reduceNeg, sg_nil, s1p, x510, x511, x512, x513, x514, x515, x516, x517, e4, sh]))
            all_goals (try omega)
            all_goals exact ih1
      refine wp_go b152_29 ?_; simp only [l152_29, sg_iconst, sg_istore, okS_4, stL_4, okS_5, stL_5, nLg_n, nLg_i, nLg_r, tc_c, tc_l, tc_r, tc_m, tc_n, tc_o, tc_0, inR, true_and, and_true, ne_eq, not_true_eq_false, not_false_eq_true, true_imp_iff, false_imp_iff, Int.toNat_natCast, lit_a, Nat.reduceAdd, or_true, true_or, or_false, false_or, Int.reduceEq, Int.reduceNe, Int.reduceLT, Int.reduceLE, Int.reduceNeg, sg_nil, s1p, x510, x511, x512, x513, x514, x515, x516, x517]
      exact loop (nw z n) 0 (by omega) (fun j hj => absurd hj (by omega))
    · have h := hq μ (QM_r μ) hM
      refine wp_go b152_18 ?_; simp only [l152_18, sg_if_ne, sg_bipush, sg_iret0, nLg_n, nLg_i, nLg_r, tc_c, tc_l, tc_r, tc_m, tc_n, tc_o, tc_0, inR, true_and, and_true, ne_eq, not_true_eq_false, not_false_eq_true, true_imp_iff, false_imp_iff, Int.toNat_natCast, lit_a, Nat.reduceAdd, or_true, true_or, or_false, false_or, Int.reduceEq, Int.reduceNe, Int.reduceLT, Int.reduceLE, Int.reduceNeg, sg_nil, s1p, x510, x511, x512, x513, x514, x515, x516, x517]
      repeat' (first | with_reducible apply And.intro | (intro _) | ((first | refine wp_go b152_0 ?_ | refine wp_go b152_5 ?_ | refine wp_go b152_10 ?_ | refine wp_go b152_18 ?_ | refine wp_go b152_24 ?_ | refine wp_go b152_29 ?_ | refine wp_go b152_99 ?_ | refine wp_go b152_101 ?_ | refine wp_go b152_102 ?_ | refine wp_go b152_124 ?_); simp only [l152_0, l152_5, l152_10, l152_18, l152_24, l152_29, l152_99, l152_101, l152_102, l152_124, sg_aload_0, sg_iload_1, sg_iv2_i, len4_0, len4_1, len4_2, len4_3, len4_4, sg_if_ne, sg_iconst, sg_iret0, sg_iload_3, sg_sipush, sg_is3_1, sg_bipush, sg_iv2_v, sg_istore, okS_4, stL_4, okS_5, stL_5, sg_iload, ldI_4, sg_getfp, ldI_5, sg_imul, sg_iadd, sg_iaload, sg_iinc, sg_goto, nLg_n, nLg_i, nLg_r, tc_c, tc_l, tc_r, tc_m, tc_n, tc_o, tc_0, inR, true_and, and_true, ne_eq, not_true_eq_false, not_false_eq_true, true_imp_iff, false_imp_iff, Int.toNat_natCast, lit_a, Nat.reduceAdd, or_true, true_or, or_false, false_or, Int.reduceEq, Int.reduceNe, Int.reduceLT, Int.reduceLE, Int.reduceNeg, sg_nil, s1p, x510, x511, x512, x513, x514, x515, x516, x517]))
      all_goals (try omega)
      all_goals (revert h; unfold F_open; (try simp only [Int.toNat_natCast]); (repeat (first | rw [if_neg (by omega)] | rw [if_pos (by omega)])); exact id)
  · have h := hq μ (QM_r μ) hM
    refine wp_go b152_5 ?_; simp only [l152_5, sg_if_ne, sg_iconst, sg_iret0, nLg_n, nLg_i, nLg_r, tc_c, tc_l, tc_r, tc_m, tc_n, tc_o, tc_0, inR, true_and, and_true, ne_eq, not_true_eq_false, not_false_eq_true, true_imp_iff, false_imp_iff, Int.toNat_natCast, lit_a, Nat.reduceAdd, or_true, true_or, or_false, false_or, Int.reduceEq, Int.reduceNe, Int.reduceLT, Int.reduceLE, Int.reduceNeg, sg_nil, s1p, x510, x511, x512, x513, x514, x515, x516, x517]
    repeat' (first | with_reducible apply And.intro | (intro _) | ((first | refine wp_go b152_0 ?_ | refine wp_go b152_5 ?_ | refine wp_go b152_10 ?_ | refine wp_go b152_18 ?_ | refine wp_go b152_24 ?_ | refine wp_go b152_29 ?_ | refine wp_go b152_99 ?_ | refine wp_go b152_101 ?_ | refine wp_go b152_102 ?_ | refine wp_go b152_124 ?_); simp only [l152_0, l152_5, l152_10, l152_18, l152_24, l152_29, l152_99, l152_101, l152_102, l152_124, sg_aload_0, sg_iload_1, sg_iv2_i, len4_0, len4_1, len4_2, len4_3, len4_4, sg_if_ne, sg_iconst, sg_iret0, sg_iload_3, sg_sipush, sg_is3_1, sg_bipush, sg_iv2_v, sg_istore, okS_4, stL_4, okS_5, stL_5, sg_iload, ldI_4, sg_getfp, ldI_5, sg_imul, sg_iadd, sg_iaload, sg_iinc, sg_goto, nLg_n, nLg_i, nLg_r, tc_c, tc_l, tc_r, tc_m, tc_n, tc_o, tc_0, inR, true_and, and_true, ne_eq, not_true_eq_false, not_false_eq_true, true_imp_iff, false_imp_iff, Int.toNat_natCast, lit_a, Nat.reduceAdd, or_true, true_or, or_false, false_or, Int.reduceEq, Int.reduceNe, Int.reduceLT, Int.reduceLE, Int.reduceNeg, sg_nil, s1p, x510, x511, x512, x513, x514, x515, x516, x517]))
    all_goals (try omega)
    all_goals (revert h; unfold F_open; (try simp only [Int.toNat_natCast]); (repeat (first | rw [if_neg (by omega)] | rw [if_pos (by omega)])); exact id)
-- Mo.momentAt: blocks [0, 5, 10, 16, 33, 43, 48, 59, 63, 64]
theorem k_Mo_momentAt {d l : Nat} {Q : QT} {μ : Mem} {t : Int} {z : Rw} (hM : μ 511 = z) (hz : IZ z) (hl : (l : Int) < z 3) (ht1 : 0 ≤ t ∧ t ≤ 9999) (hq : ∀ μ', QM μ μ' → μ' 511 = z → Q (.inl (mom z l t)) μ') : Call σ1 (d + 5) 153 [.inr (.inr 510), .inl (l : Int), .inl t] μ Q := by
  refine e_153 ?_
  have q := hz.1
  have nn := nw_eq hz hl
  have W := wO_W hz hl
  have z0 := zn_eq hz
  refine wp_go b153_0 ?_; simp only [l153_0, sg_aload_0, sg_iload_1, sg_iv2_v, len4_0, len4_1, len4_2, len4_3, len4_4, nLg_n, nLg_i, nLg_r, tc_c, tc_l, tc_r, tc_m, tc_n, tc_o, tc_0, inR, true_and, and_true, ne_eq, not_true_eq_false, not_false_eq_true, true_imp_iff, false_imp_iff, Int.toNat_natCast, lit_a, Nat.reduceAdd, or_true, true_or, or_false, false_or, Int.reduceEq, Int.reduceNe, Int.reduceLT, Int.reduceLE, Int.reduceNeg, sg_nil, s1p, x510, x511, x512, x513, x514, x515, x516, x517]
  refine k_Mo_lay hM hz hl (fun μ2 f2 H2 => ?_)
  refine wp_go b153_5 ?_; simp only [l153_5, sg_aload_0, sg_iload_2, sg_iv2_i, len4_0, len4_1, len4_2, len4_3, len4_4, nLg_n, nLg_i, nLg_r, tc_c, tc_l, tc_r, tc_m, tc_n, tc_o, tc_0, inR, true_and, and_true, ne_eq, not_true_eq_false, not_false_eq_true, true_imp_iff, false_imp_iff, Int.toNat_natCast, lit_a, Nat.reduceAdd, or_true, true_or, or_false, false_or, Int.reduceEq, Int.reduceNe, Int.reduceLT, Int.reduceLE, Int.reduceNeg, sg_nil, s1p, x510, x511, x512, x513, x514, x515, x516, x517]
  have qm : ∀ μ3 : Mem, (∀ k, k ≠ 510 → μ3 k = μ2 k) → (∀ j, j < 8 → μ3 510 j = μ2 510 j) → Q (.inl (mom z l t)) μ3 := fun μ3 f3 g3 => hq μ3 ⟨fun k a b c e => (f3 k a).trans (f2 k c), fun j hj => (g3 j hj).trans (by rw [f2 510 (by omega)])⟩ (by rw [f3 511 (by omega), f2 511 (by omega)]; exact hM)
  unfold mom at qm
  refine k_Mo_find W H2 nn.1 ht1 (fun e2 μ3 f3 g3 => ?_) (fun i i1 e2 μ3 f3 g3 m8 m9 m10 => ?_)
  · have h := qm μ3 f3 g3
    rw [if_pos e2] at h
    refine wp_go b153_10 ?_; simp only [l153_10, sg_if_ne, sg_bipush, sg_iret0, nLg_n, nLg_i, nLg_r, tc_c, tc_l, tc_r, tc_m, tc_n, tc_o, tc_0, inR, true_and, and_true, ne_eq, not_true_eq_false, not_false_eq_true, true_imp_iff, false_imp_iff, Int.toNat_natCast, lit_a, Nat.reduceAdd, or_true, true_or, or_false, false_or, Int.reduceEq, Int.reduceNe, Int.reduceLT, Int.reduceLE, Int.reduceNeg, sg_nil, s1p, x510, x511, x512, x513, x514, x515, x516, x517]
    repeat' (first | with_reducible apply And.intro | (intro _) | ((first | refine wp_go b153_0 ?_ | refine wp_go b153_5 ?_ | refine wp_go b153_10 ?_ | refine wp_go b153_16 ?_ | refine wp_go b153_33 ?_ | refine wp_go b153_43 ?_ | refine wp_go b153_48 ?_ | refine wp_go b153_59 ?_ | refine wp_go b153_63 ?_ | refine wp_go b153_64 ?_); simp only [l153_0, l153_5, l153_10, l153_16, l153_33, l153_43, l153_48, l153_59, l153_63, l153_64, sg_aload_0, sg_iload_1, sg_iv2_v, len4_0, len4_1, len4_2, len4_3, len4_4, sg_iload_2, sg_iv2_i, sg_if_ne, sg_bipush, sg_iret0, sg_getfp, sg_iconst, sg_getf0, sg_imul, sg_iadd, sg_iaload, sg_istore_3, sg_iload_3, sg_if_ge, sg_goto, nLg_n, nLg_i, nLg_r, tc_c, tc_l, tc_r, tc_m, tc_n, tc_o, tc_0, inR, true_and, and_true, ne_eq, not_true_eq_false, not_false_eq_true, true_imp_iff, false_imp_iff, Int.toNat_natCast, lit_a, Nat.reduceAdd, or_true, true_or, or_false, false_or, Int.reduceEq, Int.reduceNe, Int.reduceLT, Int.reduceLE, Int.reduceNeg, sg_nil, s1p, x510, x511, x512, x513, x514, x515, x516, x517]))
    all_goals (try omega)
    all_goals exact h
  · have h := qm μ3 f3 g3
    rw [e2, if_neg (by omega), Int.toNat_natCast] at h
    have sb := sT_b W (p := i) (by omega)
    have M3 : μ3 511 = z := by rw [f3 511 (by omega), f2 511 (by omega)]; exact hM
    have r := (W.2.1 i (by omega)).1
    have e3 : μ3 516 (5 * i + 3) = wm (wO z l) i := by rw [f3 516 (by omega)]; exact H2 _ (by omega)
    refine wp_go b153_10 ?_; simp only [l153_10, sg_if_ne, sg_bipush, sg_iret0, nLg_n, nLg_i, nLg_r, tc_c, tc_l, tc_r, tc_m, tc_n, tc_o, tc_0, inR, true_and, and_true, ne_eq, not_true_eq_false, not_false_eq_true, true_imp_iff, false_imp_iff, Int.toNat_natCast, lit_a, Nat.reduceAdd, or_true, true_or, or_false, false_or, Int.reduceEq, Int.reduceNe, Int.reduceLT, Int.reduceLE, Int.reduceNeg, sg_nil, s1p, x510, x511, x512, x513, x514, x515, x516, x517]
    repeat' (first | with_reducible apply And.intro | intro _)
    all_goals (try omega)
    refine wp_go b153_16 ?_; simp only [l153_16, sg_aload_0, sg_getfp, sg_iconst, sg_getf0, sg_imul, sg_iadd, sg_iaload, sg_iv2_i, len4_0, len4_1, len4_2, len4_3, len4_4, nLg_n, nLg_i, nLg_r, tc_c, tc_l, tc_r, tc_m, tc_n, tc_o, tc_0, inR, true_and, and_true, ne_eq, not_true_eq_false, not_false_eq_true, true_imp_iff, false_imp_iff, Int.toNat_natCast, lit_a, Nat.reduceAdd, or_true, true_or, or_false, false_or, Int.reduceEq, Int.reduceNe, Int.reduceLT, Int.reduceLE, Int.reduceNeg, sg_nil, s1p, x510, x511, x512, x513, x514, x515, x516, x517, m8, e3]
    repeat' (first | with_reducible apply And.intro | intro _)
    all_goals (try omega)
    refine k_Mo_marked (m := wm (wO z l) i) M3 hz (by show inR (wO z l (5 * i + 3)); unfold inR; omega) ?_
    rcases fsI_in (fun j => decide (zm z j = wm (wO z l) i)) (-1) (zn z) with e4 | ⟨j, j1, j2, j3⟩
    · have e4 : F_marked z (wm (wO z l) i) = -1 := e4
      rw [if_pos e4] at h
      rw [e4]
      refine wp_go b153_33 ?_; simp only [l153_33, sg_istore_3, sg_iload_3, sg_if_ge, sg_bipush, sg_goto, nLg_n, nLg_i, nLg_r, tc_c, tc_l, tc_r, tc_m, tc_n, tc_o, tc_0, inR, true_and, and_true, ne_eq, not_true_eq_false, not_false_eq_true, true_imp_iff, false_imp_iff, Int.toNat_natCast, lit_a, Nat.reduceAdd, or_true, true_or, or_false, false_or, Int.reduceEq, Int.reduceNe, Int.reduceLT, Int.reduceLE, Int.reduceNeg, sg_nil, s1p, x510, x511, x512, x513, x514, x515, x516, x517]
      repeat' (first | with_reducible apply And.intro | (intro _) | ((first | refine wp_go b153_0 ?_ | refine wp_go b153_5 ?_ | refine wp_go b153_10 ?_ | refine wp_go b153_16 ?_ | refine wp_go b153_33 ?_ | refine wp_go b153_43 ?_ | refine wp_go b153_48 ?_ | refine wp_go b153_59 ?_ | refine wp_go b153_63 ?_ | refine wp_go b153_64 ?_); simp only [l153_0, l153_5, l153_10, l153_16, l153_33, l153_43, l153_48, l153_59, l153_63, l153_64, sg_aload_0, sg_iload_1, sg_iv2_v, len4_0, len4_1, len4_2, len4_3, len4_4, sg_iload_2, sg_iv2_i, sg_if_ne, sg_bipush, sg_iret0, sg_getfp, sg_iconst, sg_getf0, sg_imul, sg_iadd, sg_iaload, sg_istore_3, sg_iload_3, sg_if_ge, sg_goto, nLg_n, nLg_i, nLg_r, tc_c, tc_l, tc_r, tc_m, tc_n, tc_o, tc_0, inR, true_and, and_true, ne_eq, not_true_eq_false, not_false_eq_true, true_imp_iff, false_imp_iff, Int.toNat_natCast, lit_a, Nat.reduceAdd, or_true, true_or, or_false, false_or, Int.reduceEq, Int.reduceNe, Int.reduceLT, Int.reduceLE, Int.reduceNeg, sg_nil, s1p, x510, x511, x512, x513, x514, x515, x516, x517]))
      all_goals (try omega)
      all_goals exact h
    · have e4 : F_marked z (wm (wO z l) i) = (j : Int) := j2
      rw [e4, if_neg (by omega), Int.toNat_natCast] at h
      rw [e4]
      refine wp_go b153_33 ?_; simp only [l153_33, sg_istore_3, sg_iload_3, sg_if_ge, sg_bipush, sg_goto, nLg_n, nLg_i, nLg_r, tc_c, tc_l, tc_r, tc_m, tc_n, tc_o, tc_0, inR, true_and, and_true, ne_eq, not_true_eq_false, not_false_eq_true, true_imp_iff, false_imp_iff, Int.toNat_natCast, lit_a, Nat.reduceAdd, or_true, true_or, or_false, false_or, Int.reduceEq, Int.reduceNe, Int.reduceLT, Int.reduceLE, Int.reduceNeg, sg_nil, s1p, x510, x511, x512, x513, x514, x515, x516, x517]
      repeat' (first | with_reducible apply And.intro | intro _)
      all_goals (try omega)
      refine wp_go b153_43 ?_; simp only [l153_43, sg_aload_0, sg_iload_3, sg_iv2_i, len4_0, len4_1, len4_2, len4_3, len4_4, nLg_n, nLg_i, nLg_r, tc_c, tc_l, tc_r, tc_m, tc_n, tc_o, tc_0, inR, true_and, and_true, ne_eq, not_true_eq_false, not_false_eq_true, true_imp_iff, false_imp_iff, Int.toNat_natCast, lit_a, Nat.reduceAdd, or_true, true_or, or_false, false_or, Int.reduceEq, Int.reduceNe, Int.reduceLT, Int.reduceLE, Int.reduceNeg, sg_nil, s1p, x510, x511, x512, x513, x514, x515, x516, x517]
      refine k_Mo_timeOf M3 (by omega) ?_
      by_cases g : 0 < t - sT (wO z l) i
      · rw [if_pos g] at h
        refine wp_go b153_48 ?_; simp only [l153_48, sg_aload_0, sg_getf0, sg_if_ge, sg_iconst, sg_goto, nLg_n, nLg_i, nLg_r, tc_c, tc_l, tc_r, tc_m, tc_n, tc_o, tc_0, inR, true_and, and_true, ne_eq, not_true_eq_false, not_false_eq_true, true_imp_iff, false_imp_iff, Int.toNat_natCast, lit_a, Nat.reduceAdd, or_true, true_or, or_false, false_or, Int.reduceEq, Int.reduceNe, Int.reduceLT, Int.reduceLE, Int.reduceNeg, sg_nil, s1p, x510, x511, x512, x513, x514, x515, x516, x517, m9]
        repeat' (first | with_reducible apply And.intro | (intro _) | ((first | refine wp_go b153_0 ?_ | refine wp_go b153_5 ?_ | refine wp_go b153_10 ?_ | refine wp_go b153_16 ?_ | refine wp_go b153_33 ?_ | refine wp_go b153_43 ?_ | refine wp_go b153_48 ?_ | refine wp_go b153_59 ?_ | refine wp_go b153_63 ?_ | refine wp_go b153_64 ?_); simp only [l153_0, l153_5, l153_10, l153_16, l153_33, l153_43, l153_48, l153_59, l153_63, l153_64, sg_aload_0, sg_iload_1, sg_iv2_v, len4_0, len4_1, len4_2, len4_3, len4_4, sg_iload_2, sg_iv2_i, sg_if_ne, sg_bipush, sg_iret0, sg_getfp, sg_iconst, sg_getf0, sg_imul, sg_iadd, sg_iaload, sg_istore_3, sg_iload_3, sg_if_ge, sg_goto, nLg_n, nLg_i, nLg_r, tc_c, tc_l, tc_r, tc_m, tc_n, tc_o, tc_0, inR, true_and, and_true, ne_eq, not_true_eq_false, not_false_eq_true, true_imp_iff, false_imp_iff, Int.toNat_natCast, lit_a, Nat.reduceAdd, or_true, true_or, or_false, false_or, Int.reduceEq, Int.reduceNe, Int.reduceLT, Int.reduceLE, Int.reduceNeg, sg_nil, s1p, x510, x511, x512, x513, x514, x515, x516, x517, m9]))
        all_goals (try omega)
        all_goals exact h
      · rw [if_neg g] at h
        by_cases g2 : t - sT (wO z l) i = 0
        · rw [g2] at m9
          refine wp_go b153_48 ?_; simp only [l153_48, sg_aload_0, sg_getf0, sg_if_ge, sg_iconst, sg_goto, nLg_n, nLg_i, nLg_r, tc_c, tc_l, tc_r, tc_m, tc_n, tc_o, tc_0, inR, true_and, and_true, ne_eq, not_true_eq_false, not_false_eq_true, true_imp_iff, false_imp_iff, Int.toNat_natCast, lit_a, Nat.reduceAdd, or_true, true_or, or_false, false_or, Int.reduceEq, Int.reduceNe, Int.reduceLT, Int.reduceLE, Int.reduceNeg, sg_nil, s1p, x510, x511, x512, x513, x514, x515, x516, x517, m9]
          repeat' (first | with_reducible apply And.intro | (intro _) | ((first | refine wp_go b153_0 ?_ | refine wp_go b153_5 ?_ | refine wp_go b153_10 ?_ | refine wp_go b153_16 ?_ | refine wp_go b153_33 ?_ | refine wp_go b153_43 ?_ | refine wp_go b153_48 ?_ | refine wp_go b153_59 ?_ | refine wp_go b153_63 ?_ | refine wp_go b153_64 ?_); simp only [l153_0, l153_5, l153_10, l153_16, l153_33, l153_43, l153_48, l153_59, l153_63, l153_64, sg_aload_0, sg_iload_1, sg_iv2_v, len4_0, len4_1, len4_2, len4_3, len4_4, sg_iload_2, sg_iv2_i, sg_if_ne, sg_bipush, sg_iret0, sg_getfp, sg_iconst, sg_getf0, sg_imul, sg_iadd, sg_iaload, sg_istore_3, sg_iload_3, sg_if_ge, sg_goto, nLg_n, nLg_i, nLg_r, tc_c, tc_l, tc_r, tc_m, tc_n, tc_o, tc_0, inR, true_and, and_true, ne_eq, not_true_eq_false, not_false_eq_true, true_imp_iff, false_imp_iff, Int.toNat_natCast, lit_a, Nat.reduceAdd, or_true, true_or, or_false, false_or, Int.reduceEq, Int.reduceNe, Int.reduceLT, Int.reduceLE, Int.reduceNeg, sg_nil, s1p, x510, x511, x512, x513, x514, x515, x516, x517, m9]))
          all_goals (try omega)
          all_goals exact h
        · refine wp_go b153_48 ?_; simp only [l153_48, sg_aload_0, sg_getf0, sg_if_ge, sg_iconst, sg_goto, nLg_n, nLg_i, nLg_r, tc_c, tc_l, tc_r, tc_m, tc_n, tc_o, tc_0, inR, true_and, and_true, ne_eq, not_true_eq_false, not_false_eq_true, true_imp_iff, false_imp_iff, Int.toNat_natCast, lit_a, Nat.reduceAdd, or_true, true_or, or_false, false_or, Int.reduceEq, Int.reduceNe, Int.reduceLT, Int.reduceLE, Int.reduceNeg, sg_nil, s1p, x510, x511, x512, x513, x514, x515, x516, x517, m9]
          repeat' (first | with_reducible apply And.intro | (intro _) | ((first | refine wp_go b153_0 ?_ | refine wp_go b153_5 ?_ | refine wp_go b153_10 ?_ | refine wp_go b153_16 ?_ | refine wp_go b153_33 ?_ | refine wp_go b153_43 ?_ | refine wp_go b153_48 ?_ | refine wp_go b153_59 ?_ | refine wp_go b153_63 ?_ | refine wp_go b153_64 ?_); simp only [l153_0, l153_5, l153_10, l153_16, l153_33, l153_43, l153_48, l153_59, l153_63, l153_64, sg_aload_0, sg_iload_1, sg_iv2_v, len4_0, len4_1, len4_2, len4_3, len4_4, sg_iload_2, sg_iv2_i, sg_if_ne, sg_bipush, sg_iret0, sg_getfp, sg_iconst, sg_getf0, sg_imul, sg_iadd, sg_iaload, sg_istore_3, sg_iload_3, sg_if_ge, sg_goto, nLg_n, nLg_i, nLg_r, tc_c, tc_l, tc_r, tc_m, tc_n, tc_o, tc_0, inR, true_and, and_true, ne_eq, not_true_eq_false, not_false_eq_true, true_imp_iff, false_imp_iff, Int.toNat_natCast, lit_a, Nat.reduceAdd, or_true, true_or, or_false, false_or, Int.reduceEq, Int.reduceNe, Int.reduceLT, Int.reduceLE, Int.reduceNeg, sg_nil, s1p, x510, x511, x512, x513, x514, x515, x516, x517, m9]))
          all_goals (try omega)
          all_goals exact h
theorem mom_c {z : Rw} (hz : IZ z) {l : Nat} {t : Int} (hl : (l : Int) < z 3) : mom z l t = -5 ∨ 0 ≤ mom z l t := by
  have nn := nw_eq hz hl
  have e0 := zn_eq hz
  unfold mom
  split
  · exact Or.inl rfl
  · split
    · exact Or.inl rfl
    · right
      rename_i g1 g2
      rcases fsI_in (fun j => decide (zm z j = wm (wO z l) (pHt (wO z l) (nw z l) t).toNat)) (-1) (zn z) with e3 | ⟨j, j1, j2, j3⟩
      · exact absurd e3 g2
      · have e3 : F_marked z (wm (wO z l) (pHt (wO z l) (nw z l) t).toNat) = (j : Int) := j2
        rw [e3, Int.toNat_natCast]
        have b := sm_b (f := zl z) (b := 300) (n := j) (fun x hx => by
          have := (hz.2.1 x (by omega)).2.1
          unfold zl; omega)
        split <;> omega
-- Mo.wrongAt: blocks [0, 5, 13, 16, 18, 26, 32, 38, 46, 58, 61, 76, 81]
theorem k_Mo_wrongAt {d : Nat} {Q : QT} {μ : Mem} {l o t : Int} {z : Rw} (hM : μ 511 = z) (hz : IZ z) (hl : inR l) (ho : inR o) (ht : inR t) (hq : ∀ μ', QM μ μ' → μ' 511 = z → Q (.inl (F_wrongAt z l o t)) μ') : Call σ1 (d + 6) 154 [.inr (.inr 510), .inl l, .inl o, .inl t] μ Q := by
  refine e_154 ?_
  have q := hz.1
  refine wp_go b154_0 ?_; simp only [l154_0, sg_aload_0, sg_iload_1, sg_iv2_i, len4_0, len4_1, len4_2, len4_3, len4_4, nLg_n, nLg_i, nLg_r, tc_c, tc_l, tc_r, tc_m, tc_n, tc_o, tc_0, inR, true_and, and_true, ne_eq, not_true_eq_false, not_false_eq_true, true_imp_iff, false_imp_iff, Int.toNat_natCast, lit_a, Nat.reduceAdd, or_true, true_or, or_false, false_or, Int.reduceEq, Int.reduceNe, Int.reduceLT, Int.reduceLE, Int.reduceNeg, sg_nil, s1p, x510, x511, x512, x513, x514, x515, x516, x517]
  refine k_Mo_isListener hM hz hl (fun h1 h2 => ?_) (fun h0 => ?_)
  · obtain ⟨n, rfl⟩ := nat_of h1
    refine wp_go b154_5 ?_; simp only [l154_5, sg_if_eq, sg_aload_0, sg_iload_2, sg_iv2_i, len4_0, len4_1, len4_2, len4_3, len4_4, nLg_n, nLg_i, nLg_r, tc_c, tc_l, tc_r, tc_m, tc_n, tc_o, tc_0, inR, true_and, and_true, ne_eq, not_true_eq_false, not_false_eq_true, true_imp_iff, false_imp_iff, Int.toNat_natCast, lit_a, Nat.reduceAdd, or_true, true_or, or_false, false_or, Int.reduceEq, Int.reduceNe, Int.reduceLT, Int.reduceLE, Int.reduceNeg, sg_nil, s1p, x510, x511, x512, x513, x514, x515, x516, x517]
    repeat' (first | with_reducible apply And.intro | intro _)
    all_goals (try omega)
    refine k_Mo_isListener hM hz ho (fun h3 h4 => ?_) (fun h0 => ?_)
    · obtain ⟨m, rfl⟩ := nat_of h3
      refine wp_go b154_13 ?_; simp only [l154_13, sg_if_ne, nLg_n, nLg_i, nLg_r, tc_c, tc_l, tc_r, tc_m, tc_n, tc_o, tc_0, inR, true_and, and_true, ne_eq, not_true_eq_false, not_false_eq_true, true_imp_iff, false_imp_iff, Int.toNat_natCast, lit_a, Nat.reduceAdd, or_true, true_or, or_false, false_or, Int.reduceEq, Int.reduceNe, Int.reduceLT, Int.reduceLE, Int.reduceNeg, sg_nil, s1p, x510, x511, x512, x513, x514, x515, x516, x517]
      repeat' (first | with_reducible apply And.intro | intro _)
      all_goals (try omega)
      refine wp_go b154_18 ?_; simp only [l154_18, sg_iload_3, sg_iconst, sg_sipush, len4_0, len4_1, len4_2, len4_3, len4_4, sg_is3_1, nLg_n, nLg_i, nLg_r, tc_c, tc_l, tc_r, tc_m, tc_n, tc_o, tc_0, inR, true_and, and_true, ne_eq, not_true_eq_false, not_false_eq_true, true_imp_iff, false_imp_iff, Int.toNat_natCast, lit_a, Nat.reduceAdd, or_true, true_or, or_false, false_or, Int.reduceEq, Int.reduceNe, Int.reduceLT, Int.reduceLE, Int.reduceNeg, sg_nil, s1p, x510, x511, x512, x513, x514, x515, x516, x517]
      refine k_Mo_in ht (by unfold inR; omega) (by unfold inR; omega) (fun g1 g2 => ?_) (fun g0 => ?_)
      · refine wp_go b154_26 ?_; simp only [l154_26, sg_if_ne, sg_bipush, sg_iret0, nLg_n, nLg_i, nLg_r, tc_c, tc_l, tc_r, tc_m, tc_n, tc_o, tc_0, inR, true_and, and_true, ne_eq, not_true_eq_false, not_false_eq_true, true_imp_iff, false_imp_iff, Int.toNat_natCast, lit_a, Nat.reduceAdd, or_true, true_or, or_false, false_or, Int.reduceEq, Int.reduceNe, Int.reduceLT, Int.reduceLE, Int.reduceNeg, sg_nil, s1p, x510, x511, x512, x513, x514, x515, x516, x517]
        repeat' (first | with_reducible apply And.intro | intro _)
        all_goals (try omega)
        refine wp_go b154_32 ?_; simp only [l154_32, sg_aload_0, sg_iload_1, sg_iload_3, sg_iv3_i, len4_0, len4_1, len4_2, len4_3, len4_4, nLg_n, nLg_i, nLg_r, tc_c, tc_l, tc_r, tc_m, tc_n, tc_o, tc_0, inR, true_and, and_true, ne_eq, not_true_eq_false, not_false_eq_true, true_imp_iff, false_imp_iff, Int.toNat_natCast, lit_a, Nat.reduceAdd, or_true, true_or, or_false, false_or, Int.reduceEq, Int.reduceNe, Int.reduceLT, Int.reduceLE, Int.reduceNeg, sg_nil, s1p, x510, x511, x512, x513, x514, x515, x516, x517]
        refine k_Mo_momentAt hM hz h2 ⟨g1, g2⟩ (fun μ1 f1 M1 => ?_)
        refine wp_go b154_38 ?_; simp only [l154_38, sg_istore, okS_4, stL_4, sg_aload_0, sg_iload_2, sg_iload_3, sg_iv3_i, len4_0, len4_1, len4_2, len4_3, len4_4, nLg_n, nLg_i, nLg_r, tc_c, tc_l, tc_r, tc_m, tc_n, tc_o, tc_0, inR, true_and, and_true, ne_eq, not_true_eq_false, not_false_eq_true, true_imp_iff, false_imp_iff, Int.toNat_natCast, lit_a, Nat.reduceAdd, or_true, true_or, or_false, false_or, Int.reduceEq, Int.reduceNe, Int.reduceLT, Int.reduceLE, Int.reduceNeg, sg_nil, s1p, x510, x511, x512, x513, x514, x515, x516, x517]
        refine k_Mo_momentAt M1 hz h4 ⟨g1, g2⟩ (fun μ2 f2 M2 => ?_)
        have h := hq μ2 (QM_t f1 f2) M2
        unfold F_wrongAt at h
        rw [if_neg (by omega), if_neg (by omega), Int.toNat_natCast, Int.toNat_natCast] at h
        have ba := mom_b (l := n) hz ⟨g1, g2⟩ h2
        have bb := mom_b (l := m) hz ⟨g1, g2⟩ h4
        have ca := mom_c (l := n) (t := t) hz h2
        have cb := mom_c (l := m) (t := t) hz h4
        generalize mom z n t = A at *
        generalize mom z m t = B at *
        by_cases gn : A = -5 ∨ B = -5
        · rw [if_pos gn] at h
          refine wp_go b154_46 ?_; simp only [l154_46, sg_istore, okS_5, stL_5, sg_iload, ldI_4, sg_if_lt, ldI_5, sg_if_ge, nLg_n, nLg_i, nLg_r, tc_c, tc_l, tc_r, tc_m, tc_n, tc_o, tc_0, inR, true_and, and_true, ne_eq, not_true_eq_false, not_false_eq_true, true_imp_iff, false_imp_iff, Int.toNat_natCast, lit_a, Nat.reduceAdd, or_true, true_or, or_false, false_or, Int.reduceEq, Int.reduceNe, Int.reduceLT, Int.reduceLE, Int.reduceNeg, sg_nil, s1p, x510, x511, x512, x513, x514, x515, x516, x517]
          repeat' (first | with_reducible apply And.intro | (intro _) | ((first | refine wp_go b154_0 ?_ | refine wp_go b154_5 ?_ | refine wp_go b154_13 ?_ | refine wp_go b154_16 ?_ | refine wp_go b154_18 ?_ | refine wp_go b154_26 ?_ | refine wp_go b154_32 ?_ | refine wp_go b154_38 ?_ | refine wp_go b154_46 ?_ | refine wp_go b154_58 ?_ | refine wp_go b154_61 ?_ | refine wp_go b154_76 ?_ | refine wp_go b154_81 ?_); simp only [l154_0, l154_5, l154_13, l154_16, l154_18, l154_26, l154_32, l154_38, l154_46, l154_58, l154_61, l154_76, l154_81, sg_aload_0, sg_iload_1, sg_iv2_i, len4_0, len4_1, len4_2, len4_3, len4_4, sg_if_eq, sg_iload_2, sg_if_ne, sg_iconst, sg_iret0, sg_iload_3, sg_sipush, sg_is3_1, sg_bipush, sg_iv3_i, sg_istore, okS_4, stL_4, okS_5, stL_5, sg_iload, ldI_4, sg_if_lt, ldI_5, sg_if_ge, sg_ic_ge, sg_isub, sg_goto, nLg_n, nLg_i, nLg_r, tc_c, tc_l, tc_r, tc_m, tc_n, tc_o, tc_0, inR, true_and, and_true, ne_eq, not_true_eq_false, not_false_eq_true, true_imp_iff, false_imp_iff, Int.toNat_natCast, lit_a, Nat.reduceAdd, or_true, true_or, or_false, false_or, Int.reduceEq, Int.reduceNe, Int.reduceLT, Int.reduceLE, Int.reduceNeg, sg_nil, s1p, x510, x511, x512, x513, x514, x515, x516, x517]))
          all_goals (try omega)
          all_goals exact h
        · rw [if_neg gn] at h
          by_cases gd : A < B
          · rw [if_pos (by omega)] at h
            refine wp_go b154_46 ?_; simp only [l154_46, sg_istore, okS_5, stL_5, sg_iload, ldI_4, sg_if_lt, ldI_5, sg_if_ge, nLg_n, nLg_i, nLg_r, tc_c, tc_l, tc_r, tc_m, tc_n, tc_o, tc_0, inR, true_and, and_true, ne_eq, not_true_eq_false, not_false_eq_true, true_imp_iff, false_imp_iff, Int.toNat_natCast, lit_a, Nat.reduceAdd, or_true, true_or, or_false, false_or, Int.reduceEq, Int.reduceNe, Int.reduceLT, Int.reduceLE, Int.reduceNeg, sg_nil, s1p, x510, x511, x512, x513, x514, x515, x516, x517]
            repeat' (first | with_reducible apply And.intro | (intro _) | ((first | refine wp_go b154_0 ?_ | refine wp_go b154_5 ?_ | refine wp_go b154_13 ?_ | refine wp_go b154_16 ?_ | refine wp_go b154_18 ?_ | refine wp_go b154_26 ?_ | refine wp_go b154_32 ?_ | refine wp_go b154_38 ?_ | refine wp_go b154_46 ?_ | refine wp_go b154_58 ?_ | refine wp_go b154_61 ?_ | refine wp_go b154_76 ?_ | refine wp_go b154_81 ?_); simp only [l154_0, l154_5, l154_13, l154_16, l154_18, l154_26, l154_32, l154_38, l154_46, l154_58, l154_61, l154_76, l154_81, sg_aload_0, sg_iload_1, sg_iv2_i, len4_0, len4_1, len4_2, len4_3, len4_4, sg_if_eq, sg_iload_2, sg_if_ne, sg_iconst, sg_iret0, sg_iload_3, sg_sipush, sg_is3_1, sg_bipush, sg_iv3_i, sg_istore, okS_4, stL_4, okS_5, stL_5, sg_iload, ldI_4, sg_if_lt, ldI_5, sg_if_ge, sg_ic_ge, sg_isub, sg_goto, nLg_n, nLg_i, nLg_r, tc_c, tc_l, tc_r, tc_m, tc_n, tc_o, tc_0, inR, true_and, and_true, ne_eq, not_true_eq_false, not_false_eq_true, true_imp_iff, false_imp_iff, Int.toNat_natCast, lit_a, Nat.reduceAdd, or_true, true_or, or_false, false_or, Int.reduceEq, Int.reduceNe, Int.reduceLT, Int.reduceLE, Int.reduceNeg, sg_nil, s1p, x510, x511, x512, x513, x514, x515, x516, x517]))
            all_goals (try omega)
            all_goals exact h
          · have h : Q (.inl (A - B)) μ2 := by
              by_cases ge : A = B
              · subst ge; rw [if_pos (by omega)] at h; exact h
              · rw [if_neg (by omega), show 0 - (B - A) = A - B by omega] at h; exact h
            refine wp_go b154_46 ?_; simp only [l154_46, sg_istore, okS_5, stL_5, sg_iload, ldI_4, sg_if_lt, ldI_5, sg_if_ge, nLg_n, nLg_i, nLg_r, tc_c, tc_l, tc_r, tc_m, tc_n, tc_o, tc_0, inR, true_and, and_true, ne_eq, not_true_eq_false, not_false_eq_true, true_imp_iff, false_imp_iff, Int.toNat_natCast, lit_a, Nat.reduceAdd, or_true, true_or, or_false, false_or, Int.reduceEq, Int.reduceNe, Int.reduceLT, Int.reduceLE, Int.reduceNeg, sg_nil, s1p, x510, x511, x512, x513, x514, x515, x516, x517]
            repeat' (first | with_reducible apply And.intro | (intro _) | ((first | refine wp_go b154_0 ?_ | refine wp_go b154_5 ?_ | refine wp_go b154_13 ?_ | refine wp_go b154_16 ?_ | refine wp_go b154_18 ?_ | refine wp_go b154_26 ?_ | refine wp_go b154_32 ?_ | refine wp_go b154_38 ?_ | refine wp_go b154_46 ?_ | refine wp_go b154_58 ?_ | refine wp_go b154_61 ?_ | refine wp_go b154_76 ?_ | refine wp_go b154_81 ?_); simp only [l154_0, l154_5, l154_13, l154_16, l154_18, l154_26, l154_32, l154_38, l154_46, l154_58, l154_61, l154_76, l154_81, sg_aload_0, sg_iload_1, sg_iv2_i, len4_0, len4_1, len4_2, len4_3, len4_4, sg_if_eq, sg_iload_2, sg_if_ne, sg_iconst, sg_iret0, sg_iload_3, sg_sipush, sg_is3_1, sg_bipush, sg_iv3_i, sg_istore, okS_4, stL_4, okS_5, stL_5, sg_iload, ldI_4, sg_if_lt, ldI_5, sg_if_ge, sg_ic_ge, sg_isub, sg_goto, nLg_n, nLg_i, nLg_r, tc_c, tc_l, tc_r, tc_m, tc_n, tc_o, tc_0, inR, true_and, and_true, ne_eq, not_true_eq_false, not_false_eq_true, true_imp_iff, false_imp_iff, Int.toNat_natCast, lit_a, Nat.reduceAdd, or_true, true_or, or_false, false_or, Int.reduceEq, Int.reduceNe, Int.reduceLT, Int.reduceLE, Int.reduceNeg, sg_nil, s1p, x510, x511, x512, x513, x514, x515, x516, x517]))
            all_goals (try omega)
            all_goals exact h
      · have h := hq μ (QM_r μ) hM
        refine wp_go b154_26 ?_; simp only [l154_26, sg_if_ne, sg_bipush, sg_iret0, nLg_n, nLg_i, nLg_r, tc_c, tc_l, tc_r, tc_m, tc_n, tc_o, tc_0, inR, true_and, and_true, ne_eq, not_true_eq_false, not_false_eq_true, true_imp_iff, false_imp_iff, Int.toNat_natCast, lit_a, Nat.reduceAdd, or_true, true_or, or_false, false_or, Int.reduceEq, Int.reduceNe, Int.reduceLT, Int.reduceLE, Int.reduceNeg, sg_nil, s1p, x510, x511, x512, x513, x514, x515, x516, x517]
        repeat' (first | with_reducible apply And.intro | (intro _) | ((first | refine wp_go b154_0 ?_ | refine wp_go b154_5 ?_ | refine wp_go b154_13 ?_ | refine wp_go b154_16 ?_ | refine wp_go b154_18 ?_ | refine wp_go b154_26 ?_ | refine wp_go b154_32 ?_ | refine wp_go b154_38 ?_ | refine wp_go b154_46 ?_ | refine wp_go b154_58 ?_ | refine wp_go b154_61 ?_ | refine wp_go b154_76 ?_ | refine wp_go b154_81 ?_); simp only [l154_0, l154_5, l154_13, l154_16, l154_18, l154_26, l154_32, l154_38, l154_46, l154_58, l154_61, l154_76, l154_81, sg_aload_0, sg_iload_1, sg_iv2_i, len4_0, len4_1, len4_2, len4_3, len4_4, sg_if_eq, sg_iload_2, sg_if_ne, sg_iconst, sg_iret0, sg_iload_3, sg_sipush, sg_is3_1, sg_bipush, sg_iv3_i, sg_istore, okS_4, stL_4, okS_5, stL_5, sg_iload, ldI_4, sg_if_lt, ldI_5, sg_if_ge, sg_ic_ge, sg_isub, sg_goto, nLg_n, nLg_i, nLg_r, tc_c, tc_l, tc_r, tc_m, tc_n, tc_o, tc_0, inR, true_and, and_true, ne_eq, not_true_eq_false, not_false_eq_true, true_imp_iff, false_imp_iff, Int.toNat_natCast, lit_a, Nat.reduceAdd, or_true, true_or, or_false, false_or, Int.reduceEq, Int.reduceNe, Int.reduceLT, Int.reduceLE, Int.reduceNeg, sg_nil, s1p, x510, x511, x512, x513, x514, x515, x516, x517]))
        all_goals (try omega)
        all_goals (revert h; unfold F_wrongAt; (try simp only [Int.toNat_natCast]); (repeat (first | rw [if_neg (by omega)] | rw [if_pos (by omega)])); exact id)
    · have h := hq μ (QM_r μ) hM
      refine wp_go b154_13 ?_; simp only [l154_13, sg_if_ne, nLg_n, nLg_i, nLg_r, tc_c, tc_l, tc_r, tc_m, tc_n, tc_o, tc_0, inR, true_and, and_true, ne_eq, not_true_eq_false, not_false_eq_true, true_imp_iff, false_imp_iff, Int.toNat_natCast, lit_a, Nat.reduceAdd, or_true, true_or, or_false, false_or, Int.reduceEq, Int.reduceNe, Int.reduceLT, Int.reduceLE, Int.reduceNeg, sg_nil, s1p, x510, x511, x512, x513, x514, x515, x516, x517]
      repeat' (first | with_reducible apply And.intro | (intro _) | ((first | refine wp_go b154_0 ?_ | refine wp_go b154_5 ?_ | refine wp_go b154_13 ?_ | refine wp_go b154_16 ?_ | refine wp_go b154_18 ?_ | refine wp_go b154_26 ?_ | refine wp_go b154_32 ?_ | refine wp_go b154_38 ?_ | refine wp_go b154_46 ?_ | refine wp_go b154_58 ?_ | refine wp_go b154_61 ?_ | refine wp_go b154_76 ?_ | refine wp_go b154_81 ?_); simp only [l154_0, l154_5, l154_13, l154_16, l154_18, l154_26, l154_32, l154_38, l154_46, l154_58, l154_61, l154_76, l154_81, sg_aload_0, sg_iload_1, sg_iv2_i, len4_0, len4_1, len4_2, len4_3, len4_4, sg_if_eq, sg_iload_2, sg_if_ne, sg_iconst, sg_iret0, sg_iload_3, sg_sipush, sg_is3_1, sg_bipush, sg_iv3_i, sg_istore, okS_4, stL_4, okS_5, stL_5, sg_iload, ldI_4, sg_if_lt, ldI_5, sg_if_ge, sg_ic_ge, sg_isub, sg_goto, nLg_n, nLg_i, nLg_r, tc_c, tc_l, tc_r, tc_m, tc_n, tc_o, tc_0, inR, true_and, and_true, ne_eq, not_true_eq_false, not_false_eq_true, true_imp_iff, false_imp_iff, Int.toNat_natCast, lit_a, Nat.reduceAdd, or_true, true_or, or_false, false_or, Int.reduceEq, Int.reduceNe, Int.reduceLT, Int.reduceLE, Int.reduceNeg, sg_nil, s1p, x510, x511, x512, x513, x514, x515, x516, x517]))
      all_goals (try omega)
      all_goals (revert h; unfold F_wrongAt; (try simp only [Int.toNat_natCast]); (repeat (first | rw [if_neg (by omega)] | rw [if_pos (by omega)])); exact id)
  · have h := hq μ (QM_r μ) hM
    refine wp_go b154_5 ?_; simp only [l154_5, sg_if_eq, sg_aload_0, sg_iload_2, sg_iv2_i, len4_0, len4_1, len4_2, len4_3, len4_4, nLg_n, nLg_i, nLg_r, tc_c, tc_l, tc_r, tc_m, tc_n, tc_o, tc_0, inR, true_and, and_true, ne_eq, not_true_eq_false, not_false_eq_true, true_imp_iff, false_imp_iff, Int.toNat_natCast, lit_a, Nat.reduceAdd, or_true, true_or, or_false, false_or, Int.reduceEq, Int.reduceNe, Int.reduceLT, Int.reduceLE, Int.reduceNeg, sg_nil, s1p, x510, x511, x512, x513, x514, x515, x516, x517]
    repeat' (first | with_reducible apply And.intro | (intro _) | ((first | refine wp_go b154_0 ?_ | refine wp_go b154_5 ?_ | refine wp_go b154_13 ?_ | refine wp_go b154_16 ?_ | refine wp_go b154_18 ?_ | refine wp_go b154_26 ?_ | refine wp_go b154_32 ?_ | refine wp_go b154_38 ?_ | refine wp_go b154_46 ?_ | refine wp_go b154_58 ?_ | refine wp_go b154_61 ?_ | refine wp_go b154_76 ?_ | refine wp_go b154_81 ?_); simp only [l154_0, l154_5, l154_13, l154_16, l154_18, l154_26, l154_32, l154_38, l154_46, l154_58, l154_61, l154_76, l154_81, sg_aload_0, sg_iload_1, sg_iv2_i, len4_0, len4_1, len4_2, len4_3, len4_4, sg_if_eq, sg_iload_2, sg_if_ne, sg_iconst, sg_iret0, sg_iload_3, sg_sipush, sg_is3_1, sg_bipush, sg_iv3_i, sg_istore, okS_4, stL_4, okS_5, stL_5, sg_iload, ldI_4, sg_if_lt, ldI_5, sg_if_ge, sg_ic_ge, sg_isub, sg_goto, nLg_n, nLg_i, nLg_r, tc_c, tc_l, tc_r, tc_m, tc_n, tc_o, tc_0, inR, true_and, and_true, ne_eq, not_true_eq_false, not_false_eq_true, true_imp_iff, false_imp_iff, Int.toNat_natCast, lit_a, Nat.reduceAdd, or_true, true_or, or_false, false_or, Int.reduceEq, Int.reduceNe, Int.reduceLT, Int.reduceLE, Int.reduceNeg, sg_nil, s1p, x510, x511, x512, x513, x514, x515, x516, x517]))
    all_goals (try omega)
    all_goals (revert h; unfold F_wrongAt; (try simp only [Int.toNat_natCast]); (repeat (first | rw [if_neg (by omega)] | rw [if_pos (by omega)])); exact id)
-- Mo.enough: blocks [0, 5, 10, 18, 22, 25, 38, 42, 48, 54]
theorem k_Mo_enough {d : Nat} {Q : QT} {μ : Mem} {l : Int} {z : Rw} (hM : μ 511 = z) (hz : IZ z) (hl : inR l) (hq : ∀ μ', QM μ μ' → μ' 511 = z → Q (.inl (F_enough z l)) μ') : Call σ1 (d + 4) 158 [.inr (.inr 510), .inl l] μ Q := by
  refine e_158 ?_
  have q := hz.1
  have z0 := zn_eq hz
  refine wp_go b158_0 ?_; simp only [l158_0, sg_aload_0, sg_iload_1, sg_iv2_i, len4_0, len4_1, len4_2, len4_3, len4_4, nLg_n, nLg_i, nLg_r, tc_c, tc_l, tc_r, tc_m, tc_n, tc_o, tc_0, inR, true_and, and_true, ne_eq, not_true_eq_false, not_false_eq_true, true_imp_iff, false_imp_iff, Int.toNat_natCast, lit_a, Nat.reduceAdd, or_true, true_or, or_false, false_or, Int.reduceEq, Int.reduceNe, Int.reduceLT, Int.reduceLE, Int.reduceNeg, sg_nil, s1p, x510, x511, x512, x513, x514, x515, x516, x517]
  refine k_Mo_isListener hM hz hl (fun h1 h2 => ?_) (fun h0 => ?_)
  · obtain ⟨n, rfl⟩ := nat_of h1
    have ec : ∀ b : Int, sm (fun i => bI (hr z (z (212 + 3 * n)) b (5 * i + 1) ≠ -6)) (zn z) = cnt z n b := fun b => sm_c (fun i hi => by rw [hr_1 (by omega)])
    refine wp_go b158_5 ?_; simp only [l158_5, sg_if_ne, sg_iconst, sg_iret0, nLg_n, nLg_i, nLg_r, tc_c, tc_l, tc_r, tc_m, tc_n, tc_o, tc_0, inR, true_and, and_true, ne_eq, not_true_eq_false, not_false_eq_true, true_imp_iff, false_imp_iff, Int.toNat_natCast, lit_a, Nat.reduceAdd, or_true, true_or, or_false, false_or, Int.reduceEq, Int.reduceNe, Int.reduceLT, Int.reduceLE, Int.reduceNeg, sg_nil, s1p, x510, x511, x512, x513, x514, x515, x516, x517]
    repeat' (first | with_reducible apply And.intro | intro _)
    all_goals (try omega)
    refine wp_go b158_10 ?_; simp only [l158_10, sg_aload_0, sg_iload_1, sg_sipush, sg_iv3_v, len4_0, len4_1, len4_2, len4_3, len4_4, nLg_n, nLg_i, nLg_r, tc_c, tc_l, tc_r, tc_m, tc_n, tc_o, tc_0, inR, true_and, and_true, ne_eq, not_true_eq_false, not_false_eq_true, true_imp_iff, false_imp_iff, Int.toNat_natCast, lit_a, Nat.reduceAdd, or_true, true_or, or_false, false_or, Int.reduceEq, Int.reduceNe, Int.reduceLT, Int.reduceLE, Int.reduceNeg, sg_nil, s1p, x510, x511, x512, x513, x514, x515, x516, x517]
    refine k_Mo_layWith (b := 600) hM hz h2 (by omega) (fun μ1 f1 H1 => ?_)
    refine wp_go b158_18 ?_; simp only [l158_18, sg_aload_0, sg_iv1_i, len4_0, len4_1, len4_2, len4_3, len4_4, nLg_n, nLg_i, nLg_r, tc_c, tc_l, tc_r, tc_m, tc_n, tc_o, tc_0, inR, true_and, and_true, ne_eq, not_true_eq_false, not_false_eq_true, true_imp_iff, false_imp_iff, Int.toNat_natCast, lit_a, Nat.reduceAdd, or_true, true_or, or_false, false_or, Int.reduceEq, Int.reduceNe, Int.reduceLT, Int.reduceLE, Int.reduceNeg, sg_nil, s1p, x510, x511, x512, x513, x514, x515, x516, x517]
    refine k_Mo_notices (hr_W hz) H1 z0.1 ?_
    rw [ec]
    have c6 := cnt_b (l := n) (b := 600) hz
    have loop : ∀ k i : Nat, i + k = 600 → ∀ (μ2 : Mem), (∀ k, k ≠ 516 → μ2 k = μ k) → (∀ j : Nat, j < i → cnt z n (j : Int) ≠ cnt z n 600) →
        wp σ1 (Call σ1 (d + 3)) 158 Q 25 [some (.inr (.inr 510)), some (.inl (n : Int)), some (.inl (cnt z n 600)), some (.inl (i : Int))] [] μ2 := by
      intro k
      induction k with
      | zero =>
        intro i hi μ2 f2 g1
        have h := hq μ2 (QM_s f2) (by rw [f2 511 (by omega)]; exact hM)
        unfold F_enough at h
        rw [if_neg (by omega), Int.toNat_natCast, fsI_n (fun j hj => decide_eq_false (g1 j (by omega)))] at h
        refine wp_go b158_25 ?_; simp only [l158_25, sg_iload_3, sg_sipush, sg_ic_ge, sg_aload_0, sg_iload_1, sg_iv3_v, len4_0, len4_1, len4_2, len4_3, len4_4, nLg_n, nLg_i, nLg_r, tc_c, tc_l, tc_r, tc_m, tc_n, tc_o, tc_0, inR, true_and, and_true, ne_eq, not_true_eq_false, not_false_eq_true, true_imp_iff, false_imp_iff, Int.toNat_natCast, lit_a, Nat.reduceAdd, or_true, true_or, or_false, false_or, Int.reduceEq, Int.reduceNe, Int.reduceLT, Int.reduceLE, Int.reduceNeg, sg_nil, s1p, x510, x511, x512, x513, x514, x515, x516, x517]
        repeat' (first | with_reducible apply And.intro | intro _)
        all_goals (try omega)
        refine wp_go b158_54 ?_; simp only [l158_54, sg_sipush, sg_iret0, nLg_n, nLg_i, nLg_r, tc_c, tc_l, tc_r, tc_m, tc_n, tc_o, tc_0, inR, true_and, and_true, ne_eq, not_true_eq_false, not_false_eq_true, true_imp_iff, false_imp_iff, Int.toNat_natCast, lit_a, Nat.reduceAdd, or_true, true_or, or_false, false_or, Int.reduceEq, Int.reduceNe, Int.reduceLT, Int.reduceLE, Int.reduceNeg, sg_nil, s1p, x510, x511, x512, x513, x514, x515, x516, x517]
        exact h
      | succ k ih =>
        intro i hi μ2 f2 g1
        have M2 : μ2 511 = z := by rw [f2 511 (by omega)]; exact hM
        refine wp_go b158_25 ?_; simp only [l158_25, sg_iload_3, sg_sipush, sg_ic_ge, sg_aload_0, sg_iload_1, sg_iv3_v, len4_0, len4_1, len4_2, len4_3, len4_4, nLg_n, nLg_i, nLg_r, tc_c, tc_l, tc_r, tc_m, tc_n, tc_o, tc_0, inR, true_and, and_true, ne_eq, not_true_eq_false, not_false_eq_true, true_imp_iff, false_imp_iff, Int.toNat_natCast, lit_a, Nat.reduceAdd, or_true, true_or, or_false, false_or, Int.reduceEq, Int.reduceNe, Int.reduceLT, Int.reduceLE, Int.reduceNeg, sg_nil, s1p, x510, x511, x512, x513, x514, x515, x516, x517]
        repeat' (first | with_reducible apply And.intro | intro _)
        all_goals (try omega)
        refine k_Mo_layWith (b := (i : Int)) M2 hz h2 (by omega) (fun μ3 f3 H3 => ?_)
        refine wp_go b158_38 ?_; simp only [l158_38, sg_aload_0, sg_iv1_i, len4_0, len4_1, len4_2, len4_3, len4_4, nLg_n, nLg_i, nLg_r, tc_c, tc_l, tc_r, tc_m, tc_n, tc_o, tc_0, inR, true_and, and_true, ne_eq, not_true_eq_false, not_false_eq_true, true_imp_iff, false_imp_iff, Int.toNat_natCast, lit_a, Nat.reduceAdd, or_true, true_or, or_false, false_or, Int.reduceEq, Int.reduceNe, Int.reduceLT, Int.reduceLE, Int.reduceNeg, sg_nil, s1p, x510, x511, x512, x513, x514, x515, x516, x517]
        refine k_Mo_notices (hr_W hz) H3 z0.1 ?_
        rw [ec]
        have ci := cnt_b (l := n) (b := (i : Int)) hz
        have f4 : ∀ k, k ≠ 516 → μ3 k = μ k := fun k hk => (f3 k hk).trans (f2 k hk)
        by_cases g : cnt z n (i : Int) = cnt z n 600
        · have h := hq μ3 (QM_s f4) (by rw [f4 511 (by omega)]; exact hM)
          unfold F_enough at h
          rw [if_neg (by omega), Int.toNat_natCast, fsI_s (show i < 600 by omega) (decide_eq_true g) (fun j hj => decide_eq_false (g1 j hj))] at h
          refine wp_go b158_42 ?_; simp only [l158_42, sg_iload_2, sg_ic_ne, sg_iload_3, sg_iret0, nLg_n, nLg_i, nLg_r, tc_c, tc_l, tc_r, tc_m, tc_n, tc_o, tc_0, inR, true_and, and_true, ne_eq, not_true_eq_false, not_false_eq_true, true_imp_iff, false_imp_iff, Int.toNat_natCast, lit_a, Nat.reduceAdd, or_true, true_or, or_false, false_or, Int.reduceEq, Int.reduceNe, Int.reduceLT, Int.reduceLE, Int.reduceNeg, sg_nil, s1p, x510, x511, x512, x513, x514, x515, x516, x517]
          repeat' (first | with_reducible apply And.intro | (intro _) | ((first | refine wp_go b158_0 ?_ | refine wp_go b158_5 ?_ | refine wp_go b158_10 ?_ | refine wp_go b158_18 ?_ | refine wp_go b158_22 ?_ | refine wp_go b158_38 ?_ | refine wp_go b158_42 ?_ | refine wp_go b158_48 ?_ | refine wp_go b158_54 ?_); simp only [l158_0, l158_5, l158_10, l158_18, l158_22, l158_38, l158_42, l158_48, l158_54, sg_aload_0, sg_iload_1, sg_iv2_i, len4_0, len4_1, len4_2, len4_3, len4_4, sg_if_ne, sg_iconst, sg_iret0, sg_sipush, sg_iv3_v, sg_iv1_i, sg_istore_2, sg_istore_3, sg_iload_2, sg_ic_ne, sg_iload_3, sg_iinc, ldI_3, okS_3, stL_3, sg_goto, nLg_n, nLg_i, nLg_r, tc_c, tc_l, tc_r, tc_m, tc_n, tc_o, tc_0, inR, true_and, and_true, ne_eq, not_true_eq_false, not_false_eq_true, true_imp_iff, false_imp_iff, Int.toNat_natCast, lit_a, Nat.reduceAdd, or_true, true_or, or_false, false_or, Int.reduceEq, Int.reduceNe, Int.reduceLT, Int.reduceLE, Int.reduceNeg, sg_nil, s1p, x510, x511, x512, x513, x514, x515, x516, x517]))
          all_goals (try omega)
          all_goals exact h
        · have ih1 := ih (i + 1) (by omega) μ3 f4 (fun j hj => by
            rcases Nat.lt_or_ge j i with r | r
            · exact g1 j r
            · rw [show j = i by omega]; exact g)
          refine wp_go b158_42 ?_; simp only [l158_42, sg_iload_2, sg_ic_ne, sg_iload_3, sg_iret0, nLg_n, nLg_i, nLg_r, tc_c, tc_l, tc_r, tc_m, tc_n, tc_o, tc_0, inR, true_and, and_true, ne_eq, not_true_eq_false, not_false_eq_true, true_imp_iff, false_imp_iff, Int.toNat_natCast, lit_a, Nat.reduceAdd, or_true, true_or, or_false, false_or, Int.reduceEq, Int.reduceNe, Int.reduceLT, Int.reduceLE, Int.reduceNeg, sg_nil, s1p, x510, x511, x512, x513, x514, x515, x516, x517]
          repeat' (first | with_reducible apply And.intro | (intro _) | ((first | refine wp_go b158_0 ?_ | refine wp_go b158_5 ?_ | refine wp_go b158_10 ?_ | refine wp_go b158_18 ?_ | refine wp_go b158_22 ?_ | refine wp_go b158_38 ?_ | refine wp_go b158_42 ?_ | refine wp_go b158_48 ?_ | refine wp_go b158_54 ?_); simp only [l158_0, l158_5, l158_10, l158_18, l158_22, l158_38, l158_42, l158_48, l158_54, sg_aload_0, sg_iload_1, sg_iv2_i, len4_0, len4_1, len4_2, len4_3, len4_4, sg_if_ne, sg_iconst, sg_iret0, sg_sipush, sg_iv3_v, sg_iv1_i, sg_istore_2, sg_istore_3, sg_iload_2, sg_ic_ne, sg_iload_3, sg_iinc, ldI_3, okS_3, stL_3, sg_goto, nLg_n, nLg_i, nLg_r, tc_c, tc_l, tc_r, tc_m, tc_n, tc_o, tc_0, inR, true_and, and_true, ne_eq, not_true_eq_false, not_false_eq_true, true_imp_iff, false_imp_iff, Int.toNat_natCast, lit_a, Nat.reduceAdd, or_true, true_or, or_false, false_or, Int.reduceEq, Int.reduceNe, Int.reduceLT, Int.reduceLE, Int.reduceNeg, sg_nil, s1p, x510, x511, x512, x513, x514, x515, x516, x517]))
          all_goals (try omega)
          all_goals exact ih1
    refine wp_go b158_22 ?_; simp only [l158_22, sg_istore_2, sg_iconst, sg_istore_3, nLg_n, nLg_i, nLg_r, tc_c, tc_l, tc_r, tc_m, tc_n, tc_o, tc_0, inR, true_and, and_true, ne_eq, not_true_eq_false, not_false_eq_true, true_imp_iff, false_imp_iff, Int.toNat_natCast, lit_a, Nat.reduceAdd, or_true, true_or, or_false, false_or, Int.reduceEq, Int.reduceNe, Int.reduceLT, Int.reduceLE, Int.reduceNeg, sg_nil, s1p, x510, x511, x512, x513, x514, x515, x516, x517]
    exact loop 600 0 (by omega) μ1 f1 (fun j hj => absurd hj (by omega))
  · have h := hq μ (QM_r μ) hM
    refine wp_go b158_5 ?_; simp only [l158_5, sg_if_ne, sg_iconst, sg_iret0, nLg_n, nLg_i, nLg_r, tc_c, tc_l, tc_r, tc_m, tc_n, tc_o, tc_0, inR, true_and, and_true, ne_eq, not_true_eq_false, not_false_eq_true, true_imp_iff, false_imp_iff, Int.toNat_natCast, lit_a, Nat.reduceAdd, or_true, true_or, or_false, false_or, Int.reduceEq, Int.reduceNe, Int.reduceLT, Int.reduceLE, Int.reduceNeg, sg_nil, s1p, x510, x511, x512, x513, x514, x515, x516, x517]
    repeat' (first | with_reducible apply And.intro | (intro _) | ((first | refine wp_go b158_0 ?_ | refine wp_go b158_5 ?_ | refine wp_go b158_10 ?_ | refine wp_go b158_18 ?_ | refine wp_go b158_22 ?_ | refine wp_go b158_38 ?_ | refine wp_go b158_42 ?_ | refine wp_go b158_48 ?_ | refine wp_go b158_54 ?_); simp only [l158_0, l158_5, l158_10, l158_18, l158_22, l158_38, l158_42, l158_48, l158_54, sg_aload_0, sg_iload_1, sg_iv2_i, len4_0, len4_1, len4_2, len4_3, len4_4, sg_if_ne, sg_iconst, sg_iret0, sg_sipush, sg_iv3_v, sg_iv1_i, sg_istore_2, sg_istore_3, sg_iload_2, sg_ic_ne, sg_iload_3, sg_iinc, ldI_3, okS_3, stL_3, sg_goto, nLg_n, nLg_i, nLg_r, tc_c, tc_l, tc_r, tc_m, tc_n, tc_o, tc_0, inR, true_and, and_true, ne_eq, not_true_eq_false, not_false_eq_true, true_imp_iff, false_imp_iff, Int.toNat_natCast, lit_a, Nat.reduceAdd, or_true, true_or, or_false, false_or, Int.reduceEq, Int.reduceNe, Int.reduceLT, Int.reduceLE, Int.reduceNeg, sg_nil, s1p, x510, x511, x512, x513, x514, x515, x516, x517]))
    all_goals (try omega)
    all_goals (revert h; unfold F_enough; (try simp only [Int.toNat_natCast]); (repeat (first | rw [if_neg (by omega)] | rw [if_pos (by omega)])); exact id)
