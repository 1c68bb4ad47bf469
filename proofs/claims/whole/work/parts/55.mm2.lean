-- Mo.notice: blocks [0, 7, 17, 20, 23, 37, 41]
theorem k_Mo_notice {d : Nat} {Q : QT} {μ : Mem} {v g : Int} {z : Rw} {a : Hs} (hM : μ 511 = z) (hz : IZ z) (hI : IR z) (hC : CRm a μ) (hv : inR v) (hg : inR g) (hf : c_notice z v g < 0 → Q (.inl (c_notice z v g)) μ)
    (hq : c_notice z v g = 0 → ∀ μ', PG (fun w => w = ntZ z v g) (hsPush a z) μ μ' → Q (.inl (z 2)) μ') : Call σ1 (d + 2) 125 [.inr (.inr 510), .inl v, .inl g] μ Q := by
  refine e_125 ?_
  have q := hz.1
  have bad2 : ((v < 1 ∨ 120 < v) ∨ (g < 1 ∨ 63 < g)) → Q (.inl (-2)) μ := fun h => by
    have ec : c_notice z v g = -2 := by unfold c_notice; rw [if_pos h]
    rw [ec] at hf
    exact hf (by omega)
  refine wp_go b125_0 ?_; simp only [l125_0, sg_iload_1, sg_iconst, sg_bipush, len4_0, len4_1, len4_2, len4_3, len4_4, sg_is3_1, nLg_n, nLg_i, nLg_r, tc_c, tc_l, tc_r, tc_m, tc_n, tc_o, tc_0, inR, true_and, and_true, ne_eq, not_true_eq_false, not_false_eq_true, true_imp_iff, false_imp_iff, Int.toNat_natCast, lit_a, Nat.reduceAdd, or_true, true_or, or_false, false_or, Int.reduceEq, Int.reduceNe, Int.reduceLT, Int.reduceLE, Int.reduceNeg, sg_nil, s1p, x510, x511, x512, x513, x514, x515, x516, x517]
  refine k_Mo_in hv (by unfold inR; omega) (by unfold inR; omega) (fun g1 g2 => ?_) (fun g0 => ?_)
  · refine wp_go b125_7 ?_; simp only [l125_7, sg_if_eq, sg_iload_2, sg_iconst, sg_bipush, len4_0, len4_1, len4_2, len4_3, len4_4, sg_is3_1, nLg_n, nLg_i, nLg_r, tc_c, tc_l, tc_r, tc_m, tc_n, tc_o, tc_0, inR, true_and, and_true, ne_eq, not_true_eq_false, not_false_eq_true, true_imp_iff, false_imp_iff, Int.toNat_natCast, lit_a, Nat.reduceAdd, or_true, true_or, or_false, false_or, Int.reduceEq, Int.reduceNe, Int.reduceLT, Int.reduceLE, Int.reduceNeg, sg_nil, s1p, x510, x511, x512, x513, x514, x515, x516, x517]
    repeat' (first | with_reducible apply And.intro | intro _)
    all_goals (try omega)
    refine k_Mo_in hg (by unfold inR; omega) (by unfold inR; omega) (fun g3 g4 => ?_) (fun g0 => ?_)
    · obtain ⟨n, hn⟩ := nat_of (show 0 ≤ z 2 by omega)
      by_cases g8 : z 2 = 8
      · have ec : c_notice z v g = -4 := by unfold c_notice; rw [if_neg (by omega), if_pos (by omega)]
        rw [ec] at hf
        have hf := hf (by omega)
        rw [g8] at hn
        refine wp_go b125_17 ?_; simp only [l125_17, sg_if_ne, nLg_n, nLg_i, nLg_r, tc_c, tc_l, tc_r, tc_m, tc_n, tc_o, tc_0, inR, true_and, and_true, ne_eq, not_true_eq_false, not_false_eq_true, true_imp_iff, false_imp_iff, Int.toNat_natCast, lit_a, Nat.reduceAdd, or_true, true_or, or_false, false_or, Int.reduceEq, Int.reduceNe, Int.reduceLT, Int.reduceLE, Int.reduceNeg, sg_nil, s1p, x510, x511, x512, x513, x514, x515, x516, x517]
        repeat' (first | with_reducible apply And.intro | intro _)
        all_goals (try omega)
        refine wp_go b125_23 ?_; simp only [l125_23, sg_aload_0, sg_getfp, sg_iconst, sg_iaload, sg_bipush, sg_ic_ne, sg_iret0, nLg_n, nLg_i, nLg_r, tc_c, tc_l, tc_r, tc_m, tc_n, tc_o, tc_0, inR, true_and, and_true, ne_eq, not_true_eq_false, not_false_eq_true, true_imp_iff, false_imp_iff, Int.toNat_natCast, lit_a, Nat.reduceAdd, or_true, true_or, or_false, false_or, Int.reduceEq, Int.reduceNe, Int.reduceLT, Int.reduceLE, Int.reduceNeg, sg_nil, s1p, x510, x511, x512, x513, x514, x515, x516, x517, hM, g8, Int.reduceToNat]
        repeat' (first | with_reducible apply And.intro | (intro _) | ((first | refine wp_go b125_0 ?_ | refine wp_go b125_7 ?_ | refine wp_go b125_17 ?_ | refine wp_go b125_20 ?_ | refine wp_go b125_23 ?_ | refine wp_go b125_37 ?_ | refine wp_go b125_41 ?_); simp only [l125_0, l125_7, l125_17, l125_20, l125_23, l125_37, l125_41, sg_iload_1, sg_iconst, sg_bipush, len4_0, len4_1, len4_2, len4_3, len4_4, sg_is3_1, sg_if_eq, sg_iload_2, sg_if_ne, sg_iret0, sg_aload_0, sg_getfp, sg_iaload, sg_ic_ne, sg_iv1_v, sg_sipush, sg_imul, sg_iadd, sg_iastore, sg_dup2, sg_isub, nLg_n, nLg_i, nLg_r, tc_c, tc_l, tc_r, tc_m, tc_n, tc_o, tc_0, inR, true_and, and_true, ne_eq, not_true_eq_false, not_false_eq_true, true_imp_iff, false_imp_iff, Int.toNat_natCast, lit_a, Nat.reduceAdd, or_true, true_or, or_false, false_or, Int.reduceEq, Int.reduceNe, Int.reduceLT, Int.reduceLE, Int.reduceNeg, sg_nil, s1p, x510, x511, x512, x513, x514, x515, x516, x517]))
        all_goals (try omega)
        all_goals exact hf
      · have ec : c_notice z v g = 0 := by unfold c_notice; rw [if_neg (by omega), if_neg (by omega)]
        have hq := hq ec
        have n8 : n < 8 := by omega
        rw [hn] at hq
        refine wp_go b125_17 ?_; simp only [l125_17, sg_if_ne, nLg_n, nLg_i, nLg_r, tc_c, tc_l, tc_r, tc_m, tc_n, tc_o, tc_0, inR, true_and, and_true, ne_eq, not_true_eq_false, not_false_eq_true, true_imp_iff, false_imp_iff, Int.toNat_natCast, lit_a, Nat.reduceAdd, or_true, true_or, or_false, false_or, Int.reduceEq, Int.reduceNe, Int.reduceLT, Int.reduceLE, Int.reduceNeg, sg_nil, s1p, x510, x511, x512, x513, x514, x515, x516, x517]
        repeat' (first | with_reducible apply And.intro | intro _)
        all_goals (try omega)
        refine wp_go b125_23 ?_; simp only [l125_23, sg_aload_0, sg_getfp, sg_iconst, sg_iaload, sg_bipush, sg_ic_ne, sg_iret0, nLg_n, nLg_i, nLg_r, tc_c, tc_l, tc_r, tc_m, tc_n, tc_o, tc_0, inR, true_and, and_true, ne_eq, not_true_eq_false, not_false_eq_true, true_imp_iff, false_imp_iff, Int.toNat_natCast, lit_a, Nat.reduceAdd, or_true, true_or, or_false, false_or, Int.reduceEq, Int.reduceNe, Int.reduceLT, Int.reduceLE, Int.reduceNeg, sg_nil, s1p, x510, x511, x512, x513, x514, x515, x516, x517, hM, hn, Int.reduceToNat]
        repeat' (first | with_reducible apply And.intro | intro _)
        all_goals (try omega)
        refine wp_go b125_37 ?_; simp only [l125_37, sg_aload_0, sg_iv1_v, len4_0, len4_1, len4_2, len4_3, len4_4, nLg_n, nLg_i, nLg_r, tc_c, tc_l, tc_r, tc_m, tc_n, tc_o, tc_0, inR, true_and, and_true, ne_eq, not_true_eq_false, not_false_eq_true, true_imp_iff, false_imp_iff, Int.toNat_natCast, lit_a, Nat.reduceAdd, or_true, true_or, or_false, false_or, Int.reduceEq, Int.reduceNe, Int.reduceLT, Int.reduceLE, Int.reduceNeg, sg_nil, s1p, x510, x511, x512, x513, x514, x515, x516, x517]
        refine k_Mo_rec hM hI hC (fun μ1 f1 C1 => ?_)
        have M1 : μ1 511 = z := by rw [f1 511 (by omega) (by omega)]; exact hM
        have e1 : ms μ1 511 (196 + 2 * n) v 511 2 = (n : Int) := by simp only [ms_at]; rw [if_neg (by omega), M1]; exact hn
        have e2 : ms (ms μ1 511 (196 + 2 * n) v) 511 (196 + 2 * n + 1) g 511 2 = (n : Int) := by simp only [ms_at]; rw [if_neg (by omega), if_neg (by omega), M1]; exact hn
        have e3 : ms (ms (ms μ1 511 (196 + 2 * n) v) 511 (196 + 2 * n + 1) g) 511 2 ((n + 1 : Nat) : Int) 511 2 = ((n + 1 : Nat) : Int) := by simp [ms_at]
        have e : ms (ms (ms μ1 511 (196 + 2 * n) v) 511 (196 + 2 * n + 1) g) 511 2 ((n + 1 : Nat) : Int) 511 = ntZ z v g := by
          funext j
          unfold ntZ
          simp only [ms_at, true_and]
          rw [M1, hn, Int.toNat_natCast]
          by_cases h2 : j = 2
          · rw [if_pos h2, if_pos h2]; omega
          · rw [if_neg h2, if_neg h2]
            by_cases h3 : j = 196 + 2 * n
            · rw [if_neg (by omega), if_pos h3, if_pos h3]
            · rw [if_neg h3, if_neg h3]
              by_cases h4 : j = 197 + 2 * n
              · rw [if_pos (by omega), if_pos h4]
              · rw [if_neg (by omega), if_neg h4]
        have e7 : ((n + 1 : Nat) : Int) - 1 = (n : Int) := by omega
        have hq := hq (ms (ms (ms μ1 511 (196 + 2 * n) v) 511 (196 + 2 * n + 1) g) 511 2 ((n + 1 : Nat) : Int)) ⟨fun k hk => by rw [← f1 k (by omega) (by omega)]; funext j; simp only [ms_at]; (repeat (first | rw [if_neg (by omega)] | rw [if_pos (by omega)])), e, by
          rw [e]
          intro k hk
          unfold ntZ
          split
          · unfold inR; omega
          · split
            · unfold inR; omega
            · split
              · unfold inR; omega
              · exact hI k hk, CRm_1 (fun k h1 _ => by funext j; simp only [ms_at]; (repeat (first | rw [if_neg (by omega)] | rw [if_pos (by omega)]))) C1⟩
        refine wp_go b125_41 ?_; simp only [l125_41, sg_aload_0, sg_getfp, sg_sipush, sg_iconst, sg_iaload, sg_imul, sg_iadd, sg_iload_1, sg_iastore, sg_iload_2, sg_dup2, sg_isub, sg_iret0, nLg_n, nLg_i, nLg_r, tc_c, tc_l, tc_r, tc_m, tc_n, tc_o, tc_0, inR, true_and, and_true, ne_eq, not_true_eq_false, not_false_eq_true, true_imp_iff, false_imp_iff, Int.toNat_natCast, lit_a, Nat.reduceAdd, or_true, true_or, or_false, false_or, Int.reduceEq, Int.reduceNe, Int.reduceLT, Int.reduceLE, Int.reduceNeg, sg_nil, s1p, x510, x511, x512, x513, x514, x515, x516, x517, M1, hn, e1, e2, e3, e7, Int.reduceToNat]
        repeat' (first | with_reducible apply And.intro | intro _)
        all_goals (try omega)
    · refine wp_go b125_17 ?_; simp only [l125_17, sg_if_ne, nLg_n, nLg_i, nLg_r, tc_c, tc_l, tc_r, tc_m, tc_n, tc_o, tc_0, inR, true_and, and_true, ne_eq, not_true_eq_false, not_false_eq_true, true_imp_iff, false_imp_iff, Int.toNat_natCast, lit_a, Nat.reduceAdd, or_true, true_or, or_false, false_or, Int.reduceEq, Int.reduceNe, Int.reduceLT, Int.reduceLE, Int.reduceNeg, sg_nil, s1p, x510, x511, x512, x513, x514, x515, x516, x517]
      repeat' (first | with_reducible apply And.intro | (intro _) | ((first | refine wp_go b125_0 ?_ | refine wp_go b125_7 ?_ | refine wp_go b125_17 ?_ | refine wp_go b125_20 ?_ | refine wp_go b125_23 ?_ | refine wp_go b125_37 ?_ | refine wp_go b125_41 ?_); simp only [l125_0, l125_7, l125_17, l125_20, l125_23, l125_37, l125_41, sg_iload_1, sg_iconst, sg_bipush, len4_0, len4_1, len4_2, len4_3, len4_4, sg_is3_1, sg_if_eq, sg_iload_2, sg_if_ne, sg_iret0, sg_aload_0, sg_getfp, sg_iaload, sg_ic_ne, sg_iv1_v, sg_sipush, sg_imul, sg_iadd, sg_iastore, sg_dup2, sg_isub, nLg_n, nLg_i, nLg_r, tc_c, tc_l, tc_r, tc_m, tc_n, tc_o, tc_0, inR, true_and, and_true, ne_eq, not_true_eq_false, not_false_eq_true, true_imp_iff, false_imp_iff, Int.toNat_natCast, lit_a, Nat.reduceAdd, or_true, true_or, or_false, false_or, Int.reduceEq, Int.reduceNe, Int.reduceLT, Int.reduceLE, Int.reduceNeg, sg_nil, s1p, x510, x511, x512, x513, x514, x515, x516, x517]))
      all_goals (try omega)
      all_goals exact bad2 (by omega)
  · refine wp_go b125_7 ?_; simp only [l125_7, sg_if_eq, sg_iload_2, sg_iconst, sg_bipush, len4_0, len4_1, len4_2, len4_3, len4_4, sg_is3_1, nLg_n, nLg_i, nLg_r, tc_c, tc_l, tc_r, tc_m, tc_n, tc_o, tc_0, inR, true_and, and_true, ne_eq, not_true_eq_false, not_false_eq_true, true_imp_iff, false_imp_iff, Int.toNat_natCast, lit_a, Nat.reduceAdd, or_true, true_or, or_false, false_or, Int.reduceEq, Int.reduceNe, Int.reduceLT, Int.reduceLE, Int.reduceNeg, sg_nil, s1p, x510, x511, x512, x513, x514, x515, x516, x517]
    repeat' (first | with_reducible apply And.intro | (intro _) | ((first | refine wp_go b125_0 ?_ | refine wp_go b125_7 ?_ | refine wp_go b125_17 ?_ | refine wp_go b125_20 ?_ | refine wp_go b125_23 ?_ | refine wp_go b125_37 ?_ | refine wp_go b125_41 ?_); simp only [l125_0, l125_7, l125_17, l125_20, l125_23, l125_37, l125_41, sg_iload_1, sg_iconst, sg_bipush, len4_0, len4_1, len4_2, len4_3, len4_4, sg_is3_1, sg_if_eq, sg_iload_2, sg_if_ne, sg_iret0, sg_aload_0, sg_getfp, sg_iaload, sg_ic_ne, sg_iv1_v, sg_sipush, sg_imul, sg_iadd, sg_iastore, sg_dup2, sg_isub, nLg_n, nLg_i, nLg_r, tc_c, tc_l, tc_r, tc_m, tc_n, tc_o, tc_0, inR, true_and, and_true, ne_eq, not_true_eq_false, not_false_eq_true, true_imp_iff, false_imp_iff, Int.toNat_natCast, lit_a, Nat.reduceAdd, or_true, true_or, or_false, false_or, Int.reduceEq, Int.reduceNe, Int.reduceLT, Int.reduceLE, Int.reduceNeg, sg_nil, s1p, x510, x511, x512, x513, x514, x515, x516, x517]))
    all_goals (try omega)
    all_goals exact bad2 (by omega)
theorem IR_book {z : Rw} {s : Nat} {t : Int} (hI : IR z) (h4 : z (76 + 5 * s) < 4) (ht : inR t) : IR (bookZ z s t) := fun k hk => by
  have := hI k hk
  unfold bookZ
  split
  · rename_i e
    subst e
    unfold inR at this ⊢; omega
  · split
    · exact ht
    · exact this
-- Mo.book: blocks [0, 6, 13, 17, 23, 28]
theorem k_Mo_book {d : Nat} {Q : QT} {μ : Mem} {s t : Int} {z : Rw} {a : Hs} (hM : μ 511 = z) (hz : IZ z) (hI : IR z) (hC : CRm a μ) (hs : inR s) (ht : inR t) (hf : c_book z s t < 0 → Q (.inl (c_book z s t)) μ)
    (hq : c_book z s t = 0 → ∀ μ', PG (fun w => w = bookZ z s.toNat t) (hsPush a z) μ μ' → Q (.inl (z (76 + 5 * s.toNat) + 1)) μ') : Call σ1 (d + 3) 129 [.inr (.inr 510), .inl s, .inl t] μ Q := by
  refine e_129 ?_
  have q := hz.1
  refine wp_go b129_0 ?_; simp only [l129_0, sg_aload_0, sg_iload_1, sg_iload_2, sg_iv3_i, len4_0, len4_1, len4_2, len4_3, len4_4, nLg_n, nLg_i, nLg_r, tc_c, tc_l, tc_r, tc_m, tc_n, tc_o, tc_0, inR, true_and, and_true, ne_eq, not_true_eq_false, not_false_eq_true, true_imp_iff, false_imp_iff, Int.toNat_natCast, lit_a, Nat.reduceAdd, or_true, true_or, or_false, false_or, Int.reduceEq, Int.reduceNe, Int.reduceLT, Int.reduceLE, Int.reduceNeg, sg_nil, s1p, x510, x511, x512, x513, x514, x515, x516, x517]
  refine k_Mo_whyNotBook hM hz hs ht ?_
  by_cases g1 : (s < 0 ∨ z 0 ≤ s) ∨ (t < 0 ∨ z 2 ≤ t)
  · have ec : c_book z s t = -1 := by unfold c_book; rw [if_pos g1]
    rw [ec] at hf ⊢
    have hf := hf (by omega)
    refine wp_go b129_6 ?_; simp only [l129_6, sg_istore_3, sg_iload_3, sg_if_ge, sg_iret0, nLg_n, nLg_i, nLg_r, tc_c, tc_l, tc_r, tc_m, tc_n, tc_o, tc_0, inR, true_and, and_true, ne_eq, not_true_eq_false, not_false_eq_true, true_imp_iff, false_imp_iff, Int.toNat_natCast, lit_a, Nat.reduceAdd, or_true, true_or, or_false, false_or, Int.reduceEq, Int.reduceNe, Int.reduceLT, Int.reduceLE, Int.reduceNeg, sg_nil, s1p, x510, x511, x512, x513, x514, x515, x516, x517]
    repeat' (first | with_reducible apply And.intro | (intro _) | ((first | refine wp_go b129_0 ?_ | refine wp_go b129_6 ?_ | refine wp_go b129_13 ?_ | refine wp_go b129_17 ?_ | refine wp_go b129_23 ?_ | refine wp_go b129_28 ?_); simp only [l129_0, l129_6, l129_13, l129_17, l129_23, l129_28, sg_aload_0, sg_iload_1, sg_iload_2, sg_iv3_i, len4_0, len4_1, len4_2, len4_3, len4_4, sg_istore_3, sg_iload_3, sg_if_ge, sg_iret0, sg_iv1_v, sg_iv3_v, sg_iv2_i, nLg_n, nLg_i, nLg_r, tc_c, tc_l, tc_r, tc_m, tc_n, tc_o, tc_0, inR, true_and, and_true, ne_eq, not_true_eq_false, not_false_eq_true, true_imp_iff, false_imp_iff, Int.toNat_natCast, lit_a, Nat.reduceAdd, or_true, true_or, or_false, false_or, Int.reduceEq, Int.reduceNe, Int.reduceLT, Int.reduceLE, Int.reduceNeg, sg_nil, s1p, x510, x511, x512, x513, x514, x515, x516, x517]))
    all_goals (try omega)
    all_goals exact hf
  · obtain ⟨i, rfl⟩ := nat_of (show 0 ≤ s by omega)
    have r := (hz.2.1 i (by omega)).2.2.2.1
    obtain ⟨n, hn⟩ := nat_of r.1
    by_cases g2 : 4 ≤ z (76 + 5 * i)
    · have ec : c_book z (i : Int) t = -4 := by unfold c_book; rw [if_neg g1, Int.toNat_natCast, if_pos g2]
      rw [ec] at hf ⊢
      have hf := hf (by omega)
      refine wp_go b129_6 ?_; simp only [l129_6, sg_istore_3, sg_iload_3, sg_if_ge, sg_iret0, nLg_n, nLg_i, nLg_r, tc_c, tc_l, tc_r, tc_m, tc_n, tc_o, tc_0, inR, true_and, and_true, ne_eq, not_true_eq_false, not_false_eq_true, true_imp_iff, false_imp_iff, Int.toNat_natCast, lit_a, Nat.reduceAdd, or_true, true_or, or_false, false_or, Int.reduceEq, Int.reduceNe, Int.reduceLT, Int.reduceLE, Int.reduceNeg, sg_nil, s1p, x510, x511, x512, x513, x514, x515, x516, x517]
      repeat' (first | with_reducible apply And.intro | (intro _) | ((first | refine wp_go b129_0 ?_ | refine wp_go b129_6 ?_ | refine wp_go b129_13 ?_ | refine wp_go b129_17 ?_ | refine wp_go b129_23 ?_ | refine wp_go b129_28 ?_); simp only [l129_0, l129_6, l129_13, l129_17, l129_23, l129_28, sg_aload_0, sg_iload_1, sg_iload_2, sg_iv3_i, len4_0, len4_1, len4_2, len4_3, len4_4, sg_istore_3, sg_iload_3, sg_if_ge, sg_iret0, sg_iv1_v, sg_iv3_v, sg_iv2_i, nLg_n, nLg_i, nLg_r, tc_c, tc_l, tc_r, tc_m, tc_n, tc_o, tc_0, inR, true_and, and_true, ne_eq, not_true_eq_false, not_false_eq_true, true_imp_iff, false_imp_iff, Int.toNat_natCast, lit_a, Nat.reduceAdd, or_true, true_or, or_false, false_or, Int.reduceEq, Int.reduceNe, Int.reduceLT, Int.reduceLE, Int.reduceNeg, sg_nil, s1p, x510, x511, x512, x513, x514, x515, x516, x517]))
      all_goals (try omega)
      all_goals exact hf
    · have ec : c_book z (i : Int) t = 0 := by unfold c_book; rw [if_neg g1, Int.toNat_natCast, if_neg g2]
      have hq := hq ec
      rw [Int.toNat_natCast] at hq
      rw [ec]
      refine wp_go b129_6 ?_; simp only [l129_6, sg_istore_3, sg_iload_3, sg_if_ge, sg_iret0, nLg_n, nLg_i, nLg_r, tc_c, tc_l, tc_r, tc_m, tc_n, tc_o, tc_0, inR, true_and, and_true, ne_eq, not_true_eq_false, not_false_eq_true, true_imp_iff, false_imp_iff, Int.toNat_natCast, lit_a, Nat.reduceAdd, or_true, true_or, or_false, false_or, Int.reduceEq, Int.reduceNe, Int.reduceLT, Int.reduceLE, Int.reduceNeg, sg_nil, s1p, x510, x511, x512, x513, x514, x515, x516, x517]
      repeat' (first | with_reducible apply And.intro | intro _)
      all_goals (try omega)
      refine wp_go b129_13 ?_; simp only [l129_13, sg_aload_0, sg_iv1_v, len4_0, len4_1, len4_2, len4_3, len4_4, nLg_n, nLg_i, nLg_r, tc_c, tc_l, tc_r, tc_m, tc_n, tc_o, tc_0, inR, true_and, and_true, ne_eq, not_true_eq_false, not_false_eq_true, true_imp_iff, false_imp_iff, Int.toNat_natCast, lit_a, Nat.reduceAdd, or_true, true_or, or_false, false_or, Int.reduceEq, Int.reduceNe, Int.reduceLT, Int.reduceLE, Int.reduceNeg, sg_nil, s1p, x510, x511, x512, x513, x514, x515, x516, x517]
      refine k_Mo_rec hM hI hC (fun μ1 f1 C1 => ?_)
      have M1 : μ1 511 = z := by rw [f1 511 (by omega) (by omega)]; exact hM
      refine wp_go b129_17 ?_; simp only [l129_17, sg_aload_0, sg_iload_1, sg_iload_2, sg_iv3_v, len4_0, len4_1, len4_2, len4_3, len4_4, nLg_n, nLg_i, nLg_r, tc_c, tc_l, tc_r, tc_m, tc_n, tc_o, tc_0, inR, true_and, and_true, ne_eq, not_true_eq_false, not_false_eq_true, true_imp_iff, false_imp_iff, Int.toNat_natCast, lit_a, Nat.reduceAdd, or_true, true_or, or_false, false_or, Int.reduceEq, Int.reduceNe, Int.reduceLT, Int.reduceLE, Int.reduceNeg, sg_nil, s1p, x510, x511, x512, x513, x514, x515, x516, x517]
      refine k_Mo_bookIt M1 (by omega) (by omega) (fun μ2 f2 M2 => ?_)
      have hq := hq μ2 ⟨fun k hk => (f2 k (by omega)).trans (f1 k (by omega) (by omega)), M2, by rw [M2]; exact IR_book hI (by omega) ht, CRm_1 (fun k h1 _ => f2 k h1) C1⟩
      refine wp_go b129_23 ?_; simp only [l129_23, sg_aload_0, sg_iload_1, sg_iv2_i, len4_0, len4_1, len4_2, len4_3, len4_4, nLg_n, nLg_i, nLg_r, tc_c, tc_l, tc_r, tc_m, tc_n, tc_o, tc_0, inR, true_and, and_true, ne_eq, not_true_eq_false, not_false_eq_true, true_imp_iff, false_imp_iff, Int.toNat_natCast, lit_a, Nat.reduceAdd, or_true, true_or, or_false, false_or, Int.reduceEq, Int.reduceNe, Int.reduceLT, Int.reduceLE, Int.reduceNeg, sg_nil, s1p, x510, x511, x512, x513, x514, x515, x516, x517]
      refine k_Mo_inBreak M2 (by omega) ?_
      rw [bookZ_s]
      refine wp_go b129_28 ?_; simp only [l129_28, sg_iret0, nLg_n, nLg_i, nLg_r, tc_c, tc_l, tc_r, tc_m, tc_n, tc_o, tc_0, inR, true_and, and_true, ne_eq, not_true_eq_false, not_false_eq_true, true_imp_iff, false_imp_iff, Int.toNat_natCast, lit_a, Nat.reduceAdd, or_true, true_or, or_false, false_or, Int.reduceEq, Int.reduceNe, Int.reduceLT, Int.reduceLE, Int.reduceNeg, sg_nil, s1p, x510, x511, x512, x513, x514, x515, x516, x517]
      exact hq
-- Mo.emptyIt: blocks [0, 5, 8, 33]
theorem k_Mo_emptyIt {d s : Nat} {Q : QT} {μ : Mem} {z : Rw} (hM : μ 511 = z) (hs : s < 24) (hq : ∀ μ', (∀ k, k ≠ 511 → μ' k = μ k) → μ' 511 = emZ z s → Q (.inl (z (76 + 5 * s))) μ') : Call σ1 (d + 2) 130 [.inr (.inr 510), .inl (s : Int)] μ Q := by
  refine e_130 ?_
  have loop : ∀ k i : Nat, i + k = 5 → ∀ μ1 : Mem, (∀ k, k ≠ 511 → μ1 k = μ k) → (∀ x, μ1 511 x = if 76 + 5 * s ≤ x ∧ x < 76 + 5 * s + i then 0 else z x) → wp σ1 (Call σ1 (d + 1)) 130 Q 8 [some (.inr (.inr 510)), some (.inl (s : Int)), some (.inl (z (76 + 5 * s))), some (.inl (i : Int))] [] μ1 := by
    intro k
    induction k with
    | zero =>
      intro i hi μ1 f1 g1
      have hin : i = 5 := by omega
      subst hin
      have hq := hq μ1 f1 (by funext x; rw [g1]; unfold emZ; rw [show 76 + 5 * s + 5 = 81 + 5 * s by omega])
      refine wp_go b130_8 ?_; simp only [l130_8, sg_iload_3, sg_iconst, sg_ic_ge, sg_aload_0, sg_getfp, sg_bipush, sg_iload_1, sg_imul, sg_iadd, sg_iastore, sg_iinc, ldI_3, okS_3, stL_3, sg_goto, nLg_n, nLg_i, nLg_r, tc_c, tc_l, tc_r, tc_m, tc_n, tc_o, tc_0, inR, true_and, and_true, ne_eq, not_true_eq_false, not_false_eq_true, true_imp_iff, false_imp_iff, Int.toNat_natCast, lit_a, Nat.reduceAdd, or_true, true_or, or_false, false_or, Int.reduceEq, Int.reduceNe, Int.reduceLT, Int.reduceLE, Int.reduceNeg, sg_nil, s1p, x510, x511, x512, x513, x514, x515, x516, x517]
      repeat' (first | with_reducible apply And.intro | intro _)
      all_goals (try omega)
      refine wp_go b130_33 ?_; simp only [l130_33, sg_iload_2, sg_iret0, nLg_n, nLg_i, nLg_r, tc_c, tc_l, tc_r, tc_m, tc_n, tc_o, tc_0, inR, true_and, and_true, ne_eq, not_true_eq_false, not_false_eq_true, true_imp_iff, false_imp_iff, Int.toNat_natCast, lit_a, Nat.reduceAdd, or_true, true_or, or_false, false_or, Int.reduceEq, Int.reduceNe, Int.reduceLT, Int.reduceLE, Int.reduceNeg, sg_nil, s1p, x510, x511, x512, x513, x514, x515, x516, x517]
      exact hq
    | succ k ih =>
      intro i hi μ1 f1 g1
      have ih1 := ih (i + 1) (by omega) (ms μ1 511 (76 + 5 * s + i) 0) (fun k hk => by rw [← f1 k hk]; funext j; simp only [ms_at]; (repeat (first | rw [if_neg (by omega)] | rw [if_pos (by omega)]))) (fun x => by
        simp only [ms_at, true_and]
        by_cases hx : x = 76 + 5 * s + i
        · rw [if_pos hx, if_pos (by omega)]
        · rw [if_neg hx, g1 x]
          by_cases hy : 76 + 5 * s ≤ x ∧ x < 76 + 5 * s + i
          · rw [if_pos hy, if_pos (by omega)]
          · rw [if_neg hy, if_neg (by omega)])
      refine wp_go b130_8 ?_; simp only [l130_8, sg_iload_3, sg_iconst, sg_ic_ge, sg_aload_0, sg_getfp, sg_bipush, sg_iload_1, sg_imul, sg_iadd, sg_iastore, sg_iinc, ldI_3, okS_3, stL_3, sg_goto, nLg_n, nLg_i, nLg_r, tc_c, tc_l, tc_r, tc_m, tc_n, tc_o, tc_0, inR, true_and, and_true, ne_eq, not_true_eq_false, not_false_eq_true, true_imp_iff, false_imp_iff, Int.toNat_natCast, lit_a, Nat.reduceAdd, or_true, true_or, or_false, false_or, Int.reduceEq, Int.reduceNe, Int.reduceLT, Int.reduceLE, Int.reduceNeg, sg_nil, s1p, x510, x511, x512, x513, x514, x515, x516, x517]
      repeat' (first | with_reducible apply And.intro | intro _)
      all_goals (try omega)
  refine wp_go b130_0 ?_; simp only [l130_0, sg_aload_0, sg_iload_1, sg_iv2_i, len4_0, len4_1, len4_2, len4_3, len4_4, nLg_n, nLg_i, nLg_r, tc_c, tc_l, tc_r, tc_m, tc_n, tc_o, tc_0, inR, true_and, and_true, ne_eq, not_true_eq_false, not_false_eq_true, true_imp_iff, false_imp_iff, Int.toNat_natCast, lit_a, Nat.reduceAdd, or_true, true_or, or_false, false_or, Int.reduceEq, Int.reduceNe, Int.reduceLT, Int.reduceLE, Int.reduceNeg, sg_nil, s1p, x510, x511, x512, x513, x514, x515, x516, x517]
  refine k_Mo_inBreak hM hs ?_
  refine wp_go b130_5 ?_; simp only [l130_5, sg_istore_2, sg_iconst, sg_istore_3, nLg_n, nLg_i, nLg_r, tc_c, tc_l, tc_r, tc_m, tc_n, tc_o, tc_0, inR, true_and, and_true, ne_eq, not_true_eq_false, not_false_eq_true, true_imp_iff, false_imp_iff, Int.toNat_natCast, lit_a, Nat.reduceAdd, or_true, true_or, or_false, false_or, Int.reduceEq, Int.reduceNe, Int.reduceLT, Int.reduceLE, Int.reduceNeg, sg_nil, s1p, x510, x511, x512, x513, x514, x515, x516, x517]
  exact loop 5 0 (by omega) μ (fun _ _ => rfl) (fun x => by rw [if_neg (by omega), hM])
theorem IR_em {z : Rw} {s : Nat} (h : IR z) : IR (emZ z s) := fun k hk => by
  unfold emZ
  split
  · unfold inR; omega
  · exact h k hk
-- Mo.empty: blocks [0, 5, 10, 14, 19]
theorem k_Mo_empty {d : Nat} {Q : QT} {μ : Mem} {s : Int} {z : Rw} {a : Hs} (hM : μ 511 = z) (hz : IZ z) (hI : IR z) (hC : CRm a μ) (hs : inR s) (hf : c_sen z s < 0 → Q (.inl (c_sen z s)) μ)
    (hq : c_sen z s = 0 → ∀ μ', PG (fun w => w = emZ z s.toNat) (hsPush a z) μ μ' → Q (.inl (z (76 + 5 * s.toNat))) μ') : Call σ1 (d + 3) 131 [.inr (.inr 510), .inl s] μ Q := by
  refine e_131 ?_
  have q := hz.1
  refine wp_go b131_0 ?_; simp only [l131_0, sg_aload_0, sg_iload_1, sg_iv2_i, len4_0, len4_1, len4_2, len4_3, len4_4, nLg_n, nLg_i, nLg_r, tc_c, tc_l, tc_r, tc_m, tc_n, tc_o, tc_0, inR, true_and, and_true, ne_eq, not_true_eq_false, not_false_eq_true, true_imp_iff, false_imp_iff, Int.toNat_natCast, lit_a, Nat.reduceAdd, or_true, true_or, or_false, false_or, Int.reduceEq, Int.reduceNe, Int.reduceLT, Int.reduceLE, Int.reduceNeg, sg_nil, s1p, x510, x511, x512, x513, x514, x515, x516, x517]
  refine k_Mo_isSentence hM hz hs (fun h1 h2 => ?_) (fun h0 => ?_)
  · obtain ⟨n, rfl⟩ := nat_of h1
    have ec : c_sen z (n : Int) = 0 := by unfold c_sen; rw [if_neg (by omega)]
    have hq := hq ec
    rw [Int.toNat_natCast] at hq
    refine wp_go b131_5 ?_; simp only [l131_5, sg_if_ne, sg_iconst, sg_iret0, nLg_n, nLg_i, nLg_r, tc_c, tc_l, tc_r, tc_m, tc_n, tc_o, tc_0, inR, true_and, and_true, ne_eq, not_true_eq_false, not_false_eq_true, true_imp_iff, false_imp_iff, Int.toNat_natCast, lit_a, Nat.reduceAdd, or_true, true_or, or_false, false_or, Int.reduceEq, Int.reduceNe, Int.reduceLT, Int.reduceLE, Int.reduceNeg, sg_nil, s1p, x510, x511, x512, x513, x514, x515, x516, x517]
    repeat' (first | with_reducible apply And.intro | intro _)
    all_goals (try omega)
    refine wp_go b131_10 ?_; simp only [l131_10, sg_aload_0, sg_iv1_v, len4_0, len4_1, len4_2, len4_3, len4_4, nLg_n, nLg_i, nLg_r, tc_c, tc_l, tc_r, tc_m, tc_n, tc_o, tc_0, inR, true_and, and_true, ne_eq, not_true_eq_false, not_false_eq_true, true_imp_iff, false_imp_iff, Int.toNat_natCast, lit_a, Nat.reduceAdd, or_true, true_or, or_false, false_or, Int.reduceEq, Int.reduceNe, Int.reduceLT, Int.reduceLE, Int.reduceNeg, sg_nil, s1p, x510, x511, x512, x513, x514, x515, x516, x517]
    refine k_Mo_rec hM hI hC (fun μ1 f1 C1 => ?_)
    have M1 : μ1 511 = z := by rw [f1 511 (by omega) (by omega)]; exact hM
    refine wp_go b131_14 ?_; simp only [l131_14, sg_aload_0, sg_iload_1, sg_iv2_i, len4_0, len4_1, len4_2, len4_3, len4_4, nLg_n, nLg_i, nLg_r, tc_c, tc_l, tc_r, tc_m, tc_n, tc_o, tc_0, inR, true_and, and_true, ne_eq, not_true_eq_false, not_false_eq_true, true_imp_iff, false_imp_iff, Int.toNat_natCast, lit_a, Nat.reduceAdd, or_true, true_or, or_false, false_or, Int.reduceEq, Int.reduceNe, Int.reduceLT, Int.reduceLE, Int.reduceNeg, sg_nil, s1p, x510, x511, x512, x513, x514, x515, x516, x517]
    refine k_Mo_emptyIt M1 (by omega) (fun μ2 f2 M2 => ?_)
    have hq := hq μ2 ⟨fun k hk => (f2 k (by omega)).trans (f1 k (by omega) (by omega)), M2, by rw [M2]; exact IR_em hI, CRm_1 (fun k h1 _ => f2 k h1) C1⟩
    refine wp_go b131_19 ?_; simp only [l131_19, sg_iret0, nLg_n, nLg_i, nLg_r, tc_c, tc_l, tc_r, tc_m, tc_n, tc_o, tc_0, inR, true_and, and_true, ne_eq, not_true_eq_false, not_false_eq_true, true_imp_iff, false_imp_iff, Int.toNat_natCast, lit_a, Nat.reduceAdd, or_true, true_or, or_false, false_or, Int.reduceEq, Int.reduceNe, Int.reduceLT, Int.reduceLE, Int.reduceNeg, sg_nil, s1p, x510, x511, x512, x513, x514, x515, x516, x517]
    exact hq
  · have ec : c_sen z s = -1 := by unfold c_sen; rw [if_pos (by omega)]
    rw [ec] at hf
    have hf := hf (by omega)
    refine wp_go b131_5 ?_; simp only [l131_5, sg_if_ne, sg_iconst, sg_iret0, nLg_n, nLg_i, nLg_r, tc_c, tc_l, tc_r, tc_m, tc_n, tc_o, tc_0, inR, true_and, and_true, ne_eq, not_true_eq_false, not_false_eq_true, true_imp_iff, false_imp_iff, Int.toNat_natCast, lit_a, Nat.reduceAdd, or_true, true_or, or_false, false_or, Int.reduceEq, Int.reduceNe, Int.reduceLT, Int.reduceLE, Int.reduceNeg, sg_nil, s1p, x510, x511, x512, x513, x514, x515, x516, x517]
    repeat' (first | with_reducible apply And.intro | (intro _) | ((first | refine wp_go b131_0 ?_ | refine wp_go b131_5 ?_ | refine wp_go b131_10 ?_ | refine wp_go b131_14 ?_ | refine wp_go b131_19 ?_); simp only [l131_0, l131_5, l131_10, l131_14, l131_19, sg_aload_0, sg_iload_1, sg_iv2_i, len4_0, len4_1, len4_2, len4_3, len4_4, sg_if_ne, sg_iconst, sg_iret0, sg_iv1_v, nLg_n, nLg_i, nLg_r, tc_c, tc_l, tc_r, tc_m, tc_n, tc_o, tc_0, inR, true_and, and_true, ne_eq, not_true_eq_false, not_false_eq_true, true_imp_iff, false_imp_iff, Int.toNat_natCast, lit_a, Nat.reduceAdd, or_true, true_or, or_false, false_or, Int.reduceEq, Int.reduceNe, Int.reduceLT, Int.reduceLE, Int.reduceNeg, sg_nil, s1p, x510, x511, x512, x513, x514, x515, x516, x517]))
    all_goals (try omega)
    all_goals exact hf
-- Mo.listener: blocks [0, 6, 17, 20, 23, 37, 41]
theorem k_Mo_listener {d : Nat} {Q : QT} {μ : Mem} {v g : Int} {z : Rw} {a : Hs} (hM : μ 511 = z) (hz : IZ z) (hI : IR z) (hC : CRm a μ) (hv : inR v) (hg : inR g) (hf : c_listener z v g < 0 → Q (.inl (c_listener z v g)) μ)
    (hq : c_listener z v g = 0 → ∀ μ', PG (fun w => w = lsZ z v g) (hsPush a z) μ μ' → Q (.inl (z 3)) μ') : Call σ1 (d + 2) 132 [.inr (.inr 510), .inl v, .inl g] μ Q := by
  refine e_132 ?_
  have q := hz.1
  have bad2 : ((v < 0 ∨ 5 < v) ∨ (g < 0 ∨ 600 < g)) → Q (.inl (-2)) μ := fun h => by
    have ec : c_listener z v g = -2 := by unfold c_listener; rw [if_pos h]
    rw [ec] at hf
    exact hf (by omega)
  refine wp_go b132_0 ?_; simp only [l132_0, sg_iload_1, sg_iconst, len4_0, len4_1, len4_2, len4_3, len4_4, sg_is3_1, nLg_n, nLg_i, nLg_r, tc_c, tc_l, tc_r, tc_m, tc_n, tc_o, tc_0, inR, true_and, and_true, ne_eq, not_true_eq_false, not_false_eq_true, true_imp_iff, false_imp_iff, Int.toNat_natCast, lit_a, Nat.reduceAdd, or_true, true_or, or_false, false_or, Int.reduceEq, Int.reduceNe, Int.reduceLT, Int.reduceLE, Int.reduceNeg, sg_nil, s1p, x510, x511, x512, x513, x514, x515, x516, x517]
  refine k_Mo_in hv (by unfold inR; omega) (by unfold inR; omega) (fun g1 g2 => ?_) (fun g0 => ?_)
  · refine wp_go b132_6 ?_; simp only [l132_6, sg_if_eq, sg_iload_2, sg_iconst, sg_sipush, len4_0, len4_1, len4_2, len4_3, len4_4, sg_is3_1, nLg_n, nLg_i, nLg_r, tc_c, tc_l, tc_r, tc_m, tc_n, tc_o, tc_0, inR, true_and, and_true, ne_eq, not_true_eq_false, not_false_eq_true, true_imp_iff, false_imp_iff, Int.toNat_natCast, lit_a, Nat.reduceAdd, or_true, true_or, or_false, false_or, Int.reduceEq, Int.reduceNe, Int.reduceLT, Int.reduceLE, Int.reduceNeg, sg_nil, s1p, x510, x511, x512, x513, x514, x515, x516, x517]
    repeat' (first | with_reducible apply And.intro | intro _)
    all_goals (try omega)
    refine k_Mo_in hg (by unfold inR; omega) (by unfold inR; omega) (fun g3 g4 => ?_) (fun g0 => ?_)
    · obtain ⟨n, hn⟩ := nat_of (show 0 ≤ z 3 by omega)
      by_cases g8 : z 3 = 6
      · have ec : c_listener z v g = -4 := by unfold c_listener; rw [if_neg (by omega), if_pos (by omega)]
        rw [ec] at hf
        have hf := hf (by omega)
        refine wp_go b132_17 ?_; simp only [l132_17, sg_if_ne, nLg_n, nLg_i, nLg_r, tc_c, tc_l, tc_r, tc_m, tc_n, tc_o, tc_0, inR, true_and, and_true, ne_eq, not_true_eq_false, not_false_eq_true, true_imp_iff, false_imp_iff, Int.toNat_natCast, lit_a, Nat.reduceAdd, or_true, true_or, or_false, false_or, Int.reduceEq, Int.reduceNe, Int.reduceLT, Int.reduceLE, Int.reduceNeg, sg_nil, s1p, x510, x511, x512, x513, x514, x515, x516, x517]
        repeat' (first | with_reducible apply And.intro | intro _)
        all_goals (try omega)
        refine wp_go b132_23 ?_; simp only [l132_23, sg_aload_0, sg_getfp, sg_iconst, sg_iaload, sg_bipush, sg_ic_ne, sg_iret0, nLg_n, nLg_i, nLg_r, tc_c, tc_l, tc_r, tc_m, tc_n, tc_o, tc_0, inR, true_and, and_true, ne_eq, not_true_eq_false, not_false_eq_true, true_imp_iff, false_imp_iff, Int.toNat_natCast, lit_a, Nat.reduceAdd, or_true, true_or, or_false, false_or, Int.reduceEq, Int.reduceNe, Int.reduceLT, Int.reduceLE, Int.reduceNeg, sg_nil, s1p, x510, x511, x512, x513, x514, x515, x516, x517, hM, g8, Int.reduceToNat]
        repeat' (first | with_reducible apply And.intro | (intro _) | ((first | refine wp_go b132_0 ?_ | refine wp_go b132_6 ?_ | refine wp_go b132_17 ?_ | refine wp_go b132_20 ?_ | refine wp_go b132_23 ?_ | refine wp_go b132_37 ?_ | refine wp_go b132_41 ?_); simp only [l132_0, l132_6, l132_17, l132_20, l132_23, l132_37, l132_41, sg_iload_1, sg_iconst, len4_0, len4_1, len4_2, len4_3, len4_4, sg_is3_1, sg_if_eq, sg_iload_2, sg_sipush, sg_if_ne, sg_bipush, sg_iret0, sg_aload_0, sg_getfp, sg_iaload, sg_ic_ne, sg_iv1_v, sg_istore_3, sg_iload_3, sg_imul, sg_iadd, sg_iastore, sg_dup2, nLg_n, nLg_i, nLg_r, tc_c, tc_l, tc_r, tc_m, tc_n, tc_o, tc_0, inR, true_and, and_true, ne_eq, not_true_eq_false, not_false_eq_true, true_imp_iff, false_imp_iff, Int.toNat_natCast, lit_a, Nat.reduceAdd, or_true, true_or, or_false, false_or, Int.reduceEq, Int.reduceNe, Int.reduceLT, Int.reduceLE, Int.reduceNeg, sg_nil, s1p, x510, x511, x512, x513, x514, x515, x516, x517]))
        all_goals (try omega)
        all_goals exact hf
      · have ec : c_listener z v g = 0 := by unfold c_listener; rw [if_neg (by omega), if_neg (by omega)]
        have hq := hq ec
        have n8 : n < 6 := by omega
        rw [hn] at hq
        refine wp_go b132_17 ?_; simp only [l132_17, sg_if_ne, nLg_n, nLg_i, nLg_r, tc_c, tc_l, tc_r, tc_m, tc_n, tc_o, tc_0, inR, true_and, and_true, ne_eq, not_true_eq_false, not_false_eq_true, true_imp_iff, false_imp_iff, Int.toNat_natCast, lit_a, Nat.reduceAdd, or_true, true_or, or_false, false_or, Int.reduceEq, Int.reduceNe, Int.reduceLT, Int.reduceLE, Int.reduceNeg, sg_nil, s1p, x510, x511, x512, x513, x514, x515, x516, x517]
        repeat' (first | with_reducible apply And.intro | intro _)
        all_goals (try omega)
        refine wp_go b132_23 ?_; simp only [l132_23, sg_aload_0, sg_getfp, sg_iconst, sg_iaload, sg_bipush, sg_ic_ne, sg_iret0, nLg_n, nLg_i, nLg_r, tc_c, tc_l, tc_r, tc_m, tc_n, tc_o, tc_0, inR, true_and, and_true, ne_eq, not_true_eq_false, not_false_eq_true, true_imp_iff, false_imp_iff, Int.toNat_natCast, lit_a, Nat.reduceAdd, or_true, true_or, or_false, false_or, Int.reduceEq, Int.reduceNe, Int.reduceLT, Int.reduceLE, Int.reduceNeg, sg_nil, s1p, x510, x511, x512, x513, x514, x515, x516, x517, hM, hn, Int.reduceToNat]
        repeat' (first | with_reducible apply And.intro | intro _)
        all_goals (try omega)
        refine wp_go b132_37 ?_; simp only [l132_37, sg_aload_0, sg_iv1_v, len4_0, len4_1, len4_2, len4_3, len4_4, nLg_n, nLg_i, nLg_r, tc_c, tc_l, tc_r, tc_m, tc_n, tc_o, tc_0, inR, true_and, and_true, ne_eq, not_true_eq_false, not_false_eq_true, true_imp_iff, false_imp_iff, Int.toNat_natCast, lit_a, Nat.reduceAdd, or_true, true_or, or_false, false_or, Int.reduceEq, Int.reduceNe, Int.reduceLT, Int.reduceLE, Int.reduceNeg, sg_nil, s1p, x510, x511, x512, x513, x514, x515, x516, x517]
        refine k_Mo_rec hM hI hC (fun μ1 f1 C1 => ?_)
        have M1 : μ1 511 = z := by rw [f1 511 (by omega) (by omega)]; exact hM
        have e2 : ms (ms (ms μ1 511 (212 + 3 * n) v) 511 (212 + 3 * n + 1) g) 511 (212 + 3 * n + 2) 0 511 3 = (n : Int) := by simp only [ms_at]; rw [if_neg (by omega), if_neg (by omega), if_neg (by omega), M1]; exact hn
        have e : ms (ms (ms (ms μ1 511 (212 + 3 * n) v) 511 (212 + 3 * n + 1) g) 511 (212 + 3 * n + 2) 0) 511 3 ((n + 1 : Nat) : Int) 511 = lsZ z v g := by
          funext j
          unfold lsZ
          simp only [ms_at, true_and]
          rw [M1, hn, Int.toNat_natCast]
          by_cases h2 : j = 3
          · rw [if_pos h2, if_pos h2]; omega
          · rw [if_neg h2, if_neg h2]
            by_cases h3 : j = 212 + 3 * n
            · rw [if_neg (by omega), if_neg (by omega), if_pos h3, if_pos h3]
            · rw [if_neg h3, if_neg h3]
              by_cases h4 : j = 213 + 3 * n
              · rw [if_neg (by omega), if_pos (by omega), if_pos h4]
              · rw [if_neg h4]
                by_cases h5 : j = 214 + 3 * n
                · rw [if_pos (by omega), if_pos h5]
                · rw [if_neg (by omega), if_neg (by omega), if_neg h5]
        have hq := hq (ms (ms (ms (ms μ1 511 (212 + 3 * n) v) 511 (212 + 3 * n + 1) g) 511 (212 + 3 * n + 2) 0) 511 3 ((n + 1 : Nat) : Int)) ⟨fun k hk => by rw [← f1 k (by omega) (by omega)]; funext j; simp only [ms_at]; (repeat (first | rw [if_neg (by omega)] | rw [if_pos (by omega)])), e, by
          rw [e]
          intro k hk
          unfold lsZ
          split
          · unfold inR; omega
          · split
            · unfold inR; omega
            · split
              · unfold inR; omega
              · split
                · unfold inR; omega
                · exact hI k hk, CRm_1 (fun k h1 _ => by funext j; simp only [ms_at]; (repeat (first | rw [if_neg (by omega)] | rw [if_pos (by omega)]))) C1⟩
        refine wp_go b132_41 ?_; simp only [l132_41, sg_aload_0, sg_getfp, sg_iconst, sg_iaload, sg_istore_3, sg_sipush, sg_iload_3, sg_imul, sg_iadd, sg_iload_1, sg_iastore, sg_iload_2, sg_dup2, sg_iret0, nLg_n, nLg_i, nLg_r, tc_c, tc_l, tc_r, tc_m, tc_n, tc_o, tc_0, inR, true_and, and_true, ne_eq, not_true_eq_false, not_false_eq_true, true_imp_iff, false_imp_iff, Int.toNat_natCast, lit_a, Nat.reduceAdd, or_true, true_or, or_false, false_or, Int.reduceEq, Int.reduceNe, Int.reduceLT, Int.reduceLE, Int.reduceNeg, sg_nil, s1p, x510, x511, x512, x513, x514, x515, x516, x517, M1, hn, e2, Int.reduceToNat]
        repeat' (first | with_reducible apply And.intro | intro _)
        all_goals (try omega)
    · refine wp_go b132_17 ?_; simp only [l132_17, sg_if_ne, nLg_n, nLg_i, nLg_r, tc_c, tc_l, tc_r, tc_m, tc_n, tc_o, tc_0, inR, true_and, and_true, ne_eq, not_true_eq_false, not_false_eq_true, true_imp_iff, false_imp_iff, Int.toNat_natCast, lit_a, Nat.reduceAdd, or_true, true_or, or_false, false_or, Int.reduceEq, Int.reduceNe, Int.reduceLT, Int.reduceLE, Int.reduceNeg, sg_nil, s1p, x510, x511, x512, x513, x514, x515, x516, x517]
      repeat' (first | with_reducible apply And.intro | (intro _) | ((first | refine wp_go b132_0 ?_ | refine wp_go b132_6 ?_ | refine wp_go b132_17 ?_ | refine wp_go b132_20 ?_ | refine wp_go b132_23 ?_ | refine wp_go b132_37 ?_ | refine wp_go b132_41 ?_); simp only [l132_0, l132_6, l132_17, l132_20, l132_23, l132_37, l132_41, sg_iload_1, sg_iconst, len4_0, len4_1, len4_2, len4_3, len4_4, sg_is3_1, sg_if_eq, sg_iload_2, sg_sipush, sg_if_ne, sg_bipush, sg_iret0, sg_aload_0, sg_getfp, sg_iaload, sg_ic_ne, sg_iv1_v, sg_istore_3, sg_iload_3, sg_imul, sg_iadd, sg_iastore, sg_dup2, nLg_n, nLg_i, nLg_r, tc_c, tc_l, tc_r, tc_m, tc_n, tc_o, tc_0, inR, true_and, and_true, ne_eq, not_true_eq_false, not_false_eq_true, true_imp_iff, false_imp_iff, Int.toNat_natCast, lit_a, Nat.reduceAdd, or_true, true_or, or_false, false_or, Int.reduceEq, Int.reduceNe, Int.reduceLT, Int.reduceLE, Int.reduceNeg, sg_nil, s1p, x510, x511, x512, x513, x514, x515, x516, x517]))
      all_goals (try omega)
      all_goals exact bad2 (by omega)
  · refine wp_go b132_6 ?_; simp only [l132_6, sg_if_eq, sg_iload_2, sg_iconst, sg_sipush, len4_0, len4_1, len4_2, len4_3, len4_4, sg_is3_1, nLg_n, nLg_i, nLg_r, tc_c, tc_l, tc_r, tc_m, tc_n, tc_o, tc_0, inR, true_and, and_true, ne_eq, not_true_eq_false, not_false_eq_true, true_imp_iff, false_imp_iff, Int.toNat_natCast, lit_a, Nat.reduceAdd, or_true, true_or, or_false, false_or, Int.reduceEq, Int.reduceNe, Int.reduceLT, Int.reduceLE, Int.reduceNeg, sg_nil, s1p, x510, x511, x512, x513, x514, x515, x516, x517]
    repeat' (first | with_reducible apply And.intro | (intro _) | ((first | refine wp_go b132_0 ?_ | refine wp_go b132_6 ?_ | refine wp_go b132_17 ?_ | refine wp_go b132_20 ?_ | refine wp_go b132_23 ?_ | refine wp_go b132_37 ?_ | refine wp_go b132_41 ?_); simp only [l132_0, l132_6, l132_17, l132_20, l132_23, l132_37, l132_41, sg_iload_1, sg_iconst, len4_0, len4_1, len4_2, len4_3, len4_4, sg_is3_1, sg_if_eq, sg_iload_2, sg_sipush, sg_if_ne, sg_bipush, sg_iret0, sg_aload_0, sg_getfp, sg_iaload, sg_ic_ne, sg_iv1_v, sg_istore_3, sg_iload_3, sg_imul, sg_iadd, sg_iastore, sg_dup2, nLg_n, nLg_i, nLg_r, tc_c, tc_l, tc_r, tc_m, tc_n, tc_o, tc_0, inR, true_and, and_true, ne_eq, not_true_eq_false, not_false_eq_true, true_imp_iff, false_imp_iff, Int.toNat_natCast, lit_a, Nat.reduceAdd, or_true, true_or, or_false, false_or, Int.reduceEq, Int.reduceNe, Int.reduceLT, Int.reduceLE, Int.reduceNeg, sg_nil, s1p, x510, x511, x512, x513, x514, x515, x516, x517]))
    all_goals (try omega)
    all_goals exact bad2 (by omega)
