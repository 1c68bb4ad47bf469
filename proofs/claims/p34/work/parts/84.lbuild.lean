/-! THE LAW'S build -/
-- the law's build: blocks [0, 6, 25, 32, 43, 59, 68, 70, 73, 84, 96, 110, 122, 134, 143, 152, 153, 174, 182, 191, 205, 213, 214, 216, 222, 231, 236, 242, 265, 279, 287, 289, 292, 306, 314, 327, 332, 343, 349, 360, 366, 371, 375, 376, 384, 387, 410, 419, 422, 431, 443, 446, 462, 471, 475, 483, 498, 507, 508, 516, 519, 542, 549, 562, 570, 571, 574, 589, 598, 600, 603, 620, 632, 644, 656, 659, 663, 664, 672]
/-- the listeners -/
theorem bd_4 {y : Nat → Int} {L d na : Nat} {len : Nat → Nat} {Q : QT} {ln : Nat} {l3 : Int} (hL : L ≤ 260) (hln : ln ≤ 6)
    (h : ∀ z μ, St z μ → z 1 ≤ 25 → z 3 = (ln : Int) → Q (.inl 1) μ) :
    ∀ j k : Nat, k + j = ln → ∀ (z : Rw) (μ : Mem) (X6 X8 X9 X10 X11 X12 : Option MV), nLg X6 → nLg X8 → nLg X9 → nLg X10 → nLg X11 → nLg X12 → St z μ → z 1 ≤ 25 → z 3 = (k : Int) →
      wp2 y L 0 (Call2 y L (d + 1)) 2 Q (0, na, len) 519 [some (.inr (.inr 0)), some (.inr (.inr 1)), some (.inl 0), some (.inl l3), some (.inl (ln : Int)), some (.inl 1), X6, some (.inl (k : Int)), X8, X9, X10, X11, X12] [] μ := by
  intro j
  induction j with
  | zero =>
    intro k hj z μ X6 X8 X9 X10 X11 X12 n6 n8 n9 n10 n11 n12 hS h1 h3
    obtain rfl : k = ln := by omega
    refine wp2_go w2_519 ?_; simp only [v2_519, tg_iload, ldI_7, ldI_4, tg_ic_ge, ldI_5, tg_if_eq, tg_aload_1, tg_iload_2, tg_bipush, tg_iadd, tg_is2, mc_0, nLg_n, nLg_i, nLg_r, tc_c, tc_l, tc_r, tc_m, tc_n, tc_o, tc_0, inR, true_and, and_true, ne_eq, not_true_eq_false, not_false_eq_true, true_imp_iff, false_imp_iff, lit_a, Nat.reduceAdd, or_true, true_or, or_false, false_or, Int.reduceEq, Int.reduceNe, Int.reduceLT, Int.reduceLE, Int.reduceNeg, Int.toNat_natCast, tg_nil, eq_self, lc0n, lc1n, lc2n, lc3n, lc4n, lc5n, lc6n, lc1i, lc2i, lc3i, lc4i, lc5i, lc6i, lc1r, lc2r, lc3r, lc4r, lc5r, lc6r, Nat.add_zero]
    repeat' (first | with_reducible apply And.intro | intro _)
    all_goals (try omega)
    refine wp2_go w2_672 ?_; simp only [v2_672, tg_iload, ldI_5, tg_iret1, nLg_n, nLg_i, nLg_r, tc_c, tc_l, tc_r, tc_m, tc_n, tc_o, tc_0, inR, true_and, and_true, ne_eq, not_true_eq_false, not_false_eq_true, true_imp_iff, false_imp_iff, lit_a, Nat.reduceAdd, or_true, true_or, or_false, false_or, Int.reduceEq, Int.reduceNe, Int.reduceLT, Int.reduceLE, Int.reduceNeg, Int.toNat_natCast, tg_nil, eq_self, lc0n, lc1n, lc2n, lc3n, lc4n, lc5n, lc6n, lc1i, lc2i, lc3i, lc4i, lc5i, lc6i, lc1r, lc2r, lc3r, lc4r, lc5r, lc6r, Nat.add_zero]
    exact h z μ hS h1 h3
  | succ j ih =>
    intro k hj z μ X6 X8 X9 X10 X11 X12 n6 n8 n9 n10 n11 n12 hS h1 h3
    have q0 := hS.1.1
    refine wp2_go w2_519 ?_; simp only [v2_519, tg_iload, ldI_7, ldI_4, tg_ic_ge, ldI_5, tg_if_eq, tg_aload_1, tg_iload_2, tg_bipush, tg_iadd, tg_is2, mc_0, nLg_n, nLg_i, nLg_r, tc_c, tc_l, tc_r, tc_m, tc_n, tc_o, tc_0, inR, true_and, and_true, ne_eq, not_true_eq_false, not_false_eq_true, true_imp_iff, false_imp_iff, lit_a, Nat.reduceAdd, or_true, true_or, or_false, false_or, Int.reduceEq, Int.reduceNe, Int.reduceLT, Int.reduceLE, Int.reduceNeg, Int.toNat_natCast, tg_nil, eq_self, lc0n, lc1n, lc2n, lc3n, lc4n, lc5n, lc6n, lc1i, lc2i, lc3i, lc4i, lc5i, lc6i, lc1r, lc2r, lc3r, lc4r, lc5r, lc6r, Nat.add_zero]
    repeat' (first | with_reducible apply And.intro | intro _)
    all_goals (try omega)
    refine c_cell hL (by omega) ?_
    generalize cellF y L _ = hh
    refine wp2_go w2_542 ?_; simp only [v2_542, tg_istore, okS_8, stL_8, tg_aload_0, tg_iconst, tg_iv2, nLg_n, nLg_i, nLg_r, tc_c, tc_l, tc_r, tc_m, tc_n, tc_o, tc_0, inR, true_and, and_true, ne_eq, not_true_eq_false, not_false_eq_true, true_imp_iff, false_imp_iff, lit_a, Nat.reduceAdd, or_true, true_or, or_false, false_or, Int.reduceEq, Int.reduceNe, Int.reduceLT, Int.reduceLE, Int.reduceNeg, Int.toNat_natCast, tg_nil, eq_self, lc0n, lc1n, lc2n, lc3n, lc4n, lc5n, lc6n, lc1i, lc2i, lc3i, lc4i, lc5i, lc6i, lc1r, lc2r, lc3r, lc4r, lc5r, lc6r, Nat.add_zero]
    repeat' (first | with_reducible apply And.intro | intro _)
    all_goals (try omega)
    refine q_cnt4 (Fz_r hS) (fun μ hF => ?_)
    rw [h3]
    refine wp2_go w2_549 ?_; simp only [v2_549, tg_istore, okS_9, stL_9, tg_iload, ldI_8, tg_bipush, tg_ishr, tg_iconst, tg_is2, mc_1, nLg_n, nLg_i, nLg_r, tc_c, tc_l, tc_r, tc_m, tc_n, tc_o, tc_0, inR, true_and, and_true, ne_eq, not_true_eq_false, not_false_eq_true, true_imp_iff, false_imp_iff, lit_a, Nat.reduceAdd, or_true, true_or, or_false, false_or, Int.reduceEq, Int.reduceNe, Int.reduceLT, Int.reduceLE, Int.reduceNeg, Int.toNat_natCast, tg_nil, eq_self, lc0n, lc1n, lc2n, lc3n, lc4n, lc5n, lc6n, lc1i, lc2i, lc3i, lc4i, lc5i, lc6i, lc1r, lc2r, lc3r, lc4r, lc5r, lc6r, Nat.add_zero]
    repeat' (first | with_reducible apply And.intro | intro _)
    all_goals (try omega)
    refine c_low (by omega) ?_
    obtain ⟨u0, u1⟩ := lowF_b (iShr hh 12) (n := 2) (by omega)
    generalize lowF (iShr hh 12) 2 = v1 at u0 u1
    have p603 : ∀ (g b : Int), 0 ≤ g ∧ g ≤ 5 → 0 ≤ b ∧ b ≤ 600 → wp2 y L 0 (Call2 y L (d + 1)) 2 Q (0, na, len) 603 [some (.inr (.inr 0)), some (.inr (.inr 1)), some (.inl 0), some (.inl l3), some (.inl (ln : Int)), some (.inl 1), X6, some (.inl (k : Int)), some (.inl hh), some (.inl (k : Int)), some (.inl g), X11, X12] [.inl b] μ := by
      intro g b hg hb
      refine wp2_go w2_603 ?_; simp only [v2_603, tg_istore, okS_11, stL_11, tg_iload, ldI_9, tg_bipush, tg_ic_eq, tg_aload_0, ldI_10, ldI_11, tg_iv3, nLg_n, nLg_i, nLg_r, tc_c, tc_l, tc_r, tc_m, tc_n, tc_o, tc_0, inR, true_and, and_true, ne_eq, not_true_eq_false, not_false_eq_true, true_imp_iff, false_imp_iff, lit_a, Nat.reduceAdd, or_true, true_or, or_false, false_or, Int.reduceEq, Int.reduceNe, Int.reduceLT, Int.reduceLE, Int.reduceNeg, Int.toNat_natCast, tg_nil, eq_self, lc0n, lc1n, lc2n, lc3n, lc4n, lc5n, lc6n, lc1i, lc2i, lc3i, lc4i, lc5i, lc6i, lc1r, lc2r, lc3r, lc4r, lc5r, lc6r, Nat.add_zero]
      repeat' (first | with_reducible apply And.intro | intro _)
      all_goals (try omega)
      refine m_listener hF.1 (by omega) hg hb (fun μ' hS' hk' => ?_)
      rw [h3]
      have ek : (z 3).toNat = k := by rw [h3, Int.toNat_natCast]
      have e3 : lsZ z g b 3 = ((k + 1 : Nat) : Int) := by unfold lsZ; rw [if_pos rfl]; omega
      have e1 : lsZ z g b 1 = z 1 := by unfold lsZ; rw [if_neg (by omega), if_neg (by omega), if_neg (by omega), if_neg (by omega)]
      have eg : gL (lsZ z g b) k = g := by unfold gL lsZ; rw [ek, if_neg (by omega), if_pos rfl]
      have eb : bLi (lsZ z g b) k = b := by unfold bLi lsZ; rw [ek, if_neg (by omega), if_neg (by omega), if_pos rfl]
      have ef : lsZ z g b (214 + 3 * k) = 0 := by unfold lsZ; rw [ek, if_neg (by omega), if_neg (by omega), if_neg (by omega), if_pos rfl]
      refine wp2_go w2_620 ?_; simp only [v2_620, tg_iload, ldI_9, tg_ic_ne, tg_aload_0, tg_iconst, tg_iv3, nLg_n, nLg_i, nLg_r, tc_c, tc_l, tc_r, tc_m, tc_n, tc_o, tc_0, inR, true_and, and_true, ne_eq, not_true_eq_false, not_false_eq_true, true_imp_iff, false_imp_iff, lit_a, Nat.reduceAdd, or_true, true_or, or_false, false_or, Int.reduceEq, Int.reduceNe, Int.reduceLT, Int.reduceLE, Int.reduceNeg, Int.toNat_natCast, tg_nil, eq_self, lc0n, lc1n, lc2n, lc3n, lc4n, lc5n, lc6n, lc1i, lc2i, lc3i, lc4i, lc5i, lc6i, lc1r, lc2r, lc3r, lc4r, lc5r, lc6r, Nat.add_zero]
      refine q_of0 (Fz_r hS') (by omega) (fun μ hF => ?_)
      rw [eg]
      refine wp2_go w2_632 ?_; simp only [v2_632, tg_iload, ldI_10, tg_ic_ne, tg_aload_0, ldI_9, tg_iconst, tg_iv3, nLg_n, nLg_i, nLg_r, tc_c, tc_l, tc_r, tc_m, tc_n, tc_o, tc_0, inR, true_and, and_true, ne_eq, not_true_eq_false, not_false_eq_true, true_imp_iff, false_imp_iff, lit_a, Nat.reduceAdd, or_true, true_or, or_false, false_or, Int.reduceEq, Int.reduceNe, Int.reduceLT, Int.reduceLE, Int.reduceNeg, Int.toNat_natCast, tg_nil, eq_self, lc0n, lc1n, lc2n, lc3n, lc4n, lc5n, lc6n, lc1i, lc2i, lc3i, lc4i, lc5i, lc6i, lc1r, lc2r, lc3r, lc4r, lc5r, lc6r, Nat.add_zero]
      refine q_of1 hF (by omega) (fun μ hF => ?_)
      rw [eb]
      refine wp2_go w2_644 ?_; simp only [v2_644, tg_iload, ldI_11, tg_ic_ne, tg_aload_0, ldI_9, tg_iconst, tg_iv3, nLg_n, nLg_i, nLg_r, tc_c, tc_l, tc_r, tc_m, tc_n, tc_o, tc_0, inR, true_and, and_true, ne_eq, not_true_eq_false, not_false_eq_true, true_imp_iff, false_imp_iff, lit_a, Nat.reduceAdd, or_true, true_or, or_false, false_or, Int.reduceEq, Int.reduceNe, Int.reduceLT, Int.reduceLE, Int.reduceNeg, Int.toNat_natCast, tg_nil, eq_self, lc0n, lc1n, lc2n, lc3n, lc4n, lc5n, lc6n, lc1i, lc2i, lc3i, lc4i, lc5i, lc6i, lc1r, lc2r, lc3r, lc4r, lc5r, lc6r, Nat.add_zero]
      refine q_of2 hF (by omega) (fun μ hF => ?_)
      rw [ef]
      refine wp2_go w2_656 ?_; simp only [v2_656, tg_if_ne, nLg_n, nLg_i, nLg_r, tc_c, tc_l, tc_r, tc_m, tc_n, tc_o, tc_0, inR, true_and, and_true, ne_eq, not_true_eq_false, not_false_eq_true, true_imp_iff, false_imp_iff, lit_a, Nat.reduceAdd, or_true, true_or, or_false, false_or, Int.reduceEq, Int.reduceNe, Int.reduceLT, Int.reduceLE, Int.reduceNeg, Int.toNat_natCast, tg_nil, eq_self, lc0n, lc1n, lc2n, lc3n, lc4n, lc5n, lc6n, lc1i, lc2i, lc3i, lc4i, lc5i, lc6i, lc1r, lc2r, lc3r, lc4r, lc5r, lc6r, Nat.add_zero]
      refine wp2_go w2_659 ?_; simp only [v2_659, tg_iconst, tg_goto, nLg_n, nLg_i, nLg_r, tc_c, tc_l, tc_r, tc_m, tc_n, tc_o, tc_0, inR, true_and, and_true, ne_eq, not_true_eq_false, not_false_eq_true, true_imp_iff, false_imp_iff, lit_a, Nat.reduceAdd, or_true, true_or, or_false, false_or, Int.reduceEq, Int.reduceNe, Int.reduceLT, Int.reduceLE, Int.reduceNeg, Int.toNat_natCast, tg_nil, eq_self, lc0n, lc1n, lc2n, lc3n, lc4n, lc5n, lc6n, lc1i, lc2i, lc3i, lc4i, lc5i, lc6i, lc1r, lc2r, lc3r, lc4r, lc5r, lc6r, Nat.add_zero]
      refine wp2_go w2_664 ?_; simp only [v2_664, tg_istore, okS_5, stL_5, tg_iinc, ldI_7, okS_7, stL_7, tg_goto, nLg_n, nLg_i, nLg_r, tc_c, tc_l, tc_r, tc_m, tc_n, tc_o, tc_0, inR, true_and, and_true, ne_eq, not_true_eq_false, not_false_eq_true, true_imp_iff, false_imp_iff, lit_a, Nat.reduceAdd, or_true, true_or, or_false, false_or, Int.reduceEq, Int.reduceNe, Int.reduceLT, Int.reduceLE, Int.reduceNeg, Int.toNat_natCast, tg_nil, eq_self, lc0n, lc1n, lc2n, lc3n, lc4n, lc5n, lc6n, lc1i, lc2i, lc3i, lc4i, lc5i, lc6i, lc1r, lc2r, lc3r, lc4r, lc5r, lc6r, Nat.add_zero]
      repeat' (first | with_reducible apply And.intro | intro _)
      all_goals (try omega)
      exact ih (k + 1) (by omega) (lsZ z g b) μ X6 (some (.inl hh)) (some (.inl (k : Int))) (some (.inl g)) (some (.inl b)) X12 n6 trivial trivial trivial trivial n12 hF.1 (by omega) e3
    have p600 : ∀ (g M : Int), 0 ≤ g ∧ g ≤ 5 → (M = 601 ∨ M = 90) → wp2 y L 0 (Call2 y L (d + 1)) 2 Q (0, na, len) 600 [some (.inr (.inr 0)), some (.inr (.inr 1)), some (.inl 0), some (.inl l3), some (.inl (ln : Int)), some (.inl 1), X6, some (.inl (k : Int)), some (.inl hh), some (.inl (k : Int)), some (.inl g), X11, X12] [.inl M, .inl (iShr hh 3)] μ := by
      intro g M hg hM
      refine wp2_go w2_600 ?_; simp only [v2_600, tg_is2, mc_1, nLg_n, nLg_i, nLg_r, tc_c, tc_l, tc_r, tc_m, tc_n, tc_o, tc_0, inR, true_and, and_true, ne_eq, not_true_eq_false, not_false_eq_true, true_imp_iff, false_imp_iff, lit_a, Nat.reduceAdd, or_true, true_or, or_false, false_or, Int.reduceEq, Int.reduceNe, Int.reduceLT, Int.reduceLE, Int.reduceNeg, Int.toNat_natCast, tg_nil, eq_self, lc0n, lc1n, lc2n, lc3n, lc4n, lc5n, lc6n, lc1i, lc2i, lc3i, lc4i, lc5i, lc6i, lc1r, lc2r, lc3r, lc4r, lc5r, lc6r, Nat.add_zero]
      repeat' (first | with_reducible apply And.intro | intro _)
      all_goals (try omega)
      refine c_low (by omega) ?_
      obtain ⟨u0, u1⟩ := lowF_b (iShr hh 3) (n := M) (by omega)
      exact p603 g _ hg (by omega)
    have p571 : ∀ (N : Int), (N = 6 ∨ N = 2) → wp2 y L 0 (Call2 y L (d + 1)) 2 Q (0, na, len) 571 [some (.inr (.inr 0)), some (.inr (.inr 1)), some (.inl 0), some (.inl l3), some (.inl (ln : Int)), some (.inl 1), X6, some (.inl (k : Int)), some (.inl hh), some (.inl (k : Int)), X10, X11, X12] [.inl N, .inl hh] μ := by
      intro N hN
      refine wp2_go w2_571 ?_; simp only [v2_571, tg_is2, mc_1, nLg_n, nLg_i, nLg_r, tc_c, tc_l, tc_r, tc_m, tc_n, tc_o, tc_0, inR, true_and, and_true, ne_eq, not_true_eq_false, not_false_eq_true, true_imp_iff, false_imp_iff, lit_a, Nat.reduceAdd, or_true, true_or, or_false, false_or, Int.reduceEq, Int.reduceNe, Int.reduceLT, Int.reduceLE, Int.reduceNeg, Int.toNat_natCast, tg_nil, eq_self, lc0n, lc1n, lc2n, lc3n, lc4n, lc5n, lc6n, lc1i, lc2i, lc3i, lc4i, lc5i, lc6i, lc1r, lc2r, lc3r, lc4r, lc5r, lc6r, Nat.add_zero]
      repeat' (first | with_reducible apply And.intro | intro _)
      all_goals (try omega)
      refine c_low (by omega) ?_
      obtain ⟨u0, u1⟩ := lowF_b hh (n := N) (by omega)
      generalize lowF hh N = g at u0 u1
      refine wp2_go w2_574 ?_; simp only [v2_574, tg_istore, okS_10, stL_10, tg_iload, ldI_8, tg_iconst, tg_ishr, tg_bipush, tg_is2, mc_1, nLg_n, nLg_i, nLg_r, tc_c, tc_l, tc_r, tc_m, tc_n, tc_o, tc_0, inR, true_and, and_true, ne_eq, not_true_eq_false, not_false_eq_true, true_imp_iff, false_imp_iff, lit_a, Nat.reduceAdd, or_true, true_or, or_false, false_or, Int.reduceEq, Int.reduceNe, Int.reduceLT, Int.reduceLE, Int.reduceNeg, Int.toNat_natCast, tg_nil, eq_self, lc0n, lc1n, lc2n, lc3n, lc4n, lc5n, lc6n, lc1i, lc2i, lc3i, lc4i, lc5i, lc6i, lc1r, lc2r, lc3r, lc4r, lc5r, lc6r, Nat.add_zero]
      repeat' (first | with_reducible apply And.intro | intro _)
      all_goals (try omega)
      refine c_low (by omega) ?_
      obtain ⟨w0, w1⟩ := lowF_b (iShr hh 13) (n := 2) (by omega)
      generalize lowF (iShr hh 13) 2 = v2 at w0 w1
      refine wp2_go w2_589 ?_; simp only [v2_589, tg_if_ne, tg_sipush, tg_goto, nLg_n, nLg_i, nLg_r, tc_c, tc_l, tc_r, tc_m, tc_n, tc_o, tc_0, inR, true_and, and_true, ne_eq, not_true_eq_false, not_false_eq_true, true_imp_iff, false_imp_iff, lit_a, Nat.reduceAdd, or_true, true_or, or_false, false_or, Int.reduceEq, Int.reduceNe, Int.reduceLT, Int.reduceLE, Int.reduceNeg, Int.toNat_natCast, tg_nil, eq_self, lc0n, lc1n, lc2n, lc3n, lc4n, lc5n, lc6n, lc1i, lc2i, lc3i, lc4i, lc5i, lc6i, lc1r, lc2r, lc3r, lc4r, lc5r, lc6r, Nat.add_zero]
      repeat' (first | with_reducible apply And.intro | intro _)
      all_goals (try omega)
      · exact p600 g 601 (by omega) (Or.inl rfl)
      · refine wp2_go w2_598 ?_; simp only [v2_598, tg_bipush, nLg_n, nLg_i, nLg_r, tc_c, tc_l, tc_r, tc_m, tc_n, tc_o, tc_0, inR, true_and, and_true, ne_eq, not_true_eq_false, not_false_eq_true, true_imp_iff, false_imp_iff, lit_a, Nat.reduceAdd, or_true, true_or, or_false, false_or, Int.reduceEq, Int.reduceNe, Int.reduceLT, Int.reduceLE, Int.reduceNeg, Int.toNat_natCast, tg_nil, eq_self, lc0n, lc1n, lc2n, lc3n, lc4n, lc5n, lc6n, lc1i, lc2i, lc3i, lc4i, lc5i, lc6i, lc1r, lc2r, lc3r, lc4r, lc5r, lc6r, Nat.add_zero]
        exact p600 g 90 (by omega) (Or.inr rfl)
    refine wp2_go w2_562 ?_; simp only [v2_562, tg_if_ne, tg_bipush, tg_goto, nLg_n, nLg_i, nLg_r, tc_c, tc_l, tc_r, tc_m, tc_n, tc_o, tc_0, inR, true_and, and_true, ne_eq, not_true_eq_false, not_false_eq_true, true_imp_iff, false_imp_iff, lit_a, Nat.reduceAdd, or_true, true_or, or_false, false_or, Int.reduceEq, Int.reduceNe, Int.reduceLT, Int.reduceLE, Int.reduceNeg, Int.toNat_natCast, tg_nil, eq_self, lc0n, lc1n, lc2n, lc3n, lc4n, lc5n, lc6n, lc1i, lc2i, lc3i, lc4i, lc5i, lc6i, lc1r, lc2r, lc3r, lc4r, lc5r, lc6r, Nat.add_zero]
    repeat' (first | with_reducible apply And.intro | intro _)
    all_goals (try omega)
    · exact p571 6 (Or.inl rfl)
    · refine wp2_go w2_570 ?_; simp only [v2_570, tg_iconst, nLg_n, nLg_i, nLg_r, tc_c, tc_l, tc_r, tc_m, tc_n, tc_o, tc_0, inR, true_and, and_true, ne_eq, not_true_eq_false, not_false_eq_true, true_imp_iff, false_imp_iff, lit_a, Nat.reduceAdd, or_true, true_or, or_false, false_or, Int.reduceEq, Int.reduceNe, Int.reduceLT, Int.reduceLE, Int.reduceNeg, Int.toNat_natCast, tg_nil, eq_self, lc0n, lc1n, lc2n, lc3n, lc4n, lc5n, lc6n, lc1i, lc2i, lc3i, lc4i, lc5i, lc6i, lc1r, lc2r, lc3r, lc4r, lc5r, lc6r, Nat.add_zero]
      exact p571 2 (Or.inr rfl)
/-- the bookings -/
theorem bd_3 {y : Nat → Int} {L d na : Nat} {len : Nat → Nat} {Q : QT} {ln : Nat} {l3 : Int} (hL : L ≤ 260) (hln : ln ≤ 6)
    (h : ∀ z μ, St z μ → z 1 ≤ 25 → z 3 = (ln : Int) → Q (.inl 1) μ) :
    ∀ j k : Nat, k + j = 30 → ∀ (z : Rw) (μ : Mem) (X6 X8 X9 X10 X11 X12 : Option MV), nLg X6 → nLg X8 → nLg X9 → nLg X10 → nLg X11 → nLg X12 → St z μ → z 1 ≤ 25 → z 3 = 0 → 1 ≤ z 2 →
      wp2 y L 0 (Call2 y L (d + 1)) 2 Q (0, na, len) 387 [some (.inr (.inr 0)), some (.inr (.inr 1)), some (.inl 0), some (.inl l3), some (.inl (ln : Int)), some (.inl 1), X6, some (.inl (k : Int)), X8, X9, X10, X11, X12] [] μ := by
  intro j
  induction j with
  | zero =>
    intro k hj z μ X6 X8 X9 X10 X11 X12 n6 n8 n9 n10 n11 n12 hS h1 h3 h2
    obtain rfl : k = 30 := by omega
    refine wp2_go w2_387 ?_; simp only [v2_387, tg_iload, ldI_7, tg_bipush, tg_ic_ge, ldI_5, tg_if_eq, tg_aload_1, tg_iload_2, tg_iadd, tg_is2, mc_0, nLg_n, nLg_i, nLg_r, tc_c, tc_l, tc_r, tc_m, tc_n, tc_o, tc_0, inR, true_and, and_true, ne_eq, not_true_eq_false, not_false_eq_true, true_imp_iff, false_imp_iff, lit_a, Nat.reduceAdd, or_true, true_or, or_false, false_or, Int.reduceEq, Int.reduceNe, Int.reduceLT, Int.reduceLE, Int.reduceNeg, Int.toNat_natCast, tg_nil, eq_self, lc0n, lc1n, lc2n, lc3n, lc4n, lc5n, lc6n, lc1i, lc2i, lc3i, lc4i, lc5i, lc6i, lc1r, lc2r, lc3r, lc4r, lc5r, lc6r, Nat.add_zero]
    repeat' (first | with_reducible apply And.intro | intro _)
    all_goals (try omega)
    refine wp2_go w2_516 ?_; simp only [v2_516, tg_iconst, tg_istore, okS_7, stL_7, nLg_n, nLg_i, nLg_r, tc_c, tc_l, tc_r, tc_m, tc_n, tc_o, tc_0, inR, true_and, and_true, ne_eq, not_true_eq_false, not_false_eq_true, true_imp_iff, false_imp_iff, lit_a, Nat.reduceAdd, or_true, true_or, or_false, false_or, Int.reduceEq, Int.reduceNe, Int.reduceLT, Int.reduceLE, Int.reduceNeg, Int.toNat_natCast, tg_nil, eq_self, lc0n, lc1n, lc2n, lc3n, lc4n, lc5n, lc6n, lc1i, lc2i, lc3i, lc4i, lc5i, lc6i, lc1r, lc2r, lc3r, lc4r, lc5r, lc6r, Nat.add_zero]
    refine ⟨n6, ?_⟩
    exact bd_4 hL hln h ln 0 (by omega) z μ X6 X8 X9 X10 X11 X12 n6 n8 n9 n10 n11 n12 hS h1 h3
  | succ j ih =>
    intro k hj z μ X6 X8 X9 X10 X11 X12 n6 n8 n9 n10 n11 n12 hS h1 h3 h2
    have hz := hS.1
    have q0 := hz.1
    refine wp2_go w2_387 ?_; simp only [v2_387, tg_iload, ldI_7, tg_bipush, tg_ic_ge, ldI_5, tg_if_eq, tg_aload_1, tg_iload_2, tg_iadd, tg_is2, mc_0, nLg_n, nLg_i, nLg_r, tc_c, tc_l, tc_r, tc_m, tc_n, tc_o, tc_0, inR, true_and, and_true, ne_eq, not_true_eq_false, not_false_eq_true, true_imp_iff, false_imp_iff, lit_a, Nat.reduceAdd, or_true, true_or, or_false, false_or, Int.reduceEq, Int.reduceNe, Int.reduceLT, Int.reduceLE, Int.reduceNeg, Int.toNat_natCast, tg_nil, eq_self, lc0n, lc1n, lc2n, lc3n, lc4n, lc5n, lc6n, lc1i, lc2i, lc3i, lc4i, lc5i, lc6i, lc1r, lc2r, lc3r, lc4r, lc5r, lc6r, Nat.add_zero]
    repeat' (first | with_reducible apply And.intro | intro _)
    all_goals (try omega)
    refine c_cell hL (by omega) ?_
    generalize cellF y L _ = hh
    refine wp2_go w2_410 ?_; simp only [v2_410, tg_istore, okS_8, stL_8, tg_iload, ldI_8, tg_aload_0, tg_iconst, tg_iv2, nLg_n, nLg_i, nLg_r, tc_c, tc_l, tc_r, tc_m, tc_n, tc_o, tc_0, inR, true_and, and_true, ne_eq, not_true_eq_false, not_false_eq_true, true_imp_iff, false_imp_iff, lit_a, Nat.reduceAdd, or_true, true_or, or_false, false_or, Int.reduceEq, Int.reduceNe, Int.reduceLT, Int.reduceLE, Int.reduceNeg, Int.toNat_natCast, tg_nil, eq_self, lc0n, lc1n, lc2n, lc3n, lc4n, lc5n, lc6n, lc1i, lc2i, lc3i, lc4i, lc5i, lc6i, lc1r, lc2r, lc3r, lc4r, lc5r, lc6r, Nat.add_zero]
    repeat' (first | with_reducible apply And.intro | intro _)
    all_goals (try omega)
    refine q_cnt0 (Fz_r hS) (fun μ hF => ?_)
    refine wp2_go w2_419 ?_; simp only [v2_419, tg_is2, mc_1, nLg_n, nLg_i, nLg_r, tc_c, tc_l, tc_r, tc_m, tc_n, tc_o, tc_0, inR, true_and, and_true, ne_eq, not_true_eq_false, not_false_eq_true, true_imp_iff, false_imp_iff, lit_a, Nat.reduceAdd, or_true, true_or, or_false, false_or, Int.reduceEq, Int.reduceNe, Int.reduceLT, Int.reduceLE, Int.reduceNeg, Int.toNat_natCast, tg_nil, eq_self, lc0n, lc1n, lc2n, lc3n, lc4n, lc5n, lc6n, lc1i, lc2i, lc3i, lc4i, lc5i, lc6i, lc1r, lc2r, lc3r, lc4r, lc5r, lc6r, Nat.add_zero]
    repeat' (first | with_reducible apply And.intro | intro _)
    all_goals (try omega)
    refine c_low (by omega) ?_
    obtain ⟨u0, u1⟩ := lowF_b hh (n := z 0) (by omega)
    generalize lowF hh (z 0) = at0 at u0 u1
    obtain ⟨s, rfl⟩ := nat_of u0
    have hr4 := (hz.2.1 s u1).2.2.2.1
    obtain ⟨r, er⟩ := nat_of hr4.1
    refine wp2_go w2_422 ?_; simp only [v2_422, tg_istore, okS_9, stL_9, tg_aload_0, tg_iload, ldI_9, tg_iconst, tg_iv3, nLg_n, nLg_i, nLg_r, tc_c, tc_l, tc_r, tc_m, tc_n, tc_o, tc_0, inR, true_and, and_true, ne_eq, not_true_eq_false, not_false_eq_true, true_imp_iff, false_imp_iff, lit_a, Nat.reduceAdd, or_true, true_or, or_false, false_or, Int.reduceEq, Int.reduceNe, Int.reduceLT, Int.reduceLE, Int.reduceNeg, Int.toNat_natCast, tg_nil, eq_self, lc0n, lc1n, lc2n, lc3n, lc4n, lc5n, lc6n, lc1i, lc2i, lc3i, lc4i, lc5i, lc6i, lc1r, lc2r, lc3r, lc4r, lc5r, lc6r, Nat.add_zero]
    refine q_sen5 hF u1 (fun μ hF => ?_)
    rw [er]
    refine wp2_go w2_431 ?_; simp only [v2_431, tg_istore, okS_10, stL_10, tg_iload, ldI_8, tg_bipush, tg_ishr, tg_aload_0, tg_iconst, tg_iv2, nLg_n, nLg_i, nLg_r, tc_c, tc_l, tc_r, tc_m, tc_n, tc_o, tc_0, inR, true_and, and_true, ne_eq, not_true_eq_false, not_false_eq_true, true_imp_iff, false_imp_iff, lit_a, Nat.reduceAdd, or_true, true_or, or_false, false_or, Int.reduceEq, Int.reduceNe, Int.reduceLT, Int.reduceLE, Int.reduceNeg, Int.toNat_natCast, tg_nil, eq_self, lc0n, lc1n, lc2n, lc3n, lc4n, lc5n, lc6n, lc1i, lc2i, lc3i, lc4i, lc5i, lc6i, lc1r, lc2r, lc3r, lc4r, lc5r, lc6r, Nat.add_zero]
    refine q_cnt3 hF (fun μ hF => ?_)
    refine wp2_go w2_443 ?_; simp only [v2_443, tg_is2, mc_1, nLg_n, nLg_i, nLg_r, tc_c, tc_l, tc_r, tc_m, tc_n, tc_o, tc_0, inR, true_and, and_true, ne_eq, not_true_eq_false, not_false_eq_true, true_imp_iff, false_imp_iff, lit_a, Nat.reduceAdd, or_true, true_or, or_false, false_or, Int.reduceEq, Int.reduceNe, Int.reduceLT, Int.reduceLE, Int.reduceNeg, Int.toNat_natCast, tg_nil, eq_self, lc0n, lc1n, lc2n, lc3n, lc4n, lc5n, lc6n, lc1i, lc2i, lc3i, lc4i, lc5i, lc6i, lc1r, lc2r, lc3r, lc4r, lc5r, lc6r, Nat.add_zero]
    repeat' (first | with_reducible apply And.intro | intro _)
    all_goals (try omega)
    refine c_low (by omega) ?_
    obtain ⟨w0, w1⟩ := lowF_b (iShr hh 6) (n := z 2) (by omega)
    generalize lowF (iShr hh 6) (z 2) = t0 at w0 w1
    obtain ⟨t, rfl⟩ := nat_of w0
    refine wp2_go w2_446 ?_; simp only [v2_446, tg_istore, okS_11, stL_11, tg_iload, ldI_10, tg_iconst, tg_ic_ne, tg_aload_0, ldI_9, ldI_11, tg_iv3, nLg_n, nLg_i, nLg_r, tc_c, tc_l, tc_r, tc_m, tc_n, tc_o, tc_0, inR, true_and, and_true, ne_eq, not_true_eq_false, not_false_eq_true, true_imp_iff, false_imp_iff, lit_a, Nat.reduceAdd, or_true, true_or, or_false, false_or, Int.reduceEq, Int.reduceNe, Int.reduceLT, Int.reduceLE, Int.reduceNeg, Int.toNat_natCast, tg_nil, eq_self, lc0n, lc1n, lc2n, lc3n, lc4n, lc5n, lc6n, lc1i, lc2i, lc3i, lc4i, lc5i, lc6i, lc1r, lc2r, lc3r, lc4r, lc5r, lc6r, Nat.add_zero]
    repeat' (first | with_reducible apply And.intro | intro _)
    all_goals (try omega)
    · rename_i h4
      refine m_bookN hF.1 u1 w1 (by omega) ?_
      refine wp2_go w2_462 ?_; simp only [v2_462, tg_bipush, tg_ic_ne, tg_iconst, tg_goto, nLg_n, nLg_i, nLg_r, tc_c, tc_l, tc_r, tc_m, tc_n, tc_o, tc_0, inR, true_and, and_true, ne_eq, not_true_eq_false, not_false_eq_true, true_imp_iff, false_imp_iff, lit_a, Nat.reduceAdd, or_true, true_or, or_false, false_or, Int.reduceEq, Int.reduceNe, Int.reduceLT, Int.reduceLE, Int.reduceNeg, Int.toNat_natCast, tg_nil, eq_self, lc0n, lc1n, lc2n, lc3n, lc4n, lc5n, lc6n, lc1i, lc2i, lc3i, lc4i, lc5i, lc6i, lc1r, lc2r, lc3r, lc4r, lc5r, lc6r, Nat.add_zero]
      refine wp2_go w2_508 ?_; simp only [v2_508, tg_istore, okS_5, stL_5, tg_iinc, ldI_7, okS_7, stL_7, tg_goto, nLg_n, nLg_i, nLg_r, tc_c, tc_l, tc_r, tc_m, tc_n, tc_o, tc_0, inR, true_and, and_true, ne_eq, not_true_eq_false, not_false_eq_true, true_imp_iff, false_imp_iff, lit_a, Nat.reduceAdd, or_true, true_or, or_false, false_or, Int.reduceEq, Int.reduceNe, Int.reduceLT, Int.reduceLE, Int.reduceNeg, Int.toNat_natCast, tg_nil, eq_self, lc0n, lc1n, lc2n, lc3n, lc4n, lc5n, lc6n, lc1i, lc2i, lc3i, lc4i, lc5i, lc6i, lc1r, lc2r, lc3r, lc4r, lc5r, lc6r, Nat.add_zero]
      repeat' (first | with_reducible apply And.intro | intro _)
      all_goals (try omega)
      exact ih (k + 1) (by omega) z μ X6 (some (.inl hh)) (some (.inl (s : Int))) (some (.inl (r : Int))) (some (.inl (t : Int))) X12 n6 trivial trivial trivial trivial n12 hF.1 h1 h3 h2
    · rename_i h4
      refine wp2_go w2_475 ?_; simp only [v2_475, tg_aload_0, tg_iload, ldI_9, ldI_11, tg_iv3, nLg_n, nLg_i, nLg_r, tc_c, tc_l, tc_r, tc_m, tc_n, tc_o, tc_0, inR, true_and, and_true, ne_eq, not_true_eq_false, not_false_eq_true, true_imp_iff, false_imp_iff, lit_a, Nat.reduceAdd, or_true, true_or, or_false, false_or, Int.reduceEq, Int.reduceNe, Int.reduceLT, Int.reduceLE, Int.reduceNeg, Int.toNat_natCast, tg_nil, eq_self, lc0n, lc1n, lc2n, lc3n, lc4n, lc5n, lc6n, lc1i, lc2i, lc3i, lc4i, lc5i, lc6i, lc1r, lc2r, lc3r, lc4r, lc5r, lc6r, Nat.add_zero]
      refine m_book hF.1 u1 w1 (by omega) (fun μ' hS' hk' => ?_)
      rw [er]
      have e9 : bookZ z s t (76 + 5 * s) = ((r + 1 : Nat) : Int) := by rw [bookZ_s, er]; omega
      have e8 : bookZ z s t (77 + 5 * s + r) = (t : Int) := bookZ_n z s r t er
      have eo : ∀ k, k < 76 → bookZ z s t k = z k := fun k h1 => bookZ_o z s k t (by omega) (by omega)
      refine wp2_go w2_483 ?_; simp only [v2_483, tg_iload, ldI_10, tg_iconst, tg_iadd, tg_ic_ne, tg_aload_0, ldI_9, tg_iv3, nLg_n, nLg_i, nLg_r, tc_c, tc_l, tc_r, tc_m, tc_n, tc_o, tc_0, inR, true_and, and_true, ne_eq, not_true_eq_false, not_false_eq_true, true_imp_iff, false_imp_iff, lit_a, Nat.reduceAdd, or_true, true_or, or_false, false_or, Int.reduceEq, Int.reduceNe, Int.reduceLT, Int.reduceLE, Int.reduceNeg, Int.toNat_natCast, tg_nil, eq_self, lc0n, lc1n, lc2n, lc3n, lc4n, lc5n, lc6n, lc1i, lc2i, lc3i, lc4i, lc5i, lc6i, lc1r, lc2r, lc3r, lc4r, lc5r, lc6r, Nat.add_zero]
      repeat' (first | with_reducible apply And.intro | intro _)
      all_goals (try omega)
      refine q_bkd (Fz_r hS') (by rw [eo 0 (by omega)]; exact u1) (by omega) (fun μ hF => ?_)
      rw [e8]
      refine wp2_go w2_498 ?_; simp only [v2_498, tg_iload, ldI_11, tg_ic_ne, tg_iconst, tg_goto, nLg_n, nLg_i, nLg_r, tc_c, tc_l, tc_r, tc_m, tc_n, tc_o, tc_0, inR, true_and, and_true, ne_eq, not_true_eq_false, not_false_eq_true, true_imp_iff, false_imp_iff, lit_a, Nat.reduceAdd, or_true, true_or, or_false, false_or, Int.reduceEq, Int.reduceNe, Int.reduceLT, Int.reduceLE, Int.reduceNeg, Int.toNat_natCast, tg_nil, eq_self, lc0n, lc1n, lc2n, lc3n, lc4n, lc5n, lc6n, lc1i, lc2i, lc3i, lc4i, lc5i, lc6i, lc1r, lc2r, lc3r, lc4r, lc5r, lc6r, Nat.add_zero]
      refine wp2_go w2_508 ?_; simp only [v2_508, tg_istore, okS_5, stL_5, tg_iinc, ldI_7, okS_7, stL_7, tg_goto, nLg_n, nLg_i, nLg_r, tc_c, tc_l, tc_r, tc_m, tc_n, tc_o, tc_0, inR, true_and, and_true, ne_eq, not_true_eq_false, not_false_eq_true, true_imp_iff, false_imp_iff, lit_a, Nat.reduceAdd, or_true, true_or, or_false, false_or, Int.reduceEq, Int.reduceNe, Int.reduceLT, Int.reduceLE, Int.reduceNeg, Int.toNat_natCast, tg_nil, eq_self, lc0n, lc1n, lc2n, lc3n, lc4n, lc5n, lc6n, lc1i, lc2i, lc3i, lc4i, lc5i, lc6i, lc1r, lc2r, lc3r, lc4r, lc5r, lc6r, Nat.add_zero]
      repeat' (first | with_reducible apply And.intro | intro _)
      all_goals (try omega)
      exact ih (k + 1) (by omega) (bookZ z s t) μ X6 (some (.inl hh)) (some (.inl (s : Int))) (some (.inl (r : Int))) (some (.inl (t : Int))) X12 n6 trivial trivial trivial trivial n12 hF.1 (by rw [eo 1 (by omega)]; exact h1) (by rw [eo 3 (by omega)]; exact h3) (by rw [eo 2 (by omega)]; exact h2)
/-- the notices -/
theorem bd_2 {y : Nat → Int} {L d na : Nat} {len : Nat → Nat} {Q : QT} {ln N : Nat} {l3 : Int} (hL : L ≤ 260) (hln : ln ≤ 6) (hN : 1 ≤ N ∧ N ≤ 8)
    (h : ∀ z μ, St z μ → z 1 ≤ 25 → z 3 = (ln : Int) → Q (.inl 1) μ) :
    ∀ j k : Nat, k + j = N → ∀ (z : Rw) (μ : Mem) (X8 X9 X10 X11 X12 : Option MV), nLg X8 → nLg X9 → nLg X10 → nLg X11 → nLg X12 → St z μ → z 1 ≤ 25 → z 3 = 0 → z 2 = (k : Int) →
      wp2 y L 0 (Call2 y L (d + 1)) 2 Q (0, na, len) 242 [some (.inr (.inr 0)), some (.inr (.inr 1)), some (.inl 0), some (.inl l3), some (.inl (ln : Int)), some (.inl 1), some (.inl (N : Int)), some (.inl (k : Int)), X8, X9, X10, X11, X12] [] μ := by
  intro j
  induction j with
  | zero =>
    intro k hj z μ X8 X9 X10 X11 X12 n8 n9 n10 n11 n12 hS h1 h3 h2
    obtain rfl : k = N := by omega
    refine wp2_go w2_242 ?_; simp only [v2_242, tg_iload, ldI_7, ldI_6, tg_ic_ge, ldI_5, tg_if_eq, tg_aload_1, tg_iload_2, tg_bipush, tg_iadd, tg_is2, mc_0, nLg_n, nLg_i, nLg_r, tc_c, tc_l, tc_r, tc_m, tc_n, tc_o, tc_0, inR, true_and, and_true, ne_eq, not_true_eq_false, not_false_eq_true, true_imp_iff, false_imp_iff, lit_a, Nat.reduceAdd, or_true, true_or, or_false, false_or, Int.reduceEq, Int.reduceNe, Int.reduceLT, Int.reduceLE, Int.reduceNeg, Int.toNat_natCast, tg_nil, eq_self, lc0n, lc1n, lc2n, lc3n, lc4n, lc5n, lc6n, lc1i, lc2i, lc3i, lc4i, lc5i, lc6i, lc1r, lc2r, lc3r, lc4r, lc5r, lc6r, Nat.add_zero]
    repeat' (first | with_reducible apply And.intro | intro _)
    all_goals (try omega)
    refine wp2_go w2_384 ?_; simp only [v2_384, tg_iconst, tg_istore, okS_7, stL_7, nLg_n, nLg_i, nLg_r, tc_c, tc_l, tc_r, tc_m, tc_n, tc_o, tc_0, inR, true_and, and_true, ne_eq, not_true_eq_false, not_false_eq_true, true_imp_iff, false_imp_iff, lit_a, Nat.reduceAdd, or_true, true_or, or_false, false_or, Int.reduceEq, Int.reduceNe, Int.reduceLT, Int.reduceLE, Int.reduceNeg, Int.toNat_natCast, tg_nil, eq_self, lc0n, lc1n, lc2n, lc3n, lc4n, lc5n, lc6n, lc1i, lc2i, lc3i, lc4i, lc5i, lc6i, lc1r, lc2r, lc3r, lc4r, lc5r, lc6r, Nat.add_zero]
    exact bd_3 hL hln h 30 0 (by omega) z μ (some (.inl (k : Int))) X8 X9 X10 X11 X12 trivial n8 n9 n10 n11 n12 hS h1 h3 (by omega)
  | succ j ih =>
    intro k hj z μ X8 X9 X10 X11 X12 n8 n9 n10 n11 n12 hS h1 h3 h2
    have hz := hS.1
    have q0 := hz.1
    refine wp2_go w2_242 ?_; simp only [v2_242, tg_iload, ldI_7, ldI_6, tg_ic_ge, ldI_5, tg_if_eq, tg_aload_1, tg_iload_2, tg_bipush, tg_iadd, tg_is2, mc_0, nLg_n, nLg_i, nLg_r, tc_c, tc_l, tc_r, tc_m, tc_n, tc_o, tc_0, inR, true_and, and_true, ne_eq, not_true_eq_false, not_false_eq_true, true_imp_iff, false_imp_iff, lit_a, Nat.reduceAdd, or_true, true_or, or_false, false_or, Int.reduceEq, Int.reduceNe, Int.reduceLT, Int.reduceLE, Int.reduceNeg, Int.toNat_natCast, tg_nil, eq_self, lc0n, lc1n, lc2n, lc3n, lc4n, lc5n, lc6n, lc1i, lc2i, lc3i, lc4i, lc5i, lc6i, lc1r, lc2r, lc3r, lc4r, lc5r, lc6r, Nat.add_zero]
    repeat' (first | with_reducible apply And.intro | intro _)
    all_goals (try omega)
    refine c_cell hL (by omega) ?_
    generalize cellF y L _ = hh
    refine wp2_go w2_265 ?_; simp only [v2_265, tg_istore, okS_8, stL_8, tg_iconst, tg_iload, ldI_8, tg_bipush, tg_ishr, tg_is2, mc_1, nLg_n, nLg_i, nLg_r, tc_c, tc_l, tc_r, tc_m, tc_n, tc_o, tc_0, inR, true_and, and_true, ne_eq, not_true_eq_false, not_false_eq_true, true_imp_iff, false_imp_iff, lit_a, Nat.reduceAdd, or_true, true_or, or_false, false_or, Int.reduceEq, Int.reduceNe, Int.reduceLT, Int.reduceLE, Int.reduceNeg, Int.toNat_natCast, tg_nil, eq_self, lc0n, lc1n, lc2n, lc3n, lc4n, lc5n, lc6n, lc1i, lc2i, lc3i, lc4i, lc5i, lc6i, lc1r, lc2r, lc3r, lc4r, lc5r, lc6r, Nat.add_zero]
    repeat' (first | with_reducible apply And.intro | intro _)
    all_goals (try omega)
    refine c_low (by omega) ?_
    obtain ⟨u0, u1⟩ := lowF_b (iShr hh 8) (n := 3) (by omega)
    generalize lowF (iShr hh 8) 3 = v1 at u0 u1
    have p289 : ∀ M : Int, (M = 120 ∨ M = 25) → wp2 y L 0 (Call2 y L (d + 1)) 2 Q (0, na, len) 289 [some (.inr (.inr 0)), some (.inr (.inr 1)), some (.inl 0), some (.inl l3), some (.inl (ln : Int)), some (.inl 1), some (.inl (N : Int)), some (.inl (k : Int)), some (.inl hh), X9, X10, X11, X12] [.inl M, .inl hh, .inl 1] μ := by
      intro M hM
      refine wp2_go w2_289 ?_; simp only [v2_289, tg_is2, mc_1, nLg_n, nLg_i, nLg_r, tc_c, tc_l, tc_r, tc_m, tc_n, tc_o, tc_0, inR, true_and, and_true, ne_eq, not_true_eq_false, not_false_eq_true, true_imp_iff, false_imp_iff, lit_a, Nat.reduceAdd, or_true, true_or, or_false, false_or, Int.reduceEq, Int.reduceNe, Int.reduceLT, Int.reduceLE, Int.reduceNeg, Int.toNat_natCast, tg_nil, eq_self, lc0n, lc1n, lc2n, lc3n, lc4n, lc5n, lc6n, lc1i, lc2i, lc3i, lc4i, lc5i, lc6i, lc1r, lc2r, lc3r, lc4r, lc5r, lc6r, Nat.add_zero]
      repeat' (first | with_reducible apply And.intro | intro _)
      all_goals (try omega)
      refine c_low (by omega) ?_
      obtain ⟨a0, a1⟩ := lowF_b hh (n := M) (by omega)
      generalize lowF hh M = v at a0 a1
      refine wp2_go w2_292 ?_; simp only [v2_292, tg_iadd, tg_istore, okS_9, stL_9, tg_iconst, tg_iload, ldI_8, tg_bipush, tg_ishr, tg_is2, mc_1, nLg_n, nLg_i, nLg_r, tc_c, tc_l, tc_r, tc_m, tc_n, tc_o, tc_0, inR, true_and, and_true, ne_eq, not_true_eq_false, not_false_eq_true, true_imp_iff, false_imp_iff, lit_a, Nat.reduceAdd, or_true, true_or, or_false, false_or, Int.reduceEq, Int.reduceNe, Int.reduceLT, Int.reduceLE, Int.reduceNeg, Int.toNat_natCast, tg_nil, eq_self, lc0n, lc1n, lc2n, lc3n, lc4n, lc5n, lc6n, lc1i, lc2i, lc3i, lc4i, lc5i, lc6i, lc1r, lc2r, lc3r, lc4r, lc5r, lc6r, Nat.add_zero]
      repeat' (first | with_reducible apply And.intro | intro _)
      all_goals (try omega)
      refine c_low (by omega) ?_
      obtain ⟨b0, b1⟩ := lowF_b (iShr hh 10) (n := 63) (by omega)
      generalize lowF (iShr hh 10) 63 = g at b0 b1
      refine wp2_go w2_306 ?_; simp only [v2_306, tg_iadd, tg_istore, okS_10, stL_10, tg_aload_0, tg_iconst, tg_iv2, nLg_n, nLg_i, nLg_r, tc_c, tc_l, tc_r, tc_m, tc_n, tc_o, tc_0, inR, true_and, and_true, ne_eq, not_true_eq_false, not_false_eq_true, true_imp_iff, false_imp_iff, lit_a, Nat.reduceAdd, or_true, true_or, or_false, false_or, Int.reduceEq, Int.reduceNe, Int.reduceLT, Int.reduceLE, Int.reduceNeg, Int.toNat_natCast, tg_nil, eq_self, lc0n, lc1n, lc2n, lc3n, lc4n, lc5n, lc6n, lc1i, lc2i, lc3i, lc4i, lc5i, lc6i, lc1r, lc2r, lc3r, lc4r, lc5r, lc6r, Nat.add_zero]
      refine q_cnt3 (Fz_r hS) (fun μ hF => ?_)
      rw [h2]
      refine wp2_go w2_314 ?_; simp only [v2_314, tg_bipush, tg_ic_eq, tg_aload_0, tg_iload, ldI_9, ldI_10, tg_iv3, nLg_n, nLg_i, nLg_r, tc_c, tc_l, tc_r, tc_m, tc_n, tc_o, tc_0, inR, true_and, and_true, ne_eq, not_true_eq_false, not_false_eq_true, true_imp_iff, false_imp_iff, lit_a, Nat.reduceAdd, or_true, true_or, or_false, false_or, Int.reduceEq, Int.reduceNe, Int.reduceLT, Int.reduceLE, Int.reduceNeg, Int.toNat_natCast, tg_nil, eq_self, lc0n, lc1n, lc2n, lc3n, lc4n, lc5n, lc6n, lc1i, lc2i, lc3i, lc4i, lc5i, lc6i, lc1r, lc2r, lc3r, lc4r, lc5r, lc6r, Nat.add_zero]
      repeat' (first | with_reducible apply And.intro | intro _)
      all_goals (try omega)
      refine m_notice hF.1 (by omega) (by omega) (by omega) (fun μ' hS' hk' => ?_)
      rw [h2]
      have ek : (z 2).toNat = k := by rw [h2, Int.toNat_natCast]
      have e2 : ntZ z (1 + v) (1 + g) 2 = ((k + 1 : Nat) : Int) := by unfold ntZ; rw [if_pos rfl]; omega
      have eo : ∀ k, k ≠ 2 → k < 196 → ntZ z (1 + v) (1 + g) k = z k := fun k h1 h2 => by unfold ntZ; rw [if_neg h1, if_neg (by omega), if_neg (by omega)]
      have e6 : ntZ z (1 + v) (1 + g) (196 + 2 * k) = 1 + v := by unfold ntZ; rw [ek, if_neg (by omega), if_pos rfl]
      have e7 : ntZ z (1 + v) (1 + g) (197 + 2 * k) = 1 + g := by unfold ntZ; rw [ek, if_neg (by omega), if_neg (by omega), if_pos rfl]
      have es : ((k + 1 : Nat) : Int) - 1 = (k : Int) := by omega
      refine wp2_go w2_327 ?_; simp only [v2_327, tg_aload_0, tg_iconst, tg_iv2, nLg_n, nLg_i, nLg_r, tc_c, tc_l, tc_r, tc_m, tc_n, tc_o, tc_0, inR, true_and, and_true, ne_eq, not_true_eq_false, not_false_eq_true, true_imp_iff, false_imp_iff, lit_a, Nat.reduceAdd, or_true, true_or, or_false, false_or, Int.reduceEq, Int.reduceNe, Int.reduceLT, Int.reduceLE, Int.reduceNeg, Int.toNat_natCast, tg_nil, eq_self, lc0n, lc1n, lc2n, lc3n, lc4n, lc5n, lc6n, lc1i, lc2i, lc3i, lc4i, lc5i, lc6i, lc1r, lc2r, lc3r, lc4r, lc5r, lc6r, Nat.add_zero]
      refine q_cnt3 (Fz_r hS') (fun μ hF => ?_)
      rw [e2]
      refine wp2_go w2_332 ?_; simp only [v2_332, tg_iconst, tg_isub, tg_ic_ne, tg_aload_0, tg_iv2, nLg_n, nLg_i, nLg_r, tc_c, tc_l, tc_r, tc_m, tc_n, tc_o, tc_0, inR, true_and, and_true, ne_eq, not_true_eq_false, not_false_eq_true, true_imp_iff, false_imp_iff, lit_a, Nat.reduceAdd, or_true, true_or, or_false, false_or, Int.reduceEq, Int.reduceNe, Int.reduceLT, Int.reduceLE, Int.reduceNeg, Int.toNat_natCast, tg_nil, eq_self, lc0n, lc1n, lc2n, lc3n, lc4n, lc5n, lc6n, lc1i, lc2i, lc3i, lc4i, lc5i, lc6i, lc1r, lc2r, lc3r, lc4r, lc5r, lc6r, Nat.add_zero, es]
      refine q_cnt3 hF (fun μ hF => ?_)
      rw [e2]
      refine wp2_go w2_343 ?_; simp only [v2_343, tg_iconst, tg_isub, tg_iv3, nLg_n, nLg_i, nLg_r, tc_c, tc_l, tc_r, tc_m, tc_n, tc_o, tc_0, inR, true_and, and_true, ne_eq, not_true_eq_false, not_false_eq_true, true_imp_iff, false_imp_iff, lit_a, Nat.reduceAdd, or_true, true_or, or_false, false_or, Int.reduceEq, Int.reduceNe, Int.reduceLT, Int.reduceLE, Int.reduceNeg, Int.toNat_natCast, tg_nil, eq_self, lc0n, lc1n, lc2n, lc3n, lc4n, lc5n, lc6n, lc1i, lc2i, lc3i, lc4i, lc5i, lc6i, lc1r, lc2r, lc3r, lc4r, lc5r, lc6r, Nat.add_zero, es]
      refine q_ofN0 hF (by omega) (fun μ hF => ?_)
      rw [e6]
      refine wp2_go w2_349 ?_; simp only [v2_349, tg_iload, ldI_9, tg_ic_ne, tg_aload_0, tg_iconst, tg_iv2, nLg_n, nLg_i, nLg_r, tc_c, tc_l, tc_r, tc_m, tc_n, tc_o, tc_0, inR, true_and, and_true, ne_eq, not_true_eq_false, not_false_eq_true, true_imp_iff, false_imp_iff, lit_a, Nat.reduceAdd, or_true, true_or, or_false, false_or, Int.reduceEq, Int.reduceNe, Int.reduceLT, Int.reduceLE, Int.reduceNeg, Int.toNat_natCast, tg_nil, eq_self, lc0n, lc1n, lc2n, lc3n, lc4n, lc5n, lc6n, lc1i, lc2i, lc3i, lc4i, lc5i, lc6i, lc1r, lc2r, lc3r, lc4r, lc5r, lc6r, Nat.add_zero]
      refine q_cnt3 hF (fun μ hF => ?_)
      rw [e2]
      refine wp2_go w2_360 ?_; simp only [v2_360, tg_iconst, tg_isub, tg_iv3, nLg_n, nLg_i, nLg_r, tc_c, tc_l, tc_r, tc_m, tc_n, tc_o, tc_0, inR, true_and, and_true, ne_eq, not_true_eq_false, not_false_eq_true, true_imp_iff, false_imp_iff, lit_a, Nat.reduceAdd, or_true, true_or, or_false, false_or, Int.reduceEq, Int.reduceNe, Int.reduceLT, Int.reduceLE, Int.reduceNeg, Int.toNat_natCast, tg_nil, eq_self, lc0n, lc1n, lc2n, lc3n, lc4n, lc5n, lc6n, lc1i, lc2i, lc3i, lc4i, lc5i, lc6i, lc1r, lc2r, lc3r, lc4r, lc5r, lc6r, Nat.add_zero, es]
      refine q_ofN1 hF (by omega) (fun μ hF => ?_)
      rw [e7]
      refine wp2_go w2_366 ?_; simp only [v2_366, tg_iload, ldI_10, tg_ic_ne, nLg_n, nLg_i, nLg_r, tc_c, tc_l, tc_r, tc_m, tc_n, tc_o, tc_0, inR, true_and, and_true, ne_eq, not_true_eq_false, not_false_eq_true, true_imp_iff, false_imp_iff, lit_a, Nat.reduceAdd, or_true, true_or, or_false, false_or, Int.reduceEq, Int.reduceNe, Int.reduceLT, Int.reduceLE, Int.reduceNeg, Int.toNat_natCast, tg_nil, eq_self, lc0n, lc1n, lc2n, lc3n, lc4n, lc5n, lc6n, lc1i, lc2i, lc3i, lc4i, lc5i, lc6i, lc1r, lc2r, lc3r, lc4r, lc5r, lc6r, Nat.add_zero]
      refine wp2_go w2_371 ?_; simp only [v2_371, tg_iconst, tg_goto, nLg_n, nLg_i, nLg_r, tc_c, tc_l, tc_r, tc_m, tc_n, tc_o, tc_0, inR, true_and, and_true, ne_eq, not_true_eq_false, not_false_eq_true, true_imp_iff, false_imp_iff, lit_a, Nat.reduceAdd, or_true, true_or, or_false, false_or, Int.reduceEq, Int.reduceNe, Int.reduceLT, Int.reduceLE, Int.reduceNeg, Int.toNat_natCast, tg_nil, eq_self, lc0n, lc1n, lc2n, lc3n, lc4n, lc5n, lc6n, lc1i, lc2i, lc3i, lc4i, lc5i, lc6i, lc1r, lc2r, lc3r, lc4r, lc5r, lc6r, Nat.add_zero]
      refine wp2_go w2_376 ?_; simp only [v2_376, tg_istore, okS_5, stL_5, tg_iinc, ldI_7, okS_7, stL_7, tg_goto, nLg_n, nLg_i, nLg_r, tc_c, tc_l, tc_r, tc_m, tc_n, tc_o, tc_0, inR, true_and, and_true, ne_eq, not_true_eq_false, not_false_eq_true, true_imp_iff, false_imp_iff, lit_a, Nat.reduceAdd, or_true, true_or, or_false, false_or, Int.reduceEq, Int.reduceNe, Int.reduceLT, Int.reduceLE, Int.reduceNeg, Int.toNat_natCast, tg_nil, eq_self, lc0n, lc1n, lc2n, lc3n, lc4n, lc5n, lc6n, lc1i, lc2i, lc3i, lc4i, lc5i, lc6i, lc1r, lc2r, lc3r, lc4r, lc5r, lc6r, Nat.add_zero]
      repeat' (first | with_reducible apply And.intro | intro _)
      all_goals (try omega)
      exact ih (k + 1) (by omega) (ntZ z (1 + v) (1 + g)) μ (some (.inl hh)) (some (.inl (1 + v))) (some (.inl (1 + g))) X11 X12 trivial trivial trivial n11 n12 hF.1 (by rw [eo 1 (by omega) (by omega)]; exact h1) (by rw [eo 3 (by omega) (by omega)]; exact h3) e2
    refine wp2_go w2_279 ?_; simp only [v2_279, tg_if_ne, tg_bipush, tg_goto, nLg_n, nLg_i, nLg_r, tc_c, tc_l, tc_r, tc_m, tc_n, tc_o, tc_0, inR, true_and, and_true, ne_eq, not_true_eq_false, not_false_eq_true, true_imp_iff, false_imp_iff, lit_a, Nat.reduceAdd, or_true, true_or, or_false, false_or, Int.reduceEq, Int.reduceNe, Int.reduceLT, Int.reduceLE, Int.reduceNeg, Int.toNat_natCast, tg_nil, eq_self, lc0n, lc1n, lc2n, lc3n, lc4n, lc5n, lc6n, lc1i, lc2i, lc3i, lc4i, lc5i, lc6i, lc1r, lc2r, lc3r, lc4r, lc5r, lc6r, Nat.add_zero]
    repeat' (first | with_reducible apply And.intro | intro _)
    all_goals (try omega)
    · exact p289 120 (Or.inl rfl)
    · refine wp2_go w2_287 ?_; simp only [v2_287, tg_bipush, nLg_n, nLg_i, nLg_r, tc_c, tc_l, tc_r, tc_m, tc_n, tc_o, tc_0, inR, true_and, and_true, ne_eq, not_true_eq_false, not_false_eq_true, true_imp_iff, false_imp_iff, lit_a, Nat.reduceAdd, or_true, true_or, or_false, false_or, Int.reduceEq, Int.reduceNe, Int.reduceLT, Int.reduceLE, Int.reduceNeg, Int.toNat_natCast, tg_nil, eq_self, lc0n, lc1n, lc2n, lc3n, lc4n, lc5n, lc6n, lc1i, lc2i, lc3i, lc4i, lc5i, lc6i, lc1r, lc2r, lc3r, lc4r, lc5r, lc6r, Nat.add_zero]
      exact p289 25 (Or.inr rfl)
/-- the sentences -/
theorem sm_up {f : Nat → Int} {s : Nat} {v : Int} : ∀ n : Nat, sm (fun i => if i = s then v else f i) n = sm f n + (if s < n then v - f s else 0)
  | 0 => by simp [sm]
  | n + 1 => by
    rw [sm_s, sm_s, sm_up (f := f) (s := s) (v := v) n]
    rcases Nat.lt_trichotomy s n with h | h | h
    · rw [if_pos h, if_neg (by omega), if_pos (by omega)]; omega
    · subst h
      rw [if_neg (by omega), if_pos rfl, if_pos (by omega)]; omega
    · rw [if_neg (by omega), if_neg (by omega), if_neg (by omega)]; omega
theorem F_marked_e {z : Rw} {s : Nat} (hz : IZ z) (hM : MZ z) (hs : (s : Int) < z 0) : F_marked z (zm z s) = (s : Int) := by
  have e := zn_eq hz
  refine fsI_s (by omega) (decide_eq_true rfl) (fun j hj => decide_eq_false (fun q => ?_))
  have := hM.2 j s (by omega) hs q
  omega
theorem bd_1 {y : Nat → Int} {L d na : Nat} {len : Nat → Nat} {Q : QT} {ln sn : Nat} (hL : L ≤ 260) (hln : ln ≤ 6) (hsn : sn ≤ 23)
    (h : ∀ z μ, St z μ → z 1 ≤ 25 → z 3 = (ln : Int) → Q (.inl 1) μ) :
    ∀ j k : Nat, k + j = sn → ∀ (z : Rw) (μ : Mem) (X7 X8 X9 X10 X11 X12 : Option MV), nLg X7 → nLg X8 → nLg X9 → nLg X10 → nLg X11 → nLg X12 → St z μ → z 0 = ((k + 1 : Nat) : Int) → z 1 = ((k + 1 : Nat) : Int) → z 2 = 0 → z 3 = 0 →
      wp2 y L 0 (Call2 y L (d + 1)) 2 Q (0, na, len) 6 [some (.inr (.inr 0)), some (.inr (.inr 1)), some (.inl 0), some (.inl (sn : Int)), some (.inl (ln : Int)), some (.inl 1), some (.inl (k : Int)), X7, X8, X9, X10, X11, X12] [] μ := by
  intro j
  induction j with
  | zero =>
    intro k hj z μ X7 X8 X9 X10 X11 X12 n7 n8 n9 n10 n11 n12 hS h0 h1 h2 h3
    obtain rfl : k = sn := by omega
    refine wp2_go w2_6 ?_; simp only [v2_6, tg_iload, ldI_6, tg_iload_3, tg_ic_ge, ldI_5, tg_if_eq, tg_aload_1, tg_iload_2, tg_iadd, tg_is2, mc_0, nLg_n, nLg_i, nLg_r, tc_c, tc_l, tc_r, tc_m, tc_n, tc_o, tc_0, inR, true_and, and_true, ne_eq, not_true_eq_false, not_false_eq_true, true_imp_iff, false_imp_iff, lit_a, Nat.reduceAdd, or_true, true_or, or_false, false_or, Int.reduceEq, Int.reduceNe, Int.reduceLT, Int.reduceLE, Int.reduceNeg, Int.toNat_natCast, tg_nil, eq_self, lc0n, lc1n, lc2n, lc3n, lc4n, lc5n, lc6n, lc1i, lc2i, lc3i, lc4i, lc5i, lc6i, lc1r, lc2r, lc3r, lc4r, lc5r, lc6r, Nat.add_zero]
    repeat' (first | with_reducible apply And.intro | intro _)
    all_goals (try omega)
    refine wp2_go w2_222 ?_; simp only [v2_222, tg_iconst, tg_aload_1, tg_iload_2, tg_bipush, tg_iadd, tg_is2, mc_0, nLg_n, nLg_i, nLg_r, tc_c, tc_l, tc_r, tc_m, tc_n, tc_o, tc_0, inR, true_and, and_true, ne_eq, not_true_eq_false, not_false_eq_true, true_imp_iff, false_imp_iff, lit_a, Nat.reduceAdd, or_true, true_or, or_false, false_or, Int.reduceEq, Int.reduceNe, Int.reduceLT, Int.reduceLE, Int.reduceNeg, Int.toNat_natCast, tg_nil, eq_self, lc0n, lc1n, lc2n, lc3n, lc4n, lc5n, lc6n, lc1i, lc2i, lc3i, lc4i, lc5i, lc6i, lc1r, lc2r, lc3r, lc4r, lc5r, lc6r, Nat.add_zero]
    repeat' (first | with_reducible apply And.intro | intro _)
    all_goals (try omega)
    refine c_cell hL (by omega) ?_
    generalize cellF y L _ = hh
    refine wp2_go w2_231 ?_; simp only [v2_231, tg_bipush, tg_is2, mc_1, nLg_n, nLg_i, nLg_r, tc_c, tc_l, tc_r, tc_m, tc_n, tc_o, tc_0, inR, true_and, and_true, ne_eq, not_true_eq_false, not_false_eq_true, true_imp_iff, false_imp_iff, lit_a, Nat.reduceAdd, or_true, true_or, or_false, false_or, Int.reduceEq, Int.reduceNe, Int.reduceLT, Int.reduceLE, Int.reduceNeg, Int.toNat_natCast, tg_nil, eq_self, lc0n, lc1n, lc2n, lc3n, lc4n, lc5n, lc6n, lc1i, lc2i, lc3i, lc4i, lc5i, lc6i, lc1r, lc2r, lc3r, lc4r, lc5r, lc6r, Nat.add_zero]
    repeat' (first | with_reducible apply And.intro | intro _)
    all_goals (try omega)
    refine c_low (by omega) ?_
    obtain ⟨u0, u1⟩ := lowF_b hh (n := 8) (by omega)
    generalize lowF hh 8 = v at u0 u1
    obtain ⟨N, rfl⟩ := nat_of u0
    refine wp2_go w2_236 ?_; simp only [v2_236, tg_iadd, tg_istore, okS_6, stL_6, tg_iconst, okS_7, stL_7, nLg_n, nLg_i, nLg_r, tc_c, tc_l, tc_r, tc_m, tc_n, tc_o, tc_0, inR, true_and, and_true, ne_eq, not_true_eq_false, not_false_eq_true, true_imp_iff, false_imp_iff, lit_a, Nat.reduceAdd, or_true, true_or, or_false, false_or, Int.reduceEq, Int.reduceNe, Int.reduceLT, Int.reduceLE, Int.reduceNeg, Int.toNat_natCast, tg_nil, eq_self, lc0n, lc1n, lc2n, lc3n, lc4n, lc5n, lc6n, lc1i, lc2i, lc3i, lc4i, lc5i, lc6i, lc1r, lc2r, lc3r, lc4r, lc5r, lc6r, Nat.add_zero]
    repeat' (first | with_reducible apply And.intro | intro _)
    all_goals (try omega)
    exact bd_2 (N := 1 + N) hL hln (by omega) h (1 + N) 0 (by omega) z μ X8 X9 X10 X11 X12 n8 n9 n10 n11 n12 hS (by omega) h3 h2
  | succ j ih =>
    intro k hj z μ X7 X8 X9 X10 X11 X12 n7 n8 n9 n10 n11 n12 hS h0 h1 h2 h3
    have hz := hS.1
    have q0 := hz.1
    have ez := zn_eq hz
    have ek : zn z = k + 1 := by omega
    refine wp2_go w2_6 ?_; simp only [v2_6, tg_iload, ldI_6, tg_iload_3, tg_ic_ge, ldI_5, tg_if_eq, tg_aload_1, tg_iload_2, tg_iadd, tg_is2, mc_0, nLg_n, nLg_i, nLg_r, tc_c, tc_l, tc_r, tc_m, tc_n, tc_o, tc_0, inR, true_and, and_true, ne_eq, not_true_eq_false, not_false_eq_true, true_imp_iff, false_imp_iff, lit_a, Nat.reduceAdd, or_true, true_or, or_false, false_or, Int.reduceEq, Int.reduceNe, Int.reduceLT, Int.reduceLE, Int.reduceNeg, Int.toNat_natCast, tg_nil, eq_self, lc0n, lc1n, lc2n, lc3n, lc4n, lc5n, lc6n, lc1i, lc2i, lc3i, lc4i, lc5i, lc6i, lc1r, lc2r, lc3r, lc4r, lc5r, lc6r, Nat.add_zero]
    repeat' (first | with_reducible apply And.intro | intro _)
    all_goals (try omega)
    refine c_cell hL (by omega) ?_
    generalize cellF y L _ = hh
    refine wp2_go w2_25 ?_; simp only [v2_25, tg_istore, okS_7, stL_7, tg_aload_0, tg_iconst, tg_iv2, nLg_n, nLg_i, nLg_r, tc_c, tc_l, tc_r, tc_m, tc_n, tc_o, tc_0, inR, true_and, and_true, ne_eq, not_true_eq_false, not_false_eq_true, true_imp_iff, false_imp_iff, lit_a, Nat.reduceAdd, or_true, true_or, or_false, false_or, Int.reduceEq, Int.reduceNe, Int.reduceLT, Int.reduceLE, Int.reduceNeg, Int.toNat_natCast, tg_nil, eq_self, lc0n, lc1n, lc2n, lc3n, lc4n, lc5n, lc6n, lc1i, lc2i, lc3i, lc4i, lc5i, lc6i, lc1r, lc2r, lc3r, lc4r, lc5r, lc6r, Nat.add_zero]
    refine q_cnt0 (Fz_r hS) (fun μ hF => ?_)
    rw [h0]
    refine wp2_go w2_32 ?_; simp only [v2_32, tg_istore, okS_8, stL_8, tg_iload, ldI_7, ldI_8, tg_iconst, tg_iadd, tg_is2, mc_1, nLg_n, nLg_i, nLg_r, tc_c, tc_l, tc_r, tc_m, tc_n, tc_o, tc_0, inR, true_and, and_true, ne_eq, not_true_eq_false, not_false_eq_true, true_imp_iff, false_imp_iff, lit_a, Nat.reduceAdd, or_true, true_or, or_false, false_or, Int.reduceEq, Int.reduceNe, Int.reduceLT, Int.reduceLE, Int.reduceNeg, Int.toNat_natCast, tg_nil, eq_self, lc0n, lc1n, lc2n, lc3n, lc4n, lc5n, lc6n, lc1i, lc2i, lc3i, lc4i, lc5i, lc6i, lc1r, lc2r, lc3r, lc4r, lc5r, lc6r, Nat.add_zero]
    repeat' (first | with_reducible apply And.intro | intro _)
    all_goals (try omega)
    refine c_low (by omega) ?_
    obtain ⟨u0, u1⟩ := lowF_b hh (n := ((k + 2 : Nat) : Int)) (by omega)
    generalize lowF hh ((k + 2 : Nat) : Int) = p0 at u0 u1
    obtain ⟨p, rfl⟩ := nat_of u0
    refine wp2_go w2_43 ?_; simp only [v2_43, tg_istore, okS_9, stL_9, tg_iconst, tg_iload, ldI_7, tg_ishr, tg_bipush, tg_is2, mc_1, nLg_n, nLg_i, nLg_r, tc_c, tc_l, tc_r, tc_m, tc_n, tc_o, tc_0, inR, true_and, and_true, ne_eq, not_true_eq_false, not_false_eq_true, true_imp_iff, false_imp_iff, lit_a, Nat.reduceAdd, or_true, true_or, or_false, false_or, Int.reduceEq, Int.reduceNe, Int.reduceLT, Int.reduceLE, Int.reduceNeg, Int.toNat_natCast, tg_nil, eq_self, lc0n, lc1n, lc2n, lc3n, lc4n, lc5n, lc6n, lc1i, lc2i, lc3i, lc4i, lc5i, lc6i, lc1r, lc2r, lc3r, lc4r, lc5r, lc6r, Nat.add_zero]
    repeat' (first | with_reducible apply And.intro | intro _)
    all_goals (try omega)
    refine c_low (by omega) ?_
    obtain ⟨c0, c1⟩ := lowF_b (iShr hh 14) (n := 3) (by omega)
    generalize lowF (iShr hh 14) 3 = v1 at c0 c1
    have p70 : ∀ M : Int, (M = 300 ∨ M = 30) → wp2 y L 0 (Call2 y L (d + 1)) 2 Q (0, na, len) 70 [some (.inr (.inr 0)), some (.inr (.inr 1)), some (.inl 0), some (.inl (sn : Int)), some (.inl (ln : Int)), some (.inl 1), some (.inl (k : Int)), some (.inl hh), some (.inl ((k + 1 : Nat) : Int)), some (.inl (p : Int)), X10, X11, X12] [.inl M, .inl (iShr hh 5), .inl 1] μ := by
      intro M hM
      refine wp2_go w2_70 ?_; simp only [v2_70, tg_is2, mc_1, nLg_n, nLg_i, nLg_r, tc_c, tc_l, tc_r, tc_m, tc_n, tc_o, tc_0, inR, true_and, and_true, ne_eq, not_true_eq_false, not_false_eq_true, true_imp_iff, false_imp_iff, lit_a, Nat.reduceAdd, or_true, true_or, or_false, false_or, Int.reduceEq, Int.reduceNe, Int.reduceLT, Int.reduceLE, Int.reduceNeg, Int.toNat_natCast, tg_nil, eq_self, lc0n, lc1n, lc2n, lc3n, lc4n, lc5n, lc6n, lc1i, lc2i, lc3i, lc4i, lc5i, lc6i, lc1r, lc2r, lc3r, lc4r, lc5r, lc6r, Nat.add_zero]
      repeat' (first | with_reducible apply And.intro | intro _)
      all_goals (try omega)
      refine c_low (by omega) ?_
      obtain ⟨a0, a1⟩ := lowF_b (iShr hh 5) (n := M) (by omega)
      generalize lowF (iShr hh 5) M = v at a0 a1
      refine wp2_go w2_73 ?_; simp only [v2_73, tg_iadd, tg_istore, okS_10, stL_10, tg_aload_0, tg_iload, ldI_9, ldI_10, tg_iv3, nLg_n, nLg_i, nLg_r, tc_c, tc_l, tc_r, tc_m, tc_n, tc_o, tc_0, inR, true_and, and_true, ne_eq, not_true_eq_false, not_false_eq_true, true_imp_iff, false_imp_iff, lit_a, Nat.reduceAdd, or_true, true_or, or_false, false_or, Int.reduceEq, Int.reduceNe, Int.reduceLT, Int.reduceLE, Int.reduceNeg, Int.toNat_natCast, tg_nil, eq_self, lc0n, lc1n, lc2n, lc3n, lc4n, lc5n, lc6n, lc1i, lc2i, lc3i, lc4i, lc5i, lc6i, lc1r, lc2r, lc3r, lc4r, lc5r, lc6r, Nat.add_zero]
      refine m_putIn hF.1 (by omega) (by omega) (by omega) (by omega) (fun w μ' hw hS' hk' => ?_)
      obtain ⟨g0, g1, gh, -, -, g4, g5, g6, g7⟩ := hw
      have w0 : w 0 = ((k + 2 : Nat) : Int) := by rw [g0]; omega
      have w1 : w 1 = ((k + 2 : Nat) : Int) := by rw [g1]; omega
      have w2 : w 2 = 0 := by rw [gh 2 (by omega)]; exact h2
      have w3 : w 3 = 0 := by rw [gh 3 (by omega)]; exact h3
      have g4 : zm w p = z 1 := g4
      have g5 : zl w p = 1 + v := g5
      have g6 : zb w p = bI (p = 0) := g6
      have hp : (p : Int) < w 0 := by omega
      have em := F_marked_e hS'.1 hS'.2.1 hp
      rw [g4] at em
      have p216 : ∀ (w : Rw) (μ : Mem) (X12 : Option MV), nLg X12 → St w μ → w 0 = ((k + 2 : Nat) : Int) → w 1 = ((k + 2 : Nat) : Int) → w 2 = 0 → w 3 = 0 → wp2 y L 0 (Call2 y L (d + 1)) 2 Q (0, na, len) 216 [some (.inr (.inr 0)), some (.inr (.inr 1)), some (.inl 0), some (.inl (sn : Int)), some (.inl (ln : Int)), some (.inl 1), some (.inl (k : Int)), some (.inl hh), some (.inl ((k + 1 : Nat) : Int)), some (.inl (p : Int)), some (.inl (1 + v)), some (.inl (z 1)), X12] [] μ := by
        intro w μ X12 n12 hS w0 w1 w2 w3
        refine wp2_go w2_216 ?_; simp only [v2_216, tg_iinc, ldI_6, okS_6, stL_6, tg_goto, nLg_n, nLg_i, nLg_r, tc_c, tc_l, tc_r, tc_m, tc_n, tc_o, tc_0, inR, true_and, and_true, ne_eq, not_true_eq_false, not_false_eq_true, true_imp_iff, false_imp_iff, lit_a, Nat.reduceAdd, or_true, true_or, or_false, false_or, Int.reduceEq, Int.reduceNe, Int.reduceLT, Int.reduceLE, Int.reduceNeg, Int.toNat_natCast, tg_nil, eq_self, lc0n, lc1n, lc2n, lc3n, lc4n, lc5n, lc6n, lc1i, lc2i, lc3i, lc4i, lc5i, lc6i, lc1r, lc2r, lc3r, lc4r, lc5r, lc6r, Nat.add_zero]
        repeat' (first | with_reducible apply And.intro | intro _)
        all_goals (try omega)
        exact ih (k + 1) (by omega) w μ (some (.inl hh)) (some (.inl ((k + 1 : Nat) : Int))) (some (.inl (p : Int))) (some (.inl (1 + v))) (some (.inl (z 1))) X12 trivial trivial trivial trivial trivial n12 hS w0 w1 w2 w3
      refine wp2_go w2_84 ?_; simp only [v2_84, tg_istore, okS_11, stL_11, tg_iload, ldI_11, tg_if_lt, tg_aload_0, tg_iconst, tg_iv2, nLg_n, nLg_i, nLg_r, tc_c, tc_l, tc_r, tc_m, tc_n, tc_o, tc_0, inR, true_and, and_true, ne_eq, not_true_eq_false, not_false_eq_true, true_imp_iff, false_imp_iff, lit_a, Nat.reduceAdd, or_true, true_or, or_false, false_or, Int.reduceEq, Int.reduceNe, Int.reduceLT, Int.reduceLE, Int.reduceNeg, Int.toNat_natCast, tg_nil, eq_self, lc0n, lc1n, lc2n, lc3n, lc4n, lc5n, lc6n, lc1i, lc2i, lc3i, lc4i, lc5i, lc6i, lc1r, lc2r, lc3r, lc4r, lc5r, lc6r, Nat.add_zero]
      repeat' (first | with_reducible apply And.intro | intro _)
      all_goals (try omega)
      refine q_cnt0 (Fz_r hS') (fun μ hF => ?_)
      rw [w0]
      refine wp2_go w2_96 ?_; simp only [v2_96, tg_iload, ldI_8, tg_iconst, tg_iadd, tg_ic_ne, tg_aload_0, ldI_9, tg_iv3, nLg_n, nLg_i, nLg_r, tc_c, tc_l, tc_r, tc_m, tc_n, tc_o, tc_0, inR, true_and, and_true, ne_eq, not_true_eq_false, not_false_eq_true, true_imp_iff, false_imp_iff, lit_a, Nat.reduceAdd, or_true, true_or, or_false, false_or, Int.reduceEq, Int.reduceNe, Int.reduceLT, Int.reduceLE, Int.reduceNeg, Int.toNat_natCast, tg_nil, eq_self, lc0n, lc1n, lc2n, lc3n, lc4n, lc5n, lc6n, lc1i, lc2i, lc3i, lc4i, lc5i, lc6i, lc1r, lc2r, lc3r, lc4r, lc5r, lc6r, Nat.add_zero]
      refine q_sen0 hF hp (fun μ hF => ?_)
      rw [g4]
      refine wp2_go w2_110 ?_; simp only [v2_110, tg_iload, ldI_11, tg_ic_ne, tg_aload_0, ldI_9, tg_iconst, tg_iv3, nLg_n, nLg_i, nLg_r, tc_c, tc_l, tc_r, tc_m, tc_n, tc_o, tc_0, inR, true_and, and_true, ne_eq, not_true_eq_false, not_false_eq_true, true_imp_iff, false_imp_iff, lit_a, Nat.reduceAdd, or_true, true_or, or_false, false_or, Int.reduceEq, Int.reduceNe, Int.reduceLT, Int.reduceLE, Int.reduceNeg, Int.toNat_natCast, tg_nil, eq_self, lc0n, lc1n, lc2n, lc3n, lc4n, lc5n, lc6n, lc1i, lc2i, lc3i, lc4i, lc5i, lc6i, lc1r, lc2r, lc3r, lc4r, lc5r, lc6r, Nat.add_zero]
      refine q_sen1 hF hp (fun μ hF => ?_)
      rw [g5]
      refine wp2_go w2_122 ?_; simp only [v2_122, tg_iload, ldI_10, tg_ic_ne, tg_aload_0, ldI_9, tg_iconst, tg_iv3, nLg_n, nLg_i, nLg_r, tc_c, tc_l, tc_r, tc_m, tc_n, tc_o, tc_0, inR, true_and, and_true, ne_eq, not_true_eq_false, not_false_eq_true, true_imp_iff, false_imp_iff, lit_a, Nat.reduceAdd, or_true, true_or, or_false, false_or, Int.reduceEq, Int.reduceNe, Int.reduceLT, Int.reduceLE, Int.reduceNeg, Int.toNat_natCast, tg_nil, eq_self, lc0n, lc1n, lc2n, lc3n, lc4n, lc5n, lc6n, lc1i, lc2i, lc3i, lc4i, lc5i, lc6i, lc1r, lc2r, lc3r, lc4r, lc5r, lc6r, Nat.add_zero]
      refine q_sen5 hF hp (fun μ hF => ?_)
      rw [g7]
      refine wp2_go w2_134 ?_; simp only [v2_134, tg_if_ne, tg_aload_0, tg_iload, ldI_11, tg_iv2, nLg_n, nLg_i, nLg_r, tc_c, tc_l, tc_r, tc_m, tc_n, tc_o, tc_0, inR, true_and, and_true, ne_eq, not_true_eq_false, not_false_eq_true, true_imp_iff, false_imp_iff, lit_a, Nat.reduceAdd, or_true, true_or, or_false, false_or, Int.reduceEq, Int.reduceNe, Int.reduceLT, Int.reduceLE, Int.reduceNeg, Int.toNat_natCast, tg_nil, eq_self, lc0n, lc1n, lc2n, lc3n, lc4n, lc5n, lc6n, lc1i, lc2i, lc3i, lc4i, lc5i, lc6i, lc1r, lc2r, lc3r, lc4r, lc5r, lc6r, Nat.add_zero]
      refine q_marked hF ⟨by omega, by omega⟩ (fun μ hF => ?_)
      rw [em]
      refine wp2_go w2_143 ?_; simp only [v2_143, tg_iload, ldI_9, tg_ic_ne, tg_iconst, tg_goto, nLg_n, nLg_i, nLg_r, tc_c, tc_l, tc_r, tc_m, tc_n, tc_o, tc_0, inR, true_and, and_true, ne_eq, not_true_eq_false, not_false_eq_true, true_imp_iff, false_imp_iff, lit_a, Nat.reduceAdd, or_true, true_or, or_false, false_or, Int.reduceEq, Int.reduceNe, Int.reduceLT, Int.reduceLE, Int.reduceNeg, Int.toNat_natCast, tg_nil, eq_self, lc0n, lc1n, lc2n, lc3n, lc4n, lc5n, lc6n, lc1i, lc2i, lc3i, lc4i, lc5i, lc6i, lc1r, lc2r, lc3r, lc4r, lc5r, lc6r, Nat.add_zero]
      refine wp2_go w2_153 ?_; simp only [v2_153, tg_istore, okS_5, stL_5, tg_iload, ldI_5, tg_if_eq, ldI_9, tg_if_le, ldI_7, tg_bipush, tg_ishr, tg_iconst, tg_is2, mc_1, nLg_n, nLg_i, nLg_r, tc_c, tc_l, tc_r, tc_m, tc_n, tc_o, tc_0, inR, true_and, and_true, ne_eq, not_true_eq_false, not_false_eq_true, true_imp_iff, false_imp_iff, lit_a, Nat.reduceAdd, or_true, true_or, or_false, false_or, Int.reduceEq, Int.reduceNe, Int.reduceLT, Int.reduceLE, Int.reduceNeg, Int.toNat_natCast, tg_nil, eq_self, lc0n, lc1n, lc2n, lc3n, lc4n, lc5n, lc6n, lc1i, lc2i, lc3i, lc4i, lc5i, lc6i, lc1r, lc2r, lc3r, lc4r, lc5r, lc6r, Nat.add_zero]
      repeat' (first | with_reducible apply And.intro | intro _)
      all_goals (try omega)
      · refine c_low (by omega) ?_
        obtain ⟨b0, b1⟩ := lowF_b (iShr hh 16) (n := 3) (by omega)
        generalize lowF (iShr hh 16) 3 = v3 at b0 b1
        refine wp2_go w2_174 ?_; simp only [v2_174, tg_if_ne, tg_aload_0, tg_iconst, tg_iv2, nLg_n, nLg_i, nLg_r, tc_c, tc_l, tc_r, tc_m, tc_n, tc_o, tc_0, inR, true_and, and_true, ne_eq, not_true_eq_false, not_false_eq_true, true_imp_iff, false_imp_iff, lit_a, Nat.reduceAdd, or_true, true_or, or_false, false_or, Int.reduceEq, Int.reduceNe, Int.reduceLT, Int.reduceLE, Int.reduceNeg, Int.toNat_natCast, tg_nil, eq_self, lc0n, lc1n, lc2n, lc3n, lc4n, lc5n, lc6n, lc1i, lc2i, lc3i, lc4i, lc5i, lc6i, lc1r, lc2r, lc3r, lc4r, lc5r, lc6r, Nat.add_zero]
        repeat' (first | with_reducible apply And.intro | intro _)
        all_goals (try omega)
        · refine q_cnt2 hF (fun μ hF => ?_)
          have z0 : zb w p = 0 := by rw [g6]; unfold bI; rw [if_neg (by omega)]
          refine wp2_go w2_182 ?_; simp only [v2_182, tg_istore, okS_12, stL_12, tg_aload_0, tg_iload, ldI_9, tg_iconst, tg_iv3, nLg_n, nLg_i, nLg_r, tc_c, tc_l, tc_r, tc_m, tc_n, tc_o, tc_0, inR, true_and, and_true, ne_eq, not_true_eq_false, not_false_eq_true, true_imp_iff, false_imp_iff, lit_a, Nat.reduceAdd, or_true, true_or, or_false, false_or, Int.reduceEq, Int.reduceNe, Int.reduceLT, Int.reduceLE, Int.reduceNeg, Int.toNat_natCast, tg_nil, eq_self, lc0n, lc1n, lc2n, lc3n, lc4n, lc5n, lc6n, lc1i, lc2i, lc3i, lc4i, lc5i, lc6i, lc1r, lc2r, lc3r, lc4r, lc5r, lc6r, Nat.add_zero]
          refine m_chapter hF.1 hp (by omega) (Or.inr rfl) (by omega) (fun μ' hS2 hk2 => ?_)
          have en := zn_eq hF.1.1
          have ec : sm (zb (uz w (6 + 3 * p) 1)) (zn w) = sm (zb w) (zn w) + 1 := by
            rw [zb_sum, sm_up, if_pos (by omega), z0]
            omega
          have eo : ∀ x, x ≠ 6 + 3 * p → uz w (6 + 3 * p) 1 x = w x := fun x hx => uz_o w 1 hx
          have e1 : zb (uz w (6 + 3 * p) 1) p = 1 := uz_s w _ 1
          rw [ec]
          refine wp2_go w2_191 ?_; simp only [v2_191, tg_iload, ldI_12, tg_iconst, tg_iadd, tg_ic_ne, tg_aload_0, ldI_9, tg_iv3, nLg_n, nLg_i, nLg_r, tc_c, tc_l, tc_r, tc_m, tc_n, tc_o, tc_0, inR, true_and, and_true, ne_eq, not_true_eq_false, not_false_eq_true, true_imp_iff, false_imp_iff, lit_a, Nat.reduceAdd, or_true, true_or, or_false, false_or, Int.reduceEq, Int.reduceNe, Int.reduceLT, Int.reduceLE, Int.reduceNeg, Int.toNat_natCast, tg_nil, eq_self, lc0n, lc1n, lc2n, lc3n, lc4n, lc5n, lc6n, lc1i, lc2i, lc3i, lc4i, lc5i, lc6i, lc1r, lc2r, lc3r, lc4r, lc5r, lc6r, Nat.add_zero]
          refine q_sen4 (Fz_r hS2) (by rw [eo 0 (by omega)]; exact hp) (fun μ hF => ?_)
          rw [e1]
          refine wp2_go w2_205 ?_; simp only [v2_205, tg_iconst, tg_ic_ne, tg_goto, nLg_n, nLg_i, nLg_r, tc_c, tc_l, tc_r, tc_m, tc_n, tc_o, tc_0, inR, true_and, and_true, ne_eq, not_true_eq_false, not_false_eq_true, true_imp_iff, false_imp_iff, lit_a, Nat.reduceAdd, or_true, true_or, or_false, false_or, Int.reduceEq, Int.reduceNe, Int.reduceLT, Int.reduceLE, Int.reduceNeg, Int.toNat_natCast, tg_nil, eq_self, lc0n, lc1n, lc2n, lc3n, lc4n, lc5n, lc6n, lc1i, lc2i, lc3i, lc4i, lc5i, lc6i, lc1r, lc2r, lc3r, lc4r, lc5r, lc6r, Nat.add_zero]
          refine wp2_go w2_214 ?_; simp only [v2_214, tg_istore, okS_5, stL_5, nLg_n, nLg_i, nLg_r, tc_c, tc_l, tc_r, tc_m, tc_n, tc_o, tc_0, inR, true_and, and_true, ne_eq, not_true_eq_false, not_false_eq_true, true_imp_iff, false_imp_iff, lit_a, Nat.reduceAdd, or_true, true_or, or_false, false_or, Int.reduceEq, Int.reduceNe, Int.reduceLT, Int.reduceLE, Int.reduceNeg, Int.toNat_natCast, tg_nil, eq_self, lc0n, lc1n, lc2n, lc3n, lc4n, lc5n, lc6n, lc1i, lc2i, lc3i, lc4i, lc5i, lc6i, lc1r, lc2r, lc3r, lc4r, lc5r, lc6r, Nat.add_zero]
          exact p216 _ _ (some (.inl (sm (zb w) (zn w)))) trivial hF.1 (by rw [eo 0 (by omega)]; exact w0) (by rw [eo 1 (by omega)]; exact w1) (by rw [eo 2 (by omega)]; exact w2) (by rw [eo 3 (by omega)]; exact w3)
        · exact p216 w μ X12 n12 hF.1 w0 w1 w2 w3
      · exact p216 w μ X12 n12 hF.1 w0 w1 w2 w3
    refine wp2_go w2_59 ?_; simp only [v2_59, tg_if_ne, tg_sipush, tg_goto, nLg_n, nLg_i, nLg_r, tc_c, tc_l, tc_r, tc_m, tc_n, tc_o, tc_0, inR, true_and, and_true, ne_eq, not_true_eq_false, not_false_eq_true, true_imp_iff, false_imp_iff, lit_a, Nat.reduceAdd, or_true, true_or, or_false, false_or, Int.reduceEq, Int.reduceNe, Int.reduceLT, Int.reduceLE, Int.reduceNeg, Int.toNat_natCast, tg_nil, eq_self, lc0n, lc1n, lc2n, lc3n, lc4n, lc5n, lc6n, lc1i, lc2i, lc3i, lc4i, lc5i, lc6i, lc1r, lc2r, lc3r, lc4r, lc5r, lc6r, Nat.add_zero]
    repeat' (first | with_reducible apply And.intro | intro _)
    all_goals (try omega)
    · exact p70 300 (Or.inl rfl)
    · refine wp2_go w2_68 ?_; simp only [v2_68, tg_bipush, nLg_n, nLg_i, nLg_r, tc_c, tc_l, tc_r, tc_m, tc_n, tc_o, tc_0, inR, true_and, and_true, ne_eq, not_true_eq_false, not_false_eq_true, true_imp_iff, false_imp_iff, lit_a, Nat.reduceAdd, or_true, true_or, or_false, false_or, Int.reduceEq, Int.reduceNe, Int.reduceLT, Int.reduceLE, Int.reduceNeg, Int.toNat_natCast, tg_nil, eq_self, lc0n, lc1n, lc2n, lc3n, lc4n, lc5n, lc6n, lc1i, lc2i, lc3i, lc4i, lc5i, lc6i, lc1r, lc2r, lc3r, lc4r, lc5r, lc6r, Nat.add_zero]
      exact p70 30 (Or.inr rfl)
theorem c_build {y : Nat → Int} {L d g na : Nat} {len : Nat → Nat} {Q : QT} {μ : Mem} {z : Rw} {ln sn : Nat} (hL : L ≤ 260) (hln : ln ≤ 6) (hsn : sn ≤ 23) (hS : St z μ) (h0 : z 0 = 1) (h1 : z 1 = 1) (h2 : z 2 = 0) (h3 : z 3 = 0)
    (h : ∀ z μ, St z μ → z 1 ≤ 25 → z 3 = (ln : Int) → Q (.inl 1) μ) : Call2 y L (d + 2) 2 [.inr (.inr 0), .inr (.inr 1), .inl 0, .inl (sn : Int), .inl (ln : Int)] (g, na, len) μ Q := by
  refine el_2 ?_
  refine wp2_go w2_0 ?_; simp only [v2_0, tg_iconst, tg_istore, okS_5, stL_5, okS_6, stL_6, nLg_n, nLg_i, nLg_r, tc_c, tc_l, tc_r, tc_m, tc_n, tc_o, tc_0, inR, true_and, and_true, ne_eq, not_true_eq_false, not_false_eq_true, true_imp_iff, false_imp_iff, lit_a, Nat.reduceAdd, or_true, true_or, or_false, false_or, Int.reduceEq, Int.reduceNe, Int.reduceLT, Int.reduceLE, Int.reduceNeg, Int.toNat_natCast, tg_nil, eq_self, lc0n, lc1n, lc2n, lc3n, lc4n, lc5n, lc6n, lc1i, lc2i, lc3i, lc4i, lc5i, lc6i, lc1r, lc2r, lc3r, lc4r, lc5r, lc6r, Nat.add_zero]
  exact bd_1 hL hln hsn h sn 0 (by omega) z μ none none none none none none trivial trivial trivial trivial trivial trivial hS h0 h1 h2 h3
