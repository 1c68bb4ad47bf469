/-! THE LAW: its loop, and the whole of it -/
-- the law's law: blocks [8, 13, 22, 32, 42, 56, 61, 68, 73, 77, 87, 90, 93, 95, 102, 116, 129, 138, 147, 150, 159, 167, 174, 187, 196, 208, 217, 242, 246, 256, 265, 266, 280, 284, 288, 289, 294, 313, 321, 332, 342, 350, 351, 356, 369, 384, 388, 400, 410, 418, 419, 424, 437, 445, 457, 464, 465, 470, 488, 496, 497, 507, 524, 525, 528, 533, 543, 552, 553, 560, 561, 566, 580, 592, 599, 600, 610, 621, 631, 640, 641, 651, 658, 659, 671, 680, 692, 695, 698, 705, 720, 730, 739, 751, 760, 764, 765, 773, 794, 797, 800, 802, 808, 816, 819]
theorem lw_loop {y : Nat → Int} {L d : Nat} {len : Nat → Nat} {Q : QT} (hL : L ≤ 260) (hlen : len 510 = 6) (hQ : ∀ μ', Q (.inl 1) μ') : ∀ j e g : Nat, e + j = 14 → g ≤ 27 + 26 * e → ∀ (z : Rw) (μ : Mem) (X4 X5 X6 X7 X8 X9 X10 X11 X12 : Option MV), nLg X4 → nLg X5 → nLg X6 → nLg X7 → nLg X8 → nLg X9 → nLg X10 → nLg X11 → nLg X12 → St z μ → 1 ≤ z 3 → z 1 ≤ 25 + e → wp2 y L 500 (Call2 y L (d + 3)) 8 Q (g, 1, len) 102 [some (.inr (.inr 1)), some (.inr (.inr 0)), some (.inr (.inr 510)), some (.inl (e : Int)), X4, X5, X6, X7, X8, X9, X10, X11, X12] [] μ := by
  intro j
  induction j with
  | zero =>
    intro e g he hg z μ X4 X5 X6 X7 X8 X9 X10 X11 X12 n4 n5 n6 n7 n8 n9 n10 n11 n12 hS h31 hz1
    refine wp2_go w8_102 ?_; simp only [v8_102, tg_iload_3, tg_bipush, tg_ic_ge, tg_aload_0, tg_iadd, tg_is2, mc_0, nLg_n, nLg_i, nLg_r, tc_c, tc_l, tc_r, tc_m, tc_n, tc_o, tc_0, inR, true_and, and_true, ne_eq, not_true_eq_false, not_false_eq_true, true_imp_iff, false_imp_iff, lit_a, Nat.reduceAdd, or_true, true_or, or_false, false_or, Int.reduceEq, Int.reduceNe, Int.reduceLT, Int.reduceLE, Int.reduceNeg, Int.toNat_natCast, tg_nil, eq_self, lc0n, lc1n, lc2n, lc3n, lc4n, lc5n, lc6n, lc1i, lc2i, lc3i, lc4i, lc5i, lc6i, lc1r, lc2r, lc3r, lc4r, lc5r, lc6r, Nat.add_zero]
    repeat' (first | with_reducible apply And.intro | intro _)
    all_goals (try omega)
    refine wp2_go w8_808 ?_; simp only [v8_808, tg_aload_1, tg_aload_0, tg_sipush, tg_is2, mc_0, nLg_n, nLg_i, nLg_r, tc_c, tc_l, tc_r, tc_m, tc_n, tc_o, tc_0, inR, true_and, and_true, ne_eq, not_true_eq_false, not_false_eq_true, true_imp_iff, false_imp_iff, lit_a, Nat.reduceAdd, or_true, true_or, or_false, false_or, Int.reduceEq, Int.reduceNe, Int.reduceLT, Int.reduceLE, Int.reduceNeg, Int.toNat_natCast, tg_nil, eq_self, lc0n, lc1n, lc2n, lc3n, lc4n, lc5n, lc6n, lc1i, lc2i, lc3i, lc4i, lc5i, lc6i, lc1r, lc2r, lc3r, lc4r, lc5r, lc6r, Nat.add_zero]
    repeat' (first | with_reducible apply And.intro | intro _)
    all_goals (try omega)
    refine c_cell hL (by omega) ?_
    refine wp2_go w8_816 ?_; simp only [v8_816, tg_is2, mc_7, nLg_n, nLg_i, nLg_r, tc_c, tc_l, tc_r, tc_m, tc_n, tc_o, tc_0, inR, true_and, and_true, ne_eq, not_true_eq_false, not_false_eq_true, true_imp_iff, false_imp_iff, lit_a, Nat.reduceAdd, or_true, true_or, or_false, false_or, Int.reduceEq, Int.reduceNe, Int.reduceLT, Int.reduceLE, Int.reduceNeg, Int.toNat_natCast, tg_nil, eq_self, lc0n, lc1n, lc2n, lc3n, lc4n, lc5n, lc6n, lc1i, lc2i, lc3i, lc4i, lc5i, lc6i, lc1r, lc2r, lc3r, lc4r, lc5r, lc6r, Nat.add_zero]
    repeat' (first | with_reducible apply And.intro | intro _)
    all_goals (try omega)
    refine c_tells hS (fun μ' _ => ?_)
    refine wp2_go w8_819 ?_; simp only [v8_819, tg_iret1, nLg_n, nLg_i, nLg_r, tc_c, tc_l, tc_r, tc_m, tc_n, tc_o, tc_0, inR, true_and, and_true, ne_eq, not_true_eq_false, not_false_eq_true, true_imp_iff, false_imp_iff, lit_a, Nat.reduceAdd, or_true, true_or, or_false, false_or, Int.reduceEq, Int.reduceNe, Int.reduceLT, Int.reduceLE, Int.reduceNeg, Int.toNat_natCast, tg_nil, eq_self, lc0n, lc1n, lc2n, lc3n, lc4n, lc5n, lc6n, lc1i, lc2i, lc3i, lc4i, lc5i, lc6i, lc1r, lc2r, lc3r, lc4r, lc5r, lc6r, Nat.add_zero]
    repeat' (first | with_reducible apply And.intro | intro _)
    all_goals (try omega)
    exact hQ μ'
  | succ j ih =>
    intro e g he hg z μ X4 X5 X6 X7 X8 X9 X10 X11 X12 n4 n5 n6 n7 n8 n9 n10 n11 n12 hS h31 hz1
    have q0 := hS.1.1
    refine wp2_go w8_102 ?_; simp only [v8_102, tg_iload_3, tg_bipush, tg_ic_ge, tg_aload_0, tg_iadd, tg_is2, mc_0, nLg_n, nLg_i, nLg_r, tc_c, tc_l, tc_r, tc_m, tc_n, tc_o, tc_0, inR, true_and, and_true, ne_eq, not_true_eq_false, not_false_eq_true, true_imp_iff, false_imp_iff, lit_a, Nat.reduceAdd, or_true, true_or, or_false, false_or, Int.reduceEq, Int.reduceNe, Int.reduceLT, Int.reduceLE, Int.reduceNeg, Int.toNat_natCast, tg_nil, eq_self, lc0n, lc1n, lc2n, lc3n, lc4n, lc5n, lc6n, lc1i, lc2i, lc3i, lc4i, lc5i, lc6i, lc1r, lc2r, lc3r, lc4r, lc5r, lc6r, Nat.add_zero]
    repeat' (first | with_reducible apply And.intro | intro _)
    all_goals (try omega)
    refine c_cell hL (by omega) ?_
    generalize cellF y L ((93 + e : Nat) : Int) = hh
    refine wp2_go w8_116 ?_; simp only [v8_116, tg_istore, okS_4, stL_4, tg_iload, ldI_4, tg_iconst, tg_ishr, okS_5, stL_5, tg_aload_1, tg_iv2, nLg_n, nLg_i, nLg_r, tc_c, tc_l, tc_r, tc_m, tc_n, tc_o, tc_0, inR, true_and, and_true, ne_eq, not_true_eq_false, not_false_eq_true, true_imp_iff, false_imp_iff, lit_a, Nat.reduceAdd, or_true, true_or, or_false, false_or, Int.reduceEq, Int.reduceNe, Int.reduceLT, Int.reduceLE, Int.reduceNeg, Int.toNat_natCast, tg_nil, eq_self, lc0n, lc1n, lc2n, lc3n, lc4n, lc5n, lc6n, lc1i, lc2i, lc3i, lc4i, lc5i, lc6i, lc1r, lc2r, lc3r, lc4r, lc5r, lc6r, Nat.add_zero]
    refine q_cnt0 (Fz_r hS) (fun μ1 hF1 => ?_)
    refine wp2_go w8_129 ?_; simp only [v8_129, tg_istore, okS_6, stL_6, tg_iload, ldI_5, ldI_6, tg_is2, mc_1, nLg_n, nLg_i, nLg_r, tc_c, tc_l, tc_r, tc_m, tc_n, tc_o, tc_0, inR, true_and, and_true, ne_eq, not_true_eq_false, not_false_eq_true, true_imp_iff, false_imp_iff, lit_a, Nat.reduceAdd, or_true, true_or, or_false, false_or, Int.reduceEq, Int.reduceNe, Int.reduceLT, Int.reduceLE, Int.reduceNeg, Int.toNat_natCast, tg_nil, eq_self, lc0n, lc1n, lc2n, lc3n, lc4n, lc5n, lc6n, lc1i, lc2i, lc3i, lc4i, lc5i, lc6i, lc1r, lc2r, lc3r, lc4r, lc5r, lc6r, Nat.add_zero]
    repeat' (first | with_reducible apply And.intro | intro _)
    all_goals (try omega)
    refine c_low (by omega) ?_
    obtain ⟨u0, u1⟩ := lowF_b (iShr hh 5) (n := z 0) (by omega)
    generalize lowF (iShr hh 5) (z 0) = v1 at u0 u1
    obtain ⟨at1, rfl⟩ := Int.eq_ofNat_of_zero_le u0
    refine wp2_go w8_138 ?_; simp only [v8_138, tg_istore, okS_7, stL_7, tg_iload, ldI_5, tg_aload_1, tg_iconst, tg_iv2, nLg_n, nLg_i, nLg_r, tc_c, tc_l, tc_r, tc_m, tc_n, tc_o, tc_0, inR, true_and, and_true, ne_eq, not_true_eq_false, not_false_eq_true, true_imp_iff, false_imp_iff, lit_a, Nat.reduceAdd, or_true, true_or, or_false, false_or, Int.reduceEq, Int.reduceNe, Int.reduceLT, Int.reduceLE, Int.reduceNeg, Int.toNat_natCast, tg_nil, eq_self, lc0n, lc1n, lc2n, lc3n, lc4n, lc5n, lc6n, lc1i, lc2i, lc3i, lc4i, lc5i, lc6i, lc1r, lc2r, lc3r, lc4r, lc5r, lc6r, Nat.add_zero]
    refine q_cnt4 hF1 (fun μ2 hF2 => ?_)
    refine wp2_go w8_147 ?_; simp only [v8_147, tg_is2, mc_1, nLg_n, nLg_i, nLg_r, tc_c, tc_l, tc_r, tc_m, tc_n, tc_o, tc_0, inR, true_and, and_true, ne_eq, not_true_eq_false, not_false_eq_true, true_imp_iff, false_imp_iff, lit_a, Nat.reduceAdd, or_true, true_or, or_false, false_or, Int.reduceEq, Int.reduceNe, Int.reduceLT, Int.reduceLE, Int.reduceNeg, Int.toNat_natCast, tg_nil, eq_self, lc0n, lc1n, lc2n, lc3n, lc4n, lc5n, lc6n, lc1i, lc2i, lc3i, lc4i, lc5i, lc6i, lc1r, lc2r, lc3r, lc4r, lc5r, lc6r, Nat.add_zero]
    repeat' (first | with_reducible apply And.intro | intro _)
    all_goals (try omega)
    refine c_low (by omega) ?_
    obtain ⟨u2, u3⟩ := lowF_b (iShr hh 5) (n := z 3) (by omega)
    generalize lowF (iShr hh 5) (z 3) = v2 at u2 u3
    obtain ⟨l, rfl⟩ := Int.eq_ofNat_of_zero_le u2
    refine wp2_go w8_150 ?_; simp only [v8_150, tg_istore, okS_8, stL_8, tg_iload, ldI_4, tg_bipush, tg_is2, mc_1, nLg_n, nLg_i, nLg_r, tc_c, tc_l, tc_r, tc_m, tc_n, tc_o, tc_0, inR, true_and, and_true, ne_eq, not_true_eq_false, not_false_eq_true, true_imp_iff, false_imp_iff, lit_a, Nat.reduceAdd, or_true, true_or, or_false, false_or, Int.reduceEq, Int.reduceNe, Int.reduceLT, Int.reduceLE, Int.reduceNeg, Int.toNat_natCast, tg_nil, eq_self, lc0n, lc1n, lc2n, lc3n, lc4n, lc5n, lc6n, lc1i, lc2i, lc3i, lc4i, lc5i, lc6i, lc1r, lc2r, lc3r, lc4r, lc5r, lc6r, Nat.add_zero]
    repeat' (first | with_reducible apply And.intro | intro _)
    all_goals (try omega)
    refine c_low (by omega) ?_
    have hkd := lowF_b hh (n := 9) (by omega)
    generalize lowF hh 9 = kd at hkd
    refine wp2_go w8_159 ?_; simp only [v8_159, tg_istore, okS_9, stL_9, tg_iconst, okS_10, stL_10, okS_11, stL_11, nLg_n, nLg_i, nLg_r, tc_c, tc_l, tc_r, tc_m, tc_n, tc_o, tc_0, inR, true_and, and_true, ne_eq, not_true_eq_false, not_false_eq_true, true_imp_iff, false_imp_iff, lit_a, Nat.reduceAdd, or_true, true_or, or_false, false_or, Int.reduceEq, Int.reduceNe, Int.reduceLT, Int.reduceLE, Int.reduceNeg, Int.toNat_natCast, tg_nil, eq_self, lc0n, lc1n, lc2n, lc3n, lc4n, lc5n, lc6n, lc1i, lc2i, lc3i, lc4i, lc5i, lc6i, lc1r, lc2r, lc3r, lc4r, lc5r, lc6r, Nat.add_zero]
    refine lw_sum hlen (by omega) (fun μ3 Y11 m11 hS3 hsum => ?_) (z 3).toNat 0 (by omega) μ2 hF2.1 (fun i hi => absurd hi (by omega))
    refine lw_0 (fun z' μ' Y11 Y12 m11 m12 hS' hLK e3 e1 => ?_) u1 u3 hkd hlen (by omega) (by omega) Y11 X12 μ3 m11 n12 hS3 hsum
    refine wp2_go w8_695 ?_; simp only [v8_695, tg_iconst, tg_istore, okS_11, stL_11, nLg_n, nLg_i, nLg_r, tc_c, tc_l, tc_r, tc_m, tc_n, tc_o, tc_0, inR, true_and, and_true, ne_eq, not_true_eq_false, not_false_eq_true, true_imp_iff, false_imp_iff, lit_a, Nat.reduceAdd, or_true, true_or, or_false, false_or, Int.reduceEq, Int.reduceNe, Int.reduceLT, Int.reduceLE, Int.reduceNeg, Int.toNat_natCast, tg_nil, eq_self, lc0n, lc1n, lc2n, lc3n, lc4n, lc5n, lc6n, lc1i, lc2i, lc3i, lc4i, lc5i, lc6i, lc1r, lc2r, lc3r, lc4r, lc5r, lc6r, Nat.add_zero]
    refine lw_chk hlen (by omega) (fun μ4 Y11 m11 hS4 => ?_) (z' 3).toNat 0 (by omega) μ' hS' hLK
    refine wp2_go w8_773 ?_; simp only [v8_773, tg_iload, ldI_10, tg_if_eq, tg_iload_3, tg_iconst, tg_irem, tg_ic_ne, tg_aload_1, tg_aload_0, tg_bipush, tg_iadd, tg_is2, mc_0, nLg_n, nLg_i, nLg_r, tc_c, tc_l, tc_r, tc_m, tc_n, tc_o, tc_0, inR, true_and, and_true, ne_eq, not_true_eq_false, not_false_eq_true, true_imp_iff, false_imp_iff, lit_a, Nat.reduceAdd, or_true, true_or, or_false, false_or, Int.reduceEq, Int.reduceNe, Int.reduceLT, Int.reduceLE, Int.reduceNeg, Int.toNat_natCast, tg_nil, eq_self, lc0n, lc1n, lc2n, lc3n, lc4n, lc5n, lc6n, lc1i, lc2i, lc3i, lc4i, lc5i, lc6i, lc1r, lc2r, lc3r, lc4r, lc5r, lc6r, Nat.add_zero]
    repeat' (first | with_reducible apply And.intro | intro _)
    all_goals (try omega)
    · refine c_cell hL (by omega) ?_
      refine wp2_go w8_794 ?_; simp only [v8_794, tg_is2, mc_7, nLg_n, nLg_i, nLg_r, tc_c, tc_l, tc_r, tc_m, tc_n, tc_o, tc_0, inR, true_and, and_true, ne_eq, not_true_eq_false, not_false_eq_true, true_imp_iff, false_imp_iff, lit_a, Nat.reduceAdd, or_true, true_or, or_false, false_or, Int.reduceEq, Int.reduceNe, Int.reduceLT, Int.reduceLE, Int.reduceNeg, Int.toNat_natCast, tg_nil, eq_self, lc0n, lc1n, lc2n, lc3n, lc4n, lc5n, lc6n, lc1i, lc2i, lc3i, lc4i, lc5i, lc6i, lc1r, lc2r, lc3r, lc4r, lc5r, lc6r, Nat.add_zero]
      repeat' (first | with_reducible apply And.intro | intro _)
      all_goals (try omega)
      refine c_tells hS4 (fun μ5 hF5 => ?_)
      refine wp2_go w8_797 ?_; simp only [v8_797, tg_if_ne, nLg_n, nLg_i, nLg_r, tc_c, tc_l, tc_r, tc_m, tc_n, tc_o, tc_0, inR, true_and, and_true, ne_eq, not_true_eq_false, not_false_eq_true, true_imp_iff, false_imp_iff, lit_a, Nat.reduceAdd, or_true, true_or, or_false, false_or, Int.reduceEq, Int.reduceNe, Int.reduceLT, Int.reduceLE, Int.reduceNeg, Int.toNat_natCast, tg_nil, eq_self, lc0n, lc1n, lc2n, lc3n, lc4n, lc5n, lc6n, lc1i, lc2i, lc3i, lc4i, lc5i, lc6i, lc1r, lc2r, lc3r, lc4r, lc5r, lc6r, Nat.add_zero]
      refine wp2_go w8_802 ?_; simp only [v8_802, tg_iinc, ldI_3, okS_3, stL_3, tg_goto, nLg_n, nLg_i, nLg_r, tc_c, tc_l, tc_r, tc_m, tc_n, tc_o, tc_0, inR, true_and, and_true, ne_eq, not_true_eq_false, not_false_eq_true, true_imp_iff, false_imp_iff, lit_a, Nat.reduceAdd, or_true, true_or, or_false, false_or, Int.reduceEq, Int.reduceNe, Int.reduceLT, Int.reduceLE, Int.reduceNeg, Int.toNat_natCast, tg_nil, eq_self, lc0n, lc1n, lc2n, lc3n, lc4n, lc5n, lc6n, lc1i, lc2i, lc3i, lc4i, lc5i, lc6i, lc1r, lc2r, lc3r, lc4r, lc5r, lc6r, Nat.add_zero]
      repeat' (first | with_reducible apply And.intro | intro _)
      all_goals (try omega)
      exact ih (e + 1) (g + 26) (by omega) (by omega) z' μ5 _ _ _ _ _ _ _ _ _ trivial trivial trivial trivial trivial trivial trivial m11 m12 hF5.1 (by omega) (by omega)
    · refine wp2_go w8_802 ?_; simp only [v8_802, tg_iinc, ldI_3, okS_3, stL_3, tg_goto, nLg_n, nLg_i, nLg_r, tc_c, tc_l, tc_r, tc_m, tc_n, tc_o, tc_0, inR, true_and, and_true, ne_eq, not_true_eq_false, not_false_eq_true, true_imp_iff, false_imp_iff, lit_a, Nat.reduceAdd, or_true, true_or, or_false, false_or, Int.reduceEq, Int.reduceNe, Int.reduceLT, Int.reduceLE, Int.reduceNeg, Int.toNat_natCast, tg_nil, eq_self, lc0n, lc1n, lc2n, lc3n, lc4n, lc5n, lc6n, lc1i, lc2i, lc3i, lc4i, lc5i, lc6i, lc1r, lc2r, lc3r, lc4r, lc5r, lc6r, Nat.add_zero]
      repeat' (first | with_reducible apply And.intro | intro _)
      all_goals (try omega)
      exact ih (e + 1) g (by omega) (by omega) z' μ4 _ _ _ _ _ _ _ _ _ trivial trivial trivial trivial trivial trivial trivial m11 m12 hS4 (by omega) (by omega)
theorem c_law {y : Nat → Int} {L d : Nat} {len : Nat → Nat} {Q : QT} {μ : Mem} {z : Rw} (hL : L ≤ 260) (hS : St z μ) (h0 : z 0 = 1) (h1 : z 1 = 1) (h2 : z 2 = 0) (h3 : z 3 = 0) (h5 : z 5 = 10) (h6 : z 6 = 1) (hQ : ∀ μ', Q (.inl 1) μ') : wp2 y L 500 (Call2 y L (d + 3)) 8 Q (0, 0, len) 8 [some (.inr (.inr 1)), some (.inr (.inr 0)), none, none, none, none, none, none, none, none, none, none, none] [] μ := by
  have ez : zn z = 1 := by unfold zn; omega
  have ev : znl z = 0 := by unfold znl; omega
  have c1 : sm (zl z) (zn z) = 10 := by rw [ez]; show 0 + zl z 0 = 10; unfold zl; rw [Int.zero_add]; exact h5
  have c2 : sm (zb z) (zn z) = 1 := by rw [ez]; show 0 + zb z 0 = 1; unfold zb; rw [Int.zero_add]; exact h6
  have c6 : (lng z (znl z)).1 = -6 := by rw [ev]; rfl
  refine wp2_go w8_8 ?_; simp only [v8_8, tg_aload_1, tg_iconst, tg_iv2, nLg_n, nLg_i, nLg_r, tc_c, tc_l, tc_r, tc_m, tc_n, tc_o, tc_0, inR, true_and, and_true, ne_eq, not_true_eq_false, not_false_eq_true, true_imp_iff, false_imp_iff, lit_a, Nat.reduceAdd, or_true, true_or, or_false, false_or, Int.reduceEq, Int.reduceNe, Int.reduceLT, Int.reduceLE, Int.reduceNeg, Int.toNat_natCast, tg_nil, eq_self, lc0n, lc1n, lc2n, lc3n, lc4n, lc5n, lc6n, lc1i, lc2i, lc3i, lc4i, lc5i, lc6i, lc1r, lc2r, lc3r, lc4r, lc5r, lc6r, Nat.add_zero]
  refine q_cnt0 (Fz_r hS) (fun μ1 hF => ?_)
  rw [h0]
  refine wp2_go w8_13 ?_; simp only [v8_13, tg_iconst, tg_ic_ne, tg_aload_1, tg_iv2, nLg_n, nLg_i, nLg_r, tc_c, tc_l, tc_r, tc_m, tc_n, tc_o, tc_0, inR, true_and, and_true, ne_eq, not_true_eq_false, not_false_eq_true, true_imp_iff, false_imp_iff, lit_a, Nat.reduceAdd, or_true, true_or, or_false, false_or, Int.reduceEq, Int.reduceNe, Int.reduceLT, Int.reduceLE, Int.reduceNeg, Int.toNat_natCast, tg_nil, eq_self, lc0n, lc1n, lc2n, lc3n, lc4n, lc5n, lc6n, lc1i, lc2i, lc3i, lc4i, lc5i, lc6i, lc1r, lc2r, lc3r, lc4r, lc5r, lc6r, Nat.add_zero]
  refine q_cnt1 hF (fun μ1 hF => ?_)
  rw [c1]
  refine wp2_go w8_22 ?_; simp only [v8_22, tg_bipush, tg_ic_ne, tg_aload_1, tg_iconst, tg_iv2, nLg_n, nLg_i, nLg_r, tc_c, tc_l, tc_r, tc_m, tc_n, tc_o, tc_0, inR, true_and, and_true, ne_eq, not_true_eq_false, not_false_eq_true, true_imp_iff, false_imp_iff, lit_a, Nat.reduceAdd, or_true, true_or, or_false, false_or, Int.reduceEq, Int.reduceNe, Int.reduceLT, Int.reduceLE, Int.reduceNeg, Int.toNat_natCast, tg_nil, eq_self, lc0n, lc1n, lc2n, lc3n, lc4n, lc5n, lc6n, lc1i, lc2i, lc3i, lc4i, lc5i, lc6i, lc1r, lc2r, lc3r, lc4r, lc5r, lc6r, Nat.add_zero]
  refine q_cnt2 hF (fun μ1 hF => ?_)
  rw [c2]
  refine wp2_go w8_32 ?_; simp only [v8_32, tg_iconst, tg_ic_ne, tg_aload_1, tg_bipush, tg_iv2, nLg_n, nLg_i, nLg_r, tc_c, tc_l, tc_r, tc_m, tc_n, tc_o, tc_0, inR, true_and, and_true, ne_eq, not_true_eq_false, not_false_eq_true, true_imp_iff, false_imp_iff, lit_a, Nat.reduceAdd, or_true, true_or, or_false, false_or, Int.reduceEq, Int.reduceNe, Int.reduceLT, Int.reduceLE, Int.reduceNeg, Int.toNat_natCast, tg_nil, eq_self, lc0n, lc1n, lc2n, lc3n, lc4n, lc5n, lc6n, lc1i, lc2i, lc3i, lc4i, lc5i, lc6i, lc1r, lc2r, lc3r, lc4r, lc5r, lc6r, Nat.add_zero]
  refine q_cnt6 hF (fun μ1 hF => ?_)
  rw [c6]
  refine wp2_go w8_42 ?_; simp only [v8_42, tg_bipush, tg_ic_ne, tg_aload_1, tg_aload_0, tg_iconst, tg_is2, mc_0, nLg_n, nLg_i, nLg_r, tc_c, tc_l, tc_r, tc_m, tc_n, tc_o, tc_0, inR, true_and, and_true, ne_eq, not_true_eq_false, not_false_eq_true, true_imp_iff, false_imp_iff, lit_a, Nat.reduceAdd, or_true, true_or, or_false, false_or, Int.reduceEq, Int.reduceNe, Int.reduceLT, Int.reduceLE, Int.reduceNeg, Int.toNat_natCast, tg_nil, eq_self, lc0n, lc1n, lc2n, lc3n, lc4n, lc5n, lc6n, lc1i, lc2i, lc3i, lc4i, lc5i, lc6i, lc1r, lc2r, lc3r, lc4r, lc5r, lc6r, Nat.add_zero]
  repeat' (first | with_reducible apply And.intro | intro _)
  all_goals (try omega)
  refine c_cell hL (by omega) ?_
  refine wp2_go w8_56 ?_; simp only [v8_56, tg_bipush, tg_is2, mc_1, nLg_n, nLg_i, nLg_r, tc_c, tc_l, tc_r, tc_m, tc_n, tc_o, tc_0, inR, true_and, and_true, ne_eq, not_true_eq_false, not_false_eq_true, true_imp_iff, false_imp_iff, lit_a, Nat.reduceAdd, or_true, true_or, or_false, false_or, Int.reduceEq, Int.reduceNe, Int.reduceLT, Int.reduceLE, Int.reduceNeg, Int.toNat_natCast, tg_nil, eq_self, lc0n, lc1n, lc2n, lc3n, lc4n, lc5n, lc6n, lc1i, lc2i, lc3i, lc4i, lc5i, lc6i, lc1r, lc2r, lc3r, lc4r, lc5r, lc6r, Nat.add_zero]
  repeat' (first | with_reducible apply And.intro | intro _)
  all_goals (try omega)
  refine c_low (by omega) ?_
  obtain ⟨u0, u1⟩ := lowF_b (cellF y L 90) (n := 24) (by omega)
  generalize lowF (cellF y L 90) 24 = v1 at u0 u1
  obtain ⟨sn, rfl⟩ := Int.eq_ofNat_of_zero_le u0
  refine wp2_go w8_61 ?_; simp only [v8_61, tg_iconst, tg_aload_0, tg_bipush, tg_is2, mc_0, nLg_n, nLg_i, nLg_r, tc_c, tc_l, tc_r, tc_m, tc_n, tc_o, tc_0, inR, true_and, and_true, ne_eq, not_true_eq_false, not_false_eq_true, true_imp_iff, false_imp_iff, lit_a, Nat.reduceAdd, or_true, true_or, or_false, false_or, Int.reduceEq, Int.reduceNe, Int.reduceLT, Int.reduceLE, Int.reduceNeg, Int.toNat_natCast, tg_nil, eq_self, lc0n, lc1n, lc2n, lc3n, lc4n, lc5n, lc6n, lc1i, lc2i, lc3i, lc4i, lc5i, lc6i, lc1r, lc2r, lc3r, lc4r, lc5r, lc6r, Nat.add_zero]
  repeat' (first | with_reducible apply And.intro | intro _)
  all_goals (try omega)
  refine c_cell hL (by omega) ?_
  refine wp2_go w8_68 ?_; simp only [v8_68, tg_bipush, tg_is2, mc_1, nLg_n, nLg_i, nLg_r, tc_c, tc_l, tc_r, tc_m, tc_n, tc_o, tc_0, inR, true_and, and_true, ne_eq, not_true_eq_false, not_false_eq_true, true_imp_iff, false_imp_iff, lit_a, Nat.reduceAdd, or_true, true_or, or_false, false_or, Int.reduceEq, Int.reduceNe, Int.reduceLT, Int.reduceLE, Int.reduceNeg, Int.toNat_natCast, tg_nil, eq_self, lc0n, lc1n, lc2n, lc3n, lc4n, lc5n, lc6n, lc1i, lc2i, lc3i, lc4i, lc5i, lc6i, lc1r, lc2r, lc3r, lc4r, lc5r, lc6r, Nat.add_zero]
  repeat' (first | with_reducible apply And.intro | intro _)
  all_goals (try omega)
  refine c_low (by omega) ?_
  obtain ⟨u2, u3⟩ := lowF_b (cellF y L 91) (n := 6) (by omega)
  generalize lowF (cellF y L 91) 6 = v2 at u2 u3
  have e2 : ∃ ln : Nat, 1 + v2 = (ln : Int) := Int.eq_ofNat_of_zero_le (by omega)
  obtain ⟨ln, e2⟩ := e2
  refine wp2_go w8_73 ?_; simp only [v8_73, tg_iadd, tg_is5, mc_2, nLg_n, nLg_i, nLg_r, tc_c, tc_l, tc_r, tc_m, tc_n, tc_o, tc_0, inR, true_and, and_true, ne_eq, not_true_eq_false, not_false_eq_true, true_imp_iff, false_imp_iff, lit_a, Nat.reduceAdd, or_true, true_or, or_false, false_or, Int.reduceEq, Int.reduceNe, Int.reduceLT, Int.reduceLE, Int.reduceNeg, Int.toNat_natCast, tg_nil, eq_self, lc0n, lc1n, lc2n, lc3n, lc4n, lc5n, lc6n, lc1i, lc2i, lc3i, lc4i, lc5i, lc6i, lc1r, lc2r, lc3r, lc4r, lc5r, lc6r, Nat.add_zero, e2]
  repeat' (first | with_reducible apply And.intro | intro _)
  all_goals (try omega)
  refine c_build hL (ln := ln) (sn := sn) (by omega) (by omega) hF.1 h0 h1 h2 h3 (fun z μ hS hz1 hz3 => ?_)
  refine wp2_go w8_77 ?_; simp only [v8_77, tg_if_eq, tg_aload_1, tg_aload_0, tg_bipush, tg_is2, mc_0, nLg_n, nLg_i, nLg_r, tc_c, tc_l, tc_r, tc_m, tc_n, tc_o, tc_0, inR, true_and, and_true, ne_eq, not_true_eq_false, not_false_eq_true, true_imp_iff, false_imp_iff, lit_a, Nat.reduceAdd, or_true, true_or, or_false, false_or, Int.reduceEq, Int.reduceNe, Int.reduceLT, Int.reduceLE, Int.reduceNeg, Int.toNat_natCast, tg_nil, eq_self, lc0n, lc1n, lc2n, lc3n, lc4n, lc5n, lc6n, lc1i, lc2i, lc3i, lc4i, lc5i, lc6i, lc1r, lc2r, lc3r, lc4r, lc5r, lc6r, Nat.add_zero]
  repeat' (first | with_reducible apply And.intro | intro _)
  all_goals (try omega)
  refine c_cell hL (by omega) ?_
  refine wp2_go w8_87 ?_; simp only [v8_87, tg_is2, mc_7, nLg_n, nLg_i, nLg_r, tc_c, tc_l, tc_r, tc_m, tc_n, tc_o, tc_0, inR, true_and, and_true, ne_eq, not_true_eq_false, not_false_eq_true, true_imp_iff, false_imp_iff, lit_a, Nat.reduceAdd, or_true, true_or, or_false, false_or, Int.reduceEq, Int.reduceNe, Int.reduceLT, Int.reduceLE, Int.reduceNeg, Int.toNat_natCast, tg_nil, eq_self, lc0n, lc1n, lc2n, lc3n, lc4n, lc5n, lc6n, lc1i, lc2i, lc3i, lc4i, lc5i, lc6i, lc1r, lc2r, lc3r, lc4r, lc5r, lc6r, Nat.add_zero]
  repeat' (first | with_reducible apply And.intro | intro _)
  all_goals (try omega)
  refine c_tells hS (fun μ2 hF2 => ?_)
  refine wp2_go w8_90 ?_; simp only [v8_90, tg_if_ne, nLg_n, nLg_i, nLg_r, tc_c, tc_l, tc_r, tc_m, tc_n, tc_o, tc_0, inR, true_and, and_true, ne_eq, not_true_eq_false, not_false_eq_true, true_imp_iff, false_imp_iff, lit_a, Nat.reduceAdd, or_true, true_or, or_false, false_or, Int.reduceEq, Int.reduceNe, Int.reduceLT, Int.reduceLE, Int.reduceNeg, Int.toNat_natCast, tg_nil, eq_self, lc0n, lc1n, lc2n, lc3n, lc4n, lc5n, lc6n, lc1i, lc2i, lc3i, lc4i, lc5i, lc6i, lc1r, lc2r, lc3r, lc4r, lc5r, lc6r, Nat.add_zero]
  refine wp2_go w8_95 ?_; simp only [v8_95, tg_bipush, tg_newa, noR_0, noR_r, noR_i, noR_n, tg_astore_2, tg_iconst, tg_istore_3, nLg_n, nLg_i, nLg_r, tc_c, tc_l, tc_r, tc_m, tc_n, tc_o, tc_0, inR, true_and, and_true, ne_eq, not_true_eq_false, not_false_eq_true, true_imp_iff, false_imp_iff, lit_a, Nat.reduceAdd, or_true, true_or, or_false, false_or, Int.reduceEq, Int.reduceNe, Int.reduceLT, Int.reduceLE, Int.reduceNeg, Int.toNat_natCast, tg_nil, eq_self, lc0n, lc1n, lc2n, lc3n, lc4n, lc5n, lc6n, lc1i, lc2i, lc3i, lc4i, lc5i, lc6i, lc1r, lc2r, lc3r, lc4r, lc5r, lc6r, Nat.add_zero, Int.reduceToNat]
  repeat' (first | with_reducible apply And.intro | intro _)
  all_goals (try omega)
  exact lw_loop hL (by unfold upl; rw [if_pos rfl]) hQ 14 0 27 rfl (by omega) z _ none none none none none none none none none trivial trivial trivial trivial trivial trivial trivial trivial trivial (St_zr hF2.1 (by omega)) (by omega) (by omega)
