/-! THE LAW: its body -/
-- the law's law: blocks [8, 13, 22, 32, 42, 56, 61, 68, 73, 77, 87, 90, 93, 95, 102, 116, 129, 138, 147, 150, 159, 167, 174, 187, 196, 208, 217, 242, 246, 256, 265, 266, 280, 284, 288, 289, 294, 313, 321, 332, 342, 350, 351, 356, 369, 384, 388, 400, 410, 418, 419, 424, 437, 445, 457, 464, 465, 470, 488, 496, 497, 507, 524, 525, 528, 533, 543, 552, 553, 560, 561, 566, 580, 592, 599, 600, 610, 621, 631, 640, 641, 651, 658, 659, 671, 680, 692, 695, 698, 705, 720, 730, 739, 751, 760, 764, 765, 773, 794, 797, 800, 802, 808, 816, 819]
/-- the sums before a change -/
theorem lw_sum {y : Nat → Int} {L G d g e at1 l : Nat} {len : Nat → Nat} {Q : QT} {hh g5 kd : Int} {z : Rw} {X12 : Option MV} (hlen : len 510 = 6) (h3 : z 3 ≤ 6)
    (fin : ∀ (μ : Mem) (X11 : Option MV), nLg X11 → St z μ → (∀ k : Nat, (k : Int) < z 3 → μ 510 k = SG z k) → wp2 y L G (Call2 y L (d + 3)) 8 Q (g, 1, len) 217 [some (.inr (.inr 1)), some (.inr (.inr 0)), some (.inr (.inr 510)), some (.inl (e : Int)), some (.inl hh), some (.inl g5), some (.inl (z 0)), some (.inl (at1 : Int)), some (.inl (l : Int)), some (.inl kd), some (.inl 1), X11, X12] [] μ) :
    ∀ j k : Nat, ((k + j : Nat) : Int) = z 3 → ∀ (μ : Mem), St z μ → (∀ i : Nat, i < k → μ 510 i = SG z i) → wp2 y L G (Call2 y L (d + 3)) 8 Q (g, 1, len) 167 [some (.inr (.inr 1)), some (.inr (.inr 0)), some (.inr (.inr 510)), some (.inl (e : Int)), some (.inl hh), some (.inl g5), some (.inl (z 0)), some (.inl (at1 : Int)), some (.inl (l : Int)), some (.inl kd), some (.inl 1), some (.inl (k : Int)), X12] [] μ := by
  intro j
  induction j with
  | zero =>
    intro k hj μ hS hm
    refine wp2_go w8_167 ?_; simp only [v8_167, tg_iload, ldI_11, tg_aload_1, tg_iconst, tg_iv2, nLg_n, nLg_i, nLg_r, tc_c, tc_l, tc_r, tc_m, tc_n, tc_o, tc_0, inR, true_and, and_true, ne_eq, not_true_eq_false, not_false_eq_true, true_imp_iff, false_imp_iff, lit_a, Nat.reduceAdd, or_true, true_or, or_false, false_or, Int.reduceEq, Int.reduceNe, Int.reduceLT, Int.reduceLE, Int.reduceNeg, Int.toNat_natCast, tg_nil, eq_self, lc0n, lc1n, lc2n, lc3n, lc4n, lc5n, lc6n, lc1i, lc2i, lc3i, lc4i, lc5i, lc6i, lc1r, lc2r, lc3r, lc4r, lc5r, lc6r, Nat.add_zero]
    refine q_cnt4 (Fz_r hS) (fun μ' hF => ?_)
    refine wp2_go w8_174 ?_; simp only [v8_174, tg_ic_ge, tg_aload_2, tg_iload, ldI_11, tg_aload_1, tg_iconst, tg_iv3, nLg_n, nLg_i, nLg_r, tc_c, tc_l, tc_r, tc_m, tc_n, tc_o, tc_0, inR, true_and, and_true, ne_eq, not_true_eq_false, not_false_eq_true, true_imp_iff, false_imp_iff, lit_a, Nat.reduceAdd, or_true, true_or, or_false, false_or, Int.reduceEq, Int.reduceNe, Int.reduceLT, Int.reduceLE, Int.reduceNeg, Int.toNat_natCast, tg_nil, eq_self, lc0n, lc1n, lc2n, lc3n, lc4n, lc5n, lc6n, lc1i, lc2i, lc3i, lc4i, lc5i, lc6i, lc1r, lc2r, lc3r, lc4r, lc5r, lc6r, Nat.add_zero]
    repeat' (first | with_reducible apply And.intro | intro _)
    all_goals (try omega)
    all_goals exact fin _ (some (.inl (k : Int))) trivial hF.1 (fun i hi => by rw [hF.2 510 (by omega)]; exact hm i (by omega))
  | succ j ih =>
    intro k hj μ hS hm
    have hk : (k : Int) < z 3 := by omega
    refine wp2_go w8_167 ?_; simp only [v8_167, tg_iload, ldI_11, tg_aload_1, tg_iconst, tg_iv2, nLg_n, nLg_i, nLg_r, tc_c, tc_l, tc_r, tc_m, tc_n, tc_o, tc_0, inR, true_and, and_true, ne_eq, not_true_eq_false, not_false_eq_true, true_imp_iff, false_imp_iff, lit_a, Nat.reduceAdd, or_true, true_or, or_false, false_or, Int.reduceEq, Int.reduceNe, Int.reduceLT, Int.reduceLE, Int.reduceNeg, Int.toNat_natCast, tg_nil, eq_self, lc0n, lc1n, lc2n, lc3n, lc4n, lc5n, lc6n, lc1i, lc2i, lc3i, lc4i, lc5i, lc6i, lc1r, lc2r, lc3r, lc4r, lc5r, lc6r, Nat.add_zero]
    refine q_cnt4 (Fz_r hS) (fun μ' hF => ?_)
    refine wp2_go w8_174 ?_; simp only [v8_174, tg_ic_ge, tg_aload_2, tg_iload, ldI_11, tg_aload_1, tg_iconst, tg_iv3, nLg_n, nLg_i, nLg_r, tc_c, tc_l, tc_r, tc_m, tc_n, tc_o, tc_0, inR, true_and, and_true, ne_eq, not_true_eq_false, not_false_eq_true, true_imp_iff, false_imp_iff, lit_a, Nat.reduceAdd, or_true, true_or, or_false, false_or, Int.reduceEq, Int.reduceNe, Int.reduceLT, Int.reduceLE, Int.reduceNeg, Int.toNat_natCast, tg_nil, eq_self, lc0n, lc1n, lc2n, lc3n, lc4n, lc5n, lc6n, lc1i, lc2i, lc3i, lc4i, lc5i, lc6i, lc1r, lc2r, lc3r, lc4r, lc5r, lc6r, Nat.add_zero]
    repeat' (first | with_reducible apply And.intro | intro _)
    all_goals (try omega)
    refine q_of hF hk (by omega) (fun μ' hF => ?_)
    refine wp2_go w8_187 ?_; simp only [v8_187, tg_bipush, tg_aload_1, tg_iload, ldI_11, tg_iconst, tg_iv3, nLg_n, nLg_i, nLg_r, tc_c, tc_l, tc_r, tc_m, tc_n, tc_o, tc_0, inR, true_and, and_true, ne_eq, not_true_eq_false, not_false_eq_true, true_imp_iff, false_imp_iff, lit_a, Nat.reduceAdd, or_true, true_or, or_false, false_or, Int.reduceEq, Int.reduceNe, Int.reduceLT, Int.reduceLE, Int.reduceNeg, Int.toNat_natCast, tg_nil, eq_self, lc0n, lc1n, lc2n, lc3n, lc4n, lc5n, lc6n, lc1i, lc2i, lc3i, lc4i, lc5i, lc6i, lc1r, lc2r, lc3r, lc4r, lc5r, lc6r, Nat.add_zero]
    refine q_of hF hk (by omega) (fun μ' hF => ?_)
    refine wp2_go w8_196 ?_; simp only [v8_196, tg_imul, tg_iadd, tg_bipush, tg_aload_1, tg_iload, ldI_11, tg_iv3, nLg_n, nLg_i, nLg_r, tc_c, tc_l, tc_r, tc_m, tc_n, tc_o, tc_0, inR, true_and, and_true, ne_eq, not_true_eq_false, not_false_eq_true, true_imp_iff, false_imp_iff, lit_a, Nat.reduceAdd, or_true, true_or, or_false, false_or, Int.reduceEq, Int.reduceNe, Int.reduceLT, Int.reduceLE, Int.reduceNeg, Int.toNat_natCast, tg_nil, eq_self, lc0n, lc1n, lc2n, lc3n, lc4n, lc5n, lc6n, lc1i, lc2i, lc3i, lc4i, lc5i, lc6i, lc1r, lc2r, lc3r, lc4r, lc5r, lc6r, Nat.add_zero]
    refine q_of hF hk (by omega) (fun μ' hF => ?_)
    refine wp2_go w8_208 ?_; simp only [v8_208, tg_imul, tg_iadd, tg_iastore, tg_iinc, ldI_11, okS_11, stL_11, tg_goto, nLg_n, nLg_i, nLg_r, tc_c, tc_l, tc_r, tc_m, tc_n, tc_o, tc_0, inR, true_and, and_true, ne_eq, not_true_eq_false, not_false_eq_true, true_imp_iff, false_imp_iff, lit_a, Nat.reduceAdd, or_true, true_or, or_false, false_or, Int.reduceEq, Int.reduceNe, Int.reduceLT, Int.reduceLE, Int.reduceNeg, Int.toNat_natCast, tg_nil, eq_self, lc0n, lc1n, lc2n, lc3n, lc4n, lc5n, lc6n, lc1i, lc2i, lc3i, lc4i, lc5i, lc6i, lc1r, lc2r, lc3r, lc4r, lc5r, lc6r, Nat.add_zero, hlen]
    repeat' (first | with_reducible apply And.intro | intro _)
    all_goals (try omega)
    have hF2 := Fz_ms (V := 510) (j := k) (v := SG z k) hF (by omega)
    refine ih (k + 1) (by omega) _ hF2.1 (fun i hi => ?_)
    unfold ms
    by_cases ei : i = k
    · rw [if_pos ⟨rfl, ei⟩, ei]; rfl
    · rw [if_neg (by omega), hF.2 510 (by omega)]
      exact hm i (by omega)
/-- files are as they were -/
theorem lw_chk {y : Nat → Int} {L G d g e : Nat} {len : Nat → Nat} {Q : QT} {hh g5 kd n0 l7 l8 : Int} {z : Rw} {X12 : Option MV} (hlen : len 510 = 6) (h3 : z 3 ≤ 6)
    (fin : ∀ (μ : Mem) (X11 : Option MV), nLg X11 → St z μ → wp2 y L G (Call2 y L (d + 3)) 8 Q (g, 1, len) 773 [some (.inr (.inr 1)), some (.inr (.inr 0)), some (.inr (.inr 510)), some (.inl (e : Int)), some (.inl hh), some (.inl g5), some (.inl n0), some (.inl l7), some (.inl l8), some (.inl kd), some (.inl 1), X11, X12] [] μ) :
    ∀ j k : Nat, ((k + j : Nat) : Int) = z 3 → ∀ (μ : Mem), St z μ → LK z μ → wp2 y L G (Call2 y L (d + 3)) 8 Q (g, 1, len) 698 [some (.inr (.inr 1)), some (.inr (.inr 0)), some (.inr (.inr 510)), some (.inl (e : Int)), some (.inl hh), some (.inl g5), some (.inl n0), some (.inl l7), some (.inl l8), some (.inl kd), some (.inl 1), some (.inl (k : Int)), X12] [] μ := by
  intro j
  induction j with
  | zero =>
    intro k hj μ hS hm
    refine wp2_go w8_698 ?_; simp only [v8_698, tg_iload, ldI_11, tg_aload_1, tg_iconst, tg_iv2, nLg_n, nLg_i, nLg_r, tc_c, tc_l, tc_r, tc_m, tc_n, tc_o, tc_0, inR, true_and, and_true, ne_eq, not_true_eq_false, not_false_eq_true, true_imp_iff, false_imp_iff, lit_a, Nat.reduceAdd, or_true, true_or, or_false, false_or, Int.reduceEq, Int.reduceNe, Int.reduceLT, Int.reduceLE, Int.reduceNeg, Int.toNat_natCast, tg_nil, eq_self, lc0n, lc1n, lc2n, lc3n, lc4n, lc5n, lc6n, lc1i, lc2i, lc3i, lc4i, lc5i, lc6i, lc1r, lc2r, lc3r, lc4r, lc5r, lc6r, Nat.add_zero]
    refine q_cnt4 (Fz_r hS) (fun μ' hF => ?_)
    refine wp2_go w8_705 ?_; simp only [v8_705, tg_ic_ge, tg_iload, ldI_10, tg_if_eq, tg_aload_1, ldI_11, tg_iconst, tg_iv3, nLg_n, nLg_i, nLg_r, tc_c, tc_l, tc_r, tc_m, tc_n, tc_o, tc_0, inR, true_and, and_true, ne_eq, not_true_eq_false, not_false_eq_true, true_imp_iff, false_imp_iff, lit_a, Nat.reduceAdd, or_true, true_or, or_false, false_or, Int.reduceEq, Int.reduceNe, Int.reduceLT, Int.reduceLE, Int.reduceNeg, Int.toNat_natCast, tg_nil, eq_self, lc0n, lc1n, lc2n, lc3n, lc4n, lc5n, lc6n, lc1i, lc2i, lc3i, lc4i, lc5i, lc6i, lc1r, lc2r, lc3r, lc4r, lc5r, lc6r, Nat.add_zero]
    repeat' (first | with_reducible apply And.intro | intro _)
    all_goals (try omega)
    all_goals exact fin _ (some (.inl (k : Int))) trivial hF.1
  | succ j ih =>
    intro k hj μ hS hm
    have hk : (k : Int) < z 3 := by omega
    have p760 : ∀ μ', Fz z μ μ' → wp2 y L G (Call2 y L (d + 3)) 8 Q (g, 1, len) 760 [some (.inr (.inr 1)), some (.inr (.inr 0)), some (.inr (.inr 510)), some (.inl (e : Int)), some (.inl hh), some (.inl g5), some (.inl n0), some (.inl l7), some (.inl l8), some (.inl kd), some (.inl 1), some (.inl (k : Int)), X12] [] μ' := by
      intro μ' hF
      refine wp2_go w8_760 ?_; simp only [v8_760, tg_iconst, tg_goto, nLg_n, nLg_i, nLg_r, tc_c, tc_l, tc_r, tc_m, tc_n, tc_o, tc_0, inR, true_and, and_true, ne_eq, not_true_eq_false, not_false_eq_true, true_imp_iff, false_imp_iff, lit_a, Nat.reduceAdd, or_true, true_or, or_false, false_or, Int.reduceEq, Int.reduceNe, Int.reduceLT, Int.reduceLE, Int.reduceNeg, Int.toNat_natCast, tg_nil, eq_self, lc0n, lc1n, lc2n, lc3n, lc4n, lc5n, lc6n, lc1i, lc2i, lc3i, lc4i, lc5i, lc6i, lc1r, lc2r, lc3r, lc4r, lc5r, lc6r, Nat.add_zero]
      refine wp2_go w8_765 ?_; simp only [v8_765, tg_istore, okS_10, stL_10, tg_iinc, ldI_11, okS_11, stL_11, tg_goto, nLg_n, nLg_i, nLg_r, tc_c, tc_l, tc_r, tc_m, tc_n, tc_o, tc_0, inR, true_and, and_true, ne_eq, not_true_eq_false, not_false_eq_true, true_imp_iff, false_imp_iff, lit_a, Nat.reduceAdd, or_true, true_or, or_false, false_or, Int.reduceEq, Int.reduceNe, Int.reduceLT, Int.reduceLE, Int.reduceNeg, Int.toNat_natCast, tg_nil, eq_self, lc0n, lc1n, lc2n, lc3n, lc4n, lc5n, lc6n, lc1i, lc2i, lc3i, lc4i, lc5i, lc6i, lc1r, lc2r, lc3r, lc4r, lc5r, lc6r, Nat.add_zero]
      repeat' (first | with_reducible apply And.intro | intro _)
      all_goals (try omega)
      exact ih (k + 1) (by omega) _ hF.1 (fun i hi => by rw [hF.2 510 (by omega)]; exact hm i hi)
    refine wp2_go w8_698 ?_; simp only [v8_698, tg_iload, ldI_11, tg_aload_1, tg_iconst, tg_iv2, nLg_n, nLg_i, nLg_r, tc_c, tc_l, tc_r, tc_m, tc_n, tc_o, tc_0, inR, true_and, and_true, ne_eq, not_true_eq_false, not_false_eq_true, true_imp_iff, false_imp_iff, lit_a, Nat.reduceAdd, or_true, true_or, or_false, false_or, Int.reduceEq, Int.reduceNe, Int.reduceLT, Int.reduceLE, Int.reduceNeg, Int.toNat_natCast, tg_nil, eq_self, lc0n, lc1n, lc2n, lc3n, lc4n, lc5n, lc6n, lc1i, lc2i, lc3i, lc4i, lc5i, lc6i, lc1r, lc2r, lc3r, lc4r, lc5r, lc6r, Nat.add_zero]
    refine q_cnt4 (Fz_r hS) (fun μ' hF => ?_)
    refine wp2_go w8_705 ?_; simp only [v8_705, tg_ic_ge, tg_iload, ldI_10, tg_if_eq, tg_aload_1, ldI_11, tg_iconst, tg_iv3, nLg_n, nLg_i, nLg_r, tc_c, tc_l, tc_r, tc_m, tc_n, tc_o, tc_0, inR, true_and, and_true, ne_eq, not_true_eq_false, not_false_eq_true, true_imp_iff, false_imp_iff, lit_a, Nat.reduceAdd, or_true, true_or, or_false, false_or, Int.reduceEq, Int.reduceNe, Int.reduceLT, Int.reduceLE, Int.reduceNeg, Int.toNat_natCast, tg_nil, eq_self, lc0n, lc1n, lc2n, lc3n, lc4n, lc5n, lc6n, lc1i, lc2i, lc3i, lc4i, lc5i, lc6i, lc1r, lc2r, lc3r, lc4r, lc5r, lc6r, Nat.add_zero]
    repeat' (first | with_reducible apply And.intro | intro _)
    all_goals (try omega)
    refine q_of2 hF hk (fun μ' hF => ?_)
    have fl := (hS.1.2.2.2.2 k hk).2.2.1
    refine wp2_go w8_720 ?_; simp only [v8_720, tg_if_eq, tg_aload_1, tg_iload, ldI_11, tg_iconst, tg_iv3, nLg_n, nLg_i, nLg_r, tc_c, tc_l, tc_r, tc_m, tc_n, tc_o, tc_0, inR, true_and, and_true, ne_eq, not_true_eq_false, not_false_eq_true, true_imp_iff, false_imp_iff, lit_a, Nat.reduceAdd, or_true, true_or, or_false, false_or, Int.reduceEq, Int.reduceNe, Int.reduceLT, Int.reduceLE, Int.reduceNeg, Int.toNat_natCast, tg_nil, eq_self, lc0n, lc1n, lc2n, lc3n, lc4n, lc5n, lc6n, lc1i, lc2i, lc3i, lc4i, lc5i, lc6i, lc1r, lc2r, lc3r, lc4r, lc5r, lc6r, Nat.add_zero]
    repeat' (first | with_reducible apply And.intro | intro _)
    all_goals (try omega)
    · exact p760 _ hF
    · have e1 : F_of z (k : Int) 4 + 7 * F_of z (k : Int) 5 + 31 * F_of z (k : Int) 7 = μ 510 k := by
        rcases hm k hk with h | h
        · omega
        · exact h
      refine q_of hF hk (by omega) (fun μ' hF => ?_)
      refine wp2_go w8_730 ?_; simp only [v8_730, tg_bipush, tg_aload_1, tg_iload, ldI_11, tg_iconst, tg_iv3, nLg_n, nLg_i, nLg_r, tc_c, tc_l, tc_r, tc_m, tc_n, tc_o, tc_0, inR, true_and, and_true, ne_eq, not_true_eq_false, not_false_eq_true, true_imp_iff, false_imp_iff, lit_a, Nat.reduceAdd, or_true, true_or, or_false, false_or, Int.reduceEq, Int.reduceNe, Int.reduceLT, Int.reduceLE, Int.reduceNeg, Int.toNat_natCast, tg_nil, eq_self, lc0n, lc1n, lc2n, lc3n, lc4n, lc5n, lc6n, lc1i, lc2i, lc3i, lc4i, lc5i, lc6i, lc1r, lc2r, lc3r, lc4r, lc5r, lc6r, Nat.add_zero]
      refine q_of hF hk (by omega) (fun μ' hF => ?_)
      refine wp2_go w8_739 ?_; simp only [v8_739, tg_imul, tg_iadd, tg_bipush, tg_aload_1, tg_iload, ldI_11, tg_iv3, nLg_n, nLg_i, nLg_r, tc_c, tc_l, tc_r, tc_m, tc_n, tc_o, tc_0, inR, true_and, and_true, ne_eq, not_true_eq_false, not_false_eq_true, true_imp_iff, false_imp_iff, lit_a, Nat.reduceAdd, or_true, true_or, or_false, false_or, Int.reduceEq, Int.reduceNe, Int.reduceLT, Int.reduceLE, Int.reduceNeg, Int.toNat_natCast, tg_nil, eq_self, lc0n, lc1n, lc2n, lc3n, lc4n, lc5n, lc6n, lc1i, lc2i, lc3i, lc4i, lc5i, lc6i, lc1r, lc2r, lc3r, lc4r, lc5r, lc6r, Nat.add_zero]
      refine q_of hF hk (by omega) (fun μ' hF => ?_)
      refine wp2_go w8_751 ?_; simp only [v8_751, tg_imul, tg_iadd, tg_aload_2, tg_iload, ldI_11, tg_iaload, tg_ic_ne, nLg_n, nLg_i, nLg_r, tc_c, tc_l, tc_r, tc_m, tc_n, tc_o, tc_0, inR, true_and, and_true, ne_eq, not_true_eq_false, not_false_eq_true, true_imp_iff, false_imp_iff, lit_a, Nat.reduceAdd, or_true, true_or, or_false, false_or, Int.reduceEq, Int.reduceNe, Int.reduceLT, Int.reduceLE, Int.reduceNeg, Int.toNat_natCast, tg_nil, eq_self, lc0n, lc1n, lc2n, lc3n, lc4n, lc5n, lc6n, lc1i, lc2i, lc3i, lc4i, lc5i, lc6i, lc1r, lc2r, lc3r, lc4r, lc5r, lc6r, Nat.add_zero, hlen, e1, hF.2 510 (Nat.le_refl 510)]
      repeat' (first | with_reducible apply And.intro | intro _)
      all_goals (try omega)
      exact p760 _ hF
