/-! THE LAW'S isHeard -/
theorem St_zr {z : Rw} {μ : Mem} {k : Nat} (h : St z μ) (hk : 510 ≤ k) : St z (zr μ k) := by
  obtain ⟨h1, h2, h3, a, h4⟩ := h
  exact ⟨h1, h2, RC_f (by have := h1.1; omega) (fun j h1 h2 => zr_o (by omega)) h3, a, CRr_f (fun j h => zr_o (by omega)) h4⟩
theorem f_when0 {z : Rw} {l s : Nat} (hz : IZ z) (hn : NF z l) (hs : (s : Int) < z 0) : F_whenHeard z (l : Int) (sm (zl z) s) = sm (zl z) s + sm (nl z (gL z l) (bLi z l)) (s + 1) := by
  have := f_when (u := 0) hz hn hs (Int.le_refl 0) (by have := zl_b hz hs; omega)
  rw [Int.add_zero, Int.add_zero] at this
  exact this
-- the law's isHeard: blocks [0, 19, 25, 45, 61, 71, 87, 97, 102, 109, 121, 130, 131, 152, 178, 193, 216, 261, 266, 270, 271, 289, 308, 324, 340, 349, 350, 375, 390, 407, 420, 425, 429, 430, 439, 482, 483, 504, 510, 521, 533, 545, 556, 567, 574, 575, 590, 610, 615, 622, 635, 645, 653, 654, 666, 676, 687, 688]
set_option maxHeartbeats 4000000 in
theorem isH_step {y : Nat → Int} {L d na l V W s : Nat} {len : Nat → Nat} {Q : QT} {μ1 : Mem} {z : Rw} {hh : Int} (hVW : VW na len V W) (hS : St z μ1) (hn : NF z l) (hN : NV z (gL z l) (bLi z l) V W (zn z) μ1) (hs : (s : Int) < z 0)
    (next : ∀ (X12 X13 X14 : Option MV) (μ : Mem), nLg X12 → nLg X13 → nLg X14 → Fz z μ1 μ → wp2 y L 2 (Call2 y L (d + 1)) 4 Q (2, na, len) 45 [some (.inr (.inr 0)), some (.inl (l : Int)), some (.inl hh), some (.inr (.inr V)), some (.inr (.inr W)), some (.inl (z 0)), some (.inl (sm (zl z) (s + 1) + sm (nl z (gL z l) (bLi z l)) (s + 1))), some (.inl (sm (zl z) (s + 1))), some (.inl (sm (kN z (gL z l) (bLi z l)) (s + 1))), some (.inl (sm (nl z (gL z l) (bLi z l)) (s + 1))), some (.inl (sm (zb z) (s + 1) - 1)), some (.inl ((s + 1 : Nat) : Int)), X12, X13, X14] [] μ)
    (X12 X13 X14 : Option MV) (μ : Mem) (n12 : nLg X12) (n13 : nLg X13) (n14 : nLg X14) (hF : Fz z μ1 μ) : wp2 y L 2 (Call2 y L (d + 1)) 4 Q (2, na, len) 45 [some (.inr (.inr 0)), some (.inl (l : Int)), some (.inl hh), some (.inr (.inr V)), some (.inr (.inr W)), some (.inl (z 0)), some (.inl (sm (zl z) s + sm (nl z (gL z l) (bLi z l)) s)), some (.inl (sm (zl z) s)), some (.inl (sm (kN z (gL z l) (bLi z l)) s)), some (.inl (sm (nl z (gL z l) (bLi z l)) s)), some (.inl (sm (zb z) s - 1)), some (.inl (s : Int)), X12, X13, X14] [] μ := by
  have hz := hS.1
  have hM := hS.2.1
  have q0 := hz.1
  have ez := zn_eq hz
  have hl := hn.1
  have hbl := bLi_b hz hl
  obtain ⟨hV1, hW1, hVl, hWl, hne⟩ := hVW
  obtain ⟨N1, N2, N3, N4⟩ := hN s (by omega)
  have t1 := T_b hz (s := s) (by omega)
  have t2 := zl_b hz hs
  have s1 := S_b (g := gL z l) (b := bLi z l) hz (by omega) (s := s) (by omega)
  have s2 := S_b (g := gL z l) (b := bLi z l) hz (by omega) (s := s + 1) (by omega)
  have s3 := cl_b (g := gL z l) (b := bLi z l) hz hs
  have z1 := zb_b hz hs
  have z2 := B_b hz (s := s) (by omega)
  have z3 := B_1 hz hs
  have z4 := B_b hz (s := s + 1) (by omega)
  have m1 := zm_b hz hs
  have c1 := ch_in (g := gL z l) (b := bLi z l) hz hs
  have ec : sm (zb z) s - 1 + zb z s = sm (zb z) (s + 1) - 1 := by rw [sm_s]; omega
  have ew : sm (zl z) s + sm (nl z (gL z l) (bLi z l)) s + nl z (gL z l) (bLi z l) s = sm (zl z) s + sm (nl z (gL z l) (bLi z l)) (s + 1) := by rw [sm_s]; omega
  have eS := sm_s (nl z (gL z l) (bLi z l)) s
  have hV0 := hV1.1
  have hW0 := hW1.1
  refine wp2_go w4_45 ?_; simp only [v4_45, tg_iload, ldI_11, ldI_5, tg_ic_ge, ldI_10, tg_aload_0, tg_iconst, tg_iv3, nLg_n, nLg_i, nLg_r, tc_c, tc_l, tc_r, tc_m, tc_n, tc_o, tc_0, inR, true_and, and_true, ne_eq, not_true_eq_false, not_false_eq_true, true_imp_iff, false_imp_iff, lit_a, Nat.reduceAdd, or_true, true_or, or_false, false_or, Int.reduceEq, Int.reduceNe, Int.reduceLT, Int.reduceLE, Int.reduceNeg, Int.toNat_natCast, tg_nil, eq_self, lc0n, lc1n, lc2n, lc3n, lc4n, lc5n, lc6n, lc1i, lc2i, lc3i, lc4i, lc5i, lc6i, lc1r, lc2r, lc3r, lc4r, lc5r, lc6r, Nat.add_zero]
  repeat' (first | with_reducible apply And.intro | intro _)
  all_goals (try omega)
  refine q_sen4 hF hs (fun μ hF => ?_)
  refine wp2_go w4_61 ?_; simp only [v4_61, tg_iadd, tg_istore, okS_10, stL_10, tg_aload_0, tg_iload_1, tg_iload, ldI_11, tg_iv3, nLg_n, nLg_i, nLg_r, tc_c, tc_l, tc_r, tc_m, tc_n, tc_o, tc_0, inR, true_and, and_true, ne_eq, not_true_eq_false, not_false_eq_true, true_imp_iff, false_imp_iff, lit_a, Nat.reduceAdd, or_true, true_or, or_false, false_or, Int.reduceEq, Int.reduceNe, Int.reduceLT, Int.reduceLE, Int.reduceNeg, Int.toNat_natCast, tg_nil, eq_self, lc0n, lc1n, lc2n, lc3n, lc4n, lc5n, lc6n, lc1i, lc2i, lc3i, lc4i, lc5i, lc6i, lc1r, lc2r, lc3r, lc4r, lc5r, lc6r, Nat.add_zero, ec]
  refine q_heard hF ⟨by omega, by omega⟩ ⟨by omega, by omega⟩ (fun μ hF => ?_)
  rw [f_heard hz hn hs]
  refine wp2_go w4_71 ?_; simp only [v4_71, tg_aload_3, tg_iconst, tg_iload, ldI_11, tg_imul, tg_iaload, tg_ic_ne, tg_aload_0, tg_iv3, nLg_n, nLg_i, nLg_r, tc_c, tc_l, tc_r, tc_m, tc_n, tc_o, tc_0, inR, true_and, and_true, ne_eq, not_true_eq_false, not_false_eq_true, true_imp_iff, false_imp_iff, lit_a, Nat.reduceAdd, or_true, true_or, or_false, false_or, Int.reduceEq, Int.reduceNe, Int.reduceLT, Int.reduceLE, Int.reduceNeg, Int.toNat_natCast, tg_nil, eq_self, lc0n, lc1n, lc2n, lc3n, lc4n, lc5n, lc6n, lc1i, lc2i, lc3i, lc4i, lc5i, lc6i, lc1r, lc2r, lc3r, lc4r, lc5r, lc6r, Nat.add_zero, hF.2 V hV0, N1, hVl]
  repeat' (first | with_reducible apply And.intro | intro _)
  all_goals (try omega)
  refine q_sen4 hF hs (fun μ hF => ?_)
  have p102 : ∀ μ : Mem, Fz z μ1 μ → wp2 y L 2 (Call2 y L (d + 1)) 4 Q (2, na, len) 102 [some (.inr (.inr 0)), some (.inl (l : Int)), some (.inl hh), some (.inr (.inr V)), some (.inr (.inr W)), some (.inl (z 0)), some (.inl (sm (zl z) s + sm (nl z (gL z l) (bLi z l)) s)), some (.inl (sm (zl z) s)), some (.inl (sm (kN z (gL z l) (bLi z l)) s)), some (.inl (sm (nl z (gL z l) (bLi z l)) s)), some (.inl (sm (zb z) (s + 1) - 1)), some (.inl (s : Int)), X12, X13, X14] [] μ := by
    intro μ hF
    refine wp2_go w4_102 ?_; simp only [v4_102, tg_aload_0, tg_iload, ldI_11, tg_iconst, tg_iv3, nLg_n, nLg_i, nLg_r, tc_c, tc_l, tc_r, tc_m, tc_n, tc_o, tc_0, inR, true_and, and_true, ne_eq, not_true_eq_false, not_false_eq_true, true_imp_iff, false_imp_iff, lit_a, Nat.reduceAdd, or_true, true_or, or_false, false_or, Int.reduceEq, Int.reduceNe, Int.reduceLT, Int.reduceLE, Int.reduceNeg, Int.toNat_natCast, tg_nil, eq_self, lc0n, lc1n, lc2n, lc3n, lc4n, lc5n, lc6n, lc1i, lc2i, lc3i, lc4i, lc5i, lc6i, lc1r, lc2r, lc3r, lc4r, lc5r, lc6r, Nat.add_zero]
    refine q_sen3 hF hs (fun μ hF => ?_)
    refine wp2_go w4_109 ?_; simp only [v4_109, tg_iload, ldI_10, tg_ic_ne, tg_aload_0, ldI_11, tg_iconst, tg_iv3, nLg_n, nLg_i, nLg_r, tc_c, tc_l, tc_r, tc_m, tc_n, tc_o, tc_0, inR, true_and, and_true, ne_eq, not_true_eq_false, not_false_eq_true, true_imp_iff, false_imp_iff, lit_a, Nat.reduceAdd, or_true, true_or, or_false, false_or, Int.reduceEq, Int.reduceNe, Int.reduceLT, Int.reduceLE, Int.reduceNeg, Int.toNat_natCast, tg_nil, eq_self, lc0n, lc1n, lc2n, lc3n, lc4n, lc5n, lc6n, lc1i, lc2i, lc3i, lc4i, lc5i, lc6i, lc1r, lc2r, lc3r, lc4r, lc5r, lc6r, Nat.add_zero]
    refine q_sen2 hF hs (fun μ hF => ?_)
    refine wp2_go w4_121 ?_; simp only [v4_121, tg_iload, ldI_7, tg_ic_ne, tg_iconst, tg_goto, nLg_n, nLg_i, nLg_r, tc_c, tc_l, tc_r, tc_m, tc_n, tc_o, tc_0, inR, true_and, and_true, ne_eq, not_true_eq_false, not_false_eq_true, true_imp_iff, false_imp_iff, lit_a, Nat.reduceAdd, or_true, true_or, or_false, false_or, Int.reduceEq, Int.reduceNe, Int.reduceLT, Int.reduceLE, Int.reduceNeg, Int.toNat_natCast, tg_nil, eq_self, lc0n, lc1n, lc2n, lc3n, lc4n, lc5n, lc6n, lc1i, lc2i, lc3i, lc4i, lc5i, lc6i, lc1r, lc2r, lc3r, lc4r, lc5r, lc6r, Nat.add_zero]
    refine wp2_go w4_131 ?_; simp only [v4_131, tg_istore, okS_12, stL_12, tg_iload_2, tg_iload, ldI_11, tg_bipush, tg_irem, tg_ishr, tg_aload, ldR_4, tg_iconst, tg_imul, tg_iadd, tg_iaload, tg_is2, mc_1, nLg_n, nLg_i, nLg_r, tc_c, tc_l, tc_r, tc_m, tc_n, tc_o, tc_0, inR, true_and, and_true, ne_eq, not_true_eq_false, not_false_eq_true, true_imp_iff, false_imp_iff, lit_a, Nat.reduceAdd, or_true, true_or, or_false, false_or, Int.reduceEq, Int.reduceNe, Int.reduceLT, Int.reduceLE, Int.reduceNeg, Int.toNat_natCast, tg_nil, eq_self, lc0n, lc1n, lc2n, lc3n, lc4n, lc5n, lc6n, lc1i, lc2i, lc3i, lc4i, lc5i, lc6i, lc1r, lc2r, lc3r, lc4r, lc5r, lc6r, Nat.add_zero, hF.2 V hV0, hF.2 W hW0, N1, N2, N3, N4, hVl, hWl]
    repeat' (first | with_reducible apply And.intro | intro _)
    all_goals (try omega)
    refine c_low (by omega) ?_
    obtain ⟨u0, u1⟩ := lowF_b (iShr hh ((s : Int) % 9)) (n := zl z s) (by omega)
    generalize lowF (iShr hh ((s : Int) % 9)) (zl z s) = u at u0 u1
    have p425 : ∀ μ : Mem, Fz z μ1 μ → wp2 y L 2 (Call2 y L (d + 1)) 4 Q (2, na, len) 425 [some (.inr (.inr 0)), some (.inl (l : Int)), some (.inl hh), some (.inr (.inr V)), some (.inr (.inr W)), some (.inl (z 0)), some (.inl (sm (zl z) s + sm (nl z (gL z l) (bLi z l)) s)), some (.inl (sm (zl z) s)), some (.inl (sm (kN z (gL z l) (bLi z l)) s)), some (.inl (sm (nl z (gL z l) (bLi z l)) s)), some (.inl (sm (zb z) (s + 1) - 1)), some (.inl (s : Int)), some (.inl 1), some (.inl u), some (.inl (sm (zl z) s + sm (nl z (gL z l) (bLi z l)) (s + 1)))] [] μ := by
      intro μ hF
      refine wp2_go w4_425 ?_; simp only [v4_425, tg_iconst, tg_goto, nLg_n, nLg_i, nLg_r, tc_c, tc_l, tc_r, tc_m, tc_n, tc_o, tc_0, inR, true_and, and_true, ne_eq, not_true_eq_false, not_false_eq_true, true_imp_iff, false_imp_iff, lit_a, Nat.reduceAdd, or_true, true_or, or_false, false_or, Int.reduceEq, Int.reduceNe, Int.reduceLT, Int.reduceLE, Int.reduceNeg, Int.toNat_natCast, tg_nil, eq_self, lc0n, lc1n, lc2n, lc3n, lc4n, lc5n, lc6n, lc1i, lc2i, lc3i, lc4i, lc5i, lc6i, lc1r, lc2r, lc3r, lc4r, lc5r, lc6r, Nat.add_zero]
      refine wp2_go w4_430 ?_; simp only [v4_430, tg_istore, okS_12, stL_12, tg_iload, ldI_12, tg_if_ne, tg_iconst, tg_iret1, nLg_n, nLg_i, nLg_r, tc_c, tc_l, tc_r, tc_m, tc_n, tc_o, tc_0, inR, true_and, and_true, ne_eq, not_true_eq_false, not_false_eq_true, true_imp_iff, false_imp_iff, lit_a, Nat.reduceAdd, or_true, true_or, or_false, false_or, Int.reduceEq, Int.reduceNe, Int.reduceLT, Int.reduceLE, Int.reduceNeg, Int.toNat_natCast, tg_nil, eq_self, lc0n, lc1n, lc2n, lc3n, lc4n, lc5n, lc6n, lc1i, lc2i, lc3i, lc4i, lc5i, lc6i, lc1r, lc2r, lc3r, lc4r, lc5r, lc6r, Nat.add_zero]
      refine wp2_go w4_439 ?_; simp only [v4_439, tg_iload, ldI_14, tg_aload, ldR_4, tg_iconst, ldI_11, tg_imul, tg_iadd, tg_iaload, tg_istore, okS_6, stL_6, ldI_7, okS_7, stL_7, ldI_8, tg_aload_3, tg_if_ge, tg_goto, nLg_n, nLg_i, nLg_r, tc_c, tc_l, tc_r, tc_m, tc_n, tc_o, tc_0, inR, true_and, and_true, ne_eq, not_true_eq_false, not_false_eq_true, true_imp_iff, false_imp_iff, lit_a, Nat.reduceAdd, or_true, true_or, or_false, false_or, Int.reduceEq, Int.reduceNe, Int.reduceLT, Int.reduceLE, Int.reduceNeg, Int.toNat_natCast, tg_nil, eq_self, lc0n, lc1n, lc2n, lc3n, lc4n, lc5n, lc6n, lc1i, lc2i, lc3i, lc4i, lc5i, lc6i, lc1r, lc2r, lc3r, lc4r, lc5r, lc6r, Nat.add_zero, hF.2 V hV0, hF.2 W hW0, N1, N2, N3, N4, hVl, hWl]
      have e1 : sm (zl z) s + sm (nl z (gL z l) (bLi z l)) (s + 1) + zl z s = sm (zl z) (s + 1) + sm (nl z (gL z l) (bLi z l)) (s + 1) := by rw [sm_s (zl z)]; omega
      have e2 : sm (zl z) s + zl z s = sm (zl z) (s + 1) := (sm_s _ _).symm
      have e3 : sm (nl z (gL z l) (bLi z l)) s + nl z (gL z l) (bLi z l) s = sm (nl z (gL z l) (bLi z l)) (s + 1) := (sm_s _ _).symm
      repeat' (first | with_reducible apply And.intro | intro _)
      all_goals (try omega)
      · refine wp2_go w4_483 ?_; simp only [v4_483, tg_iadd, tg_istore, okS_8, stL_8, tg_iload, ldI_9, tg_aload, ldR_4, tg_iconst, ldI_11, tg_imul, tg_iaload, okS_9, stL_9, tg_iinc, okS_11, stL_11, tg_goto, nLg_n, nLg_i, nLg_r, tc_c, tc_l, tc_r, tc_m, tc_n, tc_o, tc_0, inR, true_and, and_true, ne_eq, not_true_eq_false, not_false_eq_true, true_imp_iff, false_imp_iff, lit_a, Nat.reduceAdd, or_true, true_or, or_false, false_or, Int.reduceEq, Int.reduceNe, Int.reduceLT, Int.reduceLE, Int.reduceNeg, Int.toNat_natCast, tg_nil, eq_self, lc0n, lc1n, lc2n, lc3n, lc4n, lc5n, lc6n, lc1i, lc2i, lc3i, lc4i, lc5i, lc6i, lc1r, lc2r, lc3r, lc4r, lc5r, lc6r, Nat.add_zero, hF.2 V hV0, hF.2 W hW0, N1, N2, N3, N4, hVl, hWl]
        repeat' (first | with_reducible apply And.intro | intro _)
        all_goals (try omega)
        have e4 : sm (kN z (gL z l) (bLi z l)) s + 0 = sm (kN z (gL z l) (bLi z l)) (s + 1) := by
          rw [sm_s]; unfold kN; rw [if_pos (by assumption)]
        rw [e1, e2, e3, e4]
        exact next (some (.inl 1)) (some (.inl u)) (some (.inl (sm (zl z) s + sm (nl z (gL z l) (bLi z l)) (s + 1)))) _ trivial trivial trivial hF
      · refine wp2_go w4_482 ?_; simp only [v4_482, tg_iconst, nLg_n, nLg_i, nLg_r, tc_c, tc_l, tc_r, tc_m, tc_n, tc_o, tc_0, inR, true_and, and_true, ne_eq, not_true_eq_false, not_false_eq_true, true_imp_iff, false_imp_iff, lit_a, Nat.reduceAdd, or_true, true_or, or_false, false_or, Int.reduceEq, Int.reduceNe, Int.reduceLT, Int.reduceLE, Int.reduceNeg, Int.toNat_natCast, tg_nil, eq_self, lc0n, lc1n, lc2n, lc3n, lc4n, lc5n, lc6n, lc1i, lc2i, lc3i, lc4i, lc5i, lc6i, lc1r, lc2r, lc3r, lc4r, lc5r, lc6r, Nat.add_zero]
        refine wp2_go w4_483 ?_; simp only [v4_483, tg_iadd, tg_istore, okS_8, stL_8, tg_iload, ldI_9, tg_aload, ldR_4, tg_iconst, ldI_11, tg_imul, tg_iaload, okS_9, stL_9, tg_iinc, okS_11, stL_11, tg_goto, nLg_n, nLg_i, nLg_r, tc_c, tc_l, tc_r, tc_m, tc_n, tc_o, tc_0, inR, true_and, and_true, ne_eq, not_true_eq_false, not_false_eq_true, true_imp_iff, false_imp_iff, lit_a, Nat.reduceAdd, or_true, true_or, or_false, false_or, Int.reduceEq, Int.reduceNe, Int.reduceLT, Int.reduceLE, Int.reduceNeg, Int.toNat_natCast, tg_nil, eq_self, lc0n, lc1n, lc2n, lc3n, lc4n, lc5n, lc6n, lc1i, lc2i, lc3i, lc4i, lc5i, lc6i, lc1r, lc2r, lc3r, lc4r, lc5r, lc6r, Nat.add_zero, hF.2 V hV0, hF.2 W hW0, N1, N2, N3, N4, hVl, hWl]
        repeat' (first | with_reducible apply And.intro | intro _)
        all_goals (try omega)
        have e4 : sm (kN z (gL z l) (bLi z l)) s + 1 = sm (kN z (gL z l) (bLi z l)) (s + 1) := by
          rw [sm_s]; unfold kN; rw [if_neg (by omega)]
        rw [e1, e2, e3, e4]
        exact next (some (.inl 1)) (some (.inl u)) (some (.inl (sm (zl z) s + sm (nl z (gL z l) (bLi z l)) (s + 1)))) _ trivial trivial trivial hF
    have p350 : ∀ μ : Mem, Fz z μ1 μ → wp2 y L 2 (Call2 y L (d + 1)) 4 Q (2, na, len) 350 [some (.inr (.inr 0)), some (.inl (l : Int)), some (.inl hh), some (.inr (.inr V)), some (.inr (.inr W)), some (.inl (z 0)), some (.inl (sm (zl z) s + sm (nl z (gL z l) (bLi z l)) s)), some (.inl (sm (zl z) s)), some (.inl (sm (kN z (gL z l) (bLi z l)) s)), some (.inl (sm (nl z (gL z l) (bLi z l)) s)), some (.inl (sm (zb z) (s + 1) - 1)), some (.inl (s : Int)), some (.inl 1), some (.inl u), some (.inl (sm (zl z) s + sm (nl z (gL z l) (bLi z l)) (s + 1)))] [.inl 1] μ := by
      intro μ hF
      refine wp2_go w4_350 ?_; simp only [v4_350, tg_istore, okS_12, stL_12, tg_iload, ldI_12, tg_if_eq, tg_aload, ldR_4, tg_iconst, ldI_11, tg_imul, tg_iaload, tg_aload_0, tg_iload_1, ldI_6, tg_iv4, nLg_n, nLg_i, nLg_r, tc_c, tc_l, tc_r, tc_m, tc_n, tc_o, tc_0, inR, true_and, and_true, ne_eq, not_true_eq_false, not_false_eq_true, true_imp_iff, false_imp_iff, lit_a, Nat.reduceAdd, or_true, true_or, or_false, false_or, Int.reduceEq, Int.reduceNe, Int.reduceLT, Int.reduceLE, Int.reduceNeg, Int.toNat_natCast, tg_nil, eq_self, lc0n, lc1n, lc2n, lc3n, lc4n, lc5n, lc6n, lc1i, lc2i, lc3i, lc4i, lc5i, lc6i, lc1r, lc2r, lc3r, lc4r, lc5r, lc6r, Nat.add_zero, hF.2 V hV0, hF.2 W hW0, N1, N2, N3, N4, hVl, hWl]
      repeat' (first | with_reducible apply And.intro | intro _)
      all_goals (try omega)
      · exact p425 _ hF
      · refine q_heardAt hF ⟨by omega, by omega⟩ ⟨by omega, by omega⟩ ⟨by omega, by omega⟩ (fun μ hF => ?_)
        rw [f_atn hz hn hs (by omega) (by omega) (by omega)]
        refine wp2_go w4_375 ?_; simp only [v4_375, tg_bipush, tg_ic_ne, tg_aload_0, tg_iload_1, tg_iload, ldI_14, tg_iconst, tg_isub, tg_iv4, nLg_n, nLg_i, nLg_r, tc_c, tc_l, tc_r, tc_m, tc_n, tc_o, tc_0, inR, true_and, and_true, ne_eq, not_true_eq_false, not_false_eq_true, true_imp_iff, false_imp_iff, lit_a, Nat.reduceAdd, or_true, true_or, or_false, false_or, Int.reduceEq, Int.reduceNe, Int.reduceLT, Int.reduceLE, Int.reduceNeg, Int.toNat_natCast, tg_nil, eq_self, lc0n, lc1n, lc2n, lc3n, lc4n, lc5n, lc6n, lc1i, lc2i, lc3i, lc4i, lc5i, lc6i, lc1r, lc2r, lc3r, lc4r, lc5r, lc6r, Nat.add_zero, if_true, if_false]
        refine q_heardAt hF ⟨by omega, by omega⟩ ⟨by omega, by omega⟩ ⟨by omega, by omega⟩ (fun μ hF => ?_)
        rw [f_atn hz hn hs (by omega) (by omega) (by omega)]
        refine wp2_go w4_390 ?_; simp only [v4_390, tg_aload_3, tg_iconst, tg_iload, ldI_11, tg_imul, tg_iaload, tg_ic_ne, tg_aload_0, tg_iload_1, ldI_6, tg_iv4, nLg_n, nLg_i, nLg_r, tc_c, tc_l, tc_r, tc_m, tc_n, tc_o, tc_0, inR, true_and, and_true, ne_eq, not_true_eq_false, not_false_eq_true, true_imp_iff, false_imp_iff, lit_a, Nat.reduceAdd, or_true, true_or, or_false, false_or, Int.reduceEq, Int.reduceNe, Int.reduceLT, Int.reduceLE, Int.reduceNeg, Int.toNat_natCast, tg_nil, eq_self, lc0n, lc1n, lc2n, lc3n, lc4n, lc5n, lc6n, lc1i, lc2i, lc3i, lc4i, lc5i, lc6i, lc1r, lc2r, lc3r, lc4r, lc5r, lc6r, Nat.add_zero, hF.2 V hV0, hF.2 W hW0, N1, N2, N3, N4, hVl, hWl, if_true, if_false]
        repeat' (first | with_reducible apply And.intro | intro _)
        all_goals (try omega)
        refine q_heardAt hF ⟨by omega, by omega⟩ ⟨by omega, by omega⟩ ⟨by omega, by omega⟩ (fun μ hF => ?_)
        rw [f_atn hz hn hs (by omega) (by omega) (by omega)]
        refine wp2_go w4_407 ?_; simp only [v4_407, tg_iload, ldI_11, tg_ic_ne, tg_aload_0, tg_iload_1, ldI_6, tg_iconst, tg_iv4, nLg_n, nLg_i, nLg_r, tc_c, tc_l, tc_r, tc_m, tc_n, tc_o, tc_0, inR, true_and, and_true, ne_eq, not_true_eq_false, not_false_eq_true, true_imp_iff, false_imp_iff, lit_a, Nat.reduceAdd, or_true, true_or, or_false, false_or, Int.reduceEq, Int.reduceNe, Int.reduceLT, Int.reduceLE, Int.reduceNeg, Int.toNat_natCast, tg_nil, eq_self, lc0n, lc1n, lc2n, lc3n, lc4n, lc5n, lc6n, lc1i, lc2i, lc3i, lc4i, lc5i, lc6i, lc1r, lc2r, lc3r, lc4r, lc5r, lc6r, Nat.add_zero, if_true, if_false]
        refine q_heardAt hF ⟨by omega, by omega⟩ ⟨by omega, by omega⟩ ⟨by omega, by omega⟩ (fun μ hF => ?_)
        rw [f_atn hz hn hs (by omega) (by omega) (by omega)]
        refine wp2_go w4_420 ?_; simp only [v4_420, tg_iload, ldI_10, tg_ic_ne, nLg_n, nLg_i, nLg_r, tc_c, tc_l, tc_r, tc_m, tc_n, tc_o, tc_0, inR, true_and, and_true, ne_eq, not_true_eq_false, not_false_eq_true, true_imp_iff, false_imp_iff, lit_a, Nat.reduceAdd, or_true, true_or, or_false, false_or, Int.reduceEq, Int.reduceNe, Int.reduceLT, Int.reduceLE, Int.reduceNeg, Int.toNat_natCast, tg_nil, eq_self, lc0n, lc1n, lc2n, lc3n, lc4n, lc5n, lc6n, lc1i, lc2i, lc3i, lc4i, lc5i, lc6i, lc1r, lc2r, lc3r, lc4r, lc5r, lc6r, Nat.add_zero, if_true, if_false]
        exact p425 _ hF
    have p271 : ∀ μ : Mem, Fz z μ1 μ → wp2 y L 2 (Call2 y L (d + 1)) 4 Q (2, na, len) 271 [some (.inr (.inr 0)), some (.inl (l : Int)), some (.inl hh), some (.inr (.inr V)), some (.inr (.inr W)), some (.inl (z 0)), some (.inl (sm (zl z) s + sm (nl z (gL z l) (bLi z l)) s)), some (.inl (sm (zl z) s)), some (.inl (sm (kN z (gL z l) (bLi z l)) s)), some (.inl (sm (nl z (gL z l) (bLi z l)) s)), some (.inl (sm (zb z) (s + 1) - 1)), some (.inl (s : Int)), some (.inl 1), some (.inl u), some (.inl (sm (zl z) s + sm (nl z (gL z l) (bLi z l)) (s + 1)))] [.inl 1] μ := by
      intro μ hF
      refine wp2_go w4_271 ?_; simp only [v4_271, tg_istore, okS_12, stL_12, tg_iload, ldI_12, tg_if_eq, tg_aload_0, tg_iload_1, ldI_14, ldI_13, tg_iadd, tg_iconst, tg_iv4, nLg_n, nLg_i, nLg_r, tc_c, tc_l, tc_r, tc_m, tc_n, tc_o, tc_0, inR, true_and, and_true, ne_eq, not_true_eq_false, not_false_eq_true, true_imp_iff, false_imp_iff, lit_a, Nat.reduceAdd, or_true, true_or, or_false, false_or, Int.reduceEq, Int.reduceNe, Int.reduceLT, Int.reduceLE, Int.reduceNeg, Int.toNat_natCast, tg_nil, eq_self, lc0n, lc1n, lc2n, lc3n, lc4n, lc5n, lc6n, lc1i, lc2i, lc3i, lc4i, lc5i, lc6i, lc1r, lc2r, lc3r, lc4r, lc5r, lc6r, Nat.add_zero]
      refine q_heardAt hF ⟨by omega, by omega⟩ ⟨by omega, by omega⟩ ⟨by omega, by omega⟩ (fun μ hF => ?_)
      rw [f_at hz hn hs u0 u1 (by omega)]
      refine wp2_go w4_289 ?_; simp only [v4_289, tg_iload, ldI_7, ldI_13, tg_iadd, tg_ic_ne, tg_aload_0, tg_iload_1, ldI_14, tg_iconst, tg_iv4, nLg_n, nLg_i, nLg_r, tc_c, tc_l, tc_r, tc_m, tc_n, tc_o, tc_0, inR, true_and, and_true, ne_eq, not_true_eq_false, not_false_eq_true, true_imp_iff, false_imp_iff, lit_a, Nat.reduceAdd, or_true, true_or, or_false, false_or, Int.reduceEq, Int.reduceNe, Int.reduceLT, Int.reduceLE, Int.reduceNeg, Int.toNat_natCast, tg_nil, eq_self, lc0n, lc1n, lc2n, lc3n, lc4n, lc5n, lc6n, lc1i, lc2i, lc3i, lc4i, lc5i, lc6i, lc1r, lc2r, lc3r, lc4r, lc5r, lc6r, Nat.add_zero, if_true, if_false]
      refine q_heardAt hF ⟨by omega, by omega⟩ ⟨by omega, by omega⟩ ⟨by omega, by omega⟩ (fun μ hF => ?_)
      rw [f_at hz hn hs u0 u1 (by omega)]
      refine wp2_go w4_308 ?_; simp only [v4_308, tg_bipush, tg_ic_ne, tg_aload_0, tg_iload_1, tg_iload, ldI_14, ldI_13, tg_iadd, tg_iconst, tg_iv4, nLg_n, nLg_i, nLg_r, tc_c, tc_l, tc_r, tc_m, tc_n, tc_o, tc_0, inR, true_and, and_true, ne_eq, not_true_eq_false, not_false_eq_true, true_imp_iff, false_imp_iff, lit_a, Nat.reduceAdd, or_true, true_or, or_false, false_or, Int.reduceEq, Int.reduceNe, Int.reduceLT, Int.reduceLE, Int.reduceNeg, Int.toNat_natCast, tg_nil, eq_self, lc0n, lc1n, lc2n, lc3n, lc4n, lc5n, lc6n, lc1i, lc2i, lc3i, lc4i, lc5i, lc6i, lc1r, lc2r, lc3r, lc4r, lc5r, lc6r, Nat.add_zero, if_true, if_false]
      refine q_heardAt hF ⟨by omega, by omega⟩ ⟨by omega, by omega⟩ ⟨by omega, by omega⟩ (fun μ hF => ?_)
      rw [f_at hz hn hs u0 u1 (by omega)]
      refine wp2_go w4_324 ?_; simp only [v4_324, tg_iload, ldI_11, tg_ic_ne, tg_aload_0, tg_iload_1, ldI_14, ldI_13, tg_iadd, tg_iconst, tg_iv4, nLg_n, nLg_i, nLg_r, tc_c, tc_l, tc_r, tc_m, tc_n, tc_o, tc_0, inR, true_and, and_true, ne_eq, not_true_eq_false, not_false_eq_true, true_imp_iff, false_imp_iff, lit_a, Nat.reduceAdd, or_true, true_or, or_false, false_or, Int.reduceEq, Int.reduceNe, Int.reduceLT, Int.reduceLE, Int.reduceNeg, Int.toNat_natCast, tg_nil, eq_self, lc0n, lc1n, lc2n, lc3n, lc4n, lc5n, lc6n, lc1i, lc2i, lc3i, lc4i, lc5i, lc6i, lc1r, lc2r, lc3r, lc4r, lc5r, lc6r, Nat.add_zero, if_true, if_false]
      refine q_heardAt hF ⟨by omega, by omega⟩ ⟨by omega, by omega⟩ ⟨by omega, by omega⟩ (fun μ hF => ?_)
      rw [f_at hz hn hs u0 u1 (by omega)]
      refine wp2_go w4_340 ?_; simp only [v4_340, tg_iload, ldI_10, tg_ic_ne, tg_iconst, tg_goto, nLg_n, nLg_i, nLg_r, tc_c, tc_l, tc_r, tc_m, tc_n, tc_o, tc_0, inR, true_and, and_true, ne_eq, not_true_eq_false, not_false_eq_true, true_imp_iff, false_imp_iff, lit_a, Nat.reduceAdd, or_true, true_or, or_false, false_or, Int.reduceEq, Int.reduceNe, Int.reduceLT, Int.reduceLE, Int.reduceNeg, Int.toNat_natCast, tg_nil, eq_self, lc0n, lc1n, lc2n, lc3n, lc4n, lc5n, lc6n, lc1i, lc2i, lc3i, lc4i, lc5i, lc6i, lc1r, lc2r, lc3r, lc4r, lc5r, lc6r, Nat.add_zero, if_true, if_false]
      exact p350 _ hF
    have p266 : ∀ μ : Mem, Fz z μ1 μ → wp2 y L 2 (Call2 y L (d + 1)) 4 Q (2, na, len) 266 [some (.inr (.inr 0)), some (.inl (l : Int)), some (.inl hh), some (.inr (.inr V)), some (.inr (.inr W)), some (.inl (z 0)), some (.inl (sm (zl z) s + sm (nl z (gL z l) (bLi z l)) s)), some (.inl (sm (zl z) s)), some (.inl (sm (kN z (gL z l) (bLi z l)) s)), some (.inl (sm (nl z (gL z l) (bLi z l)) s)), some (.inl (sm (zb z) (s + 1) - 1)), some (.inl (s : Int)), some (.inl 1), some (.inl u), some (.inl (sm (zl z) s + sm (nl z (gL z l) (bLi z l)) (s + 1)))] [] μ := by
      intro μ hF
      refine wp2_go w4_266 ?_; simp only [v4_266, tg_iconst, tg_goto, nLg_n, nLg_i, nLg_r, tc_c, tc_l, tc_r, tc_m, tc_n, tc_o, tc_0, inR, true_and, and_true, ne_eq, not_true_eq_false, not_false_eq_true, true_imp_iff, false_imp_iff, lit_a, Nat.reduceAdd, or_true, true_or, or_false, false_or, Int.reduceEq, Int.reduceNe, Int.reduceLT, Int.reduceLE, Int.reduceNeg, Int.toNat_natCast, tg_nil, eq_self, lc0n, lc1n, lc2n, lc3n, lc4n, lc5n, lc6n, lc1i, lc2i, lc3i, lc4i, lc5i, lc6i, lc1r, lc2r, lc3r, lc4r, lc5r, lc6r, Nat.add_zero]
      exact p271 _ hF
    refine wp2_go w4_152 ?_; simp only [v4_152, tg_istore, okS_13, stL_13, tg_iload, ldI_6, tg_aload, ldR_4, tg_iconst, ldI_11, tg_imul, tg_iaload, tg_iadd, okS_14, stL_14, ldI_12, tg_if_eq, tg_aload_0, tg_iload_1, ldI_7, tg_iv3, nLg_n, nLg_i, nLg_r, tc_c, tc_l, tc_r, tc_m, tc_n, tc_o, tc_0, inR, true_and, and_true, ne_eq, not_true_eq_false, not_false_eq_true, true_imp_iff, false_imp_iff, lit_a, Nat.reduceAdd, or_true, true_or, or_false, false_or, Int.reduceEq, Int.reduceNe, Int.reduceLT, Int.reduceLE, Int.reduceNeg, Int.toNat_natCast, tg_nil, eq_self, lc0n, lc1n, lc2n, lc3n, lc4n, lc5n, lc6n, lc1i, lc2i, lc3i, lc4i, lc5i, lc6i, lc1r, lc2r, lc3r, lc4r, lc5r, lc6r, Nat.add_zero, hF.2 V hV0, hF.2 W hW0, N1, N2, N3, N4, hVl, hWl, ew]
    repeat' (first | with_reducible apply And.intro | intro _)
    all_goals (try omega)
    refine q_whenHeard hF ⟨by omega, by omega⟩ ⟨by omega, by omega⟩ (fun μ hF => ?_)
    rw [f_when0 hz hn hs]
    refine wp2_go w4_178 ?_; simp only [v4_178, tg_iload, ldI_14, tg_ic_ne, tg_aload_0, tg_iload_1, ldI_7, ldI_13, tg_iadd, tg_iv3, nLg_n, nLg_i, nLg_r, tc_c, tc_l, tc_r, tc_m, tc_n, tc_o, tc_0, inR, true_and, and_true, ne_eq, not_true_eq_false, not_false_eq_true, true_imp_iff, false_imp_iff, lit_a, Nat.reduceAdd, or_true, true_or, or_false, false_or, Int.reduceEq, Int.reduceNe, Int.reduceLT, Int.reduceLE, Int.reduceNeg, Int.toNat_natCast, tg_nil, eq_self, lc0n, lc1n, lc2n, lc3n, lc4n, lc5n, lc6n, lc1i, lc2i, lc3i, lc4i, lc5i, lc6i, lc1r, lc2r, lc3r, lc4r, lc5r, lc6r, Nat.add_zero]
    refine q_whenHeard hF ⟨by omega, by omega⟩ ⟨by omega, by omega⟩ (fun μ hF => ?_)
    rw [f_when hz hn hs u0 u1]
    refine wp2_go w4_193 ?_; simp only [v4_193, tg_iload, ldI_14, ldI_13, tg_iadd, tg_ic_ne, tg_aload_0, tg_iload_1, tg_aload_3, tg_iconst, ldI_11, tg_imul, tg_iaload, tg_iv4, nLg_n, nLg_i, nLg_r, tc_c, tc_l, tc_r, tc_m, tc_n, tc_o, tc_0, inR, true_and, and_true, ne_eq, not_true_eq_false, not_false_eq_true, true_imp_iff, false_imp_iff, lit_a, Nat.reduceAdd, or_true, true_or, or_false, false_or, Int.reduceEq, Int.reduceNe, Int.reduceLT, Int.reduceLE, Int.reduceNeg, Int.toNat_natCast, tg_nil, eq_self, lc0n, lc1n, lc2n, lc3n, lc4n, lc5n, lc6n, lc1i, lc2i, lc3i, lc4i, lc5i, lc6i, lc1r, lc2r, lc3r, lc4r, lc5r, lc6r, Nat.add_zero, hF.2 V hV0, hF.2 W hW0, N1, N2, N3, N4, hVl, hWl]
    repeat' (first | with_reducible apply And.intro | intro _)
    all_goals (try omega)
    refine q_open hF ⟨by omega, by omega⟩ ⟨by omega, by omega⟩ ⟨by omega, by omega⟩ (fun μ hF => ?_)
    rw [f_open hz hM hn hs u0 u1]
    refine wp2_go w4_216 ?_; simp only [v4_216, tg_iload, ldI_14, ldI_13, tg_iadd, tg_ic_ne, tg_aload, ldR_4, tg_iconst, ldI_11, tg_imul, tg_iaload, tg_sipush, tg_ic_gt, tg_aload_0, tg_iload_1, tg_aload_3, tg_iv4, nLg_n, nLg_i, nLg_r, tc_c, tc_l, tc_r, tc_m, tc_n, tc_o, tc_0, inR, true_and, and_true, ne_eq, not_true_eq_false, not_false_eq_true, true_imp_iff, false_imp_iff, lit_a, Nat.reduceAdd, or_true, true_or, or_false, false_or, Int.reduceEq, Int.reduceNe, Int.reduceLT, Int.reduceLE, Int.reduceNeg, Int.toNat_natCast, tg_nil, eq_self, lc0n, lc1n, lc2n, lc3n, lc4n, lc5n, lc6n, lc1i, lc2i, lc3i, lc4i, lc5i, lc6i, lc1r, lc2r, lc3r, lc4r, lc5r, lc6r, Nat.add_zero, hF.2 V hV0, hF.2 W hW0, N1, N2, N3, N4, hVl, hWl]
    repeat' (first | with_reducible apply And.intro | intro _)
    all_goals (try omega)
    · exact p266 _ hF
    · refine q_open hF ⟨by omega, by omega⟩ ⟨by omega, by omega⟩ ⟨by omega, by omega⟩ (fun μ hF => ?_)
      rw [f_open_n hz hM hn hs (by omega)]
      refine wp2_go w4_261 ?_; simp only [v4_261, tg_bipush, tg_ic_ne, nLg_n, nLg_i, nLg_r, tc_c, tc_l, tc_r, tc_m, tc_n, tc_o, tc_0, inR, true_and, and_true, ne_eq, not_true_eq_false, not_false_eq_true, true_imp_iff, false_imp_iff, lit_a, Nat.reduceAdd, or_true, true_or, or_false, false_or, Int.reduceEq, Int.reduceNe, Int.reduceLT, Int.reduceLE, Int.reduceNeg, Int.toNat_natCast, tg_nil, eq_self, lc0n, lc1n, lc2n, lc3n, lc4n, lc5n, lc6n, lc1i, lc2i, lc3i, lc4i, lc5i, lc6i, lc1r, lc2r, lc3r, lc4r, lc5r, lc6r, Nat.add_zero]
      exact p266 _ hF
  refine wp2_go w4_87 ?_; simp only [v4_87, tg_if_eq, tg_aload_0, tg_iload_1, tg_iload, ldI_10, tg_iv3, nLg_n, nLg_i, nLg_r, tc_c, tc_l, tc_r, tc_m, tc_n, tc_o, tc_0, inR, true_and, and_true, ne_eq, not_true_eq_false, not_false_eq_true, true_imp_iff, false_imp_iff, lit_a, Nat.reduceAdd, or_true, true_or, or_false, false_or, Int.reduceEq, Int.reduceNe, Int.reduceLT, Int.reduceLE, Int.reduceNeg, Int.toNat_natCast, tg_nil, eq_self, lc0n, lc1n, lc2n, lc3n, lc4n, lc5n, lc6n, lc1i, lc2i, lc3i, lc4i, lc5i, lc6i, lc1r, lc2r, lc3r, lc4r, lc5r, lc6r, Nat.add_zero]
  repeat' (first | with_reducible apply And.intro | intro _)
  all_goals (try omega)
  · exact p102 _ hF
  · refine q_chapterAt hF ⟨by omega, by omega⟩ ⟨by omega, by omega⟩ (fun μ hF => ?_)
    rw [f_chap hz hn hs (by omega)]
    refine wp2_go w4_97 ?_; simp only [v4_97, tg_iload, ldI_6, tg_ic_ne, nLg_n, nLg_i, nLg_r, tc_c, tc_l, tc_r, tc_m, tc_n, tc_o, tc_0, inR, true_and, and_true, ne_eq, not_true_eq_false, not_false_eq_true, true_imp_iff, false_imp_iff, lit_a, Nat.reduceAdd, or_true, true_or, or_false, false_or, Int.reduceEq, Int.reduceNe, Int.reduceLT, Int.reduceLE, Int.reduceNeg, Int.toNat_natCast, tg_nil, eq_self, lc0n, lc1n, lc2n, lc3n, lc4n, lc5n, lc6n, lc1i, lc2i, lc3i, lc4i, lc5i, lc6i, lc1r, lc2r, lc3r, lc4r, lc5r, lc6r, Nat.add_zero]
    exact p102 _ hF
set_option maxHeartbeats 4000000 in
theorem isH_tail {y : Nat → Int} {L d na l V W : Nat} {len : Nat → Nat} {Q : QT} {μ1 : Mem} {z : Rw} {hh : Int} (hVW : VW na len V W) (hS : St z μ1) (hn : NF z l) (hN : NV z (gL z l) (bLi z l) V W (zn z) μ1)
    (h : ∀ μ', Fz z μ1 μ' → Q (.inl 1) μ') : wp2 y L 2 (Call2 y L (d + 1)) 4 Q (2, na, len) 25 [some (.inr (.inr 0)), some (.inl (l : Int)), some (.inl hh), some (.inr (.inr V)), some (.inr (.inr W)), none, none, none, none, none, none, none, none, none, none] [.inl (z 0)] μ1 := by
  have hz := hS.1
  have q0 := hz.1
  have ez := zn_eq hz
  have hl := hn.1
  have hbl := bLi_b hz hl
  have t1 := T_b hz (s := zn z) (by omega)
  have s1 := S_b (g := gL z l) (b := bLi z l) hz (by omega) (s := zn z) (by omega)
  have s2 := rn_b2 (g := gL z l) (b := bLi z l) hz (by omega) (zn z) (by omega)
  rw [rn_sm] at s2
  have z2 := B_b hz (s := zn z) (by omega)
  have z3 := B_1 hz (s := zn z - 1) (by omega)
  rw [show zn z - 1 + 1 = zn z by omega] at z3
  have eB : sm (zb z) (zn z) - 1 + 1 = sm (zb z) (zn z) := by omega
  have e7 : F_of z (l : Int) 7 = z 0 := by rw [f_of7 hz hn, ez.1]
  have eh : F_heard z (l : Int) (z 0) = -1 := by rw [ez.1]; exact f_heard_n hz hn
  have loop : ∀ j s : Nat, s + j = zn z → ∀ (X12 X13 X14 : Option MV) (μ : Mem), nLg X12 → nLg X13 → nLg X14 → Fz z μ1 μ → wp2 y L 2 (Call2 y L (d + 1)) 4 Q (2, na, len) 45 [some (.inr (.inr 0)), some (.inl (l : Int)), some (.inl hh), some (.inr (.inr V)), some (.inr (.inr W)), some (.inl (z 0)), some (.inl (sm (zl z) s + sm (nl z (gL z l) (bLi z l)) s)), some (.inl (sm (zl z) s)), some (.inl (sm (kN z (gL z l) (bLi z l)) s)), some (.inl (sm (nl z (gL z l) (bLi z l)) s)), some (.inl (sm (zb z) s - 1)), some (.inl (s : Int)), X12, X13, X14] [] μ := by
    intro j
    induction j with
    | zero =>
      intro s hj X12 X13 X14 μ n12 n13 n14 hF
      obtain rfl : s = zn z := by omega
      refine wp2_go w4_45 ?_; simp only [v4_45, tg_iload, ldI_11, ldI_5, tg_ic_ge, ldI_10, tg_aload_0, tg_iconst, tg_iv3, nLg_n, nLg_i, nLg_r, tc_c, tc_l, tc_r, tc_m, tc_n, tc_o, tc_0, inR, true_and, and_true, ne_eq, not_true_eq_false, not_false_eq_true, true_imp_iff, false_imp_iff, lit_a, Nat.reduceAdd, or_true, true_or, or_false, false_or, Int.reduceEq, Int.reduceNe, Int.reduceLT, Int.reduceLE, Int.reduceNeg, Int.toNat_natCast, tg_nil, eq_self, lc0n, lc1n, lc2n, lc3n, lc4n, lc5n, lc6n, lc1i, lc2i, lc3i, lc4i, lc5i, lc6i, lc1r, lc2r, lc3r, lc4r, lc5r, lc6r, Nat.add_zero]
      repeat' (first | with_reducible apply And.intro | intro _)
      all_goals (try omega)
      refine wp2_go w4_504 ?_; simp only [v4_504, tg_aload_0, tg_iload_1, tg_iconst, tg_iv3, nLg_n, nLg_i, nLg_r, tc_c, tc_l, tc_r, tc_m, tc_n, tc_o, tc_0, inR, true_and, and_true, ne_eq, not_true_eq_false, not_false_eq_true, true_imp_iff, false_imp_iff, lit_a, Nat.reduceAdd, or_true, true_or, or_false, false_or, Int.reduceEq, Int.reduceNe, Int.reduceLT, Int.reduceLE, Int.reduceNeg, Int.toNat_natCast, tg_nil, eq_self, lc0n, lc1n, lc2n, lc3n, lc4n, lc5n, lc6n, lc1i, lc2i, lc3i, lc4i, lc5i, lc6i, lc1r, lc2r, lc3r, lc4r, lc5r, lc6r, Nat.add_zero]
      refine q_of hF hl (by omega) (fun μ hF => ?_)
      rw [f_of4 hz hn]
      refine wp2_go w4_510 ?_; simp only [v4_510, tg_iload, ldI_6, tg_ic_ne, tg_aload_0, tg_iload_1, tg_iconst, tg_iv3, nLg_n, nLg_i, nLg_r, tc_c, tc_l, tc_r, tc_m, tc_n, tc_o, tc_0, inR, true_and, and_true, ne_eq, not_true_eq_false, not_false_eq_true, true_imp_iff, false_imp_iff, lit_a, Nat.reduceAdd, or_true, true_or, or_false, false_or, Int.reduceEq, Int.reduceNe, Int.reduceLT, Int.reduceLE, Int.reduceNeg, Int.toNat_natCast, tg_nil, eq_self, lc0n, lc1n, lc2n, lc3n, lc4n, lc5n, lc6n, lc1i, lc2i, lc3i, lc4i, lc5i, lc6i, lc1r, lc2r, lc3r, lc4r, lc5r, lc6r, Nat.add_zero]
      refine q_of hF hl (by omega) (fun μ hF => ?_)
      rw [f_of5 hz hn]
      refine wp2_go w4_521 ?_; simp only [v4_521, tg_iload, ldI_8, tg_ic_ne, tg_aload_0, tg_iload_1, tg_bipush, tg_iv3, nLg_n, nLg_i, nLg_r, tc_c, tc_l, tc_r, tc_m, tc_n, tc_o, tc_0, inR, true_and, and_true, ne_eq, not_true_eq_false, not_false_eq_true, true_imp_iff, false_imp_iff, lit_a, Nat.reduceAdd, or_true, true_or, or_false, false_or, Int.reduceEq, Int.reduceNe, Int.reduceLT, Int.reduceLE, Int.reduceNeg, Int.toNat_natCast, tg_nil, eq_self, lc0n, lc1n, lc2n, lc3n, lc4n, lc5n, lc6n, lc1i, lc2i, lc3i, lc4i, lc5i, lc6i, lc1r, lc2r, lc3r, lc4r, lc5r, lc6r, Nat.add_zero]
      refine q_of hF hl (by omega) (fun μ hF => ?_)
      rw [f_of6 hz hn]
      refine wp2_go w4_533 ?_; simp only [v4_533, tg_iload, ldI_9, tg_ic_ne, tg_aload_0, tg_iload_1, tg_bipush, tg_iv3, nLg_n, nLg_i, nLg_r, tc_c, tc_l, tc_r, tc_m, tc_n, tc_o, tc_0, inR, true_and, and_true, ne_eq, not_true_eq_false, not_false_eq_true, true_imp_iff, false_imp_iff, lit_a, Nat.reduceAdd, or_true, true_or, or_false, false_or, Int.reduceEq, Int.reduceNe, Int.reduceLT, Int.reduceLE, Int.reduceNeg, Int.toNat_natCast, tg_nil, eq_self, lc0n, lc1n, lc2n, lc3n, lc4n, lc5n, lc6n, lc1i, lc2i, lc3i, lc4i, lc5i, lc6i, lc1r, lc2r, lc3r, lc4r, lc5r, lc6r, Nat.add_zero]
      refine q_of hF hl (by omega) (fun μ hF => ?_)
      rw [e7]
      refine wp2_go w4_545 ?_; simp only [v4_545, tg_iload, ldI_5, tg_ic_ne, tg_aload_0, tg_iload_1, tg_iconst, tg_iv3, nLg_n, nLg_i, nLg_r, tc_c, tc_l, tc_r, tc_m, tc_n, tc_o, tc_0, inR, true_and, and_true, ne_eq, not_true_eq_false, not_false_eq_true, true_imp_iff, false_imp_iff, lit_a, Nat.reduceAdd, or_true, true_or, or_false, false_or, Int.reduceEq, Int.reduceNe, Int.reduceLT, Int.reduceLE, Int.reduceNeg, Int.toNat_natCast, tg_nil, eq_self, lc0n, lc1n, lc2n, lc3n, lc4n, lc5n, lc6n, lc1i, lc2i, lc3i, lc4i, lc5i, lc6i, lc1r, lc2r, lc3r, lc4r, lc5r, lc6r, Nat.add_zero]
      refine q_of hF hl (by omega) (fun μ hF => ?_)
      rw [f_of3 hn]
      refine wp2_go w4_556 ?_; simp only [v4_556, tg_if_ne, tg_iload, ldI_9, tg_aload_0, tg_iload_1, tg_iconst, tg_iv3, nLg_n, nLg_i, nLg_r, tc_c, tc_l, tc_r, tc_m, tc_n, tc_o, tc_0, inR, true_and, and_true, ne_eq, not_true_eq_false, not_false_eq_true, true_imp_iff, false_imp_iff, lit_a, Nat.reduceAdd, or_true, true_or, or_false, false_or, Int.reduceEq, Int.reduceNe, Int.reduceLT, Int.reduceLE, Int.reduceNeg, Int.toNat_natCast, tg_nil, eq_self, lc0n, lc1n, lc2n, lc3n, lc4n, lc5n, lc6n, lc1i, lc2i, lc3i, lc4i, lc5i, lc6i, lc1r, lc2r, lc3r, lc4r, lc5r, lc6r, Nat.add_zero]
      refine q_of1 hF hl (fun μ hF => ?_)
      refine wp2_go w4_567 ?_; simp only [v4_567, tg_ic_gt, tg_iconst, tg_goto, nLg_n, nLg_i, nLg_r, tc_c, tc_l, tc_r, tc_m, tc_n, tc_o, tc_0, inR, true_and, and_true, ne_eq, not_true_eq_false, not_false_eq_true, true_imp_iff, false_imp_iff, lit_a, Nat.reduceAdd, or_true, true_or, or_false, false_or, Int.reduceEq, Int.reduceNe, Int.reduceLT, Int.reduceLE, Int.reduceNeg, Int.toNat_natCast, tg_nil, eq_self, lc0n, lc1n, lc2n, lc3n, lc4n, lc5n, lc6n, lc1i, lc2i, lc3i, lc4i, lc5i, lc6i, lc1r, lc2r, lc3r, lc4r, lc5r, lc6r, Nat.add_zero]
      repeat' (first | with_reducible apply And.intro | intro _)
      all_goals (try omega)
      have p615 : ∀ (μ : Mem), Fz z μ1 μ → wp2 y L 2 (Call2 y L (d + 1)) 4 Q (2, na, len) 615 [some (.inr (.inr 0)), some (.inl (l : Int)), some (.inl hh), some (.inr (.inr V)), some (.inr (.inr W)), some (.inl (z 0)), some (.inl (sm (zl z) (zn z) + sm (nl z (gL z l) (bLi z l)) (zn z))), some (.inl (sm (zl z) (zn z))), some (.inl (sm (kN z (gL z l) (bLi z l)) (zn z))), some (.inl (sm (nl z (gL z l) (bLi z l)) (zn z))), some (.inl (sm (zb z) (zn z) - 1)), some (.inl 1), X12, X13, X14] [] μ := by
        intro μ hF
        refine wp2_go w4_615 ?_; simp only [v4_615, tg_aload_0, tg_iload_1, tg_iload, ldI_5, tg_iv3, nLg_n, nLg_i, nLg_r, tc_c, tc_l, tc_r, tc_m, tc_n, tc_o, tc_0, inR, true_and, and_true, ne_eq, not_true_eq_false, not_false_eq_true, true_imp_iff, false_imp_iff, lit_a, Nat.reduceAdd, or_true, true_or, or_false, false_or, Int.reduceEq, Int.reduceNe, Int.reduceLT, Int.reduceLE, Int.reduceNeg, Int.toNat_natCast, tg_nil, eq_self, lc0n, lc1n, lc2n, lc3n, lc4n, lc5n, lc6n, lc1i, lc2i, lc3i, lc4i, lc5i, lc6i, lc1r, lc2r, lc3r, lc4r, lc5r, lc6r, Nat.add_zero]
        refine q_heard hF ⟨by omega, by omega⟩ ⟨by omega, by omega⟩ (fun μ hF => ?_)
        rw [eh]
        refine wp2_go w4_622 ?_; simp only [v4_622, tg_iconst, tg_ic_ne, tg_aload_0, tg_iload_1, tg_iload, ldI_10, tg_iadd, tg_iv3, nLg_n, nLg_i, nLg_r, tc_c, tc_l, tc_r, tc_m, tc_n, tc_o, tc_0, inR, true_and, and_true, ne_eq, not_true_eq_false, not_false_eq_true, true_imp_iff, false_imp_iff, lit_a, Nat.reduceAdd, or_true, true_or, or_false, false_or, Int.reduceEq, Int.reduceNe, Int.reduceLT, Int.reduceLE, Int.reduceNeg, Int.toNat_natCast, tg_nil, eq_self, lc0n, lc1n, lc2n, lc3n, lc4n, lc5n, lc6n, lc1i, lc2i, lc3i, lc4i, lc5i, lc6i, lc1r, lc2r, lc3r, lc4r, lc5r, lc6r, Nat.add_zero, eB]
        refine q_chapterAt hF ⟨by omega, by omega⟩ ⟨by omega, by omega⟩ (fun μ hF => ?_)
        rw [f_chap_n hz hn (Or.inr (Int.le_refl _))]
        refine wp2_go w4_635 ?_; simp only [v4_635, tg_iconst, tg_ic_ne, tg_aload_0, tg_iload_1, tg_iv3, nLg_n, nLg_i, nLg_r, tc_c, tc_l, tc_r, tc_m, tc_n, tc_o, tc_0, inR, true_and, and_true, ne_eq, not_true_eq_false, not_false_eq_true, true_imp_iff, false_imp_iff, lit_a, Nat.reduceAdd, or_true, true_or, or_false, false_or, Int.reduceEq, Int.reduceNe, Int.reduceLT, Int.reduceLE, Int.reduceNeg, Int.toNat_natCast, tg_nil, eq_self, lc0n, lc1n, lc2n, lc3n, lc4n, lc5n, lc6n, lc1i, lc2i, lc3i, lc4i, lc5i, lc6i, lc1r, lc2r, lc3r, lc4r, lc5r, lc6r, Nat.add_zero]
        refine q_chapterAt hF ⟨by omega, by omega⟩ ⟨by omega, by omega⟩ (fun μ hF => ?_)
        rw [f_chap_n hz hn (by omega)]
        refine wp2_go w4_645 ?_; simp only [v4_645, tg_iconst, tg_ic_ne, tg_goto, nLg_n, nLg_i, nLg_r, tc_c, tc_l, tc_r, tc_m, tc_n, tc_o, tc_0, inR, true_and, and_true, ne_eq, not_true_eq_false, not_false_eq_true, true_imp_iff, false_imp_iff, lit_a, Nat.reduceAdd, or_true, true_or, or_false, false_or, Int.reduceEq, Int.reduceNe, Int.reduceLT, Int.reduceLE, Int.reduceNeg, Int.toNat_natCast, tg_nil, eq_self, lc0n, lc1n, lc2n, lc3n, lc4n, lc5n, lc6n, lc1i, lc2i, lc3i, lc4i, lc5i, lc6i, lc1r, lc2r, lc3r, lc4r, lc5r, lc6r, Nat.add_zero]
        refine wp2_go w4_654 ?_; simp only [v4_654, tg_istore, okS_11, stL_11, tg_iload, ldI_11, tg_if_eq, tg_aload_0, tg_iconst, tg_iv2, nLg_n, nLg_i, nLg_r, tc_c, tc_l, tc_r, tc_m, tc_n, tc_o, tc_0, inR, true_and, and_true, ne_eq, not_true_eq_false, not_false_eq_true, true_imp_iff, false_imp_iff, lit_a, Nat.reduceAdd, or_true, true_or, or_false, false_or, Int.reduceEq, Int.reduceNe, Int.reduceLT, Int.reduceLE, Int.reduceNeg, Int.toNat_natCast, tg_nil, eq_self, lc0n, lc1n, lc2n, lc3n, lc4n, lc5n, lc6n, lc1i, lc2i, lc3i, lc4i, lc5i, lc6i, lc1r, lc2r, lc3r, lc4r, lc5r, lc6r, Nat.add_zero]
        refine q_cnt1 hF (fun μ hF => ?_)
        refine wp2_go w4_666 ?_; simp only [v4_666, tg_iload, ldI_7, tg_ic_ne, tg_aload_0, tg_iconst, tg_iv2, nLg_n, nLg_i, nLg_r, tc_c, tc_l, tc_r, tc_m, tc_n, tc_o, tc_0, inR, true_and, and_true, ne_eq, not_true_eq_false, not_false_eq_true, true_imp_iff, false_imp_iff, lit_a, Nat.reduceAdd, or_true, true_or, or_false, false_or, Int.reduceEq, Int.reduceNe, Int.reduceLT, Int.reduceLE, Int.reduceNeg, Int.toNat_natCast, tg_nil, eq_self, lc0n, lc1n, lc2n, lc3n, lc4n, lc5n, lc6n, lc1i, lc2i, lc3i, lc4i, lc5i, lc6i, lc1r, lc2r, lc3r, lc4r, lc5r, lc6r, Nat.add_zero]
        refine q_cnt2 hF (fun μ hF => ?_)
        refine wp2_go w4_676 ?_; simp only [v4_676, tg_iload, ldI_10, tg_iconst, tg_iadd, tg_ic_ne, tg_goto, nLg_n, nLg_i, nLg_r, tc_c, tc_l, tc_r, tc_m, tc_n, tc_o, tc_0, inR, true_and, and_true, ne_eq, not_true_eq_false, not_false_eq_true, true_imp_iff, false_imp_iff, lit_a, Nat.reduceAdd, or_true, true_or, or_false, false_or, Int.reduceEq, Int.reduceNe, Int.reduceLT, Int.reduceLE, Int.reduceNeg, Int.toNat_natCast, tg_nil, eq_self, lc0n, lc1n, lc2n, lc3n, lc4n, lc5n, lc6n, lc1i, lc2i, lc3i, lc4i, lc5i, lc6i, lc1r, lc2r, lc3r, lc4r, lc5r, lc6r, Nat.add_zero, eB]
        refine wp2_go w4_688 ?_; simp only [v4_688, tg_iret1, nLg_n, nLg_i, nLg_r, tc_c, tc_l, tc_r, tc_m, tc_n, tc_o, tc_0, inR, true_and, and_true, ne_eq, not_true_eq_false, not_false_eq_true, true_imp_iff, false_imp_iff, lit_a, Nat.reduceAdd, or_true, true_or, or_false, false_or, Int.reduceEq, Int.reduceNe, Int.reduceLT, Int.reduceLE, Int.reduceNeg, Int.toNat_natCast, tg_nil, eq_self, lc0n, lc1n, lc2n, lc3n, lc4n, lc5n, lc6n, lc1i, lc2i, lc3i, lc4i, lc5i, lc6i, lc1r, lc2r, lc3r, lc4r, lc5r, lc6r, Nat.add_zero]
        exact h μ hF
      refine wp2_go w4_575 ?_; simp only [v4_575, tg_istore, okS_11, stL_11, tg_iload, ldI_11, tg_if_eq, tg_aload_0, tg_iload_1, ldI_6, tg_iconst, tg_iv4, nLg_n, nLg_i, nLg_r, tc_c, tc_l, tc_r, tc_m, tc_n, tc_o, tc_0, inR, true_and, and_true, ne_eq, not_true_eq_false, not_false_eq_true, true_imp_iff, false_imp_iff, lit_a, Nat.reduceAdd, or_true, true_or, or_false, false_or, Int.reduceEq, Int.reduceNe, Int.reduceLT, Int.reduceLE, Int.reduceNeg, Int.toNat_natCast, tg_nil, eq_self, lc0n, lc1n, lc2n, lc3n, lc4n, lc5n, lc6n, lc1i, lc2i, lc3i, lc4i, lc5i, lc6i, lc1r, lc2r, lc3r, lc4r, lc5r, lc6r, Nat.add_zero]
      refine q_heardAt hF ⟨by omega, by omega⟩ ⟨by omega, by omega⟩ ⟨by omega, by omega⟩ (fun μ hF => ?_)
      rw [f_at_n hz hn]
      refine wp2_go w4_590 ?_; simp only [v4_590, tg_bipush, tg_ic_ne, tg_iload, ldI_7, tg_sipush, tg_ic_gt, tg_aload_0, tg_iload_1, tg_iv3, nLg_n, nLg_i, nLg_r, tc_c, tc_l, tc_r, tc_m, tc_n, tc_o, tc_0, inR, true_and, and_true, ne_eq, not_true_eq_false, not_false_eq_true, true_imp_iff, false_imp_iff, lit_a, Nat.reduceAdd, or_true, true_or, or_false, false_or, Int.reduceEq, Int.reduceNe, Int.reduceLT, Int.reduceLE, Int.reduceNeg, Int.toNat_natCast, tg_nil, eq_self, lc0n, lc1n, lc2n, lc3n, lc4n, lc5n, lc6n, lc1i, lc2i, lc3i, lc4i, lc5i, lc6i, lc1r, lc2r, lc3r, lc4r, lc5r, lc6r, Nat.add_zero]
      repeat' (first | with_reducible apply And.intro | intro _)
      all_goals (try omega)
      · exact p615 _ hF
      · refine q_whenHeard hF ⟨by omega, by omega⟩ ⟨by omega, by omega⟩ (fun μ hF => ?_)
        rw [f_when_n hz hn (by omega)]
        refine wp2_go w4_610 ?_; simp only [v4_610, tg_bipush, tg_ic_ne, nLg_n, nLg_i, nLg_r, tc_c, tc_l, tc_r, tc_m, tc_n, tc_o, tc_0, inR, true_and, and_true, ne_eq, not_true_eq_false, not_false_eq_true, true_imp_iff, false_imp_iff, lit_a, Nat.reduceAdd, or_true, true_or, or_false, false_or, Int.reduceEq, Int.reduceNe, Int.reduceLT, Int.reduceLE, Int.reduceNeg, Int.toNat_natCast, tg_nil, eq_self, lc0n, lc1n, lc2n, lc3n, lc4n, lc5n, lc6n, lc1i, lc2i, lc3i, lc4i, lc5i, lc6i, lc1r, lc2r, lc3r, lc4r, lc5r, lc6r, Nat.add_zero]
        exact p615 _ hF
    | succ j ih =>
      intro s hj X12 X13 X14 μ n12 n13 n14 hF
      exact isH_step hVW hS hn hN (by omega) (fun X12 X13 X14 μ n12 n13 n14 hF => ih (s + 1) (by omega) X12 X13 X14 μ n12 n13 n14 hF) X12 X13 X14 μ n12 n13 n14 hF
  refine wp2_go w4_25 ?_; simp only [v4_25, tg_istore, okS_5, stL_5, tg_iconst, okS_6, stL_6, okS_7, stL_7, okS_8, stL_8, okS_9, stL_9, okS_10, stL_10, okS_11, stL_11, nLg_n, nLg_i, nLg_r, tc_c, tc_l, tc_r, tc_m, tc_n, tc_o, tc_0, inR, true_and, and_true, ne_eq, not_true_eq_false, not_false_eq_true, true_imp_iff, false_imp_iff, lit_a, Nat.reduceAdd, or_true, true_or, or_false, false_or, Int.reduceEq, Int.reduceNe, Int.reduceLT, Int.reduceLE, Int.reduceNeg, Int.toNat_natCast, tg_nil, eq_self, lc0n, lc1n, lc2n, lc3n, lc4n, lc5n, lc6n, lc1i, lc2i, lc3i, lc4i, lc5i, lc6i, lc1r, lc2r, lc3r, lc4r, lc5r, lc6r, Nat.add_zero]
  exact loop (zn z) 0 (by omega) none none none μ1 trivial trivial trivial (Fz_r hS)
theorem c_isHeard {y : Nat → Int} {L d g na l : Nat} {len : Nat → Nat} {Q : QT} {μ0 : Mem} {z : Rw} {hh : Int} (hS : St z μ0) (hn : NF z l)
    (h : ∀ μ', St z μ' → (∀ k, 510 ≤ k → k < 510 + na → μ' k = μ0 k) → Q (.inl 1) μ') : Call2 y L (d + 2) 4 [.inr (.inr 0), .inl (l : Int), .inl hh] (g, na, len) μ0 Q := by
  have hz := hS.1
  have q0 := hz.1
  have hl := hn.1
  have hbl := bLi_b hz hl
  refine el_4 ?_
  refine wp2_go w4_0 ?_; simp only [v4_0, tg_bipush, tg_newa, noR_0, noR_r, noR_i, noR_n, tg_astore_3, tg_astore, okS_4, stL_4, tg_aload_0, tg_iload_1, tg_iconst, tg_iv3, nLg_n, nLg_i, nLg_r, tc_c, tc_l, tc_r, tc_m, tc_n, tc_o, tc_0, inR, true_and, and_true, ne_eq, not_true_eq_false, not_false_eq_true, true_imp_iff, false_imp_iff, lit_a, Nat.reduceAdd, or_true, true_or, or_false, false_or, Int.reduceEq, Int.reduceNe, Int.reduceLT, Int.reduceLE, Int.reduceNeg, Int.toNat_natCast, tg_nil, eq_self, lc0n, lc1n, lc2n, lc3n, lc4n, lc5n, lc6n, lc1i, lc2i, lc3i, lc4i, lc5i, lc6i, lc1r, lc2r, lc3r, lc4r, lc5r, lc6r, Nat.add_zero, Int.reduceToNat]
  repeat' (first | with_reducible apply And.intro | intro _)
  all_goals (try omega)
  refine q_of1 (Fz_r (St_zr (St_zr hS (by omega)) (by omega))) hl (fun μ hF => ?_)
  refine wp2_go w4_19 ?_; simp only [v4_19, tg_aload_3, tg_aload, ldR_4, tg_is5, mc_3, nLg_n, nLg_i, nLg_r, tc_c, tc_l, tc_r, tc_m, tc_n, tc_o, tc_0, inR, true_and, and_true, ne_eq, not_true_eq_false, not_false_eq_true, true_imp_iff, false_imp_iff, lit_a, Nat.reduceAdd, or_true, true_or, or_false, false_or, Int.reduceEq, Int.reduceNe, Int.reduceLT, Int.reduceLE, Int.reduceNeg, Int.toNat_natCast, tg_nil, eq_self, lc0n, lc1n, lc2n, lc3n, lc4n, lc5n, lc6n, lc1i, lc2i, lc3i, lc4i, lc5i, lc6i, lc1r, lc2r, lc3r, lc4r, lc5r, lc6r, Nat.add_zero]
  repeat' (first | with_reducible apply And.intro | intro _)
  all_goals (try omega)
  refine c_now hF.1 hl (by omega) ⟨by omega, by omega, ?_, ?_, by omega⟩ (fun μ1 hS1 hk1 hN => ?_)
  · rw [upl_o (by omega), upl_s]
  · rw [upl_s]
  · refine isH_tail (V := 510 + na) (W := 510 + (na + 1)) ⟨by omega, by omega, ?_, ?_, by omega⟩ hS1 hn hN (fun μ' hF' => h μ' hF'.1 (fun k h1 h2 => ?_))
    · rw [upl_o (by omega), upl_s]
    · rw [upl_s]
    · rw [hF'.2 k h1, hk1 k h1 (by omega) (by omega), hF.2 k h1, zr_o (by omega), zr_o (by omega)]
