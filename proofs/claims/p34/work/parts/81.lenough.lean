/-! THE LAW'S enough -/
-- the law's enough: blocks [0, 15, 27, 35, 57, 58, 67, 70, 86, 99, 103, 117, 121, 143, 144, 153, 169, 170, 181, 182, 187, 193, 210, 211]
/-- its inner count: how many notices are heard with a bound -/
theorem en_cnt {y : Nat → Int} {L d na V W : Nat} {len : Nat → Nat} {Q : QT} {μ : Mem} {z : Rw} {g b : Int} {l0 l4 l6 l7 l8 : Int} (hz : IZ z) (hVW : VW na len V W) (hN : NV z g b V W (zn z) μ)
    (fin : wp2 y L 2 (Call2 y L (d + 1)) 5 Q (2, na, len) 153 [some (.inr (.inr 0)), some (.inl l0), some (.inr (.inr V)), some (.inr (.inr W)), some (.inl l4), some (.inl (z 0)), some (.inl l6), some (.inl l7), some (.inl l8), some (.inl (sm (kN z g b) (zn z))), some (.inl (zn z : Int))] [] μ) :
    ∀ j s : Nat, s + j = zn z → wp2 y L 2 (Call2 y L (d + 1)) 5 Q (2, na, len) 121 [some (.inr (.inr 0)), some (.inl l0), some (.inr (.inr V)), some (.inr (.inr W)), some (.inl l4), some (.inl (z 0)), some (.inl l6), some (.inl l7), some (.inl l8), some (.inl (sm (kN z g b) s)), some (.inl (s : Int))] [] μ := by
  obtain ⟨hV1, hW1, hVl, hWl, hne⟩ := hVW
  have ez := zn_eq hz
  intro j
  induction j with
  | zero =>
    intro s hj
    obtain rfl : s = zn z := by omega
    refine wp2_go w5_121 ?_; simp only [v5_121, tg_iload, ldI_10, ldI_5, tg_ic_ge, ldI_9, tg_aload_2, tg_iconst, tg_imul, tg_iaload, tg_if_ge, tg_goto, nLg_n, nLg_i, nLg_r, tc_c, tc_l, tc_r, tc_m, tc_n, tc_o, tc_0, inR, true_and, and_true, ne_eq, not_true_eq_false, not_false_eq_true, true_imp_iff, false_imp_iff, lit_a, Nat.reduceAdd, or_true, true_or, or_false, false_or, Int.reduceEq, Int.reduceNe, Int.reduceLT, Int.reduceLE, Int.reduceNeg, Int.toNat_natCast, tg_nil, eq_self, lc0n, lc1n, lc2n, lc3n, lc4n, lc5n, lc6n, lc1i, lc2i, lc3i, lc4i, lc5i, lc6i, lc1r, lc2r, lc3r, lc4r, lc5r, lc6r, Nat.add_zero, hVl]
    repeat' (first | with_reducible apply And.intro | intro _)
    all_goals (try omega)
    all_goals exact fin
  | succ j ih =>
    intro s hj
    obtain ⟨N1, -, -, -⟩ := hN s (by omega)
    have c1 := ch_in (g := g) (b := b) hz (s := s) (by omega)
    have q0 := hz.1
    have ih := ih (s + 1) (by omega)
    rw [sm_s] at ih
    unfold kN at ih ⊢
    refine wp2_go w5_121 ?_; simp only [v5_121, tg_iload, ldI_10, ldI_5, tg_ic_ge, ldI_9, tg_aload_2, tg_iconst, tg_imul, tg_iaload, tg_if_ge, tg_goto, nLg_n, nLg_i, nLg_r, tc_c, tc_l, tc_r, tc_m, tc_n, tc_o, tc_0, inR, true_and, and_true, ne_eq, not_true_eq_false, not_false_eq_true, true_imp_iff, false_imp_iff, lit_a, Nat.reduceAdd, or_true, true_or, or_false, false_or, Int.reduceEq, Int.reduceNe, Int.reduceLT, Int.reduceLE, Int.reduceNeg, Int.toNat_natCast, tg_nil, eq_self, lc0n, lc1n, lc2n, lc3n, lc4n, lc5n, lc6n, lc1i, lc2i, lc3i, lc4i, lc5i, lc6i, lc1r, lc2r, lc3r, lc4r, lc5r, lc6r, Nat.add_zero, hVl, N1]
    repeat' (first | with_reducible apply And.intro | intro _)
    all_goals (try omega)
    · refine wp2_go w5_144 ?_; simp only [v5_144, tg_iadd, tg_istore, okS_9, stL_9, tg_iinc, ldI_10, okS_10, stL_10, tg_goto, nLg_n, nLg_i, nLg_r, tc_c, tc_l, tc_r, tc_m, tc_n, tc_o, tc_0, inR, true_and, and_true, ne_eq, not_true_eq_false, not_false_eq_true, true_imp_iff, false_imp_iff, lit_a, Nat.reduceAdd, or_true, true_or, or_false, false_or, Int.reduceEq, Int.reduceNe, Int.reduceLT, Int.reduceLE, Int.reduceNeg, Int.toNat_natCast, tg_nil, eq_self, lc0n, lc1n, lc2n, lc3n, lc4n, lc5n, lc6n, lc1i, lc2i, lc3i, lc4i, lc5i, lc6i, lc1r, lc2r, lc3r, lc4r, lc5r, lc6r, Nat.add_zero]
      repeat' (first | with_reducible apply And.intro | intro _)
      all_goals (try omega)
      rw [if_pos (by assumption)] at ih
      exact ih
    · refine wp2_go w5_143 ?_; simp only [v5_143, tg_iconst, nLg_n, nLg_i, nLg_r, tc_c, tc_l, tc_r, tc_m, tc_n, tc_o, tc_0, inR, true_and, and_true, ne_eq, not_true_eq_false, not_false_eq_true, true_imp_iff, false_imp_iff, lit_a, Nat.reduceAdd, or_true, true_or, or_false, false_or, Int.reduceEq, Int.reduceNe, Int.reduceLT, Int.reduceLE, Int.reduceNeg, Int.toNat_natCast, tg_nil, eq_self, lc0n, lc1n, lc2n, lc3n, lc4n, lc5n, lc6n, lc1i, lc2i, lc3i, lc4i, lc5i, lc6i, lc1r, lc2r, lc3r, lc4r, lc5r, lc6r, Nat.add_zero]
      refine wp2_go w5_144 ?_; simp only [v5_144, tg_iadd, tg_istore, okS_9, stL_9, tg_iinc, ldI_10, okS_10, stL_10, tg_goto, nLg_n, nLg_i, nLg_r, tc_c, tc_l, tc_r, tc_m, tc_n, tc_o, tc_0, inR, true_and, and_true, ne_eq, not_true_eq_false, not_false_eq_true, true_imp_iff, false_imp_iff, lit_a, Nat.reduceAdd, or_true, true_or, or_false, false_or, Int.reduceEq, Int.reduceNe, Int.reduceLT, Int.reduceLE, Int.reduceNeg, Int.toNat_natCast, tg_nil, eq_self, lc0n, lc1n, lc2n, lc3n, lc4n, lc5n, lc6n, lc1i, lc2i, lc3i, lc4i, lc5i, lc6i, lc1r, lc2r, lc3r, lc4r, lc5r, lc6r, Nat.add_zero]
      repeat' (first | with_reducible apply And.intro | intro _)
      all_goals (try omega)
      rw [if_neg (by omega)] at ih
      exact ih
theorem en_all {y : Nat → Int} {L d na V W : Nat} {len : Nat → Nat} {Q : QT} {μ : Mem} {z : Rw} {g b : Int} {l0 l4 : Int} (hz : IZ z) (hVW : VW na len V W) (hN : NV z g b V W (zn z) μ)
    (fin : wp2 y L 2 (Call2 y L (d + 1)) 5 Q (2, na, len) 67 [some (.inr (.inr 0)), some (.inl l0), some (.inr (.inr V)), some (.inr (.inr W)), some (.inl l4), some (.inl (z 0)), some (.inl (sm (kN z g b) (zn z))), some (.inl (zn z : Int)), none, none, none] [] μ) :
    ∀ j s : Nat, s + j = zn z → wp2 y L 2 (Call2 y L (d + 1)) 5 Q (2, na, len) 35 [some (.inr (.inr 0)), some (.inl l0), some (.inr (.inr V)), some (.inr (.inr W)), some (.inl l4), some (.inl (z 0)), some (.inl (sm (kN z g b) s)), some (.inl (s : Int)), none, none, none] [] μ := by
  obtain ⟨hV1, hW1, hVl, hWl, hne⟩ := hVW
  have ez := zn_eq hz
  intro j
  induction j with
  | zero =>
    intro s hj
    obtain rfl : s = zn z := by omega
    refine wp2_go w5_35 ?_; simp only [v5_35, tg_iload, ldI_7, ldI_5, tg_ic_ge, ldI_6, tg_aload_2, tg_iconst, tg_imul, tg_iaload, tg_if_ge, tg_goto, nLg_n, nLg_i, nLg_r, tc_c, tc_l, tc_r, tc_m, tc_n, tc_o, tc_0, inR, true_and, and_true, ne_eq, not_true_eq_false, not_false_eq_true, true_imp_iff, false_imp_iff, lit_a, Nat.reduceAdd, or_true, true_or, or_false, false_or, Int.reduceEq, Int.reduceNe, Int.reduceLT, Int.reduceLE, Int.reduceNeg, Int.toNat_natCast, tg_nil, eq_self, lc0n, lc1n, lc2n, lc3n, lc4n, lc5n, lc6n, lc1i, lc2i, lc3i, lc4i, lc5i, lc6i, lc1r, lc2r, lc3r, lc4r, lc5r, lc6r, Nat.add_zero, hVl]
    repeat' (first | with_reducible apply And.intro | intro _)
    all_goals (try omega)
    all_goals exact fin
  | succ j ih =>
    intro s hj
    obtain ⟨N1, -, -, -⟩ := hN s (by omega)
    have c1 := ch_in (g := g) (b := b) hz (s := s) (by omega)
    have q0 := hz.1
    have ih := ih (s + 1) (by omega)
    rw [sm_s] at ih
    unfold kN at ih ⊢
    refine wp2_go w5_35 ?_; simp only [v5_35, tg_iload, ldI_7, ldI_5, tg_ic_ge, ldI_6, tg_aload_2, tg_iconst, tg_imul, tg_iaload, tg_if_ge, tg_goto, nLg_n, nLg_i, nLg_r, tc_c, tc_l, tc_r, tc_m, tc_n, tc_o, tc_0, inR, true_and, and_true, ne_eq, not_true_eq_false, not_false_eq_true, true_imp_iff, false_imp_iff, lit_a, Nat.reduceAdd, or_true, true_or, or_false, false_or, Int.reduceEq, Int.reduceNe, Int.reduceLT, Int.reduceLE, Int.reduceNeg, Int.toNat_natCast, tg_nil, eq_self, lc0n, lc1n, lc2n, lc3n, lc4n, lc5n, lc6n, lc1i, lc2i, lc3i, lc4i, lc5i, lc6i, lc1r, lc2r, lc3r, lc4r, lc5r, lc6r, Nat.add_zero, hVl, N1]
    repeat' (first | with_reducible apply And.intro | intro _)
    all_goals (try omega)
    · refine wp2_go w5_58 ?_; simp only [v5_58, tg_iadd, tg_istore, okS_6, stL_6, tg_iinc, ldI_7, okS_7, stL_7, tg_goto, nLg_n, nLg_i, nLg_r, tc_c, tc_l, tc_r, tc_m, tc_n, tc_o, tc_0, inR, true_and, and_true, ne_eq, not_true_eq_false, not_false_eq_true, true_imp_iff, false_imp_iff, lit_a, Nat.reduceAdd, or_true, true_or, or_false, false_or, Int.reduceEq, Int.reduceNe, Int.reduceLT, Int.reduceLE, Int.reduceNeg, Int.toNat_natCast, tg_nil, eq_self, lc0n, lc1n, lc2n, lc3n, lc4n, lc5n, lc6n, lc1i, lc2i, lc3i, lc4i, lc5i, lc6i, lc1r, lc2r, lc3r, lc4r, lc5r, lc6r, Nat.add_zero]
      repeat' (first | with_reducible apply And.intro | intro _)
      all_goals (try omega)
      rw [if_pos (by assumption)] at ih
      exact ih
    · refine wp2_go w5_57 ?_; simp only [v5_57, tg_iconst, nLg_n, nLg_i, nLg_r, tc_c, tc_l, tc_r, tc_m, tc_n, tc_o, tc_0, inR, true_and, and_true, ne_eq, not_true_eq_false, not_false_eq_true, true_imp_iff, false_imp_iff, lit_a, Nat.reduceAdd, or_true, true_or, or_false, false_or, Int.reduceEq, Int.reduceNe, Int.reduceLT, Int.reduceLE, Int.reduceNeg, Int.toNat_natCast, tg_nil, eq_self, lc0n, lc1n, lc2n, lc3n, lc4n, lc5n, lc6n, lc1i, lc2i, lc3i, lc4i, lc5i, lc6i, lc1r, lc2r, lc3r, lc4r, lc5r, lc6r, Nat.add_zero]
      refine wp2_go w5_58 ?_; simp only [v5_58, tg_iadd, tg_istore, okS_6, stL_6, tg_iinc, ldI_7, okS_7, stL_7, tg_goto, nLg_n, nLg_i, nLg_r, tc_c, tc_l, tc_r, tc_m, tc_n, tc_o, tc_0, inR, true_and, and_true, ne_eq, not_true_eq_false, not_false_eq_true, true_imp_iff, false_imp_iff, lit_a, Nat.reduceAdd, or_true, true_or, or_false, false_or, Int.reduceEq, Int.reduceNe, Int.reduceLT, Int.reduceLE, Int.reduceNeg, Int.toNat_natCast, tg_nil, eq_self, lc0n, lc1n, lc2n, lc3n, lc4n, lc5n, lc6n, lc1i, lc2i, lc3i, lc4i, lc5i, lc6i, lc1r, lc2r, lc3r, lc4r, lc5r, lc6r, Nat.add_zero]
      repeat' (first | with_reducible apply And.intro | intro _)
      all_goals (try omega)
      rw [if_neg (by omega)] at ih
      exact ih
/-- one of the three bounds -/
theorem en_it {y : Nat → Int} {L d na l V W : Nat} {len : Nat → Nat} {Q : QT} {μ0 μ : Mem} {z : Rw} {bd l7 : Int} {X8 X9 X10 : Option MV} (n8 : nLg X8) (n9 : nLg X9) (n10 : nLg X10) (hl : (l : Int) < z 3) (hVW : VW na len V W) (hF : Fq z V W μ0 μ) (hbd : -1 ≤ bd ∧ bd ≤ 600)
    (hi : 0 ≤ bd → (sm (kN z (gL z l) bd) (zn z) = sm (kN z (gL z l) 600) (zn z) ↔ bd = F_enough z (l : Int)))
    (next : ∀ (X8 X9 X10 : Option MV) (μ : Mem), nLg X8 → nLg X9 → nLg X10 → Fq z V W μ0 μ → wp2 y L 2 (Call2 y L (d + 1)) 5 Q (2, na, len) 187 [some (.inr (.inr 0)), some (.inl (l : Int)), some (.inr (.inr V)), some (.inr (.inr W)), some (.inl (F_enough z (l : Int))), some (.inl (z 0)), some (.inl (sm (kN z (gL z l) 600) (zn z))), some (.inl l7), X8, X9, X10] [] μ) :
    wp2 y L 2 (Call2 y L (d + 1)) 5 Q (2, na, len) 103 [some (.inr (.inr 0)), some (.inl (l : Int)), some (.inr (.inr V)), some (.inr (.inr W)), some (.inl (F_enough z (l : Int))), some (.inl (z 0)), some (.inl (sm (kN z (gL z l) 600) (zn z))), some (.inl l7), X8, X9, X10] [.inl bd] μ := by
  have hz := hF.1.1
  have q0 := hz.1
  have ez := zn_eq hz
  have E := E_f hz hl
  have k1 := kN_b (z := z) (g := gL z l) (b := bd) (zn z)
  have k2 := kN_b (z := z) (g := gL z l) (b := 600) (zn z)
  refine wp2_go w5_103 ?_; simp only [v5_103, tg_istore, okS_8, stL_8, tg_iconst, okS_9, stL_9, tg_aload_0, tg_iload_1, tg_iload, ldI_8, tg_aload_2, tg_aload_3, tg_is5, mc_3, nLg_n, nLg_i, nLg_r, tc_c, tc_l, tc_r, tc_m, tc_n, tc_o, tc_0, inR, true_and, and_true, ne_eq, not_true_eq_false, not_false_eq_true, true_imp_iff, false_imp_iff, lit_a, Nat.reduceAdd, or_true, true_or, or_false, false_or, Int.reduceEq, Int.reduceNe, Int.reduceLT, Int.reduceLE, Int.reduceNeg, Int.toNat_natCast, tg_nil, eq_self, lc0n, lc1n, lc2n, lc3n, lc4n, lc5n, lc6n, lc1i, lc2i, lc3i, lc4i, lc5i, lc6i, lc1r, lc2r, lc3r, lc4r, lc5r, lc6r, Nat.add_zero]
  repeat' (first | with_reducible apply And.intro | intro _)
  all_goals (try omega)
  refine c_now hF.1 hl hbd hVW (fun μ' hS' hk' hN => ?_)
  refine wp2_go w5_117 ?_; simp only [v5_117, tg_pop, tg_iconst, tg_istore, okS_10, stL_10, nLg_n, nLg_i, nLg_r, tc_c, tc_l, tc_r, tc_m, tc_n, tc_o, tc_0, inR, true_and, and_true, ne_eq, not_true_eq_false, not_false_eq_true, true_imp_iff, false_imp_iff, lit_a, Nat.reduceAdd, or_true, true_or, or_false, false_or, Int.reduceEq, Int.reduceNe, Int.reduceLT, Int.reduceLE, Int.reduceNeg, Int.toNat_natCast, tg_nil, eq_self, lc0n, lc1n, lc2n, lc3n, lc4n, lc5n, lc6n, lc1i, lc2i, lc3i, lc4i, lc5i, lc6i, lc1r, lc2r, lc3r, lc4r, lc5r, lc6r, Nat.add_zero]
  refine en_cnt hz hVW hN ?_ (zn z) 0 (by omega)
  have hF' : Fq z V W μ0 μ' := ⟨hS', fun k h1 h2 h3 => (hk' k h1 h2 h3).trans (hF.2 k h1 h2 h3)⟩
  have p170 : ∀ v : Int, (v = 1 ∧ bd = F_enough z (l : Int)) ∨ (v = 0 ∧ bd ≠ F_enough z (l : Int)) → wp2 y L 2 (Call2 y L (d + 1)) 5 Q (2, na, len) 170 [some (.inr (.inr 0)), some (.inl (l : Int)), some (.inr (.inr V)), some (.inr (.inr W)), some (.inl (F_enough z (l : Int))), some (.inl (z 0)), some (.inl (sm (kN z (gL z l) 600) (zn z))), some (.inl l7), some (.inl bd), some (.inl (sm (kN z (gL z l) bd) (zn z))), some (.inl (zn z : Int))] [.inl v] μ' := by
    intro v hv
    refine wp2_go w5_170 ?_; simp only [v5_170, tg_iload, ldI_8, ldI_4, tg_ic_ne, tg_iconst, tg_goto, nLg_n, nLg_i, nLg_r, tc_c, tc_l, tc_r, tc_m, tc_n, tc_o, tc_0, inR, true_and, and_true, ne_eq, not_true_eq_false, not_false_eq_true, true_imp_iff, false_imp_iff, lit_a, Nat.reduceAdd, or_true, true_or, or_false, false_or, Int.reduceEq, Int.reduceNe, Int.reduceLT, Int.reduceLE, Int.reduceNeg, Int.toNat_natCast, tg_nil, eq_self, lc0n, lc1n, lc2n, lc3n, lc4n, lc5n, lc6n, lc1i, lc2i, lc3i, lc4i, lc5i, lc6i, lc1r, lc2r, lc3r, lc4r, lc5r, lc6r, Nat.add_zero]
    repeat' (first | with_reducible apply And.intro | intro _)
    all_goals (try omega)
    · obtain rfl : v = 1 := by omega
      refine wp2_go w5_182 ?_; simp only [v5_182, tg_ic_eq, tg_iconst, tg_iret1, nLg_n, nLg_i, nLg_r, tc_c, tc_l, tc_r, tc_m, tc_n, tc_o, tc_0, inR, true_and, and_true, ne_eq, not_true_eq_false, not_false_eq_true, true_imp_iff, false_imp_iff, lit_a, Nat.reduceAdd, or_true, true_or, or_false, false_or, Int.reduceEq, Int.reduceNe, Int.reduceLT, Int.reduceLE, Int.reduceNeg, Int.toNat_natCast, tg_nil, eq_self, lc0n, lc1n, lc2n, lc3n, lc4n, lc5n, lc6n, lc1i, lc2i, lc3i, lc4i, lc5i, lc6i, lc1r, lc2r, lc3r, lc4r, lc5r, lc6r, Nat.add_zero]
      exact next (some (.inl bd)) (some (.inl (sm (kN z (gL z l) bd) (zn z)))) (some (.inl (zn z : Int))) _ trivial trivial trivial hF'
    · obtain rfl : v = 0 := by omega
      refine wp2_go w5_181 ?_; simp only [v5_181, tg_iconst, nLg_n, nLg_i, nLg_r, tc_c, tc_l, tc_r, tc_m, tc_n, tc_o, tc_0, inR, true_and, and_true, ne_eq, not_true_eq_false, not_false_eq_true, true_imp_iff, false_imp_iff, lit_a, Nat.reduceAdd, or_true, true_or, or_false, false_or, Int.reduceEq, Int.reduceNe, Int.reduceLT, Int.reduceLE, Int.reduceNeg, Int.toNat_natCast, tg_nil, eq_self, lc0n, lc1n, lc2n, lc3n, lc4n, lc5n, lc6n, lc1i, lc2i, lc3i, lc4i, lc5i, lc6i, lc1r, lc2r, lc3r, lc4r, lc5r, lc6r, Nat.add_zero]
      refine wp2_go w5_182 ?_; simp only [v5_182, tg_ic_eq, tg_iconst, tg_iret1, nLg_n, nLg_i, nLg_r, tc_c, tc_l, tc_r, tc_m, tc_n, tc_o, tc_0, inR, true_and, and_true, ne_eq, not_true_eq_false, not_false_eq_true, true_imp_iff, false_imp_iff, lit_a, Nat.reduceAdd, or_true, true_or, or_false, false_or, Int.reduceEq, Int.reduceNe, Int.reduceLT, Int.reduceLE, Int.reduceNeg, Int.toNat_natCast, tg_nil, eq_self, lc0n, lc1n, lc2n, lc3n, lc4n, lc5n, lc6n, lc1i, lc2i, lc3i, lc4i, lc5i, lc6i, lc1r, lc2r, lc3r, lc4r, lc5r, lc6r, Nat.add_zero]
      exact next (some (.inl bd)) (some (.inl (sm (kN z (gL z l) bd) (zn z)))) (some (.inl (zn z : Int))) _ trivial trivial trivial hF'
  refine wp2_go w5_153 ?_; simp only [v5_153, tg_iload, ldI_8, tg_if_lt, ldI_9, ldI_6, tg_ic_ne, tg_iconst, tg_goto, nLg_n, nLg_i, nLg_r, tc_c, tc_l, tc_r, tc_m, tc_n, tc_o, tc_0, inR, true_and, and_true, ne_eq, not_true_eq_false, not_false_eq_true, true_imp_iff, false_imp_iff, lit_a, Nat.reduceAdd, or_true, true_or, or_false, false_or, Int.reduceEq, Int.reduceNe, Int.reduceLT, Int.reduceLE, Int.reduceNeg, Int.toNat_natCast, tg_nil, eq_self, lc0n, lc1n, lc2n, lc3n, lc4n, lc5n, lc6n, lc1i, lc2i, lc3i, lc4i, lc5i, lc6i, lc1r, lc2r, lc3r, lc4r, lc5r, lc6r, Nat.add_zero]
  repeat' (first | with_reducible apply And.intro | intro _)
  all_goals (try omega)
  · exact next (some (.inl bd)) (some (.inl (sm (kN z (gL z l) bd) (zn z)))) (some (.inl (zn z : Int))) _ trivial trivial trivial hF'
  · rename_i h0 h1
    exact p170 1 (Or.inl ⟨rfl, (hi h0).mp h1⟩)
  · rename_i h0 h1
    refine wp2_go w5_169 ?_; simp only [v5_169, tg_iconst, nLg_n, nLg_i, nLg_r, tc_c, tc_l, tc_r, tc_m, tc_n, tc_o, tc_0, inR, true_and, and_true, ne_eq, not_true_eq_false, not_false_eq_true, true_imp_iff, false_imp_iff, lit_a, Nat.reduceAdd, or_true, true_or, or_false, false_or, Int.reduceEq, Int.reduceNe, Int.reduceLT, Int.reduceLE, Int.reduceNeg, Int.toNat_natCast, tg_nil, eq_self, lc0n, lc1n, lc2n, lc3n, lc4n, lc5n, lc6n, lc1i, lc2i, lc3i, lc4i, lc5i, lc6i, lc1r, lc2r, lc3r, lc4r, lc5r, lc6r, Nat.add_zero]
    exact p170 0 (Or.inr ⟨rfl, fun q => h1 ((hi h0).mpr q)⟩)
theorem en_tail {y : Nat → Int} {L d na l V W : Nat} {len : Nat → Nat} {Q : QT} {μ0 μ : Mem} {z : Rw} (hl : (l : Int) < z 3) (hVW : VW na len V W) (hF : Fq z V W μ0 μ)
    (h : ∀ μ', Fq z V W μ0 μ' → Q (.inl 1) μ') : wp2 y L 2 (Call2 y L (d + 1)) 5 Q (2, na, len) 15 [some (.inr (.inr 0)), some (.inl (l : Int)), some (.inr (.inr V)), some (.inr (.inr W)), none, none, none, none, none, none, none] [.inl (F_enough z (l : Int))] μ := by
  have hz := hF.1.1
  have q0 := hz.1
  have ez := zn_eq hz
  obtain ⟨E0, E1, E2⟩ := E_f hz hl
  refine wp2_go w5_15 ?_; simp only [v5_15, tg_istore, okS_4, stL_4, tg_aload_0, tg_iload_1, tg_sipush, tg_aload_2, tg_aload_3, tg_is5, mc_3, nLg_n, nLg_i, nLg_r, tc_c, tc_l, tc_r, tc_m, tc_n, tc_o, tc_0, inR, true_and, and_true, ne_eq, not_true_eq_false, not_false_eq_true, true_imp_iff, false_imp_iff, lit_a, Nat.reduceAdd, or_true, true_or, or_false, false_or, Int.reduceEq, Int.reduceNe, Int.reduceLT, Int.reduceLE, Int.reduceNeg, Int.toNat_natCast, tg_nil, eq_self, lc0n, lc1n, lc2n, lc3n, lc4n, lc5n, lc6n, lc1i, lc2i, lc3i, lc4i, lc5i, lc6i, lc1r, lc2r, lc3r, lc4r, lc5r, lc6r, Nat.add_zero]
  repeat' (first | with_reducible apply And.intro | intro _)
  all_goals (try omega)
  refine c_now hF.1 hl (by omega) hVW (fun μ' hS' hk' hN => ?_)
  have hF' : Fq z V W μ0 μ' := ⟨hS', fun k h1 h2 h3 => (hk' k h1 h2 h3).trans (hF.2 k h1 h2 h3)⟩
  refine wp2_go w5_27 ?_; simp only [v5_27, tg_istore, okS_5, stL_5, tg_iconst, okS_6, stL_6, okS_7, stL_7, nLg_n, nLg_i, nLg_r, tc_c, tc_l, tc_r, tc_m, tc_n, tc_o, tc_0, inR, true_and, and_true, ne_eq, not_true_eq_false, not_false_eq_true, true_imp_iff, false_imp_iff, lit_a, Nat.reduceAdd, or_true, true_or, or_false, false_or, Int.reduceEq, Int.reduceNe, Int.reduceLT, Int.reduceLE, Int.reduceNeg, Int.toNat_natCast, tg_nil, eq_self, lc0n, lc1n, lc2n, lc3n, lc4n, lc5n, lc6n, lc1i, lc2i, lc3i, lc4i, lc5i, lc6i, lc1r, lc2r, lc3r, lc4r, lc5r, lc6r, Nat.add_zero]
  refine en_all hz hVW hN ?_ (zn z) 0 (by omega)
  refine wp2_go w5_67 ?_; simp only [v5_67, tg_iconst, tg_istore, okS_7, stL_7, nLg_n, nLg_i, nLg_r, tc_c, tc_l, tc_r, tc_m, tc_n, tc_o, tc_0, inR, true_and, and_true, ne_eq, not_true_eq_false, not_false_eq_true, true_imp_iff, false_imp_iff, lit_a, Nat.reduceAdd, or_true, true_or, or_false, false_or, Int.reduceEq, Int.reduceNe, Int.reduceLT, Int.reduceLE, Int.reduceNeg, Int.toNat_natCast, tg_nil, eq_self, lc0n, lc1n, lc2n, lc3n, lc4n, lc5n, lc6n, lc1i, lc2i, lc3i, lc4i, lc5i, lc6i, lc1r, lc2r, lc3r, lc4r, lc5r, lc6r, Nat.add_zero]
  have it : ∀ (bd : Int), -1 ≤ bd ∧ bd ≤ F_enough z (l : Int) → 0 ≤ bd → (sm (kN z (gL z l) bd) (zn z) = sm (kN z (gL z l) 600) (zn z) ↔ bd = F_enough z (l : Int)) := fun bd hb h0 => by
    rcases Int.lt_or_eq_of_le hb.2 with q | q
    · exact ⟨fun e => absurd e (E2 bd h0 q), fun e => by omega⟩
    · rw [q]; exact ⟨fun _ => rfl, fun _ => E1⟩
  refine wp2_go w5_70 ?_; simp only [v5_70, tg_iload, ldI_7, tg_iconst, tg_ic_ge, tg_if_ne, ldI_4, tg_goto, nLg_n, nLg_i, nLg_r, tc_c, tc_l, tc_r, tc_m, tc_n, tc_o, tc_0, inR, true_and, and_true, ne_eq, not_true_eq_false, not_false_eq_true, true_imp_iff, false_imp_iff, lit_a, Nat.reduceAdd, or_true, true_or, or_false, false_or, Int.reduceEq, Int.reduceNe, Int.reduceLT, Int.reduceLE, Int.reduceNeg, Int.toNat_natCast, tg_nil, eq_self, lc0n, lc1n, lc2n, lc3n, lc4n, lc5n, lc6n, lc1i, lc2i, lc3i, lc4i, lc5i, lc6i, lc1r, lc2r, lc3r, lc4r, lc5r, lc6r, Nat.add_zero]
  refine en_it (l7 := 0) trivial trivial trivial hl hVW hF' (by omega) (it _ (by omega)) (fun X8 X9 X10 μ n8 n9 n10 hF => ?_)
  refine wp2_go w5_187 ?_; simp only [v5_187, tg_iinc, ldI_7, okS_7, stL_7, tg_goto, nLg_n, nLg_i, nLg_r, tc_c, tc_l, tc_r, tc_m, tc_n, tc_o, tc_0, inR, true_and, and_true, ne_eq, not_true_eq_false, not_false_eq_true, true_imp_iff, false_imp_iff, lit_a, Nat.reduceAdd, or_true, true_or, or_false, false_or, Int.reduceEq, Int.reduceNe, Int.reduceLT, Int.reduceLE, Int.reduceNeg, Int.toNat_natCast, tg_nil, eq_self, lc0n, lc1n, lc2n, lc3n, lc4n, lc5n, lc6n, lc1i, lc2i, lc3i, lc4i, lc5i, lc6i, lc1r, lc2r, lc3r, lc4r, lc5r, lc6r, Nat.add_zero, Int.reduceAdd]
  repeat' (first | with_reducible apply And.intro | intro _)
  all_goals (try omega)
  refine wp2_go w5_70 ?_; simp only [v5_70, tg_iload, ldI_7, tg_iconst, tg_ic_ge, tg_if_ne, ldI_4, tg_goto, nLg_n, nLg_i, nLg_r, tc_c, tc_l, tc_r, tc_m, tc_n, tc_o, tc_0, inR, true_and, and_true, ne_eq, not_true_eq_false, not_false_eq_true, true_imp_iff, false_imp_iff, lit_a, Nat.reduceAdd, or_true, true_or, or_false, false_or, Int.reduceEq, Int.reduceNe, Int.reduceLT, Int.reduceLE, Int.reduceNeg, Int.toNat_natCast, tg_nil, eq_self, lc0n, lc1n, lc2n, lc3n, lc4n, lc5n, lc6n, lc1i, lc2i, lc3i, lc4i, lc5i, lc6i, lc1r, lc2r, lc3r, lc4r, lc5r, lc6r, Nat.add_zero]
  refine wp2_go w5_86 ?_; simp only [v5_86, tg_iload, ldI_7, tg_iconst, tg_ic_ne, ldI_4, tg_isub, tg_goto, nLg_n, nLg_i, nLg_r, tc_c, tc_l, tc_r, tc_m, tc_n, tc_o, tc_0, inR, true_and, and_true, ne_eq, not_true_eq_false, not_false_eq_true, true_imp_iff, false_imp_iff, lit_a, Nat.reduceAdd, or_true, true_or, or_false, false_or, Int.reduceEq, Int.reduceNe, Int.reduceLT, Int.reduceLE, Int.reduceNeg, Int.toNat_natCast, tg_nil, eq_self, lc0n, lc1n, lc2n, lc3n, lc4n, lc5n, lc6n, lc1i, lc2i, lc3i, lc4i, lc5i, lc6i, lc1r, lc2r, lc3r, lc4r, lc5r, lc6r, Nat.add_zero]
  refine en_it (l7 := 1) n8 n9 n10 hl hVW hF (by omega) (it _ (by omega)) (fun X8 X9 X10 μ n8 n9 n10 hF => ?_)
  refine wp2_go w5_187 ?_; simp only [v5_187, tg_iinc, ldI_7, okS_7, stL_7, tg_goto, nLg_n, nLg_i, nLg_r, tc_c, tc_l, tc_r, tc_m, tc_n, tc_o, tc_0, inR, true_and, and_true, ne_eq, not_true_eq_false, not_false_eq_true, true_imp_iff, false_imp_iff, lit_a, Nat.reduceAdd, or_true, true_or, or_false, false_or, Int.reduceEq, Int.reduceNe, Int.reduceLT, Int.reduceLE, Int.reduceNeg, Int.toNat_natCast, tg_nil, eq_self, lc0n, lc1n, lc2n, lc3n, lc4n, lc5n, lc6n, lc1i, lc2i, lc3i, lc4i, lc5i, lc6i, lc1r, lc2r, lc3r, lc4r, lc5r, lc6r, Nat.add_zero, Int.reduceAdd]
  repeat' (first | with_reducible apply And.intro | intro _)
  all_goals (try omega)
  refine wp2_go w5_70 ?_; simp only [v5_70, tg_iload, ldI_7, tg_iconst, tg_ic_ge, tg_if_ne, ldI_4, tg_goto, nLg_n, nLg_i, nLg_r, tc_c, tc_l, tc_r, tc_m, tc_n, tc_o, tc_0, inR, true_and, and_true, ne_eq, not_true_eq_false, not_false_eq_true, true_imp_iff, false_imp_iff, lit_a, Nat.reduceAdd, or_true, true_or, or_false, false_or, Int.reduceEq, Int.reduceNe, Int.reduceLT, Int.reduceLE, Int.reduceNeg, Int.toNat_natCast, tg_nil, eq_self, lc0n, lc1n, lc2n, lc3n, lc4n, lc5n, lc6n, lc1i, lc2i, lc3i, lc4i, lc5i, lc6i, lc1r, lc2r, lc3r, lc4r, lc5r, lc6r, Nat.add_zero]
  refine wp2_go w5_86 ?_; simp only [v5_86, tg_iload, ldI_7, tg_iconst, tg_ic_ne, ldI_4, tg_isub, tg_goto, nLg_n, nLg_i, nLg_r, tc_c, tc_l, tc_r, tc_m, tc_n, tc_o, tc_0, inR, true_and, and_true, ne_eq, not_true_eq_false, not_false_eq_true, true_imp_iff, false_imp_iff, lit_a, Nat.reduceAdd, or_true, true_or, or_false, false_or, Int.reduceEq, Int.reduceNe, Int.reduceLT, Int.reduceLE, Int.reduceNeg, Int.toNat_natCast, tg_nil, eq_self, lc0n, lc1n, lc2n, lc3n, lc4n, lc5n, lc6n, lc1i, lc2i, lc3i, lc4i, lc5i, lc6i, lc1r, lc2r, lc3r, lc4r, lc5r, lc6r, Nat.add_zero]
  refine wp2_go w5_99 ?_; simp only [v5_99, tg_iload, ldI_4, tg_iconst, tg_idiv, nLg_n, nLg_i, nLg_r, tc_c, tc_l, tc_r, tc_m, tc_n, tc_o, tc_0, inR, true_and, and_true, ne_eq, not_true_eq_false, not_false_eq_true, true_imp_iff, false_imp_iff, lit_a, Nat.reduceAdd, or_true, true_or, or_false, false_or, Int.reduceEq, Int.reduceNe, Int.reduceLT, Int.reduceLE, Int.reduceNeg, Int.toNat_natCast, tg_nil, eq_self, lc0n, lc1n, lc2n, lc3n, lc4n, lc5n, lc6n, lc1i, lc2i, lc3i, lc4i, lc5i, lc6i, lc1r, lc2r, lc3r, lc4r, lc5r, lc6r, Nat.add_zero]
  repeat' (first | with_reducible apply And.intro | intro _)
  all_goals (try omega)
  refine en_it (l7 := 2) n8 n9 n10 hl hVW hF (by omega) (fun h0 => ?_) (fun X8 X9 X10 μ n8 n9 n10 hF => ?_)
  · exact it _ (by omega) h0
  refine wp2_go w5_187 ?_; simp only [v5_187, tg_iinc, ldI_7, okS_7, stL_7, tg_goto, nLg_n, nLg_i, nLg_r, tc_c, tc_l, tc_r, tc_m, tc_n, tc_o, tc_0, inR, true_and, and_true, ne_eq, not_true_eq_false, not_false_eq_true, true_imp_iff, false_imp_iff, lit_a, Nat.reduceAdd, or_true, true_or, or_false, false_or, Int.reduceEq, Int.reduceNe, Int.reduceLT, Int.reduceLE, Int.reduceNeg, Int.toNat_natCast, tg_nil, eq_self, lc0n, lc1n, lc2n, lc3n, lc4n, lc5n, lc6n, lc1i, lc2i, lc3i, lc4i, lc5i, lc6i, lc1r, lc2r, lc3r, lc4r, lc5r, lc6r, Nat.add_zero, Int.reduceAdd]
  repeat' (first | with_reducible apply And.intro | intro _)
  all_goals (try omega)
  refine wp2_go w5_70 ?_; simp only [v5_70, tg_iload, ldI_7, tg_iconst, tg_ic_ge, tg_if_ne, ldI_4, tg_goto, nLg_n, nLg_i, nLg_r, tc_c, tc_l, tc_r, tc_m, tc_n, tc_o, tc_0, inR, true_and, and_true, ne_eq, not_true_eq_false, not_false_eq_true, true_imp_iff, false_imp_iff, lit_a, Nat.reduceAdd, or_true, true_or, or_false, false_or, Int.reduceEq, Int.reduceNe, Int.reduceLT, Int.reduceLE, Int.reduceNeg, Int.toNat_natCast, tg_nil, eq_self, lc0n, lc1n, lc2n, lc3n, lc4n, lc5n, lc6n, lc1i, lc2i, lc3i, lc4i, lc5i, lc6i, lc1r, lc2r, lc3r, lc4r, lc5r, lc6r, Nat.add_zero]
  refine wp2_go w5_193 ?_; simp only [v5_193, tg_iload, ldI_4, tg_if_lt, tg_sipush, tg_ic_gt, tg_iconst, tg_goto, nLg_n, nLg_i, nLg_r, tc_c, tc_l, tc_r, tc_m, tc_n, tc_o, tc_0, inR, true_and, and_true, ne_eq, not_true_eq_false, not_false_eq_true, true_imp_iff, false_imp_iff, lit_a, Nat.reduceAdd, or_true, true_or, or_false, false_or, Int.reduceEq, Int.reduceNe, Int.reduceLT, Int.reduceLE, Int.reduceNeg, Int.toNat_natCast, tg_nil, eq_self, lc0n, lc1n, lc2n, lc3n, lc4n, lc5n, lc6n, lc1i, lc2i, lc3i, lc4i, lc5i, lc6i, lc1r, lc2r, lc3r, lc4r, lc5r, lc6r, Nat.add_zero]
  repeat' (first | with_reducible apply And.intro | intro _)
  all_goals (try omega)
  refine wp2_go w5_211 ?_; simp only [v5_211, tg_iret1, nLg_n, nLg_i, nLg_r, tc_c, tc_l, tc_r, tc_m, tc_n, tc_o, tc_0, inR, true_and, and_true, ne_eq, not_true_eq_false, not_false_eq_true, true_imp_iff, false_imp_iff, lit_a, Nat.reduceAdd, or_true, true_or, or_false, false_or, Int.reduceEq, Int.reduceNe, Int.reduceLT, Int.reduceLE, Int.reduceNeg, Int.toNat_natCast, tg_nil, eq_self, lc0n, lc1n, lc2n, lc3n, lc4n, lc5n, lc6n, lc1i, lc2i, lc3i, lc4i, lc5i, lc6i, lc1r, lc2r, lc3r, lc4r, lc5r, lc6r, Nat.add_zero]
  exact h μ hF
theorem c_enough {y : Nat → Int} {L d g na l : Nat} {len : Nat → Nat} {Q : QT} {μ0 : Mem} {z : Rw} (hS : St z μ0) (hl : (l : Int) < z 3)
    (h : ∀ μ', St z μ' → (∀ k, 510 ≤ k → k < 510 + na → μ' k = μ0 k) → Q (.inl 1) μ') : Call2 y L (d + 2) 5 [.inr (.inr 0), .inl (l : Int)] (g, na, len) μ0 Q := by
  have hz := hS.1
  have q0 := hz.1
  refine el_5 ?_
  refine wp2_go w5_0 ?_; simp only [v5_0, tg_bipush, tg_newa, noR_0, noR_r, noR_i, noR_n, tg_astore_2, tg_astore_3, tg_aload_0, tg_iload_1, tg_iv2, nLg_n, nLg_i, nLg_r, tc_c, tc_l, tc_r, tc_m, tc_n, tc_o, tc_0, inR, true_and, and_true, ne_eq, not_true_eq_false, not_false_eq_true, true_imp_iff, false_imp_iff, lit_a, Nat.reduceAdd, or_true, true_or, or_false, false_or, Int.reduceEq, Int.reduceNe, Int.reduceLT, Int.reduceLE, Int.reduceNeg, Int.toNat_natCast, tg_nil, eq_self, lc0n, lc1n, lc2n, lc3n, lc4n, lc5n, lc6n, lc1i, lc2i, lc3i, lc4i, lc5i, lc6i, lc1r, lc2r, lc3r, lc4r, lc5r, lc6r, Nat.add_zero, Int.reduceToNat]
  repeat' (first | with_reducible apply And.intro | intro _)
  all_goals (try omega)
  refine q_enough (Fz_r (St_zr (St_zr hS (by omega)) (by omega))) ⟨by omega, by omega⟩ (fun μ hF => ?_)
  refine en_tail (V := 510 + na) (W := 510 + (na + 1)) (μ0 := μ0) hl ⟨by omega, by omega, ?_, ?_, by omega⟩ ⟨hF.1, fun k h1 h2 h3 => ?_⟩ (fun μ' hF' => h μ' hF'.1 (fun k h1 h2 => hF'.2 k h1 (by omega) (by omega)))
  · rw [upl_o (by omega), upl_s]
  · rw [upl_s]
  · rw [hF.2 k h1, zr_o h3, zr_o h2]
