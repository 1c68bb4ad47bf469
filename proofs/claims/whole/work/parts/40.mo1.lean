/-! THE MODEL: cell 510; its row is z -/
def HM (w : Rw) (μ : Mem) : Prop := ∀ k, k < 121 → μ 516 k = w k
-- Mo.in: blocks [0, 14, 15]
theorem k_Mo_in {σ : Sg} {d : Nat} {Q : QT} {μ : Mem} {v a b : Int} (hv : inR v) (ha : inR a) (hb : inR b) (h1 : a ≤ v → v ≤ b → Q (.inl 1) μ) (h0 : (v < a ∨ b < v) → Q (.inl 0) μ) : Call σ (d + 1) 94 [.inl v, .inl a, .inl b] μ Q := by
  refine e_94 ?_
  unfold inR at hv ha hb
  repeat' (first | with_reducible apply And.intro | (intro _) | ((first | refine wp_go b94_0 ?_ | refine wp_go b94_14 ?_ | refine wp_go b94_15 ?_); simp only [l94_0, l94_14, l94_15, sg_iload_0, sg_iload_1, sg_ic_lt, sg_iload_2, sg_ic_gt, sg_iconst, sg_goto, sg_iret1, nLg_n, nLg_i, nLg_r, tc_c, tc_l, tc_r, tc_m, tc_n, tc_o, tc_0, inR, true_and, and_true, ne_eq, not_true_eq_false, not_false_eq_true, true_imp_iff, false_imp_iff, Int.toNat_natCast, lit_a, Nat.reduceAdd, or_true, true_or, or_false, false_or, Int.reduceEq, Int.reduceNe, Int.reduceLT, Int.reduceLE, Int.reduceNeg, sg_nil]))
  all_goals (try omega)
  all_goals first | exact h1 (by omega) (by omega) | exact h0 (by omega)
-- Mo.isSentence: blocks [0, 18, 19]
theorem k_Mo_isSentence {d : Nat} {Q : QT} {μ : Mem} {s : Int} {z : Rw} (hM : μ 511 = z) (hz : IZ z) (hs : inR s) (h1 : 0 ≤ s → s < z 0 → Q (.inl 1) μ) (h0 : (s < 0 ∨ z 0 ≤ s) → Q (.inl 0) μ) : Call σ1 (d + 1) 95 [.inr (.inr 510), .inl s] μ Q := by
  refine e_95 ?_
  have q := hz.1
  unfold inR at hs
  repeat' (first | with_reducible apply And.intro | (intro _) | ((first | refine wp_go b95_0 ?_ | refine wp_go b95_18 ?_ | refine wp_go b95_19 ?_); simp only [l95_0, l95_18, l95_19, sg_iload_1, sg_if_lt, sg_aload_0, sg_getfp, sg_iconst, sg_iaload, sg_ic_ge, sg_goto, sg_iret1, nLg_n, nLg_i, nLg_r, tc_c, tc_l, tc_r, tc_m, tc_n, tc_o, tc_0, inR, true_and, and_true, ne_eq, not_true_eq_false, not_false_eq_true, true_imp_iff, false_imp_iff, Int.toNat_natCast, lit_a, Nat.reduceAdd, or_true, true_or, or_false, false_or, Int.reduceEq, Int.reduceNe, Int.reduceLT, Int.reduceLE, Int.reduceNeg, sg_nil, s1p, x510, x511, x512, x513, x514, x515, x516, x517, hM, Int.toNat_zero]))
  all_goals (try omega)
  all_goals first | exact h1 (by omega) (by omega) | exact h0 (by omega)
-- Mo.isNotice: blocks [0, 18, 19]
theorem k_Mo_isNotice {d : Nat} {Q : QT} {μ : Mem} {s : Int} {z : Rw} (hM : μ 511 = z) (hz : IZ z) (hs : inR s) (h1 : 0 ≤ s → s < z 2 → Q (.inl 1) μ) (h0 : (s < 0 ∨ z 2 ≤ s) → Q (.inl 0) μ) : Call σ1 (d + 1) 96 [.inr (.inr 510), .inl s] μ Q := by
  refine e_96 ?_
  have q := hz.1
  unfold inR at hs
  repeat' (first | with_reducible apply And.intro | (intro _) | ((first | refine wp_go b96_0 ?_ | refine wp_go b96_18 ?_ | refine wp_go b96_19 ?_); simp only [l96_0, l96_18, l96_19, sg_iload_1, sg_if_lt, sg_aload_0, sg_getfp, sg_iconst, sg_iaload, sg_ic_ge, sg_goto, sg_iret1, nLg_n, nLg_i, nLg_r, tc_c, tc_l, tc_r, tc_m, tc_n, tc_o, tc_0, inR, true_and, and_true, ne_eq, not_true_eq_false, not_false_eq_true, true_imp_iff, false_imp_iff, Int.toNat_natCast, lit_a, Nat.reduceAdd, or_true, true_or, or_false, false_or, Int.reduceEq, Int.reduceNe, Int.reduceLT, Int.reduceLE, Int.reduceNeg, sg_nil, s1p, x510, x511, x512, x513, x514, x515, x516, x517, hM, Int.reduceToNat]))
  all_goals (try omega)
  all_goals first | exact h1 (by omega) (by omega) | exact h0 (by omega)
-- Mo.isListener: blocks [0, 18, 19]
theorem k_Mo_isListener {d : Nat} {Q : QT} {μ : Mem} {s : Int} {z : Rw} (hM : μ 511 = z) (hz : IZ z) (hs : inR s) (h1 : 0 ≤ s → s < z 3 → Q (.inl 1) μ) (h0 : (s < 0 ∨ z 3 ≤ s) → Q (.inl 0) μ) : Call σ1 (d + 1) 97 [.inr (.inr 510), .inl s] μ Q := by
  refine e_97 ?_
  have q := hz.1
  unfold inR at hs
  repeat' (first | with_reducible apply And.intro | (intro _) | ((first | refine wp_go b97_0 ?_ | refine wp_go b97_18 ?_ | refine wp_go b97_19 ?_); simp only [l97_0, l97_18, l97_19, sg_iload_1, sg_if_lt, sg_aload_0, sg_getfp, sg_iconst, sg_iaload, sg_ic_ge, sg_goto, sg_iret1, nLg_n, nLg_i, nLg_r, tc_c, tc_l, tc_r, tc_m, tc_n, tc_o, tc_0, inR, true_and, and_true, ne_eq, not_true_eq_false, not_false_eq_true, true_imp_iff, false_imp_iff, Int.toNat_natCast, lit_a, Nat.reduceAdd, or_true, true_or, or_false, false_or, Int.reduceEq, Int.reduceNe, Int.reduceLT, Int.reduceLE, Int.reduceNeg, sg_nil, s1p, x510, x511, x512, x513, x514, x515, x516, x517, hM, Int.reduceToNat]))
  all_goals (try omega)
  all_goals first | exact h1 (by omega) (by omega) | exact h0 (by omega)
-- Mo.its: blocks [0]
theorem k_Mo_its {d s w : Nat} {Q : QT} {μ : Mem} {z : Rw} (hM : μ 511 = z) (hs : s < 24) (hw : w < 3) (h : Q (.inl (z (4 + 3 * s + w))) μ) : Call σ1 (d + 1) 98 [.inr (.inr 510), .inl (s : Int), .inl (w : Int)] μ Q := by
  refine e_98 ?_
  repeat' (first | with_reducible apply And.intro | (intro _) | ((first | refine wp_go b98_0 ?_); simp only [l98_0, sg_aload_0, sg_getfp, sg_iconst, sg_iload_1, sg_imul, sg_iadd, sg_iload_2, sg_iaload, sg_iret0, nLg_n, nLg_i, nLg_r, tc_c, tc_l, tc_r, tc_m, tc_n, tc_o, tc_0, inR, true_and, and_true, ne_eq, not_true_eq_false, not_false_eq_true, true_imp_iff, false_imp_iff, Int.toNat_natCast, lit_a, Nat.reduceAdd, or_true, true_or, or_false, false_or, Int.reduceEq, Int.reduceNe, Int.reduceLT, Int.reduceLE, Int.reduceNeg, sg_nil, s1p, x510, x511, x512, x513, x514, x515, x516, x517, hM]))
  all_goals (try omega)
  all_goals exact h
-- Mo.inBreak: blocks [0]
theorem k_Mo_inBreak {d s : Nat} {Q : QT} {μ : Mem} {z : Rw} (hM : μ 511 = z) (hs : s < 24) (h : Q (.inl (z (76 + 5 * s))) μ) : Call σ1 (d + 1) 99 [.inr (.inr 510), .inl (s : Int)] μ Q := by
  refine e_99 ?_
  repeat' (first | with_reducible apply And.intro | (intro _) | ((first | refine wp_go b99_0 ?_); simp only [l99_0, sg_aload_0, sg_getfp, sg_bipush, sg_iconst, sg_iload_1, sg_imul, sg_iadd, sg_iaload, sg_iret0, nLg_n, nLg_i, nLg_r, tc_c, tc_l, tc_r, tc_m, tc_n, tc_o, tc_0, inR, true_and, and_true, ne_eq, not_true_eq_false, not_false_eq_true, true_imp_iff, false_imp_iff, Int.toNat_natCast, lit_a, Nat.reduceAdd, or_true, true_or, or_false, false_or, Int.reduceEq, Int.reduceNe, Int.reduceLT, Int.reduceLE, Int.reduceNeg, sg_nil, s1p, x510, x511, x512, x513, x514, x515, x516, x517, hM]))
  all_goals (try omega)
  all_goals exact h
-- Mo.inRow: blocks [0]
theorem k_Mo_inRow {d s k : Nat} {Q : QT} {μ : Mem} {z : Rw} (hM : μ 511 = z) (hs : s < 24) (hk : k < 4) (h : Q (.inl (z (77 + 5 * s + k))) μ) : Call σ1 (d + 1) 100 [.inr (.inr 510), .inl (s : Int), .inl (k : Int)] μ Q := by
  refine e_100 ?_
  rw [show 77 + 5 * s + k = 76 + 5 * s + 1 + k by omega] at h
  repeat' (first | with_reducible apply And.intro | (intro _) | ((first | refine wp_go b100_0 ?_); simp only [l100_0, sg_aload_0, sg_getfp, sg_bipush, sg_iconst, sg_iload_1, sg_imul, sg_iadd, sg_iload_2, sg_iaload, sg_iret0, nLg_n, nLg_i, nLg_r, tc_c, tc_l, tc_r, tc_m, tc_n, tc_o, tc_0, inR, true_and, and_true, ne_eq, not_true_eq_false, not_false_eq_true, true_imp_iff, false_imp_iff, Int.toNat_natCast, lit_a, Nat.reduceAdd, or_true, true_or, or_false, false_or, Int.reduceEq, Int.reduceNe, Int.reduceLT, Int.reduceLE, Int.reduceNeg, sg_nil, s1p, x510, x511, x512, x513, x514, x515, x516, x517, hM]))
  all_goals (try omega)
  all_goals exact h
-- Mo.lengthOf: blocks [0]
theorem k_Mo_lengthOf {d n : Nat} {Q : QT} {μ : Mem} {z : Rw} (hM : μ 511 = z) (hn : n < 8) (h : Q (.inl (z (196 + 2 * n))) μ) : Call σ1 (d + 1) 101 [.inr (.inr 510), .inl (n : Int)] μ Q := by
  refine e_101 ?_
  repeat' (first | with_reducible apply And.intro | (intro _) | ((first | refine wp_go b101_0 ?_); simp only [l101_0, sg_aload_0, sg_getfp, sg_sipush, sg_iconst, sg_iload_1, sg_imul, sg_iadd, sg_iaload, sg_iret0, nLg_n, nLg_i, nLg_r, tc_c, tc_l, tc_r, tc_m, tc_n, tc_o, tc_0, inR, true_and, and_true, ne_eq, not_true_eq_false, not_false_eq_true, true_imp_iff, false_imp_iff, Int.toNat_natCast, lit_a, Nat.reduceAdd, or_true, true_or, or_false, false_or, Int.reduceEq, Int.reduceNe, Int.reduceLT, Int.reduceLE, Int.reduceNeg, sg_nil, s1p, x510, x511, x512, x513, x514, x515, x516, x517, hM]))
  all_goals (try omega)
  all_goals exact h
-- Mo.groupsOf: blocks [0]
theorem k_Mo_groupsOf {d n : Nat} {Q : QT} {μ : Mem} {z : Rw} (hM : μ 511 = z) (hn : n < 8) (h : Q (.inl (z (197 + 2 * n))) μ) : Call σ1 (d + 1) 102 [.inr (.inr 510), .inl (n : Int)] μ Q := by
  refine e_102 ?_
  rw [show 197 + 2 * n = 196 + 2 * n + 1 by omega] at h
  repeat' (first | with_reducible apply And.intro | (intro _) | ((first | refine wp_go b102_0 ?_); simp only [l102_0, sg_aload_0, sg_getfp, sg_sipush, sg_iconst, sg_iload_1, sg_imul, sg_iadd, sg_iaload, sg_iret0, nLg_n, nLg_i, nLg_r, tc_c, tc_l, tc_r, tc_m, tc_n, tc_o, tc_0, inR, true_and, and_true, ne_eq, not_true_eq_false, not_false_eq_true, true_imp_iff, false_imp_iff, Int.toNat_natCast, lit_a, Nat.reduceAdd, or_true, true_or, or_false, false_or, Int.reduceEq, Int.reduceNe, Int.reduceLT, Int.reduceLE, Int.reduceNeg, sg_nil, s1p, x510, x511, x512, x513, x514, x515, x516, x517, hM]))
  all_goals (try omega)
  all_goals exact h
-- Mo.groupOf: blocks [0]
theorem k_Mo_groupOf {d n : Nat} {Q : QT} {μ : Mem} {z : Rw} (hM : μ 511 = z) (hn : n < 6) (h : Q (.inl (z (212 + 3 * n))) μ) : Call σ1 (d + 1) 103 [.inr (.inr 510), .inl (n : Int)] μ Q := by
  refine e_103 ?_
  repeat' (first | with_reducible apply And.intro | (intro _) | ((first | refine wp_go b103_0 ?_); simp only [l103_0, sg_aload_0, sg_getfp, sg_sipush, sg_iconst, sg_iload_1, sg_imul, sg_iadd, sg_iaload, sg_iret0, nLg_n, nLg_i, nLg_r, tc_c, tc_l, tc_r, tc_m, tc_n, tc_o, tc_0, inR, true_and, and_true, ne_eq, not_true_eq_false, not_false_eq_true, true_imp_iff, false_imp_iff, Int.toNat_natCast, lit_a, Nat.reduceAdd, or_true, true_or, or_false, false_or, Int.reduceEq, Int.reduceNe, Int.reduceLT, Int.reduceLE, Int.reduceNeg, sg_nil, s1p, x510, x511, x512, x513, x514, x515, x516, x517, hM]))
  all_goals (try omega)
  all_goals exact h
-- Mo.boundOf: blocks [0]
theorem k_Mo_boundOf {d n : Nat} {Q : QT} {μ : Mem} {z : Rw} (hM : μ 511 = z) (hn : n < 6) (h : Q (.inl (z (213 + 3 * n))) μ) : Call σ1 (d + 1) 104 [.inr (.inr 510), .inl (n : Int)] μ Q := by
  refine e_104 ?_
  rw [show 213 + 3 * n = 212 + 3 * n + 1 by omega] at h
  repeat' (first | with_reducible apply And.intro | (intro _) | ((first | refine wp_go b104_0 ?_); simp only [l104_0, sg_aload_0, sg_getfp, sg_sipush, sg_iconst, sg_iload_1, sg_imul, sg_iadd, sg_iaload, sg_iret0, nLg_n, nLg_i, nLg_r, tc_c, tc_l, tc_r, tc_m, tc_n, tc_o, tc_0, inR, true_and, and_true, ne_eq, not_true_eq_false, not_false_eq_true, true_imp_iff, false_imp_iff, Int.toNat_natCast, lit_a, Nat.reduceAdd, or_true, true_or, or_false, false_or, Int.reduceEq, Int.reduceNe, Int.reduceLT, Int.reduceLE, Int.reduceNeg, sg_nil, s1p, x510, x511, x512, x513, x514, x515, x516, x517, hM]))
  all_goals (try omega)
  all_goals exact h
-- Mo.hasFile: blocks [0, 22, 23]
theorem k_Mo_hasFile {d n : Nat} {Q : QT} {μ : Mem} {z : Rw} (hM : μ 511 = z) (hn : n < 6) (hb : z (214 + 3 * n) = 0 ∨ z (214 + 3 * n) = 1) (h : Q (.inl (z (214 + 3 * n))) μ) : Call σ1 (d + 1) 105 [.inr (.inr 510), .inl (n : Int)] μ Q := by
  refine e_105 ?_
  have e : z (212 + 3 * n + 2) = z (214 + 3 * n) := by rw [show 212 + 3 * n + 2 = 214 + 3 * n by omega]
  rcases hb with hb | hb
  · rw [hb] at h e
    repeat' (first | with_reducible apply And.intro | (intro _) | ((first | refine wp_go b105_0 ?_ | refine wp_go b105_22 ?_ | refine wp_go b105_23 ?_); simp only [l105_0, l105_22, l105_23, sg_aload_0, sg_getfp, sg_sipush, sg_iconst, sg_iload_1, sg_imul, sg_iadd, sg_iaload, sg_ic_ne, sg_goto, sg_iret1, nLg_n, nLg_i, nLg_r, tc_c, tc_l, tc_r, tc_m, tc_n, tc_o, tc_0, inR, true_and, and_true, ne_eq, not_true_eq_false, not_false_eq_true, true_imp_iff, false_imp_iff, Int.toNat_natCast, lit_a, Nat.reduceAdd, or_true, true_or, or_false, false_or, Int.reduceEq, Int.reduceNe, Int.reduceLT, Int.reduceLE, Int.reduceNeg, sg_nil, s1p, x510, x511, x512, x513, x514, x515, x516, x517, hM, e]))
    all_goals (try omega)
    all_goals exact h
  · rw [hb] at h e
    repeat' (first | with_reducible apply And.intro | (intro _) | ((first | refine wp_go b105_0 ?_ | refine wp_go b105_22 ?_ | refine wp_go b105_23 ?_); simp only [l105_0, l105_22, l105_23, sg_aload_0, sg_getfp, sg_sipush, sg_iconst, sg_iload_1, sg_imul, sg_iadd, sg_iaload, sg_ic_ne, sg_goto, sg_iret1, nLg_n, nLg_i, nLg_r, tc_c, tc_l, tc_r, tc_m, tc_n, tc_o, tc_0, inR, true_and, and_true, ne_eq, not_true_eq_false, not_false_eq_true, true_imp_iff, false_imp_iff, Int.toNat_natCast, lit_a, Nat.reduceAdd, or_true, true_or, or_false, false_or, Int.reduceEq, Int.reduceNe, Int.reduceLT, Int.reduceLE, Int.reduceNeg, sg_nil, s1p, x510, x511, x512, x513, x514, x515, x516, x517, hM, e]))
    all_goals (try omega)
    all_goals exact h
theorem rn_1 (z : Rw) (g b : Int) : ∀ s : Nat, inR (rn z g b s).1
  | 0 => ⟨by show (-2147483648 : Int) ≤ 0; decide, by show (0 : Int) ≤ 2147483647; decide⟩
  | s + 1 => by
    rw [rn_s]
    unfold nxt
    split
    · exact rn_1 z g b s
    · exact iOr_r _ _
theorem iOr_0 {x : Int} (h : inR x) : iOr x 0 = x := by
  unfold iOr
  rw [show Int32.ofInt 0 = 0 from rfl, Int32.or_zero, Int32.toInt_ofInt]
  unfold inR at h
  rw [show Int32.size = 4294967296 from rfl]
  exact Int.bmod_eq_of_le (by omega) (by omega)
theorem pickR_s (f : Nat → Int) (ok : Int → Bool) (k j : Nat) : pickR f ok (k + 1) j = if ok (f j) = true then f j else pickR f ok k (j + 1) := rfl
-- Mo.layWith: blocks [0, 20, 41, 45, 58, 66, 71, 95, 104, 105, 117, 119, 127, 161, 167, 185, 203, 221, 250, 254, 262, 274, 295]
theorem lw_tail {d l : Nat} {Q : QT} {μ : Mem} {b : Int} {z : Rw} (hz : IZ z) (hq : ∀ μ', (∀ k, k ≠ 516 → μ' k = μ k) → HM (hr z (z (212 + 3 * l)) b) μ' → Q (.inl 0) μ') : ∀ k i : Nat, i + k = 121 → 5 * zn z + 1 ≤ i → ∀ (x3 x4 : Int) (o6 o7 o8 o9 : Option MV) (μ1 : Mem), (∀ k, k ≠ 516 → μ1 k = μ k) → (∀ j, j < i → μ1 516 j = hr z (z (212 + 3 * l)) b j) → wp σ1 (Call σ1 (d + 1)) 110 Q 274 [some (.inr (.inr 510)), some (.inl (l : Int)), some (.inl b), some (.inl x3), some (.inl x4), some (.inl (i : Int)), o6, o7, o8, o9] [] μ1 := by
  have q := hz.1
  have e0 := zn_eq hz
  have z0 := e0.1
  intro k
  induction k with
  | zero =>
    intro i hi hi2 x3 x4 o6 o7 o8 o9 μ1 f1 g1
    have hq := hq μ1 f1 (fun j hj => g1 j (by omega))
    refine wp_go b110_274 ?_; simp only [l110_274, sg_iload, ldI_5, sg_bipush, sg_ic_ge, sg_aload_0, sg_getfp, sg_iconst, sg_iastore, sg_iinc, okS_5, stL_5, sg_goto, nLg_n, nLg_i, nLg_r, tc_c, tc_l, tc_r, tc_m, tc_n, tc_o, tc_0, inR, true_and, and_true, ne_eq, not_true_eq_false, not_false_eq_true, true_imp_iff, false_imp_iff, Int.toNat_natCast, lit_a, Nat.reduceAdd, or_true, true_or, or_false, false_or, Int.reduceEq, Int.reduceNe, Int.reduceLT, Int.reduceLE, Int.reduceNeg, sg_nil]
    repeat' (first | with_reducible apply And.intro | (intro _) | ((first | refine wp_go b110_0 ?_ | refine wp_go b110_41 ?_ | refine wp_go b110_58 ?_ | refine wp_go b110_66 ?_ | refine wp_go b110_71 ?_ | refine wp_go b110_95 ?_ | refine wp_go b110_104 ?_ | refine wp_go b110_105 ?_ | refine wp_go b110_117 ?_ | refine wp_go b110_119 ?_ | refine wp_go b110_127 ?_ | refine wp_go b110_161 ?_ | refine wp_go b110_167 ?_ | refine wp_go b110_185 ?_ | refine wp_go b110_203 ?_ | refine wp_go b110_221 ?_ | refine wp_go b110_250 ?_ | refine wp_go b110_254 ?_ | refine wp_go b110_262 ?_ | refine wp_go b110_295 ?_); simp only [l110_0, l110_41, l110_58, l110_66, l110_71, l110_95, l110_104, l110_105, l110_117, l110_119, l110_127, l110_161, l110_167, l110_185, l110_203, l110_221, l110_250, l110_254, l110_262, l110_295, sg_iconst, sg_istore_3, sg_istore, okS_4, stL_4, sg_aload_0, sg_getfp, sg_iaload, sg_iastore, okS_5, stL_5, sg_isub, okS_7, stL_7, okS_8, stL_8, sg_iload, ldI_8, sg_iv2_i, len4_0, len4_1, len4_2, len4_3, len4_4, sg_iload_1, sg_ishr, sg_iand, sg_ic_ne, sg_iload_3, sg_if_ne, ldI_4, sg_iadd, sg_iload_2, sg_ic_gt, sg_goto, okS_9, stL_9, ldI_9, sg_if_eq, ldI_6, okS_6, stL_6, sg_iinc, ldI_7, ldI_5, sg_imul, sg_bipush, sg_iv3_i, sg_ishl, sg_ior, sg_ret, nLg_n, nLg_i, nLg_r, tc_c, tc_l, tc_r, tc_m, tc_n, tc_o, tc_0, inR, true_and, and_true, ne_eq, not_true_eq_false, not_false_eq_true, true_imp_iff, false_imp_iff, Int.toNat_natCast, lit_a, Nat.reduceAdd, or_true, true_or, or_false, false_or, Int.reduceEq, Int.reduceNe, Int.reduceLT, Int.reduceLE, Int.reduceNeg, sg_nil]))
    all_goals (try omega)
    all_goals exact hq
  | succ k ih =>
    intro i hi hi2 x3 x4 o6 o7 o8 o9 μ1 f1 g1
    have ih1 := ih (i + 1) (by omega) (by omega) x3 x4 o6 o7 o8 o9 (ms μ1 516 i 0) (fun k hk => by rw [← f1 k hk]; funext j; simp only [ms_at]; (repeat (first | rw [if_neg (by omega)] | rw [if_pos (by omega)]))) (fun j hj => by
      simp only [ms_at, true_and]
      by_cases h : j = i
      · rw [if_pos h, h, hr_z (by omega) (by omega)]
      · rw [if_neg h]; exact g1 j (by omega))
    refine wp_go b110_274 ?_; simp only [l110_274, sg_iload, ldI_5, sg_bipush, sg_ic_ge, sg_aload_0, sg_getfp, sg_iconst, sg_iastore, sg_iinc, okS_5, stL_5, sg_goto, nLg_n, nLg_i, nLg_r, tc_c, tc_l, tc_r, tc_m, tc_n, tc_o, tc_0, inR, true_and, and_true, ne_eq, not_true_eq_false, not_false_eq_true, true_imp_iff, false_imp_iff, Int.toNat_natCast, lit_a, Nat.reduceAdd, or_true, true_or, or_false, false_or, Int.reduceEq, Int.reduceNe, Int.reduceLT, Int.reduceLE, Int.reduceNeg, sg_nil, s1p, x510, x511, x512, x513, x514, x515, x516, x517]
    repeat' (first | with_reducible apply And.intro | intro _)
    all_goals (try omega)
theorem lw_fin {d l s : Nat} {Q : QT} {μ μ1 : Mem} {b : Int} {z : Rw} {o7 o8 o9 : Option MV} (hz : IZ z) (hl : (l : Int) < z 3) (hb : 0 ≤ b ∧ b ≤ 600) (hs : s < zn z) (M1 : μ1 511 = z) (l7 : nLg o7) (l8 : nLg o8) (f1 : ∀ k, k ≠ 516 → μ1 k = μ k) (g1 : ∀ j, j < 5 * s + 1 → μ1 516 j = hr z (z (212 + 3 * l)) b j) (nx : ∀ (o6 o7 o8 o9 : Option MV) (μ2 : Mem), nLg o6 → nLg o7 → nLg o8 → (∀ k, k ≠ 516 → μ2 k = μ k) → (∀ j, j < 5 * (s + 1) + 1 → μ2 516 j = hr z (z (212 + 3 * l)) b j) → wp σ1 (Call σ1 (d + 1)) 110 Q 20 [some (.inr (.inr 510)), some (.inl (l : Int)), some (.inl b), some (.inl (rn z (z (212 + 3 * l)) b (s + 1)).1), some (.inl (rn z (z (212 + 3 * l)) b (s + 1)).2), some (.inl ((s + 1 : Nat) : Int)), o6, o7, o8, o9] [] μ2) : wp σ1 (Call σ1 (d + 1)) 110 Q 127 [some (.inr (.inr 510)), some (.inl (l : Int)), some (.inl b), some (.inl (rn z (z (212 + 3 * l)) b s).1), some (.inl (rn z (z (212 + 3 * l)) b s).2), some (.inl (s : Int)), some (.inl (ch z (z (212 + 3 * l)) b s)), o7, o8, o9] [] μ1 := by
  have q := hz.1
  have e0 := zn_eq hz
  have z0 := e0.1
  have lg := (hz.2.2.2.2 l hl).1
  have rb := rn_b (g := z (212 + 3 * l)) (b := b) hz hb.1 s (by omega)
  have r1 := rn_1 z (z (212 + 3 * l)) b s
  obtain ⟨a1, a2, a3, a4, a5⟩ := hz.2.1 s (by omega)
  have eN := rn_s z (z (212 + 3 * l)) b s
  have rb1 := rn_b (g := z (212 + 3 * l)) (b := b) hz hb.1 (s + 1) (by omega)
  have chin := ch_in (g := z (212 + 3 * l)) (b := b) hz (show (s : Int) < z 0 by omega)
  have nxE : ∀ v : Int, v = cl z (ch z (z (212 + 3 * l)) b s) → (rn z (z (212 + 3 * l)) b s).2 + v = (rn z (z (212 + 3 * l)) b (s + 1)).2 := fun v hv => by
    rw [eN, hv]
    unfold nxt cl
    split
    · exact Int.add_zero _
    · rfl
  have nxS : (if ch z (z (212 + 3 * l)) b s = -6 then (rn z (z (212 + 3 * l)) b s).1 else iOr (rn z (z (212 + 3 * l)) b s).1 (iShl 1 (ch z (z (212 + 3 * l)) b s))) = (rn z (z (212 + 3 * l)) b (s + 1)).1 := by
    rw [eN]
    unfold nxt
    split <;> rfl
  have clb : 0 ≤ cl z (ch z (z (212 + 3 * l)) b s) ∧ cl z (ch z (z (212 + 3 * l)) b s) ≤ 120 := by
    unfold cl
    split
    · omega
    · have := (hz.2.2.2.1 (ch z (z (212 + 3 * l)) b s).toNat (by omega)).1
      omega
  have done : ∀ (v : Int) (μ2 : Mem), v = cl z (ch z (z (212 + 3 * l)) b s) → (∀ k, k ≠ 516 → μ2 k = μ1 k) → (∀ j, j < 5 * s + 1 → μ2 516 j = μ1 516 j) → μ2 516 (5 * s + 1) = ch z (z (212 + 3 * l)) b s → μ2 516 (5 * s + 2) = v → μ2 516 (5 * s + 3) = z (4 + 3 * s) → μ2 516 (5 * s + 4) = z (5 + 3 * s) → μ2 516 (5 * s + 5) = z (6 + 3 * s) → wp σ1 (Call σ1 (d + 1)) 110 Q 20 [some (.inr (.inr 510)), some (.inl (l : Int)), some (.inl b), some (.inl (rn z (z (212 + 3 * l)) b (s + 1)).1), some (.inl (rn z (z (212 + 3 * l)) b (s + 1)).2), some (.inl ((s + 1 : Nat) : Int)), some (.inl (ch z (z (212 + 3 * l)) b s)), o7, o8, o9] [] μ2 := fun v μ2 ev f2 g0 c1 c2 c3 c4 c5 => by
    refine nx (some (.inl (ch z (z (212 + 3 * l)) b s))) o7 o8 o9 μ2 trivial l7 l8 (fun k hk => (f2 k hk).trans (f1 k hk)) (fun j hj => ?_)
    rcases (show j < 5 * s + 1 ∨ j = 5 * s + 1 ∨ j = 5 * s + 2 ∨ j = 5 * s + 3 ∨ j = 5 * s + 4 ∨ j = 5 * s + 5 by omega) with h | rfl | rfl | rfl | rfl | rfl
    · rw [g0 j h]; exact g1 j h
    · rw [c1, hr_1 (by omega)]
    · rw [c2, hr_2 (by omega), ev]
    · rw [c3, hr_3 (by omega)]
    · rw [c4, hr_4 (by omega)]
    · rw [c5, hr_5 (by omega)]
  have rest : ∀ (v : Int), v = cl z (ch z (z (212 + 3 * l)) b s) → wp σ1 (Call σ1 (d + 1)) 110 Q 167 [some (.inr (.inr 510)), some (.inl (l : Int)), some (.inl b), some (.inl (rn z (z (212 + 3 * l)) b s).1), some (.inl (rn z (z (212 + 3 * l)) b s).2), some (.inl (s : Int)), some (.inl (ch z (z (212 + 3 * l)) b s)), o7, o8, o9] [.inl v, .inl ((5 * s + 2 : Nat) : Int), .inr (.inr 516)] (ms μ1 516 (5 * s + 1) (ch z (z (212 + 3 * l)) b s)) := fun v hv => by
    have mM : ∀ (x : Nat) (y : Int) (μ2 : Mem), μ2 511 = z → ms μ2 516 x y 511 = z := fun x y μ2 h => by rw [← h]; funext j; simp only [ms_at]; (repeat (first | rw [if_neg (by omega)] | rw [if_pos (by omega)]))
    have n1 := nxE v hv
    have n2 := nxS
    refine wp_go b110_167 ?_; simp only [l110_167, sg_iastore, sg_aload_0, sg_getfp, sg_iconst, sg_iload, ldI_5, sg_imul, sg_iadd, sg_iv3_i, len4_0, len4_1, len4_2, len4_3, len4_4, nLg_n, nLg_i, nLg_r, tc_c, tc_l, tc_r, tc_m, tc_n, tc_o, tc_0, inR, true_and, and_true, ne_eq, not_true_eq_false, not_false_eq_true, true_imp_iff, false_imp_iff, Int.toNat_natCast, lit_a, Nat.reduceAdd, or_true, true_or, or_false, false_or, Int.reduceEq, Int.reduceNe, Int.reduceLT, Int.reduceLE, Int.reduceNeg, sg_nil, s1p, x510, x511, x512, x513, x514, x515, x516, x517]
    repeat' (first | with_reducible apply And.intro | intro _)
    all_goals (try omega)
    refine k_Mo_its (w := 0) (mM _ _ _ (mM _ _ _ M1)) (by omega) (by omega) ?_
    refine wp_go b110_185 ?_; simp only [l110_185, sg_iastore, sg_aload_0, sg_getfp, sg_iconst, sg_iload, ldI_5, sg_imul, sg_iadd, sg_iv3_i, len4_0, len4_1, len4_2, len4_3, len4_4, nLg_n, nLg_i, nLg_r, tc_c, tc_l, tc_r, tc_m, tc_n, tc_o, tc_0, inR, true_and, and_true, ne_eq, not_true_eq_false, not_false_eq_true, true_imp_iff, false_imp_iff, Int.toNat_natCast, lit_a, Nat.reduceAdd, or_true, true_or, or_false, false_or, Int.reduceEq, Int.reduceNe, Int.reduceLT, Int.reduceLE, Int.reduceNeg, sg_nil, s1p, x510, x511, x512, x513, x514, x515, x516, x517]
    repeat' (first | with_reducible apply And.intro | intro _)
    all_goals (try omega)
    refine k_Mo_its (w := 1) (mM _ _ _ (mM _ _ _ (mM _ _ _ M1))) (by omega) (by omega) ?_
    refine wp_go b110_203 ?_; simp only [l110_203, sg_iastore, sg_aload_0, sg_getfp, sg_iconst, sg_iload, ldI_5, sg_imul, sg_iadd, sg_iv3_i, len4_0, len4_1, len4_2, len4_3, len4_4, nLg_n, nLg_i, nLg_r, tc_c, tc_l, tc_r, tc_m, tc_n, tc_o, tc_0, inR, true_and, and_true, ne_eq, not_true_eq_false, not_false_eq_true, true_imp_iff, false_imp_iff, Int.toNat_natCast, lit_a, Nat.reduceAdd, or_true, true_or, or_false, false_or, Int.reduceEq, Int.reduceNe, Int.reduceLT, Int.reduceLE, Int.reduceNeg, sg_nil, s1p, x510, x511, x512, x513, x514, x515, x516, x517]
    repeat' (first | with_reducible apply And.intro | intro _)
    all_goals (try omega)
    refine k_Mo_its (w := 2) (mM _ _ _ (mM _ _ _ (mM _ _ _ (mM _ _ _ M1)))) (by omega) (by omega) ?_
    have dn := done v (ms (ms (ms (ms (ms μ1 516 (5 * s + 1) (ch z (z (212 + 3 * l)) b s)) 516 (5 * s + 2) v) 516 (5 * s + 3) (z (4 + 3 * s + 0))) 516 (5 * s + 4) (z (4 + 3 * s + 1))) 516 (5 * s + 5) (z (4 + 3 * s + 2))) hv
      (fun k hk => by funext j; simp only [ms_at, hk, false_and, if_false]) (fun j hj => by simp only [ms_at, true_and]; (repeat (first | rw [if_neg (by omega)] | rw [if_pos (by omega)]))) (by simp [ms_at]) (by simp [ms_at]) (by simp [ms_at]) (by simp [ms_at]; congr 1; omega) (by simp [ms_at]; congr 1; omega)
    have e2 : ms (ms (ms (ms (ms μ1 516 (5 * s + 1) (ch z (z (212 + 3 * l)) b s)) 516 (5 * s + 2) v) 516 (5 * s + 3) (z (4 + 3 * s + 0))) 516 (5 * s + 4) (z (4 + 3 * s + 1))) 516 (5 * s + 5) (z (4 + 3 * s + 2)) 516 (5 * s + 2) = v := by simp [ms_at]
    rw [← n1, ← n2] at dn
    by_cases h6 : ch z (z (212 + 3 * l)) b s = -6
    · rw [if_pos h6, ← iOr_0 r1, h6] at dn
      rw [h6] at e2 ⊢
      refine wp_go b110_221 ?_; simp only [l110_221, sg_iastore, sg_iload, ldI_4, sg_aload_0, sg_getfp, sg_iconst, ldI_5, sg_imul, sg_iadd, sg_iaload, sg_istore, okS_4, stL_4, sg_iload_3, ldI_6, sg_bipush, sg_ic_ne, sg_goto, nLg_n, nLg_i, nLg_r, tc_c, tc_l, tc_r, tc_m, tc_n, tc_o, tc_0, inR, true_and, and_true, ne_eq, not_true_eq_false, not_false_eq_true, true_imp_iff, false_imp_iff, Int.toNat_natCast, lit_a, Nat.reduceAdd, or_true, true_or, or_false, false_or, Int.reduceEq, Int.reduceNe, Int.reduceLT, Int.reduceLE, Int.reduceNeg, sg_nil, s1p, x510, x511, x512, x513, x514, x515, x516, x517, e2]
      repeat' (first | with_reducible apply And.intro | intro _)
      all_goals (try omega)
      refine wp_go b110_254 ?_; simp only [l110_254, sg_ior, sg_istore_3, sg_iinc, ldI_5, okS_5, stL_5, sg_goto, nLg_n, nLg_i, nLg_r, tc_c, tc_l, tc_r, tc_m, tc_n, tc_o, tc_0, inR, true_and, and_true, ne_eq, not_true_eq_false, not_false_eq_true, true_imp_iff, false_imp_iff, Int.toNat_natCast, lit_a, Nat.reduceAdd, or_true, true_or, or_false, false_or, Int.reduceEq, Int.reduceNe, Int.reduceLT, Int.reduceLE, Int.reduceNeg, sg_nil]
      repeat' (first | with_reducible apply And.intro | intro _)
      all_goals (try omega)
    · rw [if_neg h6] at dn
      refine wp_go b110_221 ?_; simp only [l110_221, sg_iastore, sg_iload, ldI_4, sg_aload_0, sg_getfp, sg_iconst, ldI_5, sg_imul, sg_iadd, sg_iaload, sg_istore, okS_4, stL_4, sg_iload_3, ldI_6, sg_bipush, sg_ic_ne, sg_goto, nLg_n, nLg_i, nLg_r, tc_c, tc_l, tc_r, tc_m, tc_n, tc_o, tc_0, inR, true_and, and_true, ne_eq, not_true_eq_false, not_false_eq_true, true_imp_iff, false_imp_iff, Int.toNat_natCast, lit_a, Nat.reduceAdd, or_true, true_or, or_false, false_or, Int.reduceEq, Int.reduceNe, Int.reduceLT, Int.reduceLE, Int.reduceNeg, sg_nil, s1p, x510, x511, x512, x513, x514, x515, x516, x517, e2]
      repeat' (first | with_reducible apply And.intro | intro _)
      all_goals (try omega)
      refine wp_go b110_250 ?_; simp only [l110_250, sg_iconst, sg_iload, ldI_6, sg_ishl, nLg_n, nLg_i, nLg_r, tc_c, tc_l, tc_r, tc_m, tc_n, tc_o, tc_0, inR, true_and, and_true, ne_eq, not_true_eq_false, not_false_eq_true, true_imp_iff, false_imp_iff, Int.toNat_natCast, lit_a, Nat.reduceAdd, or_true, true_or, or_false, false_or, Int.reduceEq, Int.reduceNe, Int.reduceLT, Int.reduceLE, Int.reduceNeg, sg_nil]
      refine wp_go b110_254 ?_; simp only [l110_254, sg_ior, sg_istore_3, sg_iinc, ldI_5, okS_5, stL_5, sg_goto, nLg_n, nLg_i, nLg_r, tc_c, tc_l, tc_r, tc_m, tc_n, tc_o, tc_0, inR, true_and, and_true, ne_eq, not_true_eq_false, not_false_eq_true, true_imp_iff, false_imp_iff, Int.toNat_natCast, lit_a, Nat.reduceAdd, or_true, true_or, or_false, false_or, Int.reduceEq, Int.reduceNe, Int.reduceLT, Int.reduceLE, Int.reduceNeg, sg_nil]
      repeat' (first | with_reducible apply And.intro | intro _)
      all_goals (try omega)
  rcases chin with h6 | ⟨h6, h7⟩
  · have rest := rest 0 (by rw [h6]; rfl)
    rw [h6] at rest ⊢
    refine wp_go b110_127 ?_; simp only [l110_127, sg_aload_0, sg_getfp, sg_iconst, sg_iload, ldI_5, sg_imul, sg_iadd, ldI_6, sg_iastore, sg_bipush, sg_ic_ne, sg_goto, nLg_n, nLg_i, nLg_r, tc_c, tc_l, tc_r, tc_m, tc_n, tc_o, tc_0, inR, true_and, and_true, ne_eq, not_true_eq_false, not_false_eq_true, true_imp_iff, false_imp_iff, Int.toNat_natCast, lit_a, Nat.reduceAdd, or_true, true_or, or_false, false_or, Int.reduceEq, Int.reduceNe, Int.reduceLT, Int.reduceLE, Int.reduceNeg, sg_nil, s1p, x510, x511, x512, x513, x514, x515, x516, x517]
    repeat' (first | with_reducible apply And.intro | intro _)
    all_goals (try omega)
  · obtain ⟨n, hn⟩ := nat_of h6
    have rest := rest (z (196 + 2 * n)) (by rw [hn]; unfold cl; rw [if_neg (by omega), Int.toNat_natCast])
    rw [hn] at rest ⊢
    refine wp_go b110_127 ?_; simp only [l110_127, sg_aload_0, sg_getfp, sg_iconst, sg_iload, ldI_5, sg_imul, sg_iadd, ldI_6, sg_iastore, sg_bipush, sg_ic_ne, sg_goto, nLg_n, nLg_i, nLg_r, tc_c, tc_l, tc_r, tc_m, tc_n, tc_o, tc_0, inR, true_and, and_true, ne_eq, not_true_eq_false, not_false_eq_true, true_imp_iff, false_imp_iff, Int.toNat_natCast, lit_a, Nat.reduceAdd, or_true, true_or, or_false, false_or, Int.reduceEq, Int.reduceNe, Int.reduceLT, Int.reduceLE, Int.reduceNeg, sg_nil, s1p, x510, x511, x512, x513, x514, x515, x516, x517]
    repeat' (first | with_reducible apply And.intro | intro _)
    all_goals (try omega)
    refine wp_go b110_161 ?_; simp only [l110_161, sg_aload_0, sg_iload, ldI_6, sg_iv2_i, len4_0, len4_1, len4_2, len4_3, len4_4, nLg_n, nLg_i, nLg_r, tc_c, tc_l, tc_r, tc_m, tc_n, tc_o, tc_0, inR, true_and, and_true, ne_eq, not_true_eq_false, not_false_eq_true, true_imp_iff, false_imp_iff, Int.toNat_natCast, lit_a, Nat.reduceAdd, or_true, true_or, or_false, false_or, Int.reduceEq, Int.reduceNe, Int.reduceLT, Int.reduceLE, Int.reduceNeg, sg_nil, s1p, x510, x511, x512, x513, x514, x515, x516, x517]
    repeat' (first | with_reducible apply And.intro | intro _)
    all_goals (try omega)
    refine k_Mo_lengthOf (n := n) (z := z) (by rw [← M1]; funext j; simp only [ms_at]; (repeat (first | rw [if_neg (by omega)] | rw [if_pos (by omega)]))) (by omega) ?_
    exact rest
theorem bit_e (x y : Int) : iAnd (iShr x y) 1 = bit x y := by unfold bit; exact Eq.refl _
theorem lw_71 {d l s n c : Nat} {Q : QT} {μ1 : Mem} {b q1 q2 v6 : Int} {z : Rw} {o8 o9 : Option MV} (M1 : μ1 511 = z) (hn8 : n < 8) (rb : 0 ≤ q2 ∧ q2 ≤ b) (r1 : inR q1) (hb : 0 ≤ b ∧ b ≤ 600) (ln : 1 ≤ z (196 + 2 * n) ∧ z (196 + 2 * n) ≤ 120) (l8 : nLg o8)
    (j0 : ¬ (bit (z (197 + 2 * n)) (z (212 + 3 * l)) = 1 ∧ bit q1 n ≠ 1 ∧ q2 + z (196 + 2 * n) ≤ b) → wp σ1 (Call σ1 (d + 1)) 110 Q 104 [some (.inr (.inr 510)), some (.inl (l : Int)), some (.inl b), some (.inl q1), some (.inl q2), some (.inl (s : Int)), some (.inl v6), some (.inl (c : Int)), some (.inl (n : Int)), o9] [] μ1)
    (j1 : (bit (z (197 + 2 * n)) (z (212 + 3 * l)) = 1 ∧ bit q1 n ≠ 1 ∧ q2 + z (196 + 2 * n) ≤ b) → wp σ1 (Call σ1 (d + 1)) 110 Q 105 [some (.inr (.inr 510)), some (.inl (l : Int)), some (.inl b), some (.inl q1), some (.inl q2), some (.inl (s : Int)), some (.inl v6), some (.inl (c : Int)), some (.inl (n : Int)), o9] [.inl 1] μ1) :
    wp σ1 (Call σ1 (d + 1)) 110 Q 71 [some (.inr (.inr 510)), some (.inl (l : Int)), some (.inl b), some (.inl q1), some (.inl q2), some (.inl (s : Int)), some (.inl v6), some (.inl (c : Int)), some (.inl (n : Int)), o9] [.inl (z (212 + 3 * l)), .inl (z (197 + 2 * n))] μ1 := by
  have b01 := bit_01 (z (197 + 2 * n)) (z (212 + 3 * l))
  have c01 := bit_01 q1 n
  generalize z (212 + 3 * l) = vg at *
  generalize z (197 + 2 * n) = vq at *
  refine wp_go b110_71 ?_
  simp only [l110_71, sg_ishr, sg_iconst, sg_iand, sg_ic_ne, tc_c, tc_l, tc_0, lit_a]
  simp only [sg_ishr, sg_iconst, sg_iand, sg_iload_3, sg_iload, ldI_8, sg_if_ne]
  simp only [sg_iload, ldI_4, ldI_8, sg_aload_0, sg_iv2_i, len4_0, len4_1, len4_2, len4_3, len4_4]
  simp only [inR, true_and, and_true, ne_eq, not_true_eq_false, not_false_eq_true, true_imp_iff, false_imp_iff, or_true, true_or, or_false, false_or, x510]
  rw [bit_e, bit_e]
  generalize bit vq vg = B at *
  generalize bit q1 n = C at *
  repeat' (first | with_reducible apply And.intro | intro _)
  all_goals first
    | (clear j0 j1; omega)
    | exact j0 (by clear j0 j1; omega)
    | (refine k_Mo_lengthOf M1 hn8 ?_
       refine wp_go b110_95 ?_; simp only [l110_95, sg_iadd, sg_iload_2, sg_ic_gt, sg_iconst, sg_goto, nLg_n, nLg_i, nLg_r, tc_c, tc_l, tc_r, tc_m, tc_n, tc_o, tc_0, inR, true_and, and_true, ne_eq, not_true_eq_false, not_false_eq_true, true_imp_iff, false_imp_iff, Int.toNat_natCast, lit_a, Nat.reduceAdd, or_true, true_or, or_false, false_or, Int.reduceEq, Int.reduceNe, Int.reduceLT, Int.reduceLE, Int.reduceNeg, sg_nil]
       repeat' (first | with_reducible apply And.intro | intro _)
       all_goals first
         | (clear j0 j1; omega)
         | exact j0 (by clear j0 j1; omega)
         | exact j1 (by clear j0 j1; omega))
theorem lw_inner {d l s m : Nat} {Q : QT} {μ1 : Mem} {b q1 q2 : Int} {z : Rw} (hl : l < 6) (hs : s < 24) (hm4 : m ≤ 4) (hb : 0 ≤ b ∧ b ≤ 600) (M1 : μ1 511 = z) (rb : 0 ≤ q2 ∧ q2 ≤ b) (r1 : inR q1) (hin : ∀ c : Nat, c < m → ∃ n : Nat, z (77 + 5 * s + c) = (n : Int) ∧ n < 8 ∧ 1 ≤ z (196 + 2 * n) ∧ z (196 + 2 * n) ≤ 120)
    (fin : ∀ (o7 o8 o9 : Option MV), nLg o7 → nLg o8 → wp σ1 (Call σ1 (d + 1)) 110 Q 127 [some (.inr (.inr 510)), some (.inl (l : Int)), some (.inl b), some (.inl q1), some (.inl q2), some (.inl (s : Int)), some (.inl (pickR (fun j => z (77 + 5 * s + j)) (okN z (z (212 + 3 * l)) b q1 q2) m 0)), o7, o8, o9] [] μ1) : ∀ (c t : Nat), t + c = m → ∀ (o8 o9 : Option MV), nLg o8 → wp σ1 (Call σ1 (d + 1)) 110 Q 45 [some (.inr (.inr 510)), some (.inl (l : Int)), some (.inl b), some (.inl q1), some (.inl q2), some (.inl (s : Int)), some (.inl (pickR (fun j => z (77 + 5 * s + j)) (okN z (z (212 + 3 * l)) b q1 q2) t c)), some (.inl ((c : Int) - 1)), o8, o9] [] μ1 := by
  intro c
  induction c with
  | zero =>
    intro t ht o8 o9 l8
    have htm : t = m := by omega
    subst htm
    have fin := fin (some (.inl (((0 : Nat) : Int) - 1))) o8 o9 trivial l8
    refine wp_go b110_45 ?_; simp only [l110_45, sg_iload, ldI_7, sg_if_lt, sg_aload_0, ldI_5, sg_iv3_i, len4_0, len4_1, len4_2, len4_3, len4_4, nLg_n, nLg_i, nLg_r, tc_c, tc_l, tc_r, tc_m, tc_n, tc_o, tc_0, inR, true_and, and_true, ne_eq, not_true_eq_false, not_false_eq_true, true_imp_iff, false_imp_iff, Int.toNat_natCast, lit_a, Nat.reduceAdd, or_true, true_or, or_false, false_or, Int.reduceEq, Int.reduceNe, Int.reduceLT, Int.reduceLE, Int.reduceNeg, sg_nil]
    repeat' (first | with_reducible apply And.intro | intro _)
    all_goals first | exact fin | omega
  | succ c ihc =>
    intro t ht o8 o9 l8
    obtain ⟨n, hn, hn8, ln⟩ := hin c (by omega)
    have ih1 : ∀ (v : Int) (o9 : Option MV), v = (if okN z (z (212 + 3 * l)) b q1 q2 (n : Int) = true then (n : Int) else pickR (fun j => z (77 + 5 * s + j)) (okN z (z (212 + 3 * l)) b q1 q2) t (c + 1)) → wp σ1 (Call σ1 (d + 1)) 110 Q 45 [some (.inr (.inr 510)), some (.inl (l : Int)), some (.inl b), some (.inl q1), some (.inl q2), some (.inl (s : Int)), some (.inl v), some (.inl ((c : Int) + -1)), some (.inl (n : Int)), o9] [] μ1 := fun v o9 hv => by
      rw [show (c : Int) + -1 = (c : Int) - 1 by omega]
      have := ihc (t + 1) (by omega) (some (.inl (n : Int))) o9 trivial
      rw [pickR_s] at this
      rw [hn] at this
      rw [hv]
      exact this
    have okE : okN z (z (212 + 3 * l)) b q1 q2 (n : Int) = decide (bit (z (197 + 2 * n)) (z (212 + 3 * l)) = 1 ∧ bit q1 n ≠ 1 ∧ q2 + z (196 + 2 * n) ≤ b) := by unfold okN; rw [Int.toNat_natCast]
    generalize pickR (fun j => z (77 + 5 * s + j)) (okN z (z (212 + 3 * l)) b q1 q2) t (c + 1) = v6 at *
    have j1 : okN z (z (212 + 3 * l)) b q1 q2 (n : Int) = true → wp σ1 (Call σ1 (d + 1)) 110 Q 105 [some (.inr (.inr 510)), some (.inl (l : Int)), some (.inl b), some (.inl q1), some (.inl q2), some (.inl (s : Int)), some (.inl v6), some (.inl (c : Int)), some (.inl (n : Int)), o9] [.inl 1] μ1 := fun hok => by
      have ih1 := ih1 (n : Int) (some (.inl 1)) (by rw [if_pos hok])
      refine wp_go b110_105 ?_; simp only [l110_105, sg_istore, okS_9, stL_9, sg_iload, ldI_9, sg_if_eq, ldI_8, sg_goto, nLg_n, nLg_i, nLg_r, tc_c, tc_l, tc_r, tc_m, tc_n, tc_o, tc_0, inR, true_and, and_true, ne_eq, not_true_eq_false, not_false_eq_true, true_imp_iff, false_imp_iff, Int.toNat_natCast, lit_a, Nat.reduceAdd, or_true, true_or, or_false, false_or, Int.reduceEq, Int.reduceNe, Int.reduceLT, Int.reduceLE, Int.reduceNeg, sg_nil]
      refine wp_go b110_119 ?_; simp only [l110_119, sg_istore, okS_6, stL_6, sg_iinc, ldI_7, okS_7, stL_7, sg_goto, nLg_n, nLg_i, nLg_r, tc_c, tc_l, tc_r, tc_m, tc_n, tc_o, tc_0, inR, true_and, and_true, ne_eq, not_true_eq_false, not_false_eq_true, true_imp_iff, false_imp_iff, Int.toNat_natCast, lit_a, Nat.reduceAdd, or_true, true_or, or_false, false_or, Int.reduceEq, Int.reduceNe, Int.reduceLT, Int.reduceLE, Int.reduceNeg, sg_nil]
      repeat' (first | with_reducible apply And.intro | intro _)
      all_goals first | exact ih1 | omega
    have j0 : ¬ okN z (z (212 + 3 * l)) b q1 q2 (n : Int) = true → wp σ1 (Call σ1 (d + 1)) 110 Q 104 [some (.inr (.inr 510)), some (.inl (l : Int)), some (.inl b), some (.inl q1), some (.inl q2), some (.inl (s : Int)), some (.inl v6), some (.inl (c : Int)), some (.inl (n : Int)), o9] [] μ1 := fun hok => by
      have ih1 := ih1 _ (some (.inl 0)) (by rw [if_neg hok])
      refine wp_go b110_104 ?_; simp only [l110_104, sg_iconst, nLg_n, nLg_i, nLg_r, tc_c, tc_l, tc_r, tc_m, tc_n, tc_o, tc_0, inR, true_and, and_true, ne_eq, not_true_eq_false, not_false_eq_true, true_imp_iff, false_imp_iff, Int.toNat_natCast, lit_a, Nat.reduceAdd, or_true, true_or, or_false, false_or, Int.reduceEq, Int.reduceNe, Int.reduceLT, Int.reduceLE, Int.reduceNeg, sg_nil]
      refine wp_go b110_105 ?_; simp only [l110_105, sg_istore, okS_9, stL_9, sg_iload, ldI_9, sg_if_eq, ldI_8, sg_goto, nLg_n, nLg_i, nLg_r, tc_c, tc_l, tc_r, tc_m, tc_n, tc_o, tc_0, inR, true_and, and_true, ne_eq, not_true_eq_false, not_false_eq_true, true_imp_iff, false_imp_iff, Int.toNat_natCast, lit_a, Nat.reduceAdd, or_true, true_or, or_false, false_or, Int.reduceEq, Int.reduceNe, Int.reduceLT, Int.reduceLE, Int.reduceNeg, sg_nil]
      refine wp_go b110_117 ?_; simp only [l110_117, sg_iload, ldI_6, nLg_n, nLg_i, nLg_r, tc_c, tc_l, tc_r, tc_m, tc_n, tc_o, tc_0, inR, true_and, and_true, ne_eq, not_true_eq_false, not_false_eq_true, true_imp_iff, false_imp_iff, Int.toNat_natCast, lit_a, Nat.reduceAdd, or_true, true_or, or_false, false_or, Int.reduceEq, Int.reduceNe, Int.reduceLT, Int.reduceLE, Int.reduceNeg, sg_nil]
      refine wp_go b110_119 ?_; simp only [l110_119, sg_istore, okS_6, stL_6, sg_iinc, ldI_7, okS_7, stL_7, sg_goto, nLg_n, nLg_i, nLg_r, tc_c, tc_l, tc_r, tc_m, tc_n, tc_o, tc_0, inR, true_and, and_true, ne_eq, not_true_eq_false, not_false_eq_true, true_imp_iff, false_imp_iff, Int.toNat_natCast, lit_a, Nat.reduceAdd, or_true, true_or, or_false, false_or, Int.reduceEq, Int.reduceNe, Int.reduceLT, Int.reduceLE, Int.reduceNeg, sg_nil]
      repeat' (first | with_reducible apply And.intro | intro _)
      all_goals first | exact ih1 | omega
    have e7 : ((c + 1 : Nat) : Int) - 1 = (c : Int) := by omega
    rw [e7]
    refine wp_go b110_45 ?_; simp only [l110_45, sg_iload, ldI_7, sg_if_lt, sg_aload_0, ldI_5, sg_iv3_i, len4_0, len4_1, len4_2, len4_3, len4_4, nLg_n, nLg_i, nLg_r, tc_c, tc_l, tc_r, tc_m, tc_n, tc_o, tc_0, inR, true_and, and_true, ne_eq, not_true_eq_false, not_false_eq_true, true_imp_iff, false_imp_iff, Int.toNat_natCast, lit_a, Nat.reduceAdd, or_true, true_or, or_false, false_or, Int.reduceEq, Int.reduceNe, Int.reduceLT, Int.reduceLE, Int.reduceNeg, sg_nil, s1p, x510, x511, x512, x513, x514, x515, x516, x517, l8]
    repeat' (first | with_reducible apply And.intro | intro _)
    all_goals (try omega)
    refine k_Mo_inRow M1 hs (by omega) ?_
    rw [hn]
    refine wp_go b110_58 ?_; simp only [l110_58, sg_istore, okS_8, stL_8, sg_aload_0, sg_iload, ldI_8, sg_iv2_i, len4_0, len4_1, len4_2, len4_3, len4_4, nLg_n, nLg_i, nLg_r, tc_c, tc_l, tc_r, tc_m, tc_n, tc_o, tc_0, inR, true_and, and_true, ne_eq, not_true_eq_false, not_false_eq_true, true_imp_iff, false_imp_iff, Int.toNat_natCast, lit_a, Nat.reduceAdd, or_true, true_or, or_false, false_or, Int.reduceEq, Int.reduceNe, Int.reduceLT, Int.reduceLE, Int.reduceNeg, sg_nil, s1p, x510, x511, x512, x513, x514, x515, x516, x517, l8]
    repeat' (first | with_reducible apply And.intro | intro _)
    all_goals (try omega)
    refine k_Mo_groupsOf M1 hn8 ?_
    refine wp_go b110_66 ?_; simp only [l110_66, sg_aload_0, sg_iload_1, sg_iv2_i, len4_0, len4_1, len4_2, len4_3, len4_4, nLg_n, nLg_i, nLg_r, tc_c, tc_l, tc_r, tc_m, tc_n, tc_o, tc_0, inR, true_and, and_true, ne_eq, not_true_eq_false, not_false_eq_true, true_imp_iff, false_imp_iff, Int.toNat_natCast, lit_a, Nat.reduceAdd, or_true, true_or, or_false, false_or, Int.reduceEq, Int.reduceNe, Int.reduceLT, Int.reduceLE, Int.reduceNeg, sg_nil, s1p, x510, x511, x512, x513, x514, x515, x516, x517]
    repeat' (first | with_reducible apply And.intro | intro _)
    all_goals (try omega)
    refine k_Mo_groupOf M1 hl ?_
    exact lw_71 M1 hn8 rb r1 hb ln l8 (fun h => j0 (by rw [okE]; intro h2; exact h (of_decide_eq_true h2))) (fun h => j1 (by rw [okE]; exact decide_eq_true h))
theorem k_Mo_layWith {d l : Nat} {Q : QT} {μ : Mem} {b : Int} {z : Rw} (hM : μ 511 = z) (hz : IZ z) (hl : (l : Int) < z 3) (hb : 0 ≤ b ∧ b ≤ 600)
    (hq : ∀ μ', (∀ k, k ≠ 516 → μ' k = μ k) → HM (hr z (z (212 + 3 * l)) b) μ' → Q (.inl 0) μ') : Call σ1 (d + 2) 110 [.inr (.inr 510), .inl (l : Int), .inl b] μ Q := by
  refine e_110 ?_
  have q := hz.1
  have e0 := zn_eq hz
  have z0 := e0.1
  have loop : ∀ k s : Nat, s + k = zn z → ∀ (o6 o7 o8 o9 : Option MV) (μ1 : Mem), nLg o6 → nLg o7 → nLg o8 → (∀ k, k ≠ 516 → μ1 k = μ k) → (∀ j, j < 5 * s + 1 → μ1 516 j = hr z (z (212 + 3 * l)) b j) → wp σ1 (Call σ1 (d + 1)) 110 Q 20 [some (.inr (.inr 510)), some (.inl (l : Int)), some (.inl b), some (.inl (rn z (z (212 + 3 * l)) b s).1), some (.inl (rn z (z (212 + 3 * l)) b s).2), some (.inl (s : Int)), o6, o7, o8, o9] [] μ1 := by
    intro k
    induction k with
    | zero =>
      intro s hs o6 o7 o8 o9 μ1 l6 l7 l8 f1 g1
      have M1 : μ1 511 = z := by rw [f1 511 (by omega)]; exact hM
      have hsn : s = zn z := by omega
      have t := lw_tail (d := d) hz hq (121 - (5 * zn z + 1)) (5 * zn z + 1) (by omega) (Nat.le_refl _) (rn z (z (212 + 3 * l)) b s).1 (rn z (z (212 + 3 * l)) b s).2 o6 o7 o8 o9 μ1 f1 (fun j hj => g1 j (by omega))
      refine wp_go b110_20 ?_; simp only [l110_20, sg_iload, ldI_5, sg_aload_0, sg_getfp, sg_iconst, sg_iaload, sg_ic_ge, sg_bipush, sg_istore, okS_6, stL_6, sg_iv2_i, len4_0, len4_1, len4_2, len4_3, len4_4, nLg_n, nLg_i, nLg_r, tc_c, tc_l, tc_r, tc_m, tc_n, tc_o, tc_0, inR, true_and, and_true, ne_eq, not_true_eq_false, not_false_eq_true, true_imp_iff, false_imp_iff, Int.toNat_natCast, lit_a, Nat.reduceAdd, or_true, true_or, or_false, false_or, Int.reduceEq, Int.reduceNe, Int.reduceLT, Int.reduceLE, Int.reduceNeg, sg_nil, s1p, x510, x511, x512, x513, x514, x515, x516, x517, M1, z0, Int.toNat_zero]
      repeat' (first | with_reducible apply And.intro | intro _)
      all_goals (try omega)
      refine wp_go b110_262 ?_; simp only [l110_262, sg_iconst, sg_aload_0, sg_getfp, sg_iaload, sg_imul, sg_iadd, sg_istore, okS_5, stL_5, nLg_n, nLg_i, nLg_r, tc_c, tc_l, tc_r, tc_m, tc_n, tc_o, tc_0, inR, true_and, and_true, ne_eq, not_true_eq_false, not_false_eq_true, true_imp_iff, false_imp_iff, Int.toNat_natCast, lit_a, Nat.reduceAdd, or_true, true_or, or_false, false_or, Int.reduceEq, Int.reduceNe, Int.reduceLT, Int.reduceLE, Int.reduceNeg, sg_nil, s1p, x510, x511, x512, x513, x514, x515, x516, x517, M1, z0, Int.toNat_zero]
      repeat' (first | with_reducible apply And.intro | intro _)
      all_goals (try omega)
    | succ k ih =>
      intro s hs o6 o7 o8 o9 μ1 l6 l7 l8 f1 g1
      have M1 : μ1 511 = z := by rw [f1 511 (by omega)]; exact hM
      obtain ⟨a1, a2, a3, a4, a5⟩ := hz.2.1 s (by omega)
      obtain ⟨m, hm⟩ := nat_of a4.1
      have q3 := hz.1
      have ce : ch z (z (212 + 3 * l)) b s = pickR (fun j => z (77 + 5 * s + j)) (okN z (z (212 + 3 * l)) b (rn z (z (212 + 3 * l)) b s).1 (rn z (z (212 + 3 * l)) b s).2) m 0 := by unfold ch chs; rw [hm, Int.toNat_natCast]
      have st := lw_inner (d := d) (Q := Q) (l := l) (s := s) (m := m) (b := b) (by omega) (by omega) (by omega) hb M1 (rn_b hz hb.1 s (by omega)) (rn_1 z (z (212 + 3 * l)) b s) (fun c hc => by
        have nx := a5 c (by omega)
        obtain ⟨n, hn⟩ := nat_of nx.1
        exact ⟨n, hn, by omega, (hz.2.2.2.1 n (by omega)).1⟩) (fun o7 o8 o9 l7 l8 => by
          rw [← ce]
          exact lw_fin hz hl hb (by omega) M1 l7 l8 f1 g1 (fun o6 o7 o8 o9 μ2 l6 l7 l8 f2 g2 => ih (s + 1) (by omega) o6 o7 o8 o9 μ2 l6 l7 l8 f2 g2)) m 0 (by omega) o8 o9 l8
      have p0 : pickR (fun j => z (77 + 5 * s + j)) (okN z (z (212 + 3 * l)) b (rn z (z (212 + 3 * l)) b s).1 (rn z (z (212 + 3 * l)) b s).2) 0 m = -6 := rfl
      rw [p0] at st
      refine wp_go b110_20 ?_; simp only [l110_20, sg_iload, ldI_5, sg_aload_0, sg_getfp, sg_iconst, sg_iaload, sg_ic_ge, sg_bipush, sg_istore, okS_6, stL_6, sg_iv2_i, len4_0, len4_1, len4_2, len4_3, len4_4, nLg_n, nLg_i, nLg_r, tc_c, tc_l, tc_r, tc_m, tc_n, tc_o, tc_0, inR, true_and, and_true, ne_eq, not_true_eq_false, not_false_eq_true, true_imp_iff, false_imp_iff, Int.toNat_natCast, lit_a, Nat.reduceAdd, or_true, true_or, or_false, false_or, Int.reduceEq, Int.reduceNe, Int.reduceLT, Int.reduceLE, Int.reduceNeg, sg_nil, s1p, x510, x511, x512, x513, x514, x515, x516, x517, M1, z0, Int.toNat_zero, l6, l7, l8]
      repeat' (first | with_reducible apply And.intro | intro _)
      all_goals (try omega)
      refine k_Mo_inBreak M1 (by omega) ?_
      rw [hm]
      refine wp_go b110_41 ?_; simp only [l110_41, sg_iconst, sg_isub, sg_istore, okS_7, stL_7, nLg_n, nLg_i, nLg_r, tc_c, tc_l, tc_r, tc_m, tc_n, tc_o, tc_0, inR, true_and, and_true, ne_eq, not_true_eq_false, not_false_eq_true, true_imp_iff, false_imp_iff, Int.toNat_natCast, lit_a, Nat.reduceAdd, or_true, true_or, or_false, false_or, Int.reduceEq, Int.reduceNe, Int.reduceLT, Int.reduceLE, Int.reduceNeg, sg_nil, l6, l7, l8]
      repeat' (first | with_reducible apply And.intro | intro _)
      all_goals (try omega)
  have st := loop (zn z) 0 (by omega) none none none none (ms μ 516 0 (z 0)) trivial trivial trivial (fun k hk => by funext j; simp only [ms_at]; (repeat (first | rw [if_neg (by omega)] | rw [if_pos (by omega)]))) (fun j hj => by rw [show j = 0 by omega, hr_0]; simp [ms_at])
  rw [z0] at st
  refine wp_go b110_0 ?_; simp only [l110_0, sg_iconst, sg_istore_3, sg_istore, okS_4, stL_4, sg_aload_0, sg_getfp, sg_iaload, sg_iastore, okS_5, stL_5, nLg_n, nLg_i, nLg_r, tc_c, tc_l, tc_r, tc_m, tc_n, tc_o, tc_0, inR, true_and, and_true, ne_eq, not_true_eq_false, not_false_eq_true, true_imp_iff, false_imp_iff, Int.toNat_natCast, lit_a, Nat.reduceAdd, or_true, true_or, or_false, false_or, Int.reduceEq, Int.reduceNe, Int.reduceLT, Int.reduceLE, Int.reduceNeg, sg_nil, s1p, x510, x511, x512, x513, x514, x515, x516, x517, hM, z0, Int.toNat_zero]
  exact st
