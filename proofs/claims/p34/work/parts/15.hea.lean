-- NS.isWithin: blocks [0, 14, 15]
theorem k_NS_isWithin {σ : Sg} {d : Nat} {Q : QT} {μ : Mem} {v a b : Int} (hv : inR v) (ha : inR a) (hb : inR b) (h1 : a ≤ v → v ≤ b → Q (.inl 1) μ) (h0 : (v < a ∨ b < v) → Q (.inl 0) μ) : Call σ (d + 1) 61 [.inl v, .inl a, .inl b] μ Q := by
  refine e_61 ?_
  unfold inR at hv ha hb
  repeat' (first | with_reducible apply And.intro | (intro _) | ((first | refine wp_go b61_0 ?_ | refine wp_go b61_14 ?_ | refine wp_go b61_15 ?_); simp only [l61_0, l61_14, l61_15, sg_iload_0, sg_iload_1, sg_ic_lt, sg_iload_2, sg_ic_gt, sg_iconst, sg_goto, sg_iret1, nLg_n, nLg_i, nLg_r, tc_c, tc_l, tc_r, tc_m, tc_n, tc_o, tc_0, inR, true_and, and_true, ne_eq, not_true_eq_false, not_false_eq_true, true_imp_iff, false_imp_iff, Int.toNat_natCast, lit_a, Nat.reduceAdd, or_true, true_or, or_false, false_or, Int.reduceEq, Int.reduceNe, Int.reduceLT, Int.reduceLE, Int.reduceNeg, sg_nil]))
  all_goals (try omega)
  all_goals first | exact h1 (by omega) (by omega) | exact h0 (by omega)
-- NS.asNumber: blocks [0, 8, 9]
theorem k_NS_asNumber {σ : Sg} {d : Nat} {Q : QT} {μ : Mem} {b : Int} (hb : b = 0 ∨ b = 1) (h : Q (.inl b) μ) : Call σ (d + 1) 62 [.inl b] μ Q := by
  refine e_62 ?_
  rcases hb with rfl | rfl
  · repeat' (first | with_reducible apply And.intro | (intro _) | ((first | refine wp_go b62_0 ?_ | refine wp_go b62_8 ?_ | refine wp_go b62_9 ?_); simp only [l62_0, l62_8, l62_9, sg_iload_0, sg_if_eq, sg_iconst, sg_goto, sg_iret0, nLg_n, nLg_i, nLg_r, tc_c, tc_l, tc_r, tc_m, tc_n, tc_o, tc_0, inR, true_and, and_true, ne_eq, not_true_eq_false, not_false_eq_true, true_imp_iff, false_imp_iff, Int.toNat_natCast, lit_a, Nat.reduceAdd, or_true, true_or, or_false, false_or, Int.reduceEq, Int.reduceNe, Int.reduceLT, Int.reduceLE, Int.reduceNeg, sg_nil]))
    all_goals (try omega)
  · repeat' (first | with_reducible apply And.intro | (intro _) | ((first | refine wp_go b62_0 ?_ | refine wp_go b62_8 ?_ | refine wp_go b62_9 ?_); simp only [l62_0, l62_8, l62_9, sg_iload_0, sg_if_eq, sg_iconst, sg_goto, sg_iret0, nLg_n, nLg_i, nLg_r, tc_c, tc_l, tc_r, tc_m, tc_n, tc_o, tc_0, inR, true_and, and_true, ne_eq, not_true_eq_false, not_false_eq_true, true_imp_iff, false_imp_iff, Int.toNat_natCast, lit_a, Nat.reduceAdd, or_true, true_or, or_false, false_or, Int.reduceEq, Int.reduceNe, Int.reduceLT, Int.reduceLE, Int.reduceNeg, sg_nil]))
    all_goals (try omega)
theorem heaF {σ : Sg} {h : Nat} (H : iHea σ h) : (shp σ h).1 = 1 ∧ (shp σ (h + 1)).1 = 4 ∧ shp σ (h + 2) = (100, 24) ∧ shp σ (h + 3) = (100, 24) ∧ shp σ (h + 4) = (100, 24) ∧ shp σ (h + 5) = (100, 24) ∧ shp σ (h + 6) = (100, 24) ∧ σ.2 h 0 = true ∧ σ.2 h 1 = true ∧ σ.2 h 2 = true ∧ σ.2 (h + 1) 0 = true ∧ σ.2 (h + 1) 1 = true ∧ σ.2 (h + 1) 2 = true := by
  obtain ⟨a0, ⟨b0, b1, b2, b3, b4, b5, b6⟩, a1, a2, a3, a4, a5⟩ := H
  exact ⟨a0, b0, b1, b2, b3, a1, a2, a3, a4, a5, b4, b5, b6⟩
-- Hea.breakTime: blocks [0, 8, 11, 31]
theorem k_Hea_breakTime {σ : Sg} {d : Nat} {Q : QT} {μ : Mem} {h p : Nat} {w : Rw} (hH : iHea σ h) (hw : HR w μ h) (hn : w 0 ≤ 24) (hp : (p : Int) ≤ w 0) (hq : Q (.inl (bt w p)) μ) : Call σ (d + 2) 5 [.inr (.inr h), .inl (p : Int)] μ Q := by
  refine e_5 ?_
  obtain ⟨a0, a1, a2, a3, a4, a5, a6, p0, p1, p2, p3, p4, p5⟩ := heaF hH
  refine wp_go b5_0 ?_; simp only [l5_0, sg_aload_0, sg_getfp, sg_iload_1, sg_iv2_i, len4_0, len4_1, len4_2, len4_3, len4_4, nLg_n, nLg_i, nLg_r, tc_c, tc_l, tc_r, tc_m, tc_n, tc_o, tc_0, inR, true_and, and_true, ne_eq, not_true_eq_false, not_false_eq_true, true_imp_iff, false_imp_iff, Int.toNat_natCast, lit_a, Nat.reduceAdd, or_true, true_or, or_false, false_or, Int.reduceEq, Int.reduceNe, Int.reduceLT, Int.reduceLE, Int.reduceNeg, sg_nil, a0, a1, a2, a3, a4, a5, a6, p0, p1, p2, p3, p4, p5]
  repeat' (first | with_reducible apply And.intro | (intro _) | ((first | refine wp_go b5_0 ?_ | refine wp_go b5_8 ?_ | refine wp_go b5_31 ?_); simp only [l5_0, l5_8, l5_31, sg_aload_0, sg_getfp, sg_iload_1, sg_iv2_i, len4_0, len4_1, len4_2, len4_3, len4_4, sg_istore_2, sg_iconst, sg_istore_3, sg_iload_2, sg_iret0, nLg_n, nLg_i, nLg_r, tc_c, tc_l, tc_r, tc_m, tc_n, tc_o, tc_0, inR, true_and, and_true, ne_eq, not_true_eq_false, not_false_eq_true, true_imp_iff, false_imp_iff, Int.toNat_natCast, lit_a, Nat.reduceAdd, or_true, true_or, or_false, false_or, Int.reduceEq, Int.reduceNe, Int.reduceLT, Int.reduceLE, Int.reduceNeg, sg_nil]))
  all_goals (try omega)
  refine k_Sen_timeOf hH.2.1 (by omega) ?_
  have e1 : sm (μ (h + 1 + 2)) p = sm (fun i => w (5 * i + 4)) p := sm_c (fun i hi => (hw.2 i (by omega)).2.1)
  rw [e1]
  have loop : ∀ k i : Nat, i + k = p → wp σ (Call σ (d + 1)) 5 Q 11 [some (.inr (.inr h)), some (.inl (p : Int)), some (.inl (sm (fun i => w (5 * i + 4)) p + sm (fun i => w (5 * i + 2)) i)), some (.inl (i : Int))] [] μ := by
    intro k
    induction k with
    | zero =>
      intro i hi
      obtain rfl : i = p := by omega
      refine wp_go b5_11 ?_; simp only [l5_11, sg_iload_3, sg_iload_1, sg_ic_ge, sg_iload_2, sg_aload_0, sg_getfp, sg_iaload, sg_iadd, sg_istore_2, sg_iinc, ldI_3, okS_3, stL_3, sg_goto, nLg_n, nLg_i, nLg_r, tc_c, tc_l, tc_r, tc_m, tc_n, tc_o, tc_0, inR, true_and, and_true, ne_eq, not_true_eq_false, not_false_eq_true, true_imp_iff, false_imp_iff, Int.toNat_natCast, lit_a, Nat.reduceAdd, or_true, true_or, or_false, false_or, Int.reduceEq, Int.reduceNe, Int.reduceLT, Int.reduceLE, Int.reduceNeg, sg_nil]
      repeat' (first | with_reducible apply And.intro | (intro _) | ((first | refine wp_go b5_0 ?_ | refine wp_go b5_8 ?_ | refine wp_go b5_31 ?_); simp only [l5_0, l5_8, l5_31, sg_aload_0, sg_getfp, sg_iload_1, sg_iv2_i, len4_0, len4_1, len4_2, len4_3, len4_4, sg_istore_2, sg_iconst, sg_istore_3, sg_iload_2, sg_iret0, nLg_n, nLg_i, nLg_r, tc_c, tc_l, tc_r, tc_m, tc_n, tc_o, tc_0, inR, true_and, and_true, ne_eq, not_true_eq_false, not_false_eq_true, true_imp_iff, false_imp_iff, Int.toNat_natCast, lit_a, Nat.reduceAdd, or_true, true_or, or_false, false_or, Int.reduceEq, Int.reduceNe, Int.reduceLT, Int.reduceLE, Int.reduceNeg, sg_nil]))
      all_goals (try omega)
      all_goals exact hq
    | succ k ih =>
      intro i hi
      refine wp_go b5_11 ?_; simp only [l5_11, sg_iload_3, sg_iload_1, sg_ic_ge, sg_iload_2, sg_aload_0, sg_getfp, sg_iaload, sg_iadd, sg_istore_2, sg_iinc, ldI_3, okS_3, stL_3, sg_goto, nLg_n, nLg_i, nLg_r, tc_c, tc_l, tc_r, tc_m, tc_n, tc_o, tc_0, inR, true_and, and_true, ne_eq, not_true_eq_false, not_false_eq_true, true_imp_iff, false_imp_iff, Int.toNat_natCast, lit_a, Nat.reduceAdd, or_true, true_or, or_false, false_or, Int.reduceEq, Int.reduceNe, Int.reduceLT, Int.reduceLE, Int.reduceNeg, sg_nil, a0, a1, a2, a3, a4, a5, a6, p0, p1, p2, p3, p4, p5]
      repeat' (first | with_reducible apply And.intro | (intro _) | ((first | refine wp_go b5_0 ?_ | refine wp_go b5_8 ?_ | refine wp_go b5_31 ?_); simp only [l5_0, l5_8, l5_31, sg_aload_0, sg_getfp, sg_iload_1, sg_iv2_i, len4_0, len4_1, len4_2, len4_3, len4_4, sg_istore_2, sg_iconst, sg_istore_3, sg_iload_2, sg_iret0, nLg_n, nLg_i, nLg_r, tc_c, tc_l, tc_r, tc_m, tc_n, tc_o, tc_0, inR, true_and, and_true, ne_eq, not_true_eq_false, not_false_eq_true, true_imp_iff, false_imp_iff, Int.toNat_natCast, lit_a, Nat.reduceAdd, or_true, true_or, or_false, false_or, Int.reduceEq, Int.reduceNe, Int.reduceLT, Int.reduceLE, Int.reduceNeg, sg_nil]))
      all_goals (try omega)
      rw [(hw.2 i (by omega)).2.2.2.2, Int.add_assoc]
      exact ih (i + 1) (by omega)
  have l0 := loop p 0 (by omega)
  rw [sm_0, Int.add_zero] at l0
  refine wp_go b5_8 ?_; simp only [l5_8, sg_istore_2, sg_iconst, sg_istore_3, nLg_n, nLg_i, nLg_r, tc_c, tc_l, tc_r, tc_m, tc_n, tc_o, tc_0, inR, true_and, and_true, ne_eq, not_true_eq_false, not_false_eq_true, true_imp_iff, false_imp_iff, Int.toNat_natCast, lit_a, Nat.reduceAdd, or_true, true_or, or_false, false_or, Int.reduceEq, Int.reduceNe, Int.reduceLT, Int.reduceLE, Int.reduceNeg, sg_nil]
  exact l0
-- Hea.sentenceTime: blocks [0, 5]
theorem k_Hea_sentenceTime {σ : Sg} {d : Nat} {Q : QT} {μ : Mem} {h p : Nat} {w : Rw} (hH : iHea σ h) (hw : HR w μ h) (hn : w 0 ≤ 24) (hp : (p : Int) < w 0) (hq : Q (.inl (bt w p + w (5 * p + 2))) μ) : Call σ (d + 3) 6 [.inr (.inr h), .inl (p : Int)] μ Q := by
  refine e_6 ?_
  obtain ⟨a0, a1, a2, a3, a4, a5, a6, p0, p1, p2, p3, p4, p5⟩ := heaF hH
  refine wp_go b6_0 ?_; simp only [l6_0, sg_aload_0, sg_iload_1, sg_iv2_i, len4_0, len4_1, len4_2, len4_3, len4_4, nLg_n, nLg_i, nLg_r, tc_c, tc_l, tc_r, tc_m, tc_n, tc_o, tc_0, inR, true_and, and_true, ne_eq, not_true_eq_false, not_false_eq_true, true_imp_iff, false_imp_iff, Int.toNat_natCast, lit_a, Nat.reduceAdd, or_true, true_or, or_false, false_or, Int.reduceEq, Int.reduceNe, Int.reduceLT, Int.reduceLE, Int.reduceNeg, sg_nil, a0, a1, a2, a3, a4, a5, a6, p0, p1, p2, p3, p4, p5]
  refine k_Hea_breakTime hH hw hn (by omega) ?_
  refine wp_go b6_5 ?_; simp only [l6_5, sg_aload_0, sg_getfp, sg_iload_1, sg_iaload, sg_iadd, sg_iret0, nLg_n, nLg_i, nLg_r, tc_c, tc_l, tc_r, tc_m, tc_n, tc_o, tc_0, inR, true_and, and_true, ne_eq, not_true_eq_false, not_false_eq_true, true_imp_iff, false_imp_iff, Int.toNat_natCast, lit_a, Nat.reduceAdd, or_true, true_or, or_false, false_or, Int.reduceEq, Int.reduceNe, Int.reduceLT, Int.reduceLE, Int.reduceNeg, sg_nil, a0, a1, a2, a3, a4, a5, a6, p0, p1, p2, p3, p4, p5]
  repeat' (first | with_reducible apply And.intro | (intro _) | ((first | refine wp_go b6_0 ?_ | refine wp_go b6_5 ?_); simp only [l6_0, l6_5, sg_aload_0, sg_iload_1, sg_iv2_i, len4_0, len4_1, len4_2, len4_3, len4_4, sg_getfp, sg_iaload, sg_iadd, sg_iret0, nLg_n, nLg_i, nLg_r, tc_c, tc_l, tc_r, tc_m, tc_n, tc_o, tc_0, inR, true_and, and_true, ne_eq, not_true_eq_false, not_false_eq_true, true_imp_iff, false_imp_iff, Int.toNat_natCast, lit_a, Nat.reduceAdd, or_true, true_or, or_false, false_or, Int.reduceEq, Int.reduceNe, Int.reduceLT, Int.reduceLE, Int.reduceNeg, sg_nil]))
  all_goals (try omega)
  rw [(hw.2 p hp).2.2.2.2]
  exact hq
-- Hea.total: blocks [0, 11]
theorem k_Hea_total {σ : Sg} {d : Nat} {Q : QT} {μ : Mem} {h n : Nat} {w : Rw} (hH : iHea σ h) (hw : HR w μ h) (hn : w 0 ≤ 24) (hp : w 0 = (n : Int)) (hq : Q (.inl (bt w n)) μ) : Call σ (d + 3) 7 [.inr (.inr h)] μ Q := by
  refine e_7 ?_
  obtain ⟨a0, a1, a2, a3, a4, a5, a6, p0, p1, p2, p3, p4, p5⟩ := heaF hH
  refine wp_go b7_0 ?_; simp only [l7_0, sg_aload_0, sg_getfp, sg_getf0, sg_iv2_i, len4_0, len4_1, len4_2, len4_3, len4_4, nLg_n, nLg_i, nLg_r, tc_c, tc_l, tc_r, tc_m, tc_n, tc_o, tc_0, inR, true_and, and_true, ne_eq, not_true_eq_false, not_false_eq_true, true_imp_iff, false_imp_iff, Int.toNat_natCast, lit_a, Nat.reduceAdd, or_true, true_or, or_false, false_or, Int.reduceEq, Int.reduceNe, Int.reduceLT, Int.reduceLE, Int.reduceNeg, sg_nil, a0, a1, a2, a3, a4, a5, a6, p0, p1, p2, p3, p4, p5, hw.1, hp]
  repeat' (first | with_reducible apply And.intro | (intro _) | ((first | refine wp_go b7_0 ?_ | refine wp_go b7_11 ?_); simp only [l7_0, l7_11, sg_aload_0, sg_getfp, sg_getf0, sg_iv2_i, len4_0, len4_1, len4_2, len4_3, len4_4, sg_iret0, nLg_n, nLg_i, nLg_r, tc_c, tc_l, tc_r, tc_m, tc_n, tc_o, tc_0, inR, true_and, and_true, ne_eq, not_true_eq_false, not_false_eq_true, true_imp_iff, false_imp_iff, Int.toNat_natCast, lit_a, Nat.reduceAdd, or_true, true_or, or_false, false_or, Int.reduceEq, Int.reduceNe, Int.reduceLT, Int.reduceLE, Int.reduceNeg, sg_nil]))
  all_goals (try omega)
  refine k_Hea_breakTime hH hw hn (by omega) ?_
  refine wp_go b7_11 ?_; simp only [l7_11, sg_iret0, nLg_n, nLg_i, nLg_r, tc_c, tc_l, tc_r, tc_m, tc_n, tc_o, tc_0, inR, true_and, and_true, ne_eq, not_true_eq_false, not_false_eq_true, true_imp_iff, false_imp_iff, Int.toNat_natCast, lit_a, Nat.reduceAdd, or_true, true_or, or_false, false_or, Int.reduceEq, Int.reduceNe, Int.reduceLT, Int.reduceLE, Int.reduceNeg, sg_nil]
  exact hq
-- Hea.noticeSeconds: blocks [0, 4, 11]
theorem k_Hea_noticeSeconds {σ : Sg} {d : Nat} {Q : QT} {μ : Mem} {h n : Nat} {w : Rw} (hH : iHea σ h) (hw : HR w μ h) (hn : w 0 ≤ 24) (hp : w 0 = (n : Int)) (hq : Q (.inl (sm (fun i => w (5 * i + 2)) n)) μ) : Call σ (d + 4) 8 [.inr (.inr h)] μ Q := by
  refine e_8 ?_
  obtain ⟨a0, a1, a2, a3, a4, a5, a6, p0, p1, p2, p3, p4, p5⟩ := heaF hH
  refine wp_go b8_0 ?_; simp only [l8_0, sg_aload_0, sg_iv1_i, len4_0, len4_1, len4_2, len4_3, len4_4, nLg_n, nLg_i, nLg_r, tc_c, tc_l, tc_r, tc_m, tc_n, tc_o, tc_0, inR, true_and, and_true, ne_eq, not_true_eq_false, not_false_eq_true, true_imp_iff, false_imp_iff, Int.toNat_natCast, lit_a, Nat.reduceAdd, or_true, true_or, or_false, false_or, Int.reduceEq, Int.reduceNe, Int.reduceLT, Int.reduceLE, Int.reduceNeg, sg_nil, a0, a1, a2, a3, a4, a5, a6, p0, p1, p2, p3, p4, p5]
  refine k_Hea_total hH hw hn hp ?_
  refine wp_go b8_4 ?_; simp only [l8_4, sg_aload_0, sg_getfp, sg_iv1_i, len4_0, len4_1, len4_2, len4_3, len4_4, nLg_n, nLg_i, nLg_r, tc_c, tc_l, tc_r, tc_m, tc_n, tc_o, tc_0, inR, true_and, and_true, ne_eq, not_true_eq_false, not_false_eq_true, true_imp_iff, false_imp_iff, Int.toNat_natCast, lit_a, Nat.reduceAdd, or_true, true_or, or_false, false_or, Int.reduceEq, Int.reduceNe, Int.reduceLT, Int.reduceLE, Int.reduceNeg, sg_nil, a0, a1, a2, a3, a4, a5, a6, p0, p1, p2, p3, p4, p5]
  refine k_Sen_total hH.2.1 (n := n) (by have := hw.1; omega) (by omega) ?_
  have e1 : sm (μ (h + 1 + 2)) n = sm (fun i => w (5 * i + 4)) n := sm_c (fun i hi => (hw.2 i (by omega)).2.1)
  rw [e1]
  have e2 : bt w n - sm (fun i => w (5 * i + 4)) n = sm (fun i => w (5 * i + 2)) n := by unfold bt; omega
  refine wp_go b8_11 ?_; simp only [l8_11, sg_isub, sg_iret0, nLg_n, nLg_i, nLg_r, tc_c, tc_l, tc_r, tc_m, tc_n, tc_o, tc_0, inR, true_and, and_true, ne_eq, not_true_eq_false, not_false_eq_true, true_imp_iff, false_imp_iff, Int.toNat_natCast, lit_a, Nat.reduceAdd, or_true, true_or, or_false, false_or, Int.reduceEq, Int.reduceNe, Int.reduceLT, Int.reduceLE, Int.reduceNeg, sg_nil, e2]
  exact hq
-- Hea.countNotices: blocks [0, 4, 31, 32, 35, 43]
theorem k_Hea_countNotices {σ : Sg} {d : Nat} {Q : QT} {μ : Mem} {h n : Nat} {w : Rw} (hH : iHea σ h) (hw : HR w μ h) (hW : WH w) (hp : w 0 = (n : Int)) (hq : Q (.inl (sm (fun i => bI (w (5 * i + 1) ≠ -6)) n)) μ) : Call σ (d + 2) 9 [.inr (.inr h)] μ Q := by
  refine e_9 ?_
  obtain ⟨a0, a1, a2, a3, a4, a5, a6, p0, p1, p2, p3, p4, p5⟩ := heaF hH
  have hn := hW.1.2
  have loop : ∀ k i : Nat, i + k = n → wp σ (Call σ (d + 1)) 9 Q 4 [some (.inr (.inr h)), some (.inl (sm (fun i => bI (w (5 * i + 1) ≠ -6)) i)), some (.inl (i : Int))] [] μ := by
    intro k
    induction k with
    | zero =>
      intro i hi
      obtain rfl : i = n := by omega
      refine wp_go b9_4 ?_; simp only [l9_4, sg_iload_2, sg_aload_0, sg_getfp, sg_getf0, sg_ic_ge, sg_iload_1, sg_iaload, sg_bipush, sg_ic_eq, sg_iconst, sg_goto, nLg_n, nLg_i, nLg_r, tc_c, tc_l, tc_r, tc_m, tc_n, tc_o, tc_0, inR, true_and, and_true, ne_eq, not_true_eq_false, not_false_eq_true, true_imp_iff, false_imp_iff, Int.toNat_natCast, lit_a, Nat.reduceAdd, or_true, true_or, or_false, false_or, Int.reduceEq, Int.reduceNe, Int.reduceLT, Int.reduceLE, Int.reduceNeg, sg_nil, a0, a1, a2, a3, a4, a5, a6, p0, p1, p2, p3, p4, p5, hw.1, hp]
      repeat' (first | with_reducible apply And.intro | (intro _) | ((first | refine wp_go b9_0 ?_ | refine wp_go b9_31 ?_ | refine wp_go b9_32 ?_ | refine wp_go b9_35 ?_ | refine wp_go b9_43 ?_); simp only [l9_0, l9_31, l9_32, l9_35, l9_43, sg_iconst, sg_istore_1, sg_istore_2, len4_0, len4_1, len4_2, len4_3, len4_4, sg_is1_2, sg_iadd, sg_iinc, ldI_2, okS_2, stL_2, sg_goto, sg_iload_1, sg_iret0, nLg_n, nLg_i, nLg_r, tc_c, tc_l, tc_r, tc_m, tc_n, tc_o, tc_0, inR, true_and, and_true, ne_eq, not_true_eq_false, not_false_eq_true, true_imp_iff, false_imp_iff, Int.toNat_natCast, lit_a, Nat.reduceAdd, or_true, true_or, or_false, false_or, Int.reduceEq, Int.reduceNe, Int.reduceLT, Int.reduceLE, Int.reduceNeg, sg_nil]))
      all_goals (try omega)
      all_goals exact hq
    | succ k ih =>
      intro i hi
      have e1 := (hw.2 i (by omega)).2.2.2.1
      have r1 := hW.no (i := i) (by omega)
      have ih1 := ih (i + 1) (by omega)
      rw [sm_s] at ih1
      refine wp_go b9_4 ?_; simp only [l9_4, sg_iload_2, sg_aload_0, sg_getfp, sg_getf0, sg_ic_ge, sg_iload_1, sg_iaload, sg_bipush, sg_ic_eq, sg_iconst, sg_goto, nLg_n, nLg_i, nLg_r, tc_c, tc_l, tc_r, tc_m, tc_n, tc_o, tc_0, inR, true_and, and_true, ne_eq, not_true_eq_false, not_false_eq_true, true_imp_iff, false_imp_iff, Int.toNat_natCast, lit_a, Nat.reduceAdd, or_true, true_or, or_false, false_or, Int.reduceEq, Int.reduceNe, Int.reduceLT, Int.reduceLE, Int.reduceNeg, sg_nil, a0, a1, a2, a3, a4, a5, a6, p0, p1, p2, p3, p4, p5, hw.1, hp, e1]
      repeat' (first | with_reducible apply And.intro | (intro _) | refine k_NS_asNumber (Or.inl rfl) ?_ | refine k_NS_asNumber (Or.inr rfl) ?_ | ((first | refine wp_go b9_0 ?_ | refine wp_go b9_31 ?_ | refine wp_go b9_32 ?_ | refine wp_go b9_35 ?_ | refine wp_go b9_43 ?_); simp only [l9_0, l9_31, l9_32, l9_35, l9_43, sg_iconst, sg_istore_1, sg_istore_2, len4_0, len4_1, len4_2, len4_3, len4_4, sg_is1_2, sg_iadd, sg_iinc, ldI_2, okS_2, stL_2, sg_goto, sg_iload_1, sg_iret0, nLg_n, nLg_i, nLg_r, tc_c, tc_l, tc_r, tc_m, tc_n, tc_o, tc_0, inR, true_and, and_true, ne_eq, not_true_eq_false, not_false_eq_true, true_imp_iff, false_imp_iff, Int.toNat_natCast, lit_a, Nat.reduceAdd, or_true, true_or, or_false, false_or, Int.reduceEq, Int.reduceNe, Int.reduceLT, Int.reduceLE, Int.reduceNeg, sg_nil]))
      all_goals (try omega)
      · rename_i q; rw [show bI (w (5 * i + 1) ≠ -6) = 0 from by unfold bI; rw [if_neg (by omega)]] at ih1; exact ih1
      · rename_i q; rw [show bI (w (5 * i + 1) ≠ -6) = 1 from by unfold bI; rw [if_pos (by omega)]] at ih1; exact ih1
  refine wp_go b9_0 ?_; simp only [l9_0, sg_iconst, sg_istore_1, sg_istore_2, nLg_n, nLg_i, nLg_r, tc_c, tc_l, tc_r, tc_m, tc_n, tc_o, tc_0, inR, true_and, and_true, ne_eq, not_true_eq_false, not_false_eq_true, true_imp_iff, false_imp_iff, Int.toNat_natCast, lit_a, Nat.reduceAdd, or_true, true_or, or_false, false_or, Int.reduceEq, Int.reduceNe, Int.reduceLT, Int.reduceLE, Int.reduceNeg, sg_nil]
  exact loop n 0 (by omega)
-- Hea.placeHeardAt: blocks [0, 4, 41, 47]
theorem k_Hea_placeHeardAt {σ : Sg} {d : Nat} {Q : QT} {μ : Mem} {h n : Nat} {t : Int} {w : Rw} (hH : iHea σ h) (hw : HR w μ h) (hW : WH w) (hp : w 0 = (n : Int)) (ht1 : inR t) (hq : Q (.inl (fsI (fun i => decide (t < ht w (i + 1))) (-6) n)) μ) : Call σ (d + 1) 10 [.inr (.inr h), .inl t] μ Q := by
  refine e_10 ?_
  obtain ⟨a0, a1, a2, a3, a4, a5, a6, p0, p1, p2, p3, p4, p5⟩ := heaF hH
  have hn := hW.1.2
  have ht2 := ht1
  unfold inR at ht2
  have loop : ∀ k i : Nat, i + k = n → (∀ j, j < i → ¬ t < ht w (j + 1)) → wp σ (Call σ d) 10 Q 4 [some (.inr (.inr h)), some (.inl t), some (.inl (ht w i)), some (.inl (i : Int))] [] μ := by
    intro k
    induction k with
    | zero =>
      intro i hi hm
      obtain rfl : i = n := by omega
      rw [fsI_n (fun j hj => decide_eq_false (hm j hj))] at hq
      refine wp_go b10_4 ?_; simp only [l10_4, sg_iload_3, sg_aload_0, sg_getfp, sg_getf0, sg_ic_ge, sg_iload_2, sg_iaload, sg_iadd, sg_istore_2, sg_iload_1, sg_iret0, nLg_n, nLg_i, nLg_r, tc_c, tc_l, tc_r, tc_m, tc_n, tc_o, tc_0, inR, true_and, and_true, ne_eq, not_true_eq_false, not_false_eq_true, true_imp_iff, false_imp_iff, Int.toNat_natCast, lit_a, Nat.reduceAdd, or_true, true_or, or_false, false_or, Int.reduceEq, Int.reduceNe, Int.reduceLT, Int.reduceLE, Int.reduceNeg, sg_nil, a0, a1, a2, a3, a4, a5, a6, p0, p1, p2, p3, p4, p5, hw.1, hp]
      repeat' (first | with_reducible apply And.intro | (intro _) | ((first | refine wp_go b10_0 ?_ | refine wp_go b10_41 ?_ | refine wp_go b10_47 ?_); simp only [l10_0, l10_41, l10_47, sg_iconst, sg_istore_2, sg_istore_3, sg_iinc, ldI_3, okS_3, stL_3, sg_goto, sg_bipush, sg_iret0, nLg_n, nLg_i, nLg_r, tc_c, tc_l, tc_r, tc_m, tc_n, tc_o, tc_0, inR, true_and, and_true, ne_eq, not_true_eq_false, not_false_eq_true, true_imp_iff, false_imp_iff, Int.toNat_natCast, lit_a, Nat.reduceAdd, or_true, true_or, or_false, false_or, Int.reduceEq, Int.reduceNe, Int.reduceLT, Int.reduceLE, Int.reduceNeg, sg_nil]))
      all_goals (try omega)
      all_goals exact hq
    | succ k ih =>
      intro i hi hm
      have b1 := sm_b (f := fun i => w (5 * i + 2) + w (5 * i + 4)) (b := 420) (n := i + 1) (fun j hj => by
        have q1 := hW.nt (i := j) (by omega)
        have q2 := (hW.2.1 j (by omega)).2.1
        omega)
      have e1 := (hw.2 i (by omega)).2.1
      have e2 := (hw.2 i (by omega)).2.2.2.2
      have hs : ht w (i + 1) = ht w i + (w (5 * i + 2) + w (5 * i + 4)) := rfl
      have b1 : 0 ≤ ht w (i + 1) ∧ ht w (i + 1) ≤ 420 * ((i + 1 : Nat) : Int) := b1
      rw [hs] at b1
      refine wp_go b10_4 ?_; simp only [l10_4, sg_iload_3, sg_aload_0, sg_getfp, sg_getf0, sg_ic_ge, sg_iload_2, sg_iaload, sg_iadd, sg_istore_2, sg_iload_1, sg_iret0, nLg_n, nLg_i, nLg_r, tc_c, tc_l, tc_r, tc_m, tc_n, tc_o, tc_0, inR, true_and, and_true, ne_eq, not_true_eq_false, not_false_eq_true, true_imp_iff, false_imp_iff, Int.toNat_natCast, lit_a, Nat.reduceAdd, or_true, true_or, or_false, false_or, Int.reduceEq, Int.reduceNe, Int.reduceLT, Int.reduceLE, Int.reduceNeg, sg_nil, a0, a1, a2, a3, a4, a5, a6, p0, p1, p2, p3, p4, p5, hw.1, hp, e1, e2]
      repeat' (first | with_reducible apply And.intro | (intro _) | ((first | refine wp_go b10_0 ?_ | refine wp_go b10_41 ?_ | refine wp_go b10_47 ?_); simp only [l10_0, l10_41, l10_47, sg_iconst, sg_istore_2, sg_istore_3, sg_iinc, ldI_3, okS_3, stL_3, sg_goto, sg_bipush, sg_iret0, nLg_n, nLg_i, nLg_r, tc_c, tc_l, tc_r, tc_m, tc_n, tc_o, tc_0, inR, true_and, and_true, ne_eq, not_true_eq_false, not_false_eq_true, true_imp_iff, false_imp_iff, Int.toNat_natCast, lit_a, Nat.reduceAdd, or_true, true_or, or_false, false_or, Int.reduceEq, Int.reduceNe, Int.reduceLT, Int.reduceLE, Int.reduceNeg, sg_nil]))
      all_goals (try omega)
      all_goals first
        | exact ih (i + 1) (by omega) (fun j hj => by
            rcases Nat.lt_or_ge j i with q | q
            · exact hm j q
            · have : j = i := by omega
              subst this; rw [hs]; omega)
        | (rw [fsI_s (i := i) (by omega) (decide_eq_true (by rw [hs]; omega)) (fun j hj => decide_eq_false (hm j hj))] at hq
           exact hq)
  refine wp_go b10_0 ?_; simp only [l10_0, sg_iconst, sg_istore_2, sg_istore_3, nLg_n, nLg_i, nLg_r, tc_c, tc_l, tc_r, tc_m, tc_n, tc_o, tc_0, inR, true_and, and_true, ne_eq, not_true_eq_false, not_false_eq_true, true_imp_iff, false_imp_iff, Int.toNat_natCast, lit_a, Nat.reduceAdd, or_true, true_or, or_false, false_or, Int.reduceEq, Int.reduceNe, Int.reduceLT, Int.reduceLE, Int.reduceNeg, sg_nil]
  exact loop n 0 (by omega) (fun j hj => absurd hj (by omega))
-- Hea.copyFrom: blocks [0, 11]
theorem k_Hea_copyFrom {σ : Sg} {d : Nat} {Q : QT} {μ : Mem} {h o : Nat} {w : Rw} (hH : iHea σ h) (hO : iHea σ o) (hd : h + 7 ≤ o ∨ o + 7 ≤ h) (hw : HR w μ o) (hn : 0 ≤ w 0) (hn2 : w 0 ≤ 24)
    (hq : ∀ μ' : Mem, (∀ k, k < h ∨ h + 7 ≤ k → μ' k = μ k) → HR w μ' h → Q (.inl 0) μ') : Call σ (d + 2) 11 [.inr (.inr h), .inr (.inr o)] μ Q := by
  refine e_11 ?_
  obtain ⟨a0, a1, a2, a3, a4, a5, a6, p0, p1, p2, p3, p4, p5⟩ := heaF hH
  obtain ⟨b0, b1, b2, b3, b4, b5, b6, r0, r1, r2, r3, r4, r5⟩ := heaF hO
  obtain ⟨n, hp⟩ : ∃ n : Nat, w 0 = (n : Int) := ⟨(w 0).toNat, by omega⟩
  refine wp_go b11_0 ?_; simp only [l11_0, sg_aload_0, sg_getfp, sg_aload_1, sg_iv2_v, len4_0, len4_1, len4_2, len4_3, len4_4, nLg_n, nLg_i, nLg_r, tc_c, tc_l, tc_r, tc_m, tc_n, tc_o, tc_0, inR, true_and, and_true, ne_eq, not_true_eq_false, not_false_eq_true, true_imp_iff, false_imp_iff, Int.toNat_natCast, lit_a, Nat.reduceAdd, or_true, true_or, or_false, false_or, Int.reduceEq, Int.reduceNe, Int.reduceLT, Int.reduceLE, Int.reduceNeg, sg_nil, a0, a1, a2, a3, a4, a5, a6, p0, p1, p2, p3, p4, p5, b0, b1, b2, b3, b4, b5, b6, r0, r1, r2, r3, r4, r5]
  refine k_Sen_copyFrom hH.2.1 hO.2.1 (by omega) (n := n) (by rw [hw.1]; exact hp) (by omega) (fun μ1 f1 n1 c1 => ?_)
  refine wp_go b11_11 ?_; simp only [l11_11, sg_aload_1, sg_getfp, sg_iconst, sg_aload_0, sg_getf0, len4_0, len4_1, len4_2, len4_3, len4_4, sg_acopy, sg_ret, nLg_n, nLg_i, nLg_r, tc_c, tc_l, tc_r, tc_m, tc_n, tc_o, tc_0, inR, true_and, and_true, ne_eq, not_true_eq_false, not_false_eq_true, true_imp_iff, false_imp_iff, Int.toNat_natCast, lit_a, Nat.reduceAdd, or_true, true_or, or_false, false_or, Int.reduceEq, Int.reduceNe, Int.reduceLT, Int.reduceLE, Int.reduceNeg, sg_nil, a0, a1, a2, a3, a4, a5, a6, p0, p1, p2, p3, p4, p5, b0, b1, b2, b3, b4, b5, b6, r0, r1, r2, r3, r4, r5, n1, mcp_at, ne_a, ne_b, false_and, if_false, Int.toNat_zero, Nat.add_left_cancel_iff, Nat.reduceEqDiff]
  repeat' (first | with_reducible apply And.intro | (intro _) | ((first | refine wp_go b11_0 ?_ | refine wp_go b11_11 ?_); simp only [l11_0, l11_11, sg_aload_0, sg_getfp, sg_aload_1, sg_iv2_v, len4_0, len4_1, len4_2, len4_3, len4_4, sg_iconst, sg_getf0, sg_acopy, sg_ret, nLg_n, nLg_i, nLg_r, tc_c, tc_l, tc_r, tc_m, tc_n, tc_o, tc_0, inR, true_and, and_true, ne_eq, not_true_eq_false, not_false_eq_true, true_imp_iff, false_imp_iff, Int.toNat_natCast, lit_a, Nat.reduceAdd, or_true, true_or, or_false, false_or, Int.reduceEq, Int.reduceNe, Int.reduceLT, Int.reduceLE, Int.reduceNeg, sg_nil]))
  all_goals (try omega)
  refine hq _ (fun k hk => ?_) ⟨?_, fun i hi => ?_⟩
  · funext j
    simp only [mcp_at]
    repeat rw [if_neg (by omega)]
    rw [f1 k (by omega)]
  · simp only [mcp_at]
    repeat rw [if_neg (by omega)]
    rw [n1, hp]
  · have q := hw.2 i hi
    have c := c1 i (by omega)
    simp only [mcp_at, Nat.zero_add, Nat.sub_zero, true_and]
    refine ⟨?_, ?_, ?_, ?_, ?_⟩
    · repeat rw [if_neg (by omega)]
      exact c.1.trans q.1
    · repeat rw [if_neg (by omega)]
      exact c.2.1.trans q.2.1
    · repeat rw [if_neg (by omega)]
      exact c.2.2.trans q.2.2.1
    · rw [if_neg (by omega), if_pos (by omega), f1 (o + 5) (by omega)]
      exact q.2.2.2.1
    · rw [if_pos (by omega), if_neg (by omega), f1 (o + 6) (by omega)]
      exact q.2.2.2.2
-- Hea.isLike: blocks [0, 11, 16, 18, 59, 61, 67]
theorem k_Hea_isLike {σ : Sg} {d : Nat} {Q : QT} {μ : Mem} {h o : Nat} {w v : Rw} (hH : iHea σ h) (hO : iHea σ o) (hw : HR w μ h) (hv : HR v μ o) (hW : WH w) (hV : WH v)
    (h1 : (∀ k, k < 121 → w k = v k) → Q (.inl 1) μ) (h0 : ¬ (∀ k, k < 121 → w k = v k) → Q (.inl 0) μ) : Call σ (d + 2) 12 [.inr (.inr h), .inr (.inr o)] μ Q := by
  refine e_12 ?_
  obtain ⟨a0, a1, a2, a3, a4, a5, a6, p0, p1, p2, p3, p4, p5⟩ := heaF hH
  obtain ⟨b0, b1, b2, b3, b4, b5, b6, r0, r1, r2, r3, r4, r5⟩ := heaF hO
  obtain ⟨n, hp, hn1, hn2⟩ := HR.n (μ := μ) (h := h) hW
  obtain ⟨n', hp', hn1', hn2'⟩ := HR.n (μ := μ) (h := h) hV
  refine wp_go b12_0 ?_; simp only [l12_0, sg_aload_0, sg_getfp, sg_aload_1, sg_iv2_i, len4_0, len4_1, len4_2, len4_3, len4_4, nLg_n, nLg_i, nLg_r, tc_c, tc_l, tc_r, tc_m, tc_n, tc_o, tc_0, inR, true_and, and_true, ne_eq, not_true_eq_false, not_false_eq_true, true_imp_iff, false_imp_iff, Int.toNat_natCast, lit_a, Nat.reduceAdd, or_true, true_or, or_false, false_or, Int.reduceEq, Int.reduceNe, Int.reduceLT, Int.reduceLE, Int.reduceNeg, sg_nil, a0, a1, a2, a3, a4, a5, a6, p0, p1, p2, p3, p4, p5, b0, b1, b2, b3, b4, b5, b6, r0, r1, r2, r3, r4, r5]
  refine k_Sen_isLike hH.2.1 hO.2.1 (n := n) (n' := n') (by rw [hw.1]; exact hp) (by rw [hv.1]; exact hp') hn2 hn2' (fun i hi => ?_) (fun i hi => ?_) (fun hnn hall => ?_) (fun hno => ?_)
  · have q := hW.2.1 i (by omega)
    have e := hw.2 i (by omega)
    unfold inR
    rw [show μ (h + 1 + 1) i = _ from e.1, show μ (h + 1 + 2) i = _ from e.2.1, show μ (h + 1 + 3) i = _ from e.2.2.1]
    omega
  · have q := hV.2.1 i (by omega)
    have e := hv.2 i (by omega)
    unfold inR
    rw [show μ (o + 1 + 1) i = _ from e.1, show μ (o + 1 + 2) i = _ from e.2.1, show μ (o + 1 + 3) i = _ from e.2.2.1]
    omega
  · have three : ∀ i : Nat, i < n → w (5 * i + 3) = v (5 * i + 3) ∧ w (5 * i + 4) = v (5 * i + 4) ∧ w (5 * i + 5) = v (5 * i + 5) := by
      intro i hi
      have e := hw.2 i (by omega)
      have e' := hv.2 i (by omega)
      have c := hall i hi
      rw [show μ (h + 1 + 1) i = _ from e.1, show μ (h + 1 + 2) i = _ from e.2.1, show μ (h + 1 + 3) i = _ from e.2.2.1, show μ (o + 1 + 1) i = _ from e'.1, show μ (o + 1 + 2) i = _ from e'.2.1, show μ (o + 1 + 3) i = _ from e'.2.2.1] at c
      exact c
    have loop : ∀ k i : Nat, i + k = n → (∀ j, j < i → w (5 * j + 1) = v (5 * j + 1) ∧ w (5 * j + 2) = v (5 * j + 2)) → wp σ (Call σ (d + 1)) 12 Q 18 [some (.inr (.inr h)), some (.inr (.inr o)), some (.inl (i : Int))] [] μ := by
      intro k
      induction k with
      | zero =>
        intro i hi hm
        obtain rfl : i = n := by omega
        have h1 := h1 (fun k hk => by
          rcases Nat.lt_or_ge (5 * i) k with q | q
          · rw [hW.2.2.2 k (by omega) hk, hV.2.2.2 k (by omega) hk]
          · rcases Nat.eq_zero_or_pos k with q0 | q0
            · rw [q0, hp, hp', hnn]
            · have t := three ((k - 1) / 5) (by omega)
              have s := hm ((k - 1) / 5) (by omega)
              rcases (show k = 5 * ((k - 1) / 5) + 1 ∨ k = 5 * ((k - 1) / 5) + 2 ∨ k = 5 * ((k - 1) / 5) + 3 ∨ k = 5 * ((k - 1) / 5) + 4 ∨ k = 5 * ((k - 1) / 5) + 5 by omega) with r | r | r | r | r <;> rw [r]
              · exact s.1
              · exact s.2
              · exact t.1
              · exact t.2.1
              · exact t.2.2)
        refine wp_go b12_18 ?_; simp only [l12_18, sg_iload_2, sg_aload_0, sg_getfp, sg_getf0, sg_ic_ge, sg_iaload, sg_aload_1, sg_ic_ne, sg_ic_eq, nLg_n, nLg_i, nLg_r, tc_c, tc_l, tc_r, tc_m, tc_n, tc_o, tc_0, inR, true_and, and_true, ne_eq, not_true_eq_false, not_false_eq_true, true_imp_iff, false_imp_iff, Int.toNat_natCast, lit_a, Nat.reduceAdd, or_true, true_or, or_false, false_or, Int.reduceEq, Int.reduceNe, Int.reduceLT, Int.reduceLE, Int.reduceNeg, sg_nil, a0, a1, a2, a3, a4, a5, a6, p0, p1, p2, p3, p4, p5, hw.1, hp]
        repeat' (first | with_reducible apply And.intro | (intro _) | ((first | refine wp_go b12_0 ?_ | refine wp_go b12_11 ?_ | refine wp_go b12_16 ?_ | refine wp_go b12_59 ?_ | refine wp_go b12_61 ?_ | refine wp_go b12_67 ?_); simp only [l12_0, l12_11, l12_16, l12_59, l12_61, l12_67, sg_aload_0, sg_getfp, sg_aload_1, sg_iv2_i, len4_0, len4_1, len4_2, len4_3, len4_4, sg_if_ne, sg_iconst, sg_iret1, sg_istore_2, sg_iinc, ldI_2, okS_2, stL_2, sg_goto, nLg_n, nLg_i, nLg_r, tc_c, tc_l, tc_r, tc_m, tc_n, tc_o, tc_0, inR, true_and, and_true, ne_eq, not_true_eq_false, not_false_eq_true, true_imp_iff, false_imp_iff, Int.toNat_natCast, lit_a, Nat.reduceAdd, or_true, true_or, or_false, false_or, Int.reduceEq, Int.reduceNe, Int.reduceLT, Int.reduceLE, Int.reduceNeg, sg_nil]))
        all_goals (try omega)
      | succ k ih =>
        intro i hi hm
        have e := hw.2 i (by omega)
        have e' := hv.2 i (by omega)
        have r1 := hW.no (i := i) (by omega)
        have r2 := hW.nt (i := i) (by omega)
        have r3 := hV.no (i := i) (by omega)
        have r4 := hV.nt (i := i) (by omega)
        refine wp_go b12_18 ?_; simp only [l12_18, sg_iload_2, sg_aload_0, sg_getfp, sg_getf0, sg_ic_ge, sg_iaload, sg_aload_1, sg_ic_ne, sg_ic_eq, nLg_n, nLg_i, nLg_r, tc_c, tc_l, tc_r, tc_m, tc_n, tc_o, tc_0, inR, true_and, and_true, ne_eq, not_true_eq_false, not_false_eq_true, true_imp_iff, false_imp_iff, Int.toNat_natCast, lit_a, Nat.reduceAdd, or_true, true_or, or_false, false_or, Int.reduceEq, Int.reduceNe, Int.reduceLT, Int.reduceLE, Int.reduceNeg, sg_nil, a0, a1, a2, a3, a4, a5, a6, p0, p1, p2, p3, p4, p5, b0, b1, b2, b3, b4, b5, b6, r0, r1, r2, r3, r4, r5, hw.1, hp, e.2.2.2.1, e.2.2.2.2, e'.2.2.2.1, e'.2.2.2.2]
        repeat' (first | with_reducible apply And.intro | (intro _) | ((first | refine wp_go b12_0 ?_ | refine wp_go b12_11 ?_ | refine wp_go b12_16 ?_ | refine wp_go b12_59 ?_ | refine wp_go b12_61 ?_ | refine wp_go b12_67 ?_); simp only [l12_0, l12_11, l12_16, l12_59, l12_61, l12_67, sg_aload_0, sg_getfp, sg_aload_1, sg_iv2_i, len4_0, len4_1, len4_2, len4_3, len4_4, sg_if_ne, sg_iconst, sg_iret1, sg_istore_2, sg_iinc, ldI_2, okS_2, stL_2, sg_goto, nLg_n, nLg_i, nLg_r, tc_c, tc_l, tc_r, tc_m, tc_n, tc_o, tc_0, inR, true_and, and_true, ne_eq, not_true_eq_false, not_false_eq_true, true_imp_iff, false_imp_iff, Int.toNat_natCast, lit_a, Nat.reduceAdd, or_true, true_or, or_false, false_or, Int.reduceEq, Int.reduceNe, Int.reduceLT, Int.reduceLE, Int.reduceNeg, sg_nil]))
        all_goals (try omega)
        all_goals first
          | exact ih (i + 1) (by omega) (fun j hj => by
              rcases Nat.lt_or_ge j i with q | q
              · exact hm j q
              · have : j = i := by omega
                subst this; exact ⟨by omega, by omega⟩)
          | exact h0 (fun q => by have := q (5 * i + 1) (by omega); have := q (5 * i + 2) (by omega); omega)
    have l0 := loop n 0 (by omega) (fun j hj => absurd hj (by omega))
    refine wp_go b12_11 ?_; simp only [l12_11, sg_if_ne, sg_iconst, sg_iret1, nLg_n, nLg_i, nLg_r, tc_c, tc_l, tc_r, tc_m, tc_n, tc_o, tc_0, inR, true_and, and_true, ne_eq, not_true_eq_false, not_false_eq_true, true_imp_iff, false_imp_iff, Int.toNat_natCast, lit_a, Nat.reduceAdd, or_true, true_or, or_false, false_or, Int.reduceEq, Int.reduceNe, Int.reduceLT, Int.reduceLE, Int.reduceNeg, sg_nil]
    repeat' (first | with_reducible apply And.intro | (intro _) | ((first | refine wp_go b12_0 ?_ | refine wp_go b12_11 ?_ | refine wp_go b12_16 ?_ | refine wp_go b12_59 ?_ | refine wp_go b12_61 ?_ | refine wp_go b12_67 ?_); simp only [l12_0, l12_11, l12_16, l12_59, l12_61, l12_67, sg_aload_0, sg_getfp, sg_aload_1, sg_iv2_i, len4_0, len4_1, len4_2, len4_3, len4_4, sg_if_ne, sg_iconst, sg_iret1, sg_istore_2, sg_iinc, ldI_2, okS_2, stL_2, sg_goto, nLg_n, nLg_i, nLg_r, tc_c, tc_l, tc_r, tc_m, tc_n, tc_o, tc_0, inR, true_and, and_true, ne_eq, not_true_eq_false, not_false_eq_true, true_imp_iff, false_imp_iff, Int.toNat_natCast, lit_a, Nat.reduceAdd, or_true, true_or, or_false, false_or, Int.reduceEq, Int.reduceNe, Int.reduceLT, Int.reduceLE, Int.reduceNeg, sg_nil]))
    all_goals (try omega)
    all_goals exact l0
  · have h0 := h0 (fun q => hno ⟨by have := q 0 (by omega); omega, fun i hi => by
      have e := hw.2 i (by omega)
      have a := q 0 (by omega)
      have e' := hv.2 i (by omega)
      rw [show μ (h + 1 + 1) i = _ from e.1, show μ (h + 1 + 2) i = _ from e.2.1, show μ (h + 1 + 3) i = _ from e.2.2.1, show μ (o + 1 + 1) i = _ from e'.1, show μ (o + 1 + 2) i = _ from e'.2.1, show μ (o + 1 + 3) i = _ from e'.2.2.1]
      exact ⟨q _ (by omega), q _ (by omega), q _ (by omega)⟩⟩)
    refine wp_go b12_11 ?_; simp only [l12_11, sg_if_ne, sg_iconst, sg_iret1, nLg_n, nLg_i, nLg_r, tc_c, tc_l, tc_r, tc_m, tc_n, tc_o, tc_0, inR, true_and, and_true, ne_eq, not_true_eq_false, not_false_eq_true, true_imp_iff, false_imp_iff, Int.toNat_natCast, lit_a, Nat.reduceAdd, or_true, true_or, or_false, false_or, Int.reduceEq, Int.reduceNe, Int.reduceLT, Int.reduceLE, Int.reduceNeg, sg_nil]
    repeat' (first | with_reducible apply And.intro | (intro _) | ((first | refine wp_go b12_0 ?_ | refine wp_go b12_11 ?_ | refine wp_go b12_16 ?_ | refine wp_go b12_59 ?_ | refine wp_go b12_61 ?_ | refine wp_go b12_67 ?_); simp only [l12_0, l12_11, l12_16, l12_59, l12_61, l12_67, sg_aload_0, sg_getfp, sg_aload_1, sg_iv2_i, len4_0, len4_1, len4_2, len4_3, len4_4, sg_if_ne, sg_iconst, sg_iret1, sg_istore_2, sg_iinc, ldI_2, okS_2, stL_2, sg_goto, nLg_n, nLg_i, nLg_r, tc_c, tc_l, tc_r, tc_m, tc_n, tc_o, tc_0, inR, true_and, and_true, ne_eq, not_true_eq_false, not_false_eq_true, true_imp_iff, false_imp_iff, Int.toNat_natCast, lit_a, Nat.reduceAdd, or_true, true_or, or_false, false_or, Int.reduceEq, Int.reduceNe, Int.reduceLT, Int.reduceLE, Int.reduceNeg, sg_nil]))
    all_goals (try omega)

