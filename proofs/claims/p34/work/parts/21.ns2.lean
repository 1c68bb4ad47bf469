theorem l6 {z : Rw} {l : Nat} (hz : IZ z) (hl : (l : Int) < z 3) : l < 6 := by have := hz.1; omega
-- NS.hearingOf: blocks [0, 22, 31]
theorem k_NS_hearingOf {d : Nat} {Q : QT} {μ : Mem} {l : Nat} {z : Rw} (hz : IZ z) (hR : RC z μ 1) (hl : (l : Int) < z 3)
    (hq : ∀ (μ' : Mem) (h : Nat), (∀ k, (k < 392 ∨ 400 ≤ k) → μ' k = μ k) → HR (wO z l) μ' h → iHea σ1 h → 13 < h → h < 394 → Q (.inr (.inr h)) μ') : Call σ1 (d + 4) 63 [.inr (.inr 0), .inl (l : Int)] μ Q := by
  refine e_63 ?_
  have l6 := l6 hz hl
  obtain ⟨e10, e11, e12, eh⟩ := hR.2.2.2 l hl
  have e12 : μ 12 l = z (214 + 3 * l) := e12
  have z01 := (hz.2.2.2.2 l hl).2.2.1
  by_cases hf : z (214 + 3 * l) = 1
  · have hq := hq μ (14 + 7 * l) (fun _ _ => rfl) (by unfold wO; rw [if_pos hf]; exact eh hf) (heF l l6) (by omega) (by omega)
    rw [hf] at e12
    refine wp_go b63_0 ?_; simp only [l63_0, sg_aload_0, sg_getfp, sg_iload_1, sg_baload, sg_if_eq, sg_aaload, sg_aret, nLg_n, nLg_i, nLg_r, tc_c, tc_l, tc_r, tc_m, tc_n, tc_o, tc_0, inR, true_and, and_true, ne_eq, not_true_eq_false, not_false_eq_true, true_imp_iff, false_imp_iff, Int.toNat_natCast, lit_a, Nat.reduceAdd, or_true, true_or, or_false, false_or, Int.reduceEq, Int.reduceNe, Int.reduceLT, Int.reduceLE, Int.reduceNeg, sg_nil, s1p, x0, x1, x2, x3, x4, x5, x6, x7, x8, x9, x10, x11, x12, x13, x56, x57, x388, x389, x390, x391, x392, x393, x394, x395, x396, x397, x398, x399, e12]
    repeat' (first | with_reducible apply And.intro | (intro _) | ((first | refine wp_go b63_0 ?_ | refine wp_go b63_22 ?_ | refine wp_go b63_31 ?_); simp only [l63_0, l63_22, l63_31, sg_aload_0, sg_getfp, sg_iload_1, sg_baload, sg_if_eq, sg_aaload, sg_aret, sg_iv3_v, len4_0, len4_1, len4_2, len4_3, len4_4, nLg_n, nLg_i, nLg_r, tc_c, tc_l, tc_r, tc_m, tc_n, tc_o, tc_0, inR, true_and, and_true, ne_eq, not_true_eq_false, not_false_eq_true, true_imp_iff, false_imp_iff, Int.toNat_natCast, lit_a, Nat.reduceAdd, or_true, true_or, or_false, false_or, Int.reduceEq, Int.reduceNe, Int.reduceLT, Int.reduceLE, Int.reduceNeg, sg_nil]))
    all_goals (try omega)
    all_goals exact hq
  · have hf0 : z (214 + 3 * l) = 0 := by omega
    rw [hf0] at e12
    refine wp_go b63_0 ?_; simp only [l63_0, sg_aload_0, sg_getfp, sg_iload_1, sg_baload, sg_if_eq, sg_aaload, sg_aret, nLg_n, nLg_i, nLg_r, tc_c, tc_l, tc_r, tc_m, tc_n, tc_o, tc_0, inR, true_and, and_true, ne_eq, not_true_eq_false, not_false_eq_true, true_imp_iff, false_imp_iff, Int.toNat_natCast, lit_a, Nat.reduceAdd, or_true, true_or, or_false, false_or, Int.reduceEq, Int.reduceNe, Int.reduceLT, Int.reduceLE, Int.reduceNeg, sg_nil, s1p, x0, x1, x2, x3, x4, x5, x6, x7, x8, x9, x10, x11, x12, x13, x56, x57, x388, x389, x390, x391, x392, x393, x394, x395, x396, x397, x398, x399, e12]
    repeat' (first | with_reducible apply And.intro | intro _)
    all_goals (try omega)
    refine wp_go b63_22 ?_; simp only [l63_22, sg_aload_0, sg_iload_1, sg_getfp, sg_iv3_v, len4_0, len4_1, len4_2, len4_3, len4_4, nLg_n, nLg_i, nLg_r, tc_c, tc_l, tc_r, tc_m, tc_n, tc_o, tc_0, inR, true_and, and_true, ne_eq, not_true_eq_false, not_false_eq_true, true_imp_iff, false_imp_iff, Int.toNat_natCast, lit_a, Nat.reduceAdd, or_true, true_or, or_false, false_or, Int.reduceEq, Int.reduceNe, Int.reduceLT, Int.reduceLE, Int.reduceNeg, sg_nil, s1p, x0, x1, x2, x3, x4, x5, x6, x7, x8, x9, x10, x11, x12, x13, x56, x57, x388, x389, x390, x391, x392, x393, x394, x395, x396, x397, x398, x399]
    refine k_NS_hearNow hz hR.r0 hR.1.1 hl e10 e11 he393 (by omega) (fun μ' f h => ?_)
    have hq := hq μ' 393 (fun k hk => f k (by omega) (by omega)) (by unfold wO; rw [if_neg hf]; exact h) he393 (by omega) (by omega)
    refine wp_go b63_31 ?_; simp only [l63_31, sg_aload_0, sg_getfp, sg_aret, nLg_n, nLg_i, nLg_r, tc_c, tc_l, tc_r, tc_m, tc_n, tc_o, tc_0, inR, true_and, and_true, ne_eq, not_true_eq_false, not_false_eq_true, true_imp_iff, false_imp_iff, Int.toNat_natCast, lit_a, Nat.reduceAdd, or_true, true_or, or_false, false_or, Int.reduceEq, Int.reduceNe, Int.reduceLT, Int.reduceLE, Int.reduceNeg, sg_nil, s1p, x0, x1, x2, x3, x4, x5, x6, x7, x8, x9, x10, x11, x12, x13, x56, x57, x388, x389, x390, x391, x392, x393, x394, x395, x396, x397, x398, x399]
    exact hq
def eqW (w v : Rw) : Bool := (List.range 121).all fun k => decide (w k = v k)
theorem eqW_t {w v : Rw} (h : ∀ k, k < 121 → w k = v k) : eqW w v = true := List.all_eq_true.mpr (fun k hk => decide_eq_true (h k (List.mem_range.mp hk)))
theorem eqW_f {w v : Rw} (h : ¬ ∀ k, k < 121 → w k = v k) : eqW w v = false := by
  cases e : eqW w v with
  | false => rfl
  | true => exact absurd (fun k hk => of_decide_eq_true (List.all_eq_true.mp e k (List.mem_range.mpr hk))) h
def old (z : Rw) (l : Nat) : Int := bI (z (214 + 3 * l) = 1 ∧ eqW (hrL z l) (fw z l) = false)
theorem old_01 (z : Rw) (l : Nat) : old z l = 0 ∨ old z l = 1 := by unfold old bI; split <;> simp
-- NS.isOutOfDate: blocks [0, 14, 23, 39, 46, 47]
theorem k_NS_isOutOfDate {d : Nat} {Q : QT} {μ : Mem} {l : Nat} {z : Rw} (hz : IZ z) (hR : RC z μ 1) (hl : (l : Int) < z 3)
    (hq : ∀ μ' : Mem, (∀ k, (k < 392 ∨ 400 ≤ k) → μ' k = μ k) → Q (.inl (old z l)) μ') : Call σ1 (d + 4) 65 [.inr (.inr 0), .inl (l : Int)] μ Q := by
  refine e_65 ?_
  have l6 := l6 hz hl
  obtain ⟨e10, e11, e12, eh⟩ := hR.2.2.2 l hl
  have e12 : μ 12 l = z (214 + 3 * l) := e12
  have z01 := (hz.2.2.2.2 l hl).2.2.1
  by_cases hf : z (214 + 3 * l) = 1
  · rw [hf] at e12
    refine wp_go b65_0 ?_; simp only [l65_0, sg_aload_0, sg_getfp, sg_iload_1, sg_baload, sg_if_ne, sg_iconst, sg_iret1, nLg_n, nLg_i, nLg_r, tc_c, tc_l, tc_r, tc_m, tc_n, tc_o, tc_0, inR, true_and, and_true, ne_eq, not_true_eq_false, not_false_eq_true, true_imp_iff, false_imp_iff, Int.toNat_natCast, lit_a, Nat.reduceAdd, or_true, true_or, or_false, false_or, Int.reduceEq, Int.reduceNe, Int.reduceLT, Int.reduceLE, Int.reduceNeg, sg_nil, s1p, x0, x1, x2, x3, x4, x5, x6, x7, x8, x9, x10, x11, x12, x13, x56, x57, x388, x389, x390, x391, x392, x393, x394, x395, x396, x397, x398, x399, e12]
    repeat' (first | with_reducible apply And.intro | intro _)
    all_goals (try omega)
    refine wp_go b65_14 ?_; simp only [l65_14, sg_aload_0, sg_iload_1, sg_getfp, sg_iv3_v, len4_0, len4_1, len4_2, len4_3, len4_4, nLg_n, nLg_i, nLg_r, tc_c, tc_l, tc_r, tc_m, tc_n, tc_o, tc_0, inR, true_and, and_true, ne_eq, not_true_eq_false, not_false_eq_true, true_imp_iff, false_imp_iff, Int.toNat_natCast, lit_a, Nat.reduceAdd, or_true, true_or, or_false, false_or, Int.reduceEq, Int.reduceNe, Int.reduceLT, Int.reduceLE, Int.reduceNeg, sg_nil, s1p, x0, x1, x2, x3, x4, x5, x6, x7, x8, x9, x10, x11, x12, x13, x56, x57, x388, x389, x390, x391, x392, x393, x394, x395, x396, x397, x398, x399]
    refine k_NS_hearNow hz hR.r0 hR.1.1 hl e10 e11 he393 (by omega) (fun μ1 f h => ?_)
    have hq := hq μ1 (fun k hk => f k (by omega) (by omega))
    refine wp_go b65_23 ?_; simp only [l65_23, sg_aload_0, sg_getfp, sg_iload_1, sg_aaload, sg_iv2_i, len4_0, len4_1, len4_2, len4_3, len4_4, nLg_n, nLg_i, nLg_r, tc_c, tc_l, tc_r, tc_m, tc_n, tc_o, tc_0, inR, true_and, and_true, ne_eq, not_true_eq_false, not_false_eq_true, true_imp_iff, false_imp_iff, Int.toNat_natCast, lit_a, Nat.reduceAdd, or_true, true_or, or_false, false_or, Int.reduceEq, Int.reduceNe, Int.reduceLT, Int.reduceLE, Int.reduceNeg, sg_nil, s1p, x0, x1, x2, x3, x4, x5, x6, x7, x8, x9, x10, x11, x12, x13, x56, x57, x388, x389, x390, x391, x392, x393, x394, x395, x396, x397, x398, x399]
    repeat' (first | with_reducible apply And.intro | intro _)
    all_goals (try omega)
    have hF : HR (fw z l) μ1 (14 + 7 * l) := HR_f (fun k h1 h2 => f k (by omega) (by omega)) (eh hf)
    refine k_Hea_isLike he393 (heF l l6) h hF (hr_W hz) ((hz.2.2.2.2 l hl).2.2.2 hf) (fun ha => ?_) (fun ha => ?_)
    · have o : old z l = 0 := by unfold old bI; rw [if_neg (fun q => by have := eqW_t ha; rw [this] at q; exact absurd q.2 (by decide))]
      rw [o] at hq
      refine wp_go b65_39 ?_; simp only [l65_39, sg_if_ne, sg_iconst, sg_goto, nLg_n, nLg_i, nLg_r, tc_c, tc_l, tc_r, tc_m, tc_n, tc_o, tc_0, inR, true_and, and_true, ne_eq, not_true_eq_false, not_false_eq_true, true_imp_iff, false_imp_iff, Int.toNat_natCast, lit_a, Nat.reduceAdd, or_true, true_or, or_false, false_or, Int.reduceEq, Int.reduceNe, Int.reduceLT, Int.reduceLE, Int.reduceNeg, sg_nil]
      repeat' (first | with_reducible apply And.intro | (intro _) | ((first | refine wp_go b65_0 ?_ | refine wp_go b65_14 ?_ | refine wp_go b65_23 ?_ | refine wp_go b65_39 ?_ | refine wp_go b65_46 ?_ | refine wp_go b65_47 ?_); simp only [l65_0, l65_14, l65_23, l65_39, l65_46, l65_47, sg_aload_0, sg_getfp, sg_iload_1, sg_baload, sg_if_ne, sg_iconst, sg_iret1, sg_iv3_v, len4_0, len4_1, len4_2, len4_3, len4_4, sg_aaload, sg_iv2_i, sg_goto, nLg_n, nLg_i, nLg_r, tc_c, tc_l, tc_r, tc_m, tc_n, tc_o, tc_0, inR, true_and, and_true, ne_eq, not_true_eq_false, not_false_eq_true, true_imp_iff, false_imp_iff, Int.toNat_natCast, lit_a, Nat.reduceAdd, or_true, true_or, or_false, false_or, Int.reduceEq, Int.reduceNe, Int.reduceLT, Int.reduceLE, Int.reduceNeg, sg_nil]))
      all_goals (try omega)
      all_goals exact hq
    · have o : old z l = 1 := by unfold old bI; rw [if_pos ⟨hf, eqW_f ha⟩]
      rw [o] at hq
      refine wp_go b65_39 ?_; simp only [l65_39, sg_if_ne, sg_iconst, sg_goto, nLg_n, nLg_i, nLg_r, tc_c, tc_l, tc_r, tc_m, tc_n, tc_o, tc_0, inR, true_and, and_true, ne_eq, not_true_eq_false, not_false_eq_true, true_imp_iff, false_imp_iff, Int.toNat_natCast, lit_a, Nat.reduceAdd, or_true, true_or, or_false, false_or, Int.reduceEq, Int.reduceNe, Int.reduceLT, Int.reduceLE, Int.reduceNeg, sg_nil]
      repeat' (first | with_reducible apply And.intro | (intro _) | ((first | refine wp_go b65_0 ?_ | refine wp_go b65_14 ?_ | refine wp_go b65_23 ?_ | refine wp_go b65_39 ?_ | refine wp_go b65_46 ?_ | refine wp_go b65_47 ?_); simp only [l65_0, l65_14, l65_23, l65_39, l65_46, l65_47, sg_aload_0, sg_getfp, sg_iload_1, sg_baload, sg_if_ne, sg_iconst, sg_iret1, sg_iv3_v, len4_0, len4_1, len4_2, len4_3, len4_4, sg_aaload, sg_iv2_i, sg_goto, nLg_n, nLg_i, nLg_r, tc_c, tc_l, tc_r, tc_m, tc_n, tc_o, tc_0, inR, true_and, and_true, ne_eq, not_true_eq_false, not_false_eq_true, true_imp_iff, false_imp_iff, Int.toNat_natCast, lit_a, Nat.reduceAdd, or_true, true_or, or_false, false_or, Int.reduceEq, Int.reduceNe, Int.reduceLT, Int.reduceLE, Int.reduceNeg, sg_nil]))
      all_goals (try omega)
      all_goals exact hq
  · have hf0 : z (214 + 3 * l) = 0 := by omega
    rw [hf0] at e12
    have hq := hq μ (fun _ _ => rfl)
    have o : old z l = 0 := by unfold old bI; rw [if_neg (fun q => hf q.1)]
    rw [o] at hq
    refine wp_go b65_0 ?_; simp only [l65_0, sg_aload_0, sg_getfp, sg_iload_1, sg_baload, sg_if_ne, sg_iconst, sg_iret1, nLg_n, nLg_i, nLg_r, tc_c, tc_l, tc_r, tc_m, tc_n, tc_o, tc_0, inR, true_and, and_true, ne_eq, not_true_eq_false, not_false_eq_true, true_imp_iff, false_imp_iff, Int.toNat_natCast, lit_a, Nat.reduceAdd, or_true, true_or, or_false, false_or, Int.reduceEq, Int.reduceNe, Int.reduceLT, Int.reduceLE, Int.reduceNeg, sg_nil, s1p, x0, x1, x2, x3, x4, x5, x6, x7, x8, x9, x10, x11, x12, x13, x56, x57, x388, x389, x390, x391, x392, x393, x394, x395, x396, x397, x398, x399, e12]
    repeat' (first | with_reducible apply And.intro | (intro _) | ((first | refine wp_go b65_0 ?_ | refine wp_go b65_14 ?_ | refine wp_go b65_23 ?_ | refine wp_go b65_39 ?_ | refine wp_go b65_46 ?_ | refine wp_go b65_47 ?_); simp only [l65_0, l65_14, l65_23, l65_39, l65_46, l65_47, sg_aload_0, sg_getfp, sg_iload_1, sg_baload, sg_if_ne, sg_iconst, sg_iret1, sg_iv3_v, len4_0, len4_1, len4_2, len4_3, len4_4, sg_aaload, sg_iv2_i, sg_goto, nLg_n, nLg_i, nLg_r, tc_c, tc_l, tc_r, tc_m, tc_n, tc_o, tc_0, inR, true_and, and_true, ne_eq, not_true_eq_false, not_false_eq_true, true_imp_iff, false_imp_iff, Int.toNat_natCast, lit_a, Nat.reduceAdd, or_true, true_or, or_false, false_or, Int.reduceEq, Int.reduceNe, Int.reduceLT, Int.reduceLE, Int.reduceNeg, sg_nil]))
    all_goals (try omega)
    all_goals exact hq
def olds (z : Rw) : Nat → Int
  | 0 => 0
  | l + 1 => if old z l = 1 then iOr (olds z l) (iShl 1 l) else olds z l
-- NS.outOfDateListeners: blocks [0, 4, 20, 29, 35]
theorem k_NS_outOfDateListeners {d n : Nat} {Q : QT} {μ : Mem} {z : Rw} (hz : IZ z) (hR : RC z μ 1) (hn : z 3 = (n : Int))
    (hq : ∀ μ' : Mem, (∀ k, (k < 392 ∨ 400 ≤ k) → μ' k = μ k) → Q (.inl (olds z n)) μ') : Call σ1 (d + 5) 66 [.inr (.inr 0)] μ Q := by
  refine e_66 ?_
  have q := hz.1
  have loop : ∀ k i : Nat, i + k = n → ∀ μ1 : Mem, (∀ k, (k < 392 ∨ 400 ≤ k) → μ1 k = μ k) → wp σ1 (Call σ1 (d + 4)) 66 Q 4 [some (.inr (.inr 0)), some (.inl (olds z i)), some (.inl (i : Int))] [] μ1 := by
    intro k
    induction k with
    | zero =>
      intro i hi μ1 f1
      have him : i = n := by omega
      subst him
      have hq := hq μ1 f1
      have R1 : RC z μ1 1 := RC_f (by omega) (fun k _ _ => f1 k (by omega)) hR
      have e3 : μ1 1 11 = (i : Int) := R1.1.2.2.2.trans hn
      refine wp_go b66_4 ?_; simp only [l66_4, sg_iload_2, sg_aload_0, sg_getfp, sg_getf0, sg_ic_ge, sg_iv2_i, len4_0, len4_1, len4_2, len4_3, len4_4, nLg_n, nLg_i, nLg_r, tc_c, tc_l, tc_r, tc_m, tc_n, tc_o, tc_0, inR, true_and, and_true, ne_eq, not_true_eq_false, not_false_eq_true, true_imp_iff, false_imp_iff, Int.toNat_natCast, lit_a, Nat.reduceAdd, or_true, true_or, or_false, false_or, Int.reduceEq, Int.reduceNe, Int.reduceLT, Int.reduceLE, Int.reduceNeg, sg_nil, s1p, x0, x1, x2, x3, x4, x5, x6, x7, x8, x9, x10, x11, x12, x13, x56, x57, x388, x389, x390, x391, x392, x393, x394, x395, x396, x397, x398, x399, e3]
      repeat' (first | with_reducible apply And.intro | (intro _) | ((first | refine wp_go b66_0 ?_ | refine wp_go b66_20 ?_ | refine wp_go b66_29 ?_ | refine wp_go b66_35 ?_); simp only [l66_0, l66_20, l66_29, l66_35, sg_iconst, sg_istore_1, sg_istore_2, sg_if_eq, sg_iload_1, sg_iload_2, sg_ishl, sg_ior, sg_iinc, ldI_2, okS_2, stL_2, sg_goto, sg_iret0, nLg_n, nLg_i, nLg_r, tc_c, tc_l, tc_r, tc_m, tc_n, tc_o, tc_0, inR, true_and, and_true, ne_eq, not_true_eq_false, not_false_eq_true, true_imp_iff, false_imp_iff, Int.toNat_natCast, lit_a, Nat.reduceAdd, or_true, true_or, or_false, false_or, Int.reduceEq, Int.reduceNe, Int.reduceLT, Int.reduceLE, Int.reduceNeg, sg_nil]))
      all_goals (try omega)
      all_goals exact hq
    | succ k ih =>
      intro i hi μ1 f1
      have R1 : RC z μ1 1 := RC_f (by omega) (fun k _ _ => f1 k (by omega)) hR
      have e3 : μ1 1 11 = (n : Int) := R1.1.2.2.2.trans hn
      refine wp_go b66_4 ?_; simp only [l66_4, sg_iload_2, sg_aload_0, sg_getfp, sg_getf0, sg_ic_ge, sg_iv2_i, len4_0, len4_1, len4_2, len4_3, len4_4, nLg_n, nLg_i, nLg_r, tc_c, tc_l, tc_r, tc_m, tc_n, tc_o, tc_0, inR, true_and, and_true, ne_eq, not_true_eq_false, not_false_eq_true, true_imp_iff, false_imp_iff, Int.toNat_natCast, lit_a, Nat.reduceAdd, or_true, true_or, or_false, false_or, Int.reduceEq, Int.reduceNe, Int.reduceLT, Int.reduceLE, Int.reduceNeg, sg_nil, s1p, x0, x1, x2, x3, x4, x5, x6, x7, x8, x9, x10, x11, x12, x13, x56, x57, x388, x389, x390, x391, x392, x393, x394, x395, x396, x397, x398, x399, e3]
      repeat' (first | with_reducible apply And.intro | intro _)
      all_goals (try omega)
      refine k_NS_isOutOfDate hz R1 (by omega) (fun μ2 f2 => ?_)
      have ih1 := ih (i + 1) (by omega) μ2 (fun k hk => (f2 k hk).trans (f1 k hk))
      unfold olds at ih1
      rcases old_01 z i with o | o
      · rw [o, if_neg (by omega)] at ih1
        rw [o]
        refine wp_go b66_20 ?_; simp only [l66_20, sg_if_eq, sg_iload_1, sg_iconst, sg_iload_2, sg_ishl, sg_ior, sg_istore_1, nLg_n, nLg_i, nLg_r, tc_c, tc_l, tc_r, tc_m, tc_n, tc_o, tc_0, inR, true_and, and_true, ne_eq, not_true_eq_false, not_false_eq_true, true_imp_iff, false_imp_iff, Int.toNat_natCast, lit_a, Nat.reduceAdd, or_true, true_or, or_false, false_or, Int.reduceEq, Int.reduceNe, Int.reduceLT, Int.reduceLE, Int.reduceNeg, sg_nil]
        repeat' (first | with_reducible apply And.intro | (intro _) | ((first | refine wp_go b66_0 ?_ | refine wp_go b66_20 ?_ | refine wp_go b66_29 ?_ | refine wp_go b66_35 ?_); simp only [l66_0, l66_20, l66_29, l66_35, sg_iconst, sg_istore_1, sg_istore_2, sg_if_eq, sg_iload_1, sg_iload_2, sg_ishl, sg_ior, sg_iinc, ldI_2, okS_2, stL_2, sg_goto, sg_iret0, nLg_n, nLg_i, nLg_r, tc_c, tc_l, tc_r, tc_m, tc_n, tc_o, tc_0, inR, true_and, and_true, ne_eq, not_true_eq_false, not_false_eq_true, true_imp_iff, false_imp_iff, Int.toNat_natCast, lit_a, Nat.reduceAdd, or_true, true_or, or_false, false_or, Int.reduceEq, Int.reduceNe, Int.reduceLT, Int.reduceLE, Int.reduceNeg, sg_nil]))
        all_goals (try omega)
        all_goals exact ih1
      · rw [o, if_pos rfl] at ih1
        rw [o]
        refine wp_go b66_20 ?_; simp only [l66_20, sg_if_eq, sg_iload_1, sg_iconst, sg_iload_2, sg_ishl, sg_ior, sg_istore_1, nLg_n, nLg_i, nLg_r, tc_c, tc_l, tc_r, tc_m, tc_n, tc_o, tc_0, inR, true_and, and_true, ne_eq, not_true_eq_false, not_false_eq_true, true_imp_iff, false_imp_iff, Int.toNat_natCast, lit_a, Nat.reduceAdd, or_true, true_or, or_false, false_or, Int.reduceEq, Int.reduceNe, Int.reduceLT, Int.reduceLE, Int.reduceNeg, sg_nil]
        repeat' (first | with_reducible apply And.intro | (intro _) | ((first | refine wp_go b66_0 ?_ | refine wp_go b66_20 ?_ | refine wp_go b66_29 ?_ | refine wp_go b66_35 ?_); simp only [l66_0, l66_20, l66_29, l66_35, sg_iconst, sg_istore_1, sg_istore_2, sg_if_eq, sg_iload_1, sg_iload_2, sg_ishl, sg_ior, sg_iinc, ldI_2, okS_2, stL_2, sg_goto, sg_iret0, nLg_n, nLg_i, nLg_r, tc_c, tc_l, tc_r, tc_m, tc_n, tc_o, tc_0, inR, true_and, and_true, ne_eq, not_true_eq_false, not_false_eq_true, true_imp_iff, false_imp_iff, Int.toNat_natCast, lit_a, Nat.reduceAdd, or_true, true_or, or_false, false_or, Int.reduceEq, Int.reduceNe, Int.reduceLT, Int.reduceLE, Int.reduceNeg, sg_nil]))
        all_goals (try omega)
        all_goals exact ih1
  refine wp_go b66_0 ?_; simp only [l66_0, sg_iconst, sg_istore_1, sg_istore_2, nLg_n, nLg_i, nLg_r, tc_c, tc_l, tc_r, tc_m, tc_n, tc_o, tc_0, inR, true_and, and_true, ne_eq, not_true_eq_false, not_false_eq_true, true_imp_iff, false_imp_iff, Int.toNat_natCast, lit_a, Nat.reduceAdd, or_true, true_or, or_false, false_or, Int.reduceEq, Int.reduceNe, Int.reduceLT, Int.reduceLE, Int.reduceNeg, sg_nil]
  exact loop n 0 (by omega) μ (fun _ _ => rfl)
def nw (z : Rw) (l : Nat) : Nat := (wO z l 0).toNat
def tot (z : Rw) (l : Nat) : Int := bt (wO z l) (nw z l)
theorem nw_eq {z : Rw} {l : Nat} (hz : IZ z) (hl : (l : Int) < z 3) : wO z l 0 = ((nw z l : Nat) : Int) ∧ 1 ≤ nw z l ∧ nw z l ≤ 24 := by
  have := (wO_W hz hl).1
  unfold nw; omega
theorem bt_b {w : Rw} (hW : WH w) {p : Nat} (hp : (p : Int) ≤ w 0) : 0 ≤ bt w p ∧ bt w p ≤ 420 * p := by
  have b1 := sm_b (f := fun i => w (5 * i + 2) + w (5 * i + 4)) (b := 420) (n := p) (fun j hj => by
    have q1 := hW.nt (i := j) (by omega)
    have q2 := (hW.2.1 j (by omega)).2.1
    omega)
  have e := ht_bt w p
  unfold ht at e
  rw [e] at b1
  exact b1
def lng (z : Rw) : Nat → Int × Int
  | 0 => (-6, -6)
  | l + 1 => if (lng z l).2 < tot z l then ((l : Int), tot z l) else lng z l
theorem lng_b {z : Rw} (hz : IZ z) : ∀ n : Nat, (n : Int) ≤ z 3 → -6 ≤ (lng z n).2 ∧ (lng z n).2 ≤ 10080
  | 0, _ => ⟨Int.le_refl _, by show (-6 : Int) ≤ 10080; omega⟩
  | l + 1, h => by
    have ih := lng_b hz l (by omega)
    have e := nw_eq hz (show (l : Int) < z 3 by omega)
    have b := bt_b (wO_W hz (show (l : Int) < z 3 by omega)) (p := nw z l) (by omega)
    unfold lng
    split
    · show -6 ≤ tot z l ∧ tot z l ≤ 10080
      unfold tot
      omega
    · exact ih
-- NS.longestListener: blocks [0, 8, 24, 27, 40, 46]
theorem k_NS_longestListener {d n : Nat} {Q : QT} {μ : Mem} {z : Rw} (hz : IZ z) (hR : RC z μ 1) (hn : z 3 = (n : Int))
    (hq : ∀ μ' : Mem, (∀ k, (k < 392 ∨ 400 ≤ k) → μ' k = μ k) → Q (.inl (lng z n).1) μ') : Call σ1 (d + 5) 67 [.inr (.inr 0)] μ Q := by
  refine e_67 ?_
  have q := hz.1
  have loop : ∀ k i : Nat, i + k = n → ∀ (μ1 : Mem) (o4 : Option MV), (∀ k, (k < 392 ∨ 400 ≤ k) → μ1 k = μ k) → wp σ1 (Call σ1 (d + 4)) 67 Q 8 [some (.inr (.inr 0)), some (.inl (lng z i).1), some (.inl (lng z i).2), some (.inl (i : Int)), o4] [] μ1 := by
    intro k
    induction k with
    | zero =>
      intro i hi μ1 o4 f1
      have him : i = n := by omega
      subst him
      have hq := hq μ1 f1
      have R1 : RC z μ1 1 := RC_f (by omega) (fun k _ _ => f1 k (by omega)) hR
      have e3 : μ1 1 11 = (i : Int) := R1.1.2.2.2.trans hn
      refine wp_go b67_8 ?_; simp only [l67_8, sg_iload_3, sg_aload_0, sg_getfp, sg_getf0, sg_ic_ge, sg_iv2_r, len4_0, len4_1, len4_2, len4_3, len4_4, nLg_n, nLg_i, nLg_r, tc_c, tc_l, tc_r, tc_m, tc_n, tc_o, tc_0, inR, true_and, and_true, ne_eq, not_true_eq_false, not_false_eq_true, true_imp_iff, false_imp_iff, Int.toNat_natCast, lit_a, Nat.reduceAdd, or_true, true_or, or_false, false_or, Int.reduceEq, Int.reduceNe, Int.reduceLT, Int.reduceLE, Int.reduceNeg, sg_nil, s1p, x0, x1, x2, x3, x4, x5, x6, x7, x8, x9, x10, x11, x12, x13, x56, x57, x388, x389, x390, x391, x392, x393, x394, x395, x396, x397, x398, x399, e3]
      repeat' (first | with_reducible apply And.intro | (intro _) | ((first | refine wp_go b67_0 ?_ | refine wp_go b67_24 ?_ | refine wp_go b67_27 ?_ | refine wp_go b67_40 ?_ | refine wp_go b67_46 ?_); simp only [l67_0, l67_24, l67_27, l67_40, l67_46, sg_bipush, sg_istore_1, sg_istore_2, sg_iconst, sg_istore_3, sg_iv1_i, len4_0, len4_1, len4_2, len4_3, len4_4, sg_istore, okS_4, stL_4, sg_iload, ldI_4, sg_iload_2, sg_ic_le, sg_iload_3, sg_iinc, ldI_3, okS_3, stL_3, sg_goto, sg_iload_1, sg_iret0, nLg_n, nLg_i, nLg_r, tc_c, tc_l, tc_r, tc_m, tc_n, tc_o, tc_0, inR, true_and, and_true, ne_eq, not_true_eq_false, not_false_eq_true, true_imp_iff, false_imp_iff, Int.toNat_natCast, lit_a, Nat.reduceAdd, or_true, true_or, or_false, false_or, Int.reduceEq, Int.reduceNe, Int.reduceLT, Int.reduceLE, Int.reduceNeg, sg_nil]))
      all_goals (try omega)
      all_goals exact hq
    | succ k ih =>
      intro i hi μ1 o4 f1
      have R1 : RC z μ1 1 := RC_f (by omega) (fun k _ _ => f1 k (by omega)) hR
      have e3 : μ1 1 11 = (n : Int) := R1.1.2.2.2.trans hn
      refine wp_go b67_8 ?_; simp only [l67_8, sg_iload_3, sg_aload_0, sg_getfp, sg_getf0, sg_ic_ge, sg_iv2_r, len4_0, len4_1, len4_2, len4_3, len4_4, nLg_n, nLg_i, nLg_r, tc_c, tc_l, tc_r, tc_m, tc_n, tc_o, tc_0, inR, true_and, and_true, ne_eq, not_true_eq_false, not_false_eq_true, true_imp_iff, false_imp_iff, Int.toNat_natCast, lit_a, Nat.reduceAdd, or_true, true_or, or_false, false_or, Int.reduceEq, Int.reduceNe, Int.reduceLT, Int.reduceLE, Int.reduceNeg, sg_nil, s1p, x0, x1, x2, x3, x4, x5, x6, x7, x8, x9, x10, x11, x12, x13, x56, x57, x388, x389, x390, x391, x392, x393, x394, x395, x396, x397, x398, x399, e3]
      repeat' (first | with_reducible apply And.intro | intro _)
      all_goals (try omega)
      refine k_NS_hearingOf hz R1 (by omega) (fun μ2 h f2 h2 hH _ _ => ?_)
      have nn := nw_eq hz (show (i : Int) < z 3 by omega)
      refine wp_go b67_24 ?_; simp only [l67_24, sg_iv1_i, len4_0, len4_1, len4_2, len4_3, len4_4, nLg_n, nLg_i, nLg_r, tc_c, tc_l, tc_r, tc_m, tc_n, tc_o, tc_0, inR, true_and, and_true, ne_eq, not_true_eq_false, not_false_eq_true, true_imp_iff, false_imp_iff, Int.toNat_natCast, lit_a, Nat.reduceAdd, or_true, true_or, or_false, false_or, Int.reduceEq, Int.reduceNe, Int.reduceLT, Int.reduceLE, Int.reduceNeg, sg_nil, hH.1]
      refine k_Hea_total hH h2 (by omega) nn.1 ?_
      have b := bt_b (wO_W hz (show (i : Int) < z 3 by omega)) (p := nw z i) (by omega)
      have b2 := lng_b hz i (by omega)
      have ih1 := ih (i + 1) (by omega) μ2 (some (.inl (tot z i))) (fun k hk => (f2 k hk).trans (f1 k hk))
      have et : bt (wO z i) (nw z i) = tot z i := rfl
      rw [et] at b ⊢
      unfold lng at ih1
      by_cases hlt : (lng z i).2 < tot z i
      · rw [if_pos hlt] at ih1
        refine wp_go b67_27 ?_; simp only [l67_27, sg_istore, okS_4, stL_4, sg_iload, ldI_4, sg_iload_2, sg_ic_le, sg_iload_3, sg_istore_1, sg_istore_2, nLg_n, nLg_i, nLg_r, tc_c, tc_l, tc_r, tc_m, tc_n, tc_o, tc_0, inR, true_and, and_true, ne_eq, not_true_eq_false, not_false_eq_true, true_imp_iff, false_imp_iff, Int.toNat_natCast, lit_a, Nat.reduceAdd, or_true, true_or, or_false, false_or, Int.reduceEq, Int.reduceNe, Int.reduceLT, Int.reduceLE, Int.reduceNeg, sg_nil]
        repeat' (first | with_reducible apply And.intro | (intro _) | ((first | refine wp_go b67_0 ?_ | refine wp_go b67_24 ?_ | refine wp_go b67_27 ?_ | refine wp_go b67_40 ?_ | refine wp_go b67_46 ?_); simp only [l67_0, l67_24, l67_27, l67_40, l67_46, sg_bipush, sg_istore_1, sg_istore_2, sg_iconst, sg_istore_3, sg_iv1_i, len4_0, len4_1, len4_2, len4_3, len4_4, sg_istore, okS_4, stL_4, sg_iload, ldI_4, sg_iload_2, sg_ic_le, sg_iload_3, sg_iinc, ldI_3, okS_3, stL_3, sg_goto, sg_iload_1, sg_iret0, nLg_n, nLg_i, nLg_r, tc_c, tc_l, tc_r, tc_m, tc_n, tc_o, tc_0, inR, true_and, and_true, ne_eq, not_true_eq_false, not_false_eq_true, true_imp_iff, false_imp_iff, Int.toNat_natCast, lit_a, Nat.reduceAdd, or_true, true_or, or_false, false_or, Int.reduceEq, Int.reduceNe, Int.reduceLT, Int.reduceLE, Int.reduceNeg, sg_nil]))
        all_goals (try omega)
        all_goals exact ih1
      · rw [if_neg hlt] at ih1
        refine wp_go b67_27 ?_; simp only [l67_27, sg_istore, okS_4, stL_4, sg_iload, ldI_4, sg_iload_2, sg_ic_le, sg_iload_3, sg_istore_1, sg_istore_2, nLg_n, nLg_i, nLg_r, tc_c, tc_l, tc_r, tc_m, tc_n, tc_o, tc_0, inR, true_and, and_true, ne_eq, not_true_eq_false, not_false_eq_true, true_imp_iff, false_imp_iff, Int.toNat_natCast, lit_a, Nat.reduceAdd, or_true, true_or, or_false, false_or, Int.reduceEq, Int.reduceNe, Int.reduceLT, Int.reduceLE, Int.reduceNeg, sg_nil]
        repeat' (first | with_reducible apply And.intro | (intro _) | ((first | refine wp_go b67_0 ?_ | refine wp_go b67_24 ?_ | refine wp_go b67_27 ?_ | refine wp_go b67_40 ?_ | refine wp_go b67_46 ?_); simp only [l67_0, l67_24, l67_27, l67_40, l67_46, sg_bipush, sg_istore_1, sg_istore_2, sg_iconst, sg_istore_3, sg_iv1_i, len4_0, len4_1, len4_2, len4_3, len4_4, sg_istore, okS_4, stL_4, sg_iload, ldI_4, sg_iload_2, sg_ic_le, sg_iload_3, sg_iinc, ldI_3, okS_3, stL_3, sg_goto, sg_iload_1, sg_iret0, nLg_n, nLg_i, nLg_r, tc_c, tc_l, tc_r, tc_m, tc_n, tc_o, tc_0, inR, true_and, and_true, ne_eq, not_true_eq_false, not_false_eq_true, true_imp_iff, false_imp_iff, Int.toNat_natCast, lit_a, Nat.reduceAdd, or_true, true_or, or_false, false_or, Int.reduceEq, Int.reduceNe, Int.reduceLT, Int.reduceLE, Int.reduceNeg, sg_nil]))
        all_goals (try omega)
        all_goals exact ih1
  refine wp_go b67_0 ?_; simp only [l67_0, sg_bipush, sg_istore_1, sg_istore_2, sg_iconst, sg_istore_3, nLg_n, nLg_i, nLg_r, tc_c, tc_l, tc_r, tc_m, tc_n, tc_o, tc_0, inR, true_and, and_true, ne_eq, not_true_eq_false, not_false_eq_true, true_imp_iff, false_imp_iff, Int.toNat_natCast, lit_a, Nat.reduceAdd, or_true, true_or, or_false, false_or, Int.reduceEq, Int.reduceNe, Int.reduceLT, Int.reduceLE, Int.reduceNeg, sg_nil]
  exact loop n 0 (by omega) μ none (fun _ _ => rfl)
def secs (z : Rw) (n l : Nat) : Int := (rn z (z (212 + 3 * l)) (z (213 + 3 * l)) n).2
def hrs (z : Rw) (n : Nat) (t : Int) (l : Nat) : Int := bit (rn z (z (212 + 3 * l)) (z (213 + 3 * l)) n).1 t
-- NS.countHearers: blocks [0, 4, 29, 49]
theorem k_NS_countHearers {d n m : Nat} {Q : QT} {μ : Mem} {t : Int} {z : Rw} (hz : IZ z) (hR : RC z μ 1) (hn : z 3 = (n : Int)) (hm : z 0 = (m : Int))
    (hq : ∀ μ' : Mem, (∀ k, k ≠ 392 → μ' k = μ k) → Q (.inl (sm (hrs z m t) n)) μ') : Call σ1 (d + 4) 69 [.inr (.inr 0), .inl t] μ Q := by
  refine e_69 ?_
  have q := hz.1
  have loop : ∀ k i : Nat, i + k = n → ∀ μ1 : Mem, (∀ k, k ≠ 392 → μ1 k = μ k) → wp σ1 (Call σ1 (d + 3)) 69 Q 4 [some (.inr (.inr 0)), some (.inl t), some (.inl (sm (hrs z m t) i)), some (.inl (i : Int))] [] μ1 := by
    intro k
    induction k with
    | zero =>
      intro i hi μ1 f1
      have him : i = n := by omega
      subst him
      have hq := hq μ1 f1
      have R1 : RC z μ1 1 := RC_f (by omega) (fun k _ _ => f1 k (by omega)) hR
      have e3 : μ1 1 11 = (i : Int) := R1.1.2.2.2.trans hn
      refine wp_go b69_4 ?_; simp only [l69_4, sg_iload_3, sg_aload_0, sg_getfp, sg_getf0, sg_ic_ge, sg_iaload, sg_iv3_v, len4_0, len4_1, len4_2, len4_3, len4_4, nLg_n, nLg_i, nLg_r, tc_c, tc_l, tc_r, tc_m, tc_n, tc_o, tc_0, inR, true_and, and_true, ne_eq, not_true_eq_false, not_false_eq_true, true_imp_iff, false_imp_iff, Int.toNat_natCast, lit_a, Nat.reduceAdd, or_true, true_or, or_false, false_or, Int.reduceEq, Int.reduceNe, Int.reduceLT, Int.reduceLE, Int.reduceNeg, sg_nil, s1p, x0, x1, x2, x3, x4, x5, x6, x7, x8, x9, x10, x11, x12, x13, x56, x57, x388, x389, x390, x391, x392, x393, x394, x395, x396, x397, x398, x399, e3]
      repeat' (first | with_reducible apply And.intro | (intro _) | ((first | refine wp_go b69_0 ?_ | refine wp_go b69_29 ?_ | refine wp_go b69_49 ?_); simp only [l69_0, l69_29, l69_49, sg_iconst, sg_istore_2, sg_istore_3, sg_iload_2, sg_aload_0, sg_getfp, sg_getf0, sg_iload_1, sg_ishr, sg_iand, sg_iadd, sg_iinc, ldI_3, okS_3, stL_3, sg_goto, sg_iret0, nLg_n, nLg_i, nLg_r, tc_c, tc_l, tc_r, tc_m, tc_n, tc_o, tc_0, inR, true_and, and_true, ne_eq, not_true_eq_false, not_false_eq_true, true_imp_iff, false_imp_iff, Int.toNat_natCast, lit_a, Nat.reduceAdd, or_true, true_or, or_false, false_or, Int.reduceEq, Int.reduceNe, Int.reduceLT, Int.reduceLE, Int.reduceNeg, sg_nil]))
      all_goals (try omega)
      all_goals exact hq
    | succ k ih =>
      intro i hi μ1 f1
      have R1 : RC z μ1 1 := RC_f (by omega) (fun k _ _ => f1 k (by omega)) hR
      have e3 : μ1 1 11 = (n : Int) := R1.1.2.2.2.trans hn
      obtain ⟨e10, e11, -, -⟩ := R1.2.2.2 i (by omega)
      have e11 : μ1 11 i = z (213 + 3 * i) := e11
      refine wp_go b69_4 ?_; simp only [l69_4, sg_iload_3, sg_aload_0, sg_getfp, sg_getf0, sg_ic_ge, sg_iaload, sg_iv3_v, len4_0, len4_1, len4_2, len4_3, len4_4, nLg_n, nLg_i, nLg_r, tc_c, tc_l, tc_r, tc_m, tc_n, tc_o, tc_0, inR, true_and, and_true, ne_eq, not_true_eq_false, not_false_eq_true, true_imp_iff, false_imp_iff, Int.toNat_natCast, lit_a, Nat.reduceAdd, or_true, true_or, or_false, false_or, Int.reduceEq, Int.reduceNe, Int.reduceLT, Int.reduceLE, Int.reduceNeg, sg_nil, s1p, x0, x1, x2, x3, x4, x5, x6, x7, x8, x9, x10, x11, x12, x13, x56, x57, x388, x389, x390, x391, x392, x393, x394, x395, x396, x397, x398, x399, e3, e11]
      repeat' (first | with_reducible apply And.intro | intro _)
      all_goals (try omega)
      refine k_NS_chooseAll hz R1.r0 R1.1.1 hm (by omega) e10 (hz.2.2.2.2 i (by omega)).2.1 (fun μ2 nb f2 c2 c3 c4 c5 _ _ _ => ?_)
      have ih1 := ih (i + 1) (by omega) μ2 (fun k hk => (f2 k hk).trans (f1 k hk))
      rw [sm_s] at ih1
      unfold hrs bit at ih1
      refine wp_go b69_29 ?_; simp only [l69_29, sg_iload_2, sg_aload_0, sg_getfp, sg_getf0, sg_iload_1, sg_ishr, sg_iconst, sg_iand, sg_iadd, sg_istore_2, sg_iinc, ldI_3, okS_3, stL_3, sg_goto, nLg_n, nLg_i, nLg_r, tc_c, tc_l, tc_r, tc_m, tc_n, tc_o, tc_0, inR, true_and, and_true, ne_eq, not_true_eq_false, not_false_eq_true, true_imp_iff, false_imp_iff, Int.toNat_natCast, lit_a, Nat.reduceAdd, or_true, true_or, or_false, false_or, Int.reduceEq, Int.reduceNe, Int.reduceLT, Int.reduceLE, Int.reduceNeg, sg_nil, s1p, x0, x1, x2, x3, x4, x5, x6, x7, x8, x9, x10, x11, x12, x13, x56, x57, x388, x389, x390, x391, x392, x393, x394, x395, x396, x397, x398, x399, c3]
      repeat' (first | with_reducible apply And.intro | (intro _) | ((first | refine wp_go b69_0 ?_ | refine wp_go b69_29 ?_ | refine wp_go b69_49 ?_); simp only [l69_0, l69_29, l69_49, sg_iconst, sg_istore_2, sg_istore_3, sg_iload_2, sg_aload_0, sg_getfp, sg_getf0, sg_iload_1, sg_ishr, sg_iand, sg_iadd, sg_iinc, ldI_3, okS_3, stL_3, sg_goto, sg_iret0, nLg_n, nLg_i, nLg_r, tc_c, tc_l, tc_r, tc_m, tc_n, tc_o, tc_0, inR, true_and, and_true, ne_eq, not_true_eq_false, not_false_eq_true, true_imp_iff, false_imp_iff, Int.toNat_natCast, lit_a, Nat.reduceAdd, or_true, true_or, or_false, false_or, Int.reduceEq, Int.reduceNe, Int.reduceLT, Int.reduceLE, Int.reduceNeg, sg_nil]))
      all_goals (try omega)
      all_goals exact ih1
  refine wp_go b69_0 ?_; simp only [l69_0, sg_iconst, sg_istore_2, sg_istore_3, nLg_n, nLg_i, nLg_r, tc_c, tc_l, tc_r, tc_m, tc_n, tc_o, tc_0, inR, true_and, and_true, ne_eq, not_true_eq_false, not_false_eq_true, true_imp_iff, false_imp_iff, Int.toNat_natCast, lit_a, Nat.reduceAdd, or_true, true_or, or_false, false_or, Int.reduceEq, Int.reduceNe, Int.reduceLT, Int.reduceLE, Int.reduceNeg, sg_nil]
  exact loop n 0 (by omega) μ (fun _ _ => rfl)

