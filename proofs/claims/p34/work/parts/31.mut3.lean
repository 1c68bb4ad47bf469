/-- a new notice -/
def ntZ (z : Rw) (v g : Int) : Rw := fun x => if x = 2 then z 2 + 1 else if x = 196 + 2 * (z 2).toNat then v else if x = 197 + 2 * (z 2).toNat then g else z x
theorem IZ_nt {z : Rw} {v g : Int} (hz : IZ z) (h2 : z 2 < 8) (hv : 1 ≤ v ∧ v ≤ 120) (hg : 1 ≤ g ∧ g ≤ 63) : IZ (ntZ z v g) := by
  have q := hz.1
  obtain ⟨n, hn⟩ := nat_of (show 0 ≤ z 2 by omega)
  have bo : ∀ k, k ≠ 2 → k ≠ 196 + 2 * n → k ≠ 197 + 2 * n → ntZ z v g k = z k := fun k h h3 h4 => by unfold ntZ; rw [hn, Int.toNat_natCast, if_neg h, if_neg h3, if_neg h4]
  have e2 : ntZ z v g 2 = z 2 + 1 := rfl
  obtain ⟨h1, h2, h3, h5, h6⟩ := hz
  unfold IZ
  rw [bo 0 (by omega) (by omega) (by omega), bo 1 (by omega) (by omega) (by omega), e2, bo 3 (by omega) (by omega) (by omega), bo 6 (by omega) (by omega) (by omega)]
  refine ⟨by omega, fun i hi => ?_, h3, fun i hi => ?_, fun l hl => ?_⟩
  · rw [bo (4 + 3 * i) (by omega) (by omega) (by omega), bo (5 + 3 * i) (by omega) (by omega) (by omega), bo (6 + 3 * i) (by omega) (by omega) (by omega), bo (76 + 5 * i) (by omega) (by omega) (by omega)]
    obtain ⟨b1, b2, b3, b4, b5⟩ := h2 i hi
    refine ⟨b1, b2, b3, b4, fun j hj => ?_⟩
    rw [bo _ (by omega) (by omega) (by omega)]
    have := b5 j hj
    omega
  · by_cases h : i = n
    · subst h
      unfold ntZ
      rw [hn, Int.toNat_natCast]
      (repeat (first | rw [if_neg (by omega)] | rw [if_pos (by omega)]))
      exact ⟨hv, hg⟩
    · rw [bo (196 + 2 * i) (by omega) (by omega) (by omega), bo (197 + 2 * i) (by omega) (by omega) (by omega)]; exact h5 i (by omega)
  · rw [bo (212 + 3 * l) (by omega) (by omega) (by omega), bo (213 + 3 * l) (by omega) (by omega) (by omega), bo (214 + 3 * l) (by omega) (by omega) (by omega)]
    rw [show fw (ntZ z v g) l = fw z l from by funext x; exact bo _ (by omega) (by omega) (by omega)]; exact h6 l hl
theorem RC_nt {z : Rw} {μ μ' : Mem} {n : Nat} {v g : Int} (hz : IZ z) (hn : z 2 = (n : Int)) (h2 : z 2 < 8) (hR : RC z μ 1)
    (mo : ∀ k, k ≠ 1 → k ≠ 8 → k ≠ 9 → μ' k = μ k) (m1 : ∀ j, j ≠ 10 → μ' 1 j = μ 1 j) (m2 : μ' 1 10 = (n : Int) + 1) (m8 : ∀ j, μ' 8 j = if j = n then v else μ 8 j) (m9 : ∀ j, μ' 9 j = if j = n then g else μ 9 j) : RC (ntZ z v g) μ' 1 := by
  have q := hz.1
  have bo : ∀ k, k ≠ 2 → k ≠ 196 + 2 * n → k ≠ 197 + 2 * n → ntZ z v g k = z k := fun k h h3 h4 => by unfold ntZ; rw [hn, Int.toNat_natCast, if_neg h, if_neg h3, if_neg h4]
  have e2 : ntZ z v g 2 = z 2 + 1 := rfl
  obtain ⟨⟨c0, c1, c2, c3⟩, h2, h5, h6⟩ := hR
  unfold RC
  rw [bo 0 (by omega) (by omega) (by omega), bo 1 (by omega) (by omega) (by omega), e2, bo 3 (by omega) (by omega) (by omega)]
  refine ⟨⟨by rw [mo _ (by omega) (by omega) (by omega)]; exact c0, by rw [m1 _ (by omega)]; exact c1, by rw [m2]; omega, by rw [m1 _ (by omega)]; exact c3⟩, fun i hi => ?_, fun i hi => ?_, fun l hl => ?_⟩
  · rw [bo (4 + 3 * i) (by omega) (by omega) (by omega), bo (5 + 3 * i) (by omega) (by omega) (by omega), bo (6 + 3 * i) (by omega) (by omega) (by omega), bo (76 + 5 * i) (by omega) (by omega) (by omega), mo (1 + 2) (by omega) (by omega) (by omega), mo (1 + 3) (by omega) (by omega) (by omega), mo (1 + 4) (by omega) (by omega) (by omega), mo (1 + 5) (by omega) (by omega) (by omega), mo (1 + 6) (by omega) (by omega) (by omega)]
    obtain ⟨b1, b2, b3, b4, b5⟩ := h2 i hi
    have r := (hz.2.1 i hi).2.2.2.1
    exact ⟨b1, b2, b3, b4, fun j hj => by rw [bo _ (by omega) (by omega) (by omega)]; exact b5 j hj⟩
  · rw [show 1 + 7 = 8 from rfl, show 1 + 8 = 9 from rfl, m8, m9]
    by_cases h : i = n
    · subst h
      unfold ntZ
      rw [hn, Int.toNat_natCast]
      (repeat (first | rw [if_neg (by omega)] | rw [if_pos (by omega)]))
      exact ⟨rfl, rfl⟩
    · rw [bo (196 + 2 * i) (by omega) (by omega) (by omega), bo (197 + 2 * i) (by omega) (by omega) (by omega), if_neg h, if_neg h]; exact h5 i (by omega)
  · rw [bo (212 + 3 * l) (by omega) (by omega) (by omega), bo (213 + 3 * l) (by omega) (by omega) (by omega), bo (214 + 3 * l) (by omega) (by omega) (by omega), mo (1 + 9) (by omega) (by omega) (by omega), mo (1 + 10) (by omega) (by omega) (by omega), mo (1 + 11) (by omega) (by omega) (by omega)]
    rw [show fw (ntZ z v g) l = fw z l from by funext x; exact bo _ (by omega) (by omega) (by omega)]
    obtain ⟨b1, b2, b3, b4⟩ := h6 l hl
    exact ⟨b1, b2, b3, fun h => HR_f (fun k _ _ => mo k (by omega) (by omega) (by omega)) (b4 h)⟩
def c_notice (z : Rw) (v g : Int) : Int := if (v < 1 ∨ 120 < v) ∨ (g < 1 ∨ 63 < g) then -2 else if 8 ≤ z 2 then -4 else 0
-- NS.notice: blocks [0, 7, 17, 20, 23, 38, 49]
theorem k_NS_notice {d : Nat} {Q : QT} {μ : Mem} {v g : Int} {z : Rw} {a : Hs} (hz : IZ z) (hR : RC z μ 1) (hC : CRr a μ) (hv : inR v) (hg : inR g) (hf : c_notice z v g < 0 → Q (.inl (c_notice z v g)) μ)
    (hq : c_notice z v g = 0 → ∀ μ', MF (ntZ z v g) (hsPush a z) μ μ' → Q (.inl (z 2)) μ') : Call σ1 (d + 5) 44 [.inr (.inr 0), .inl v, .inl g] μ Q := by
  refine e_44 ?_
  have q := hz.1
  have bad2 : ((v < 1 ∨ 120 < v) ∨ (g < 1 ∨ 63 < g)) → Q (.inl (-2)) μ := fun h => by
    have ec : c_notice z v g = -2 := by unfold c_notice; rw [if_pos h]
    rw [ec] at hf
    exact hf (by omega)
  refine wp_go b44_0 ?_; simp only [l44_0, sg_iload_1, sg_iconst, sg_bipush, len4_0, len4_1, len4_2, len4_3, len4_4, sg_is3_1, nLg_n, nLg_i, nLg_r, tc_c, tc_l, tc_r, tc_m, tc_n, tc_o, tc_0, inR, true_and, and_true, ne_eq, not_true_eq_false, not_false_eq_true, true_imp_iff, false_imp_iff, Int.toNat_natCast, lit_a, Nat.reduceAdd, or_true, true_or, or_false, false_or, Int.reduceEq, Int.reduceNe, Int.reduceLT, Int.reduceLE, Int.reduceNeg, sg_nil]
  refine k_NS_isWithin hv (by unfold inR; omega) (by unfold inR; omega) (fun g1 g2 => ?_) (fun g0 => ?_)
  · refine wp_go b44_7 ?_; simp only [l44_7, sg_if_eq, sg_iload_2, sg_iconst, sg_bipush, len4_0, len4_1, len4_2, len4_3, len4_4, sg_is3_1, nLg_n, nLg_i, nLg_r, tc_c, tc_l, tc_r, tc_m, tc_n, tc_o, tc_0, inR, true_and, and_true, ne_eq, not_true_eq_false, not_false_eq_true, true_imp_iff, false_imp_iff, Int.toNat_natCast, lit_a, Nat.reduceAdd, or_true, true_or, or_false, false_or, Int.reduceEq, Int.reduceNe, Int.reduceLT, Int.reduceLE, Int.reduceNeg, sg_nil]
    repeat' (first | with_reducible apply And.intro | intro _)
    all_goals (try omega)
    refine k_NS_isWithin hg (by unfold inR; omega) (by unfold inR; omega) (fun g3 g4 => ?_) (fun g0 => ?_)
    · have e10 : μ 1 10 = z 2 := hR.1.2.2.1
      obtain ⟨n, hn⟩ := nat_of (show 0 ≤ z 2 by omega)
      refine wp_go b44_17 ?_; simp only [l44_17, sg_if_ne, nLg_n, nLg_i, nLg_r, tc_c, tc_l, tc_r, tc_m, tc_n, tc_o, tc_0, inR, true_and, and_true, ne_eq, not_true_eq_false, not_false_eq_true, true_imp_iff, false_imp_iff, Int.toNat_natCast, lit_a, Nat.reduceAdd, or_true, true_or, or_false, false_or, Int.reduceEq, Int.reduceNe, Int.reduceLT, Int.reduceLE, Int.reduceNeg, sg_nil]
      repeat' (first | with_reducible apply And.intro | intro _)
      all_goals (try omega)
      refine wp_go b44_23 ?_; simp only [l44_23, sg_aload_0, sg_getfp, sg_getf0, sg_bipush, sg_ic_lt, sg_iret0, nLg_n, nLg_i, nLg_r, tc_c, tc_l, tc_r, tc_m, tc_n, tc_o, tc_0, inR, true_and, and_true, ne_eq, not_true_eq_false, not_false_eq_true, true_imp_iff, false_imp_iff, Int.toNat_natCast, lit_a, Nat.reduceAdd, or_true, true_or, or_false, false_or, Int.reduceEq, Int.reduceNe, Int.reduceLT, Int.reduceLE, Int.reduceNeg, sg_nil, s1p, x0, x1, x2, x3, x4, x5, x6, x7, x8, x9, x10, x11, x12, x13, x56, x57, x388, x389, x390, x391, x392, x393, x394, x395, x396, x397, x398, x399, e10]
      by_cases h8 : 8 ≤ z 2
      · have ec : c_notice z v g = -4 := by unfold c_notice; rw [if_neg (by omega), if_pos h8]
        rw [ec] at hf
        have hf := hf (by omega)
        repeat' (first | with_reducible apply And.intro | intro _)
        all_goals (try omega)
      · have ec : c_notice z v g = 0 := by unfold c_notice; rw [if_neg (by omega), if_neg h8]
        have hq := hq ec
        repeat' (first | with_reducible apply And.intro | intro _)
        all_goals (try omega)
        refine wp_go b44_38 ?_; simp only [l44_38, sg_aload_0, sg_getfp, sg_iv2_v, len4_0, len4_1, len4_2, len4_3, len4_4, nLg_n, nLg_i, nLg_r, tc_c, tc_l, tc_r, tc_m, tc_n, tc_o, tc_0, inR, true_and, and_true, ne_eq, not_true_eq_false, not_false_eq_true, true_imp_iff, false_imp_iff, Int.toNat_natCast, lit_a, Nat.reduceAdd, or_true, true_or, or_false, false_or, Int.reduceEq, Int.reduceNe, Int.reduceLT, Int.reduceLE, Int.reduceNeg, sg_nil, s1p, x0, x1, x2, x3, x4, x5, x6, x7, x8, x9, x10, x11, x12, x13, x56, x57, x388, x389, x390, x391, x392, x393, x394, x395, x396, x397, x398, x399]
        refine k_His_keep hz hR hC (fun μ1 f1 C1 => ?_)
        have R1 := keep_R hz f1 hR
        have w10 : μ1 1 10 = (n : Int) := R1.1.2.2.1.trans hn
        have hq : ∀ μ', (∀ k, k ≠ 1 → k ≠ 8 → k ≠ 9 → μ' k = μ1 k) → (∀ j, j ≠ 10 → μ' 1 j = μ1 1 j) → μ' 1 10 = (n : Int) + 1 → (∀ j, μ' 8 j = if j = n then v else μ1 8 j) → (∀ j, μ' 9 j = if j = n then g else μ1 9 j) → Q (.inl (z 2)) μ' := fun μ' m0 m1 m2 m8 m9 =>
          hq μ' ⟨fun k hk => by rw [m0 k (by omega) (by omega) (by omega), f1 k (by omega)], RC_nt hz hn (by omega) R1 m0 m1 m2 m8 m9, CRr_f (fun k hk => m0 k (by omega) (by omega) (by omega)) C1⟩
        rw [hn] at hq
        refine wp_go b44_49 ?_; simp only [l44_49, sg_aload_0, sg_getfp, sg_getf0, sg_istore_3, sg_iload_3, sg_iload_1, sg_iastore, sg_iload_2, sg_dup_i, sg_dup_r, sg_iconst, sg_iadd, sg_putf0, sg_iret0, nLg_n, nLg_i, nLg_r, tc_c, tc_l, tc_r, tc_m, tc_n, tc_o, tc_0, inR, true_and, and_true, ne_eq, not_true_eq_false, not_false_eq_true, true_imp_iff, false_imp_iff, Int.toNat_natCast, lit_a, Nat.reduceAdd, or_true, true_or, or_false, false_or, Int.reduceEq, Int.reduceNe, Int.reduceLT, Int.reduceLE, Int.reduceNeg, sg_nil, s1p, x0, x1, x2, x3, x4, x5, x6, x7, x8, x9, x10, x11, x12, x13, x56, x57, x388, x389, x390, x391, x392, x393, x394, x395, x396, x397, x398, x399, w10, ms_at, false_and, and_false, if_false, if_true, and_self, Nat.reduceEqDiff, ne_a, ne_b, Nat.add_left_cancel_iff]
        repeat' (first | with_reducible apply And.intro | (intro _) | ((first | refine wp_go b44_0 ?_ | refine wp_go b44_7 ?_ | refine wp_go b44_17 ?_ | refine wp_go b44_20 ?_ | refine wp_go b44_23 ?_ | refine wp_go b44_38 ?_ | refine wp_go b44_49 ?_); simp only [l44_0, l44_7, l44_17, l44_20, l44_23, l44_38, l44_49, sg_iload_1, sg_iconst, sg_bipush, len4_0, len4_1, len4_2, len4_3, len4_4, sg_is3_1, sg_if_eq, sg_iload_2, sg_if_ne, sg_iret0, sg_aload_0, sg_getfp, sg_getf0, sg_ic_lt, sg_iv2_v, sg_istore_3, sg_iload_3, sg_iastore, sg_dup_i, sg_dup_r, sg_iadd, sg_putf0, nLg_n, nLg_i, nLg_r, tc_c, tc_l, tc_r, tc_m, tc_n, tc_o, tc_0, inR, true_and, and_true, ne_eq, not_true_eq_false, not_false_eq_true, true_imp_iff, false_imp_iff, Int.toNat_natCast, lit_a, Nat.reduceAdd, or_true, true_or, or_false, false_or, Int.reduceEq, Int.reduceNe, Int.reduceLT, Int.reduceLE, Int.reduceNeg, sg_nil]))
        all_goals (try omega)
        all_goals
          refine hq _ (fun k h1 h2 h3 => ?_) (fun j hj => ?_) ?_ (fun j => ?_) (fun j => ?_)
          · funext j; simp only [ms_at]; (repeat (first | rw [if_neg (by omega)] | rw [if_pos (by omega)]))
          · simp only [ms_at, true_and, and_true, if_true, Nat.reduceEqDiff, if_false, false_and]; (repeat (first | rw [if_neg (by omega)] | rw [if_pos (by omega)]))
          · simp [ms_at, w10]
          · simp [ms_at]
          · simp [ms_at]
    · have hf := bad2 (by omega)
      refine wp_go b44_17 ?_; simp only [l44_17, sg_if_ne, nLg_n, nLg_i, nLg_r, tc_c, tc_l, tc_r, tc_m, tc_n, tc_o, tc_0, inR, true_and, and_true, ne_eq, not_true_eq_false, not_false_eq_true, true_imp_iff, false_imp_iff, Int.toNat_natCast, lit_a, Nat.reduceAdd, or_true, true_or, or_false, false_or, Int.reduceEq, Int.reduceNe, Int.reduceLT, Int.reduceLE, Int.reduceNeg, sg_nil]
      repeat' (first | with_reducible apply And.intro | (intro _) | ((first | refine wp_go b44_0 ?_ | refine wp_go b44_7 ?_ | refine wp_go b44_17 ?_ | refine wp_go b44_20 ?_ | refine wp_go b44_23 ?_ | refine wp_go b44_38 ?_ | refine wp_go b44_49 ?_); simp only [l44_0, l44_7, l44_17, l44_20, l44_23, l44_38, l44_49, sg_iload_1, sg_iconst, sg_bipush, len4_0, len4_1, len4_2, len4_3, len4_4, sg_is3_1, sg_if_eq, sg_iload_2, sg_if_ne, sg_iret0, sg_aload_0, sg_getfp, sg_getf0, sg_ic_lt, sg_iv2_v, sg_istore_3, sg_iload_3, sg_iastore, sg_dup_i, sg_dup_r, sg_iadd, sg_putf0, nLg_n, nLg_i, nLg_r, tc_c, tc_l, tc_r, tc_m, tc_n, tc_o, tc_0, inR, true_and, and_true, ne_eq, not_true_eq_false, not_false_eq_true, true_imp_iff, false_imp_iff, Int.toNat_natCast, lit_a, Nat.reduceAdd, or_true, true_or, or_false, false_or, Int.reduceEq, Int.reduceNe, Int.reduceLT, Int.reduceLE, Int.reduceNeg, sg_nil]))
      all_goals (try omega)
      all_goals exact hf
  · have hf := bad2 (by omega)
    refine wp_go b44_7 ?_; simp only [l44_7, sg_if_eq, sg_iload_2, sg_iconst, sg_bipush, len4_0, len4_1, len4_2, len4_3, len4_4, sg_is3_1, nLg_n, nLg_i, nLg_r, tc_c, tc_l, tc_r, tc_m, tc_n, tc_o, tc_0, inR, true_and, and_true, ne_eq, not_true_eq_false, not_false_eq_true, true_imp_iff, false_imp_iff, Int.toNat_natCast, lit_a, Nat.reduceAdd, or_true, true_or, or_false, false_or, Int.reduceEq, Int.reduceNe, Int.reduceLT, Int.reduceLE, Int.reduceNeg, sg_nil]
    repeat' (first | with_reducible apply And.intro | (intro _) | ((first | refine wp_go b44_0 ?_ | refine wp_go b44_7 ?_ | refine wp_go b44_17 ?_ | refine wp_go b44_20 ?_ | refine wp_go b44_23 ?_ | refine wp_go b44_38 ?_ | refine wp_go b44_49 ?_); simp only [l44_0, l44_7, l44_17, l44_20, l44_23, l44_38, l44_49, sg_iload_1, sg_iconst, sg_bipush, len4_0, len4_1, len4_2, len4_3, len4_4, sg_is3_1, sg_if_eq, sg_iload_2, sg_if_ne, sg_iret0, sg_aload_0, sg_getfp, sg_getf0, sg_ic_lt, sg_iv2_v, sg_istore_3, sg_iload_3, sg_iastore, sg_dup_i, sg_dup_r, sg_iadd, sg_putf0, nLg_n, nLg_i, nLg_r, tc_c, tc_l, tc_r, tc_m, tc_n, tc_o, tc_0, inR, true_and, and_true, ne_eq, not_true_eq_false, not_false_eq_true, true_imp_iff, false_imp_iff, Int.toNat_natCast, lit_a, Nat.reduceAdd, or_true, true_or, or_false, false_or, Int.reduceEq, Int.reduceNe, Int.reduceLT, Int.reduceLE, Int.reduceNeg, sg_nil]))
    all_goals (try omega)
    all_goals exact hf
def c_book (z : Rw) (s t : Int) : Int := if (s < 0 ∨ z 0 ≤ s) ∨ (t < 0 ∨ z 2 ≤ t) then -1 else if 4 ≤ z (76 + 5 * s.toNat) then -4 else 0
-- NS.book: blocks [0, 8, 19, 22, 24, 32, 38, 49, 58]
theorem k_NS_book {d : Nat} {Q : QT} {μ : Mem} {s t : Int} {z : Rw} {a : Hs} (hz : IZ z) (hR : RC z μ 1) (hC : CRr a μ) (hs : inR s) (ht : inR t) (hf : c_book z s t < 0 → Q (.inl (c_book z s t)) μ)
    (hq : c_book z s t = 0 → ∀ μ', MF (bookZ z s.toNat t) (hsPush a z) μ μ' → Q (.inl (z (76 + 5 * s.toNat) + 1)) μ') : Call σ1 (d + 5) 45 [.inr (.inr 0), .inl s, .inl t] μ Q := by
  refine e_45 ?_
  have q := hz.1
  have bad1 : ((s < 0 ∨ z 0 ≤ s) ∨ (t < 0 ∨ z 2 ≤ t)) → Q (.inl (-1)) μ := fun h => by
    have ec : c_book z s t = -1 := by unfold c_book; rw [if_pos h]
    rw [ec] at hf
    exact hf (by omega)
  refine wp_go b45_0 ?_; simp only [l45_0, sg_aload_0, sg_getfp, sg_iload_1, sg_iv2_i, len4_0, len4_1, len4_2, len4_3, len4_4, nLg_n, nLg_i, nLg_r, tc_c, tc_l, tc_r, tc_m, tc_n, tc_o, tc_0, inR, true_and, and_true, ne_eq, not_true_eq_false, not_false_eq_true, true_imp_iff, false_imp_iff, Int.toNat_natCast, lit_a, Nat.reduceAdd, or_true, true_or, or_false, false_or, Int.reduceEq, Int.reduceNe, Int.reduceLT, Int.reduceLE, Int.reduceNeg, sg_nil, s1p, x0, x1, x2, x3, x4, x5, x6, x7, x8, x9, x10, x11, x12, x13, x56, x57, x388, x389, x390, x391, x392, x393, x394, x395, x396, x397, x398, x399]
  refine k_Sta_hasSentence st1 hR hz hs (fun h1 h2 => ?_) (fun h0 => ?_)
  · obtain ⟨n, rfl⟩ := nat_of h1
    refine wp_go b45_8 ?_; simp only [l45_8, sg_if_eq, sg_aload_0, sg_getfp, sg_iload_2, sg_iv2_i, len4_0, len4_1, len4_2, len4_3, len4_4, nLg_n, nLg_i, nLg_r, tc_c, tc_l, tc_r, tc_m, tc_n, tc_o, tc_0, inR, true_and, and_true, ne_eq, not_true_eq_false, not_false_eq_true, true_imp_iff, false_imp_iff, Int.toNat_natCast, lit_a, Nat.reduceAdd, or_true, true_or, or_false, false_or, Int.reduceEq, Int.reduceNe, Int.reduceLT, Int.reduceLE, Int.reduceNeg, sg_nil, s1p, x0, x1, x2, x3, x4, x5, x6, x7, x8, x9, x10, x11, x12, x13, x56, x57, x388, x389, x390, x391, x392, x393, x394, x395, x396, x397, x398, x399]
    repeat' (first | with_reducible apply And.intro | intro _)
    all_goals (try omega)
    refine k_Sta_hasNotice st1 hR hz ht (fun h3 h4 => ?_) (fun h0 => ?_)
    · refine wp_go b45_19 ?_; simp only [l45_19, sg_if_ne, nLg_n, nLg_i, nLg_r, tc_c, tc_l, tc_r, tc_m, tc_n, tc_o, tc_0, inR, true_and, and_true, ne_eq, not_true_eq_false, not_false_eq_true, true_imp_iff, false_imp_iff, Int.toNat_natCast, lit_a, Nat.reduceAdd, or_true, true_or, or_false, false_or, Int.reduceEq, Int.reduceNe, Int.reduceLT, Int.reduceLE, Int.reduceNeg, sg_nil, s1p, x0, x1, x2, x3, x4, x5, x6, x7, x8, x9, x10, x11, x12, x13, x56, x57, x388, x389, x390, x391, x392, x393, x394, x395, x396, x397, x398, x399]
      repeat' (first | with_reducible apply And.intro | intro _)
      all_goals (try omega)
      refine wp_go b45_24 ?_; simp only [l45_24, sg_aload_0, sg_getfp, sg_iload_1, sg_iv2_i, len4_0, len4_1, len4_2, len4_3, len4_4, nLg_n, nLg_i, nLg_r, tc_c, tc_l, tc_r, tc_m, tc_n, tc_o, tc_0, inR, true_and, and_true, ne_eq, not_true_eq_false, not_false_eq_true, true_imp_iff, false_imp_iff, Int.toNat_natCast, lit_a, Nat.reduceAdd, or_true, true_or, or_false, false_or, Int.reduceEq, Int.reduceNe, Int.reduceLT, Int.reduceLE, Int.reduceNeg, sg_nil, s1p, x0, x1, x2, x3, x4, x5, x6, x7, x8, x9, x10, x11, x12, x13, x56, x57, x388, x389, x390, x391, x392, x393, x394, x395, x396, x397, x398, x399]
      refine k_Sta_isRowFull st1 hR hz h2 (fun h5 => ?_) (fun h5 => ?_)
      · have ec : c_book z n t = -4 := by unfold c_book; rw [if_neg (by omega), Int.toNat_natCast, if_pos h5]
        rw [ec] at hf
        have hf := hf (by omega)
        refine wp_go b45_32 ?_; simp only [l45_32, sg_if_eq, sg_bipush, sg_iret0, nLg_n, nLg_i, nLg_r, tc_c, tc_l, tc_r, tc_m, tc_n, tc_o, tc_0, inR, true_and, and_true, ne_eq, not_true_eq_false, not_false_eq_true, true_imp_iff, false_imp_iff, Int.toNat_natCast, lit_a, Nat.reduceAdd, or_true, true_or, or_false, false_or, Int.reduceEq, Int.reduceNe, Int.reduceLT, Int.reduceLE, Int.reduceNeg, sg_nil]
        repeat' (first | with_reducible apply And.intro | (intro _) | ((first | refine wp_go b45_0 ?_ | refine wp_go b45_8 ?_ | refine wp_go b45_19 ?_ | refine wp_go b45_22 ?_ | refine wp_go b45_24 ?_ | refine wp_go b45_32 ?_ | refine wp_go b45_38 ?_ | refine wp_go b45_49 ?_ | refine wp_go b45_58 ?_); simp only [l45_0, l45_8, l45_19, l45_22, l45_24, l45_32, l45_38, l45_49, l45_58, sg_aload_0, sg_getfp, sg_iload_1, sg_iv2_i, len4_0, len4_1, len4_2, len4_3, len4_4, sg_if_eq, sg_iload_2, sg_if_ne, sg_iconst, sg_iret0, sg_bipush, sg_iv2_v, sg_iv3_v, sg_iaload, nLg_n, nLg_i, nLg_r, tc_c, tc_l, tc_r, tc_m, tc_n, tc_o, tc_0, inR, true_and, and_true, ne_eq, not_true_eq_false, not_false_eq_true, true_imp_iff, false_imp_iff, Int.toNat_natCast, lit_a, Nat.reduceAdd, or_true, true_or, or_false, false_or, Int.reduceEq, Int.reduceNe, Int.reduceLT, Int.reduceLE, Int.reduceNeg, sg_nil]))
        all_goals (try omega)
        all_goals exact hf
      · have ec : c_book z n t = 0 := by unfold c_book; rw [if_neg (by omega), Int.toNat_natCast, if_neg (by omega)]
        have hq := hq ec
        rw [Int.toNat_natCast] at hq
        refine wp_go b45_32 ?_; simp only [l45_32, sg_if_eq, sg_bipush, sg_iret0, nLg_n, nLg_i, nLg_r, tc_c, tc_l, tc_r, tc_m, tc_n, tc_o, tc_0, inR, true_and, and_true, ne_eq, not_true_eq_false, not_false_eq_true, true_imp_iff, false_imp_iff, Int.toNat_natCast, lit_a, Nat.reduceAdd, or_true, true_or, or_false, false_or, Int.reduceEq, Int.reduceNe, Int.reduceLT, Int.reduceLE, Int.reduceNeg, sg_nil]
        repeat' (first | with_reducible apply And.intro | intro _)
        all_goals (try omega)
        refine wp_go b45_38 ?_; simp only [l45_38, sg_aload_0, sg_getfp, sg_iv2_v, len4_0, len4_1, len4_2, len4_3, len4_4, nLg_n, nLg_i, nLg_r, tc_c, tc_l, tc_r, tc_m, tc_n, tc_o, tc_0, inR, true_and, and_true, ne_eq, not_true_eq_false, not_false_eq_true, true_imp_iff, false_imp_iff, Int.toNat_natCast, lit_a, Nat.reduceAdd, or_true, true_or, or_false, false_or, Int.reduceEq, Int.reduceNe, Int.reduceLT, Int.reduceLE, Int.reduceNeg, sg_nil, s1p, x0, x1, x2, x3, x4, x5, x6, x7, x8, x9, x10, x11, x12, x13, x56, x57, x388, x389, x390, x391, x392, x393, x394, x395, x396, x397, x398, x399]
        refine k_His_keep hz hR hC (fun μ1 f1 C1 => ?_)
        have R1 := keep_R hz f1 hR
        refine wp_go b45_49 ?_; simp only [l45_49, sg_aload_0, sg_getfp, sg_iload_1, sg_iload_2, sg_iv3_v, len4_0, len4_1, len4_2, len4_3, len4_4, nLg_n, nLg_i, nLg_r, tc_c, tc_l, tc_r, tc_m, tc_n, tc_o, tc_0, inR, true_and, and_true, ne_eq, not_true_eq_false, not_false_eq_true, true_imp_iff, false_imp_iff, Int.toNat_natCast, lit_a, Nat.reduceAdd, or_true, true_or, or_false, false_or, Int.reduceEq, Int.reduceNe, Int.reduceLT, Int.reduceLE, Int.reduceNeg, sg_nil, s1p, x0, x1, x2, x3, x4, x5, x6, x7, x8, x9, x10, x11, x12, x13, x56, x57, x388, x389, x390, x391, x392, x393, x394, x395, x396, x397, x398, x399]
        refine k_Sta_appendToRow st1 R1 hz h2 h5 (fun μ2 f2 R2 => ?_)
        have b0 : bookZ z n t 0 = z 0 := bookZ_o z n 0 t (by omega) (by have := (hz.2.1 n h2).2.2.2.1; omega)
        have e : μ2 6 n = z (76 + 5 * n) + 1 := ((R2.2.1 n (by omega)).2.2.2.1).trans (bookZ_s z n t)
        have hq := hq μ2 ⟨fun k hk => by rw [f2 k (by omega) (by omega), f1 k (by omega)], R2, CRr_f (fun k hk => f2 k (by omega) (by omega)) C1⟩
        refine wp_go b45_58 ?_; simp only [l45_58, sg_aload_0, sg_getfp, sg_iload_1, sg_iaload, sg_iret0, nLg_n, nLg_i, nLg_r, tc_c, tc_l, tc_r, tc_m, tc_n, tc_o, tc_0, inR, true_and, and_true, ne_eq, not_true_eq_false, not_false_eq_true, true_imp_iff, false_imp_iff, Int.toNat_natCast, lit_a, Nat.reduceAdd, or_true, true_or, or_false, false_or, Int.reduceEq, Int.reduceNe, Int.reduceLT, Int.reduceLE, Int.reduceNeg, sg_nil, s1p, x0, x1, x2, x3, x4, x5, x6, x7, x8, x9, x10, x11, x12, x13, x56, x57, x388, x389, x390, x391, x392, x393, x394, x395, x396, x397, x398, x399, e]
        repeat' (first | with_reducible apply And.intro | (intro _) | ((first | refine wp_go b45_0 ?_ | refine wp_go b45_8 ?_ | refine wp_go b45_19 ?_ | refine wp_go b45_22 ?_ | refine wp_go b45_24 ?_ | refine wp_go b45_32 ?_ | refine wp_go b45_38 ?_ | refine wp_go b45_49 ?_ | refine wp_go b45_58 ?_); simp only [l45_0, l45_8, l45_19, l45_22, l45_24, l45_32, l45_38, l45_49, l45_58, sg_aload_0, sg_getfp, sg_iload_1, sg_iv2_i, len4_0, len4_1, len4_2, len4_3, len4_4, sg_if_eq, sg_iload_2, sg_if_ne, sg_iconst, sg_iret0, sg_bipush, sg_iv2_v, sg_iv3_v, sg_iaload, nLg_n, nLg_i, nLg_r, tc_c, tc_l, tc_r, tc_m, tc_n, tc_o, tc_0, inR, true_and, and_true, ne_eq, not_true_eq_false, not_false_eq_true, true_imp_iff, false_imp_iff, Int.toNat_natCast, lit_a, Nat.reduceAdd, or_true, true_or, or_false, false_or, Int.reduceEq, Int.reduceNe, Int.reduceLT, Int.reduceLE, Int.reduceNeg, sg_nil]))
        all_goals (try omega)
        all_goals exact hq
    · have hf := bad1 (by omega)
      refine wp_go b45_19 ?_; simp only [l45_19, sg_if_ne, nLg_n, nLg_i, nLg_r, tc_c, tc_l, tc_r, tc_m, tc_n, tc_o, tc_0, inR, true_and, and_true, ne_eq, not_true_eq_false, not_false_eq_true, true_imp_iff, false_imp_iff, Int.toNat_natCast, lit_a, Nat.reduceAdd, or_true, true_or, or_false, false_or, Int.reduceEq, Int.reduceNe, Int.reduceLT, Int.reduceLE, Int.reduceNeg, sg_nil]
      repeat' (first | with_reducible apply And.intro | (intro _) | ((first | refine wp_go b45_0 ?_ | refine wp_go b45_8 ?_ | refine wp_go b45_19 ?_ | refine wp_go b45_22 ?_ | refine wp_go b45_24 ?_ | refine wp_go b45_32 ?_ | refine wp_go b45_38 ?_ | refine wp_go b45_49 ?_ | refine wp_go b45_58 ?_); simp only [l45_0, l45_8, l45_19, l45_22, l45_24, l45_32, l45_38, l45_49, l45_58, sg_aload_0, sg_getfp, sg_iload_1, sg_iv2_i, len4_0, len4_1, len4_2, len4_3, len4_4, sg_if_eq, sg_iload_2, sg_if_ne, sg_iconst, sg_iret0, sg_bipush, sg_iv2_v, sg_iv3_v, sg_iaload, nLg_n, nLg_i, nLg_r, tc_c, tc_l, tc_r, tc_m, tc_n, tc_o, tc_0, inR, true_and, and_true, ne_eq, not_true_eq_false, not_false_eq_true, true_imp_iff, false_imp_iff, Int.toNat_natCast, lit_a, Nat.reduceAdd, or_true, true_or, or_false, false_or, Int.reduceEq, Int.reduceNe, Int.reduceLT, Int.reduceLE, Int.reduceNeg, sg_nil]))
      all_goals (try omega)
      all_goals exact hf
  · have hf := bad1 (by omega)
    refine wp_go b45_8 ?_; simp only [l45_8, sg_if_eq, sg_aload_0, sg_getfp, sg_iload_2, sg_iv2_i, len4_0, len4_1, len4_2, len4_3, len4_4, nLg_n, nLg_i, nLg_r, tc_c, tc_l, tc_r, tc_m, tc_n, tc_o, tc_0, inR, true_and, and_true, ne_eq, not_true_eq_false, not_false_eq_true, true_imp_iff, false_imp_iff, Int.toNat_natCast, lit_a, Nat.reduceAdd, or_true, true_or, or_false, false_or, Int.reduceEq, Int.reduceNe, Int.reduceLT, Int.reduceLE, Int.reduceNeg, sg_nil]
    repeat' (first | with_reducible apply And.intro | (intro _) | ((first | refine wp_go b45_0 ?_ | refine wp_go b45_8 ?_ | refine wp_go b45_19 ?_ | refine wp_go b45_22 ?_ | refine wp_go b45_24 ?_ | refine wp_go b45_32 ?_ | refine wp_go b45_38 ?_ | refine wp_go b45_49 ?_ | refine wp_go b45_58 ?_); simp only [l45_0, l45_8, l45_19, l45_22, l45_24, l45_32, l45_38, l45_49, l45_58, sg_aload_0, sg_getfp, sg_iload_1, sg_iv2_i, len4_0, len4_1, len4_2, len4_3, len4_4, sg_if_eq, sg_iload_2, sg_if_ne, sg_iconst, sg_iret0, sg_bipush, sg_iv2_v, sg_iv3_v, sg_iaload, nLg_n, nLg_i, nLg_r, tc_c, tc_l, tc_r, tc_m, tc_n, tc_o, tc_0, inR, true_and, and_true, ne_eq, not_true_eq_false, not_false_eq_true, true_imp_iff, false_imp_iff, Int.toNat_natCast, lit_a, Nat.reduceAdd, or_true, true_or, or_false, false_or, Int.reduceEq, Int.reduceNe, Int.reduceLT, Int.reduceLE, Int.reduceNeg, sg_nil, s1p, x0, x1, x2, x3, x4, x5, x6, x7, x8, x9, x10, x11, x12, x13, x56, x57, x388, x389, x390, x391, x392, x393, x394, x395, x396, x397, x398, x399]))
    all_goals (try omega)
    all_goals exact hf

