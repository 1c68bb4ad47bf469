/-- a sentence with its break, of two states -/
def SE (w : Rw) (i' : Nat) (z : Rw) (i : Nat) : Prop := w (4 + 3 * i') = z (4 + 3 * i) ∧ w (5 + 3 * i') = z (5 + 3 * i) ∧ w (6 + 3 * i') = z (6 + 3 * i) ∧ w (76 + 5 * i') = z (76 + 5 * i) ∧ ∀ j, j < 4 → w (77 + 5 * i' + j) = z (77 + 5 * i + j)
def insR (z w : Rw) (p n : Nat) (len : Int) : Prop := w 0 = ((n + 1 : Nat) : Int) ∧ w 1 = z 1 + 1 ∧ (∀ k, k = 2 ∨ k = 3 ∨ 196 ≤ k → w k = z k) ∧ (∀ i, i < p → SE w i z i) ∧ (∀ i, p ≤ i → i < n → SE w (i + 1) z i) ∧ w (4 + 3 * p) = z 1 ∧ w (5 + 3 * p) = len ∧ w (6 + 3 * p) = bI (p = 0) ∧ w (76 + 5 * p) = 0
theorem fw_hi {z w : Rw} (h : ∀ k, k = 2 ∨ k = 3 ∨ 196 ≤ k → w k = z k) (l : Nat) : fw w l = fw z l := by funext x; exact h _ (by omega)
theorem IZ_ins {z w : Rw} {p n : Nat} {len : Int} (hz : IZ z) (hn : z 0 = (n : Int)) (hn2 : n < 24) (hp : p ≤ n) (h1 : z 1 < 100) (hlen : 1 ≤ len ∧ len ≤ 300) (H : insR z w p n len) : IZ w := by
  obtain ⟨g0, g1, gh, ga, gb, g4, g5, g6, g7⟩ := H
  have q := hz.1
  obtain ⟨q1, q2, q3, q5, q6⟩ := hz
  unfold IZ
  rw [g0, g1, gh 2 (by omega), gh 3 (by omega)]
  have cp : ∀ i' i, i < n → SE w i' z i → ((0 ≤ w (4 + 3 * i') ∧ w (4 + 3 * i') ≤ 99) ∧ (1 ≤ w (5 + 3 * i') ∧ w (5 + 3 * i') ≤ 300) ∧ (0 ≤ w (6 + 3 * i') ∧ w (6 + 3 * i') ≤ 1) ∧ (0 ≤ w (76 + 5 * i') ∧ w (76 + 5 * i') ≤ 4) ∧ ∀ j : Nat, (j : Int) < w (76 + 5 * i') → 0 ≤ w (77 + 5 * i' + j) ∧ w (77 + 5 * i' + j) < z 2) := fun i' i hi h => by
    obtain ⟨s1, s2, s3, s4, s5⟩ := h
    have := q2 i (by omega)
    rw [s1, s2, s3, s4]
    refine ⟨this.1, this.2.1, this.2.2.1, this.2.2.2.1, fun j hj => ?_⟩
    rw [s5 j (by omega)]
    exact this.2.2.2.2 j hj
  refine ⟨by omega, fun i hi => ?_, ?_, fun i hi => ?_, fun l hl => ?_⟩
  · rcases Nat.lt_trichotomy i p with h | h | h
    · exact cp i i (by omega) (ga i h)
    · subst h
      rw [g4, g5, g6, g7]
      have : bI (i = 0) = 0 ∨ bI (i = 0) = 1 := by unfold bI; split <;> simp
      exact ⟨by omega, hlen, by omega, by omega, fun j hj => absurd hj (by omega)⟩
    · obtain ⟨m, rfl⟩ : ∃ m, i = m + 1 := ⟨i - 1, by omega⟩
      exact cp (m + 1) m (by omega) (gb m (by omega) (by omega))
  · rcases Nat.eq_zero_or_pos p with h | h
    · subst h; exact g6
    · exact (ga 0 h).2.2.1.trans q3
  · rw [gh (196 + 2 * i) (by omega), gh (197 + 2 * i) (by omega)]; exact q5 i hi
  · rw [gh (212 + 3 * l) (by omega), gh (213 + 3 * l) (by omega), gh (214 + 3 * l) (by omega), fw_hi gh l]; exact q6 l hl
theorem RC_ins {z w : Rw} {μ μ' : Mem} {p n : Nat} {len : Int} (hz : IZ z) (hn : z 0 = (n : Int)) (hp : p ≤ n) (hR : RC z μ 1) (H : insR z w p n len)
    (f1 : ∀ k, (k < 1 ∨ 1 + 6 < k) → μ' k = μ k) (f2 : ∀ j, j ≠ 9 → μ' 1 j = μ 1 j) (f3 : μ' 1 9 = μ 1 9 + 1) (f4 : μ' (1 + 1) 3 = ((n + 1 : Nat) : Int))
    (f5 : ∀ k i, 1 + 2 ≤ k → k ≤ 1 + 5 → i < p → μ' k i = μ k i) (f6 : ∀ k i, 1 + 2 ≤ k → k ≤ 1 + 5 → p ≤ i → i < n → μ' k (i + 1) = μ k i)
    (f7 : μ' (1 + 2) p = μ 1 9) (f8 : μ' (1 + 3) p = len) (f9 : μ' (1 + 4) p = bI (p = 0)) (f10 : μ' (1 + 5) p = 0)
    (f11 : ∀ i j, j < 4 → i < p → μ' (1 + 6) (4 * i + j) = μ (1 + 6) (4 * i + j)) (f12 : ∀ i j, j < 4 → p ≤ i → i < n → μ' (1 + 6) (4 * (i + 1) + j) = μ (1 + 6) (4 * i + j)) : RC w μ' 1 := by
  obtain ⟨g0, g1, gh, ga, gb, g4, g5, g6, g7⟩ := H
  have q := hz.1
  obtain ⟨⟨c0, c1, c2, c3⟩, h2, h5, h6⟩ := hR
  unfold RC
  rw [g0, g1, gh 2 (by omega), gh 3 (by omega)]
  refine ⟨⟨f4, by rw [f3, c1], by rw [f2 10 (by omega)]; exact c2, by rw [f2 11 (by omega)]; exact c3⟩, fun i hi => ?_, fun i hi => ?_, fun l hl => ?_⟩
  · rcases Nat.lt_trichotomy i p with h | h | h
    · obtain ⟨s1, s2, s3, s4, s5⟩ := ga i h
      obtain ⟨b1, b2, b3, b4, b5⟩ := h2 i (by omega)
      have r := (hz.2.1 i (by omega)).2.2.2.1
      rw [s1, s2, s3, s4, f5 _ _ (by omega) (by omega) h, f5 _ _ (by omega) (by omega) h, f5 _ _ (by omega) (by omega) h, f5 _ _ (by omega) (by omega) h]
      exact ⟨b1, b2, b3, b4, fun j hj => by rw [f11 i j (by omega) h, s5 j (by omega)]; exact b5 j hj⟩
    · subst h
      rw [g4, g5, g6, g7, f7, f8, f9, f10, c1]
      exact ⟨rfl, rfl, rfl, rfl, fun j hj => absurd hj (by omega)⟩
    · obtain ⟨m, rfl⟩ : ∃ m, i = m + 1 := ⟨i - 1, by omega⟩
      obtain ⟨s1, s2, s3, s4, s5⟩ := gb m (by omega) (by omega)
      obtain ⟨b1, b2, b3, b4, b5⟩ := h2 m (by omega)
      have r := (hz.2.1 m (by omega)).2.2.2.1
      rw [s1, s2, s3, s4, f6 _ _ (by omega) (by omega) (by omega) (by omega), f6 _ _ (by omega) (by omega) (by omega) (by omega), f6 _ _ (by omega) (by omega) (by omega) (by omega), f6 _ _ (by omega) (by omega) (by omega) (by omega)]
      exact ⟨b1, b2, b3, b4, fun j hj => by rw [f12 m j (by omega) (by omega) (by omega), s5 j (by omega)]; exact b5 j hj⟩
  · rw [gh (196 + 2 * i) (by omega), gh (197 + 2 * i) (by omega), f1 _ (by omega), f1 _ (by omega)]; exact h5 i hi
  · rw [gh (212 + 3 * l) (by omega), gh (213 + 3 * l) (by omega), gh (214 + 3 * l) (by omega), fw_hi gh l, f1 (1 + 9) (by omega), f1 (1 + 10) (by omega), f1 (1 + 11) (by omega)]
    obtain ⟨b1, b2, b3, b4⟩ := h6 l hl
    exact ⟨b1, b2, b3, fun h => HR_f (fun k _ _ => f1 k (by omega)) (b4 h)⟩
def c_putIn (z : Rw) (p len : Int) : Int := if p < 0 ∨ z 0 < p then -1 else if len < 1 ∨ 300 < len then -2 else if 24 ≤ z 0 ∨ 100 ≤ z 1 then -4 else 0
/-- what a mutator of the class leaves, with a state that a relation gives -/
def MG (R : Rw → Prop) (a' : Hs) (μ μ' : Mem) : Prop := (∀ k, 510 ≤ k → μ' k = μ k) ∧ (∀ w, R w → RC w μ' 1) ∧ CRr a' μ'
-- NS.putIn: blocks [0, 15, 20, 28, 34, 61, 64, 75, 84]
theorem k_NS_putIn {d : Nat} {Q : QT} {μ : Mem} {p len : Int} {z : Rw} {a : Hs} (hz : IZ z) (hR : RC z μ 1) (hC : CRr a μ) (hp : inR p) (hlen : inR len) (hf : c_putIn z p len < 0 → Q (.inl (c_putIn z p len)) μ)
    (hq : c_putIn z p len = 0 → ∀ μ', MG (fun w => insR z w p.toNat (zn z) len) (hsPush a z) μ μ' → Q (.inl (z 1)) μ') : Call σ1 (d + 5) 40 [.inr (.inr 0), .inl p, .inl len] μ Q := by
  refine e_40 ?_
  have q := hz.1
  have e0 := zn_eq hz
  have e3 : μ 2 3 = z 0 := hR.1.1
  have e9 : μ 1 9 = z 1 := hR.1.2.1
  refine wp_go b40_0 ?_; simp only [l40_0, sg_iload_1, sg_iconst, sg_aload_0, sg_getfp, sg_getf0, len4_0, len4_1, len4_2, len4_3, len4_4, sg_is3_1, nLg_n, nLg_i, nLg_r, tc_c, tc_l, tc_r, tc_m, tc_n, tc_o, tc_0, inR, true_and, and_true, ne_eq, not_true_eq_false, not_false_eq_true, true_imp_iff, false_imp_iff, Int.toNat_natCast, lit_a, Nat.reduceAdd, or_true, true_or, or_false, false_or, Int.reduceEq, Int.reduceNe, Int.reduceLT, Int.reduceLE, Int.reduceNeg, sg_nil, s1p, x0, x1, x2, x3, x4, x5, x6, x7, x8, x9, x10, x11, x12, x13, x56, x57, x388, x389, x390, x391, x392, x393, x394, x395, x396, x397, x398, x399, e3]
  refine k_NS_isWithin hp (by unfold inR; omega) (by unfold inR; omega) (fun h1 h2 => ?_) (fun h0 => ?_)
  · obtain ⟨n, rfl⟩ := nat_of h1
    rw [Int.toNat_natCast] at hq
    refine wp_go b40_15 ?_; simp only [l40_15, sg_if_ne, sg_iconst, sg_iret0, nLg_n, nLg_i, nLg_r, tc_c, tc_l, tc_r, tc_m, tc_n, tc_o, tc_0, inR, true_and, and_true, ne_eq, not_true_eq_false, not_false_eq_true, true_imp_iff, false_imp_iff, Int.toNat_natCast, lit_a, Nat.reduceAdd, or_true, true_or, or_false, false_or, Int.reduceEq, Int.reduceNe, Int.reduceLT, Int.reduceLE, Int.reduceNeg, sg_nil]
    repeat' (first | with_reducible apply And.intro | intro _)
    all_goals (try omega)
    refine wp_go b40_20 ?_; simp only [l40_20, sg_iload_2, sg_iconst, sg_sipush, len4_0, len4_1, len4_2, len4_3, len4_4, sg_is3_1, nLg_n, nLg_i, nLg_r, tc_c, tc_l, tc_r, tc_m, tc_n, tc_o, tc_0, inR, true_and, and_true, ne_eq, not_true_eq_false, not_false_eq_true, true_imp_iff, false_imp_iff, Int.toNat_natCast, lit_a, Nat.reduceAdd, or_true, true_or, or_false, false_or, Int.reduceEq, Int.reduceNe, Int.reduceLT, Int.reduceLE, Int.reduceNeg, sg_nil]
    refine k_NS_isWithin hlen (by unfold inR; omega) (by unfold inR; omega) (fun g1 g2 => ?_) (fun g0 => ?_)
    · refine wp_go b40_28 ?_; simp only [l40_28, sg_if_ne, sg_bipush, sg_iret0, nLg_n, nLg_i, nLg_r, tc_c, tc_l, tc_r, tc_m, tc_n, tc_o, tc_0, inR, true_and, and_true, ne_eq, not_true_eq_false, not_false_eq_true, true_imp_iff, false_imp_iff, Int.toNat_natCast, lit_a, Nat.reduceAdd, or_true, true_or, or_false, false_or, Int.reduceEq, Int.reduceNe, Int.reduceLT, Int.reduceLE, Int.reduceNeg, sg_nil]
      repeat' (first | with_reducible apply And.intro | intro _)
      all_goals (try omega)
      by_cases hg : 24 ≤ z 0 ∨ 100 ≤ z 1
      · have ec : c_putIn z (n : Int) len = -4 := by unfold c_putIn; rw [if_neg (by omega), if_neg (by omega), if_pos hg]
        rw [ec] at hf
        have hf := hf (by omega)
        refine wp_go b40_34 ?_; simp only [l40_34, sg_aload_0, sg_getfp, sg_getf0, sg_bipush, sg_ic_ge, sg_ic_lt, nLg_n, nLg_i, nLg_r, tc_c, tc_l, tc_r, tc_m, tc_n, tc_o, tc_0, inR, true_and, and_true, ne_eq, not_true_eq_false, not_false_eq_true, true_imp_iff, false_imp_iff, Int.toNat_natCast, lit_a, Nat.reduceAdd, or_true, true_or, or_false, false_or, Int.reduceEq, Int.reduceNe, Int.reduceLT, Int.reduceLE, Int.reduceNeg, sg_nil, s1p, x0, x1, x2, x3, x4, x5, x6, x7, x8, x9, x10, x11, x12, x13, x56, x57, x388, x389, x390, x391, x392, x393, x394, x395, x396, x397, x398, x399, e3, e9]
        repeat' (first | with_reducible apply And.intro | (intro _) | ((first | refine wp_go b40_0 ?_ | refine wp_go b40_15 ?_ | refine wp_go b40_20 ?_ | refine wp_go b40_28 ?_ | refine wp_go b40_34 ?_ | refine wp_go b40_61 ?_ | refine wp_go b40_64 ?_ | refine wp_go b40_75 ?_ | refine wp_go b40_84 ?_); simp only [l40_0, l40_15, l40_20, l40_28, l40_34, l40_61, l40_64, l40_75, l40_84, sg_iload_1, sg_iconst, sg_aload_0, sg_getfp, sg_getf0, len4_0, len4_1, len4_2, len4_3, len4_4, sg_is3_1, sg_if_ne, sg_iret0, sg_iload_2, sg_sipush, sg_bipush, sg_ic_ge, sg_ic_lt, sg_iv2_v, sg_iv3_v, sg_iaload, nLg_n, nLg_i, nLg_r, tc_c, tc_l, tc_r, tc_m, tc_n, tc_o, tc_0, inR, true_and, and_true, ne_eq, not_true_eq_false, not_false_eq_true, true_imp_iff, false_imp_iff, Int.toNat_natCast, lit_a, Nat.reduceAdd, or_true, true_or, or_false, false_or, Int.reduceEq, Int.reduceNe, Int.reduceLT, Int.reduceLE, Int.reduceNeg, sg_nil]))
        all_goals (try omega)
        all_goals exact hf
      · have ec : c_putIn z (n : Int) len = 0 := by unfold c_putIn; rw [if_neg (by omega), if_neg (by omega), if_neg hg]
        have hq := hq ec
        refine wp_go b40_34 ?_; simp only [l40_34, sg_aload_0, sg_getfp, sg_getf0, sg_bipush, sg_ic_ge, sg_ic_lt, nLg_n, nLg_i, nLg_r, tc_c, tc_l, tc_r, tc_m, tc_n, tc_o, tc_0, inR, true_and, and_true, ne_eq, not_true_eq_false, not_false_eq_true, true_imp_iff, false_imp_iff, Int.toNat_natCast, lit_a, Nat.reduceAdd, or_true, true_or, or_false, false_or, Int.reduceEq, Int.reduceNe, Int.reduceLT, Int.reduceLE, Int.reduceNeg, sg_nil, s1p, x0, x1, x2, x3, x4, x5, x6, x7, x8, x9, x10, x11, x12, x13, x56, x57, x388, x389, x390, x391, x392, x393, x394, x395, x396, x397, x398, x399, e3, e9]
        repeat' (first | with_reducible apply And.intro | intro _)
        all_goals (try omega)
        refine wp_go b40_64 ?_; simp only [l40_64, sg_aload_0, sg_getfp, sg_iv2_v, len4_0, len4_1, len4_2, len4_3, len4_4, nLg_n, nLg_i, nLg_r, tc_c, tc_l, tc_r, tc_m, tc_n, tc_o, tc_0, inR, true_and, and_true, ne_eq, not_true_eq_false, not_false_eq_true, true_imp_iff, false_imp_iff, Int.toNat_natCast, lit_a, Nat.reduceAdd, or_true, true_or, or_false, false_or, Int.reduceEq, Int.reduceNe, Int.reduceLT, Int.reduceLE, Int.reduceNeg, sg_nil, s1p, x0, x1, x2, x3, x4, x5, x6, x7, x8, x9, x10, x11, x12, x13, x56, x57, x388, x389, x390, x391, x392, x393, x394, x395, x396, x397, x398, x399]
        refine k_His_keep hz hR hC (fun μ1 f1 C1 => ?_)
        have R1 := keep_R hz f1 hR
        refine wp_go b40_75 ?_; simp only [l40_75, sg_aload_0, sg_getfp, sg_iload_1, sg_iload_2, sg_iv3_v, len4_0, len4_1, len4_2, len4_3, len4_4, nLg_n, nLg_i, nLg_r, tc_c, tc_l, tc_r, tc_m, tc_n, tc_o, tc_0, inR, true_and, and_true, ne_eq, not_true_eq_false, not_false_eq_true, true_imp_iff, false_imp_iff, Int.toNat_natCast, lit_a, Nat.reduceAdd, or_true, true_or, or_false, false_or, Int.reduceEq, Int.reduceNe, Int.reduceLT, Int.reduceLE, Int.reduceNeg, sg_nil, s1p, x0, x1, x2, x3, x4, x5, x6, x7, x8, x9, x10, x11, x12, x13, x56, x57, x388, x389, x390, x391, x392, x393, x394, x395, x396, x397, x398, x399]
        refine k_Sta_insertSentence st1 (n := zn z) (R1.1.1.trans e0.1) (by omega) (by omega) (fun μ2 g1 g2 g3 g4 g5 g6 g7 g8 g9 g10 g11 g12 => ?_)
        have hq := hq μ2 ⟨fun k hk => by rw [g1 k (by omega), f1 k (by omega)], fun w hw => RC_ins hz e0.1 (by omega) R1 hw g1 g2 g3 g4 g5 g6 g7 g8 g9 g10 g11 g12, CRr_f (fun k hk => g1 k (by omega)) C1⟩
        have e : μ2 3 n = z 1 := g7.trans R1.1.2.1
        refine wp_go b40_84 ?_; simp only [l40_84, sg_aload_0, sg_getfp, sg_iload_1, sg_iaload, sg_iret0, nLg_n, nLg_i, nLg_r, tc_c, tc_l, tc_r, tc_m, tc_n, tc_o, tc_0, inR, true_and, and_true, ne_eq, not_true_eq_false, not_false_eq_true, true_imp_iff, false_imp_iff, Int.toNat_natCast, lit_a, Nat.reduceAdd, or_true, true_or, or_false, false_or, Int.reduceEq, Int.reduceNe, Int.reduceLT, Int.reduceLE, Int.reduceNeg, sg_nil, s1p, x0, x1, x2, x3, x4, x5, x6, x7, x8, x9, x10, x11, x12, x13, x56, x57, x388, x389, x390, x391, x392, x393, x394, x395, x396, x397, x398, x399, e]
        repeat' (first | with_reducible apply And.intro | (intro _) | ((first | refine wp_go b40_0 ?_ | refine wp_go b40_15 ?_ | refine wp_go b40_20 ?_ | refine wp_go b40_28 ?_ | refine wp_go b40_34 ?_ | refine wp_go b40_61 ?_ | refine wp_go b40_64 ?_ | refine wp_go b40_75 ?_ | refine wp_go b40_84 ?_); simp only [l40_0, l40_15, l40_20, l40_28, l40_34, l40_61, l40_64, l40_75, l40_84, sg_iload_1, sg_iconst, sg_aload_0, sg_getfp, sg_getf0, len4_0, len4_1, len4_2, len4_3, len4_4, sg_is3_1, sg_if_ne, sg_iret0, sg_iload_2, sg_sipush, sg_bipush, sg_ic_ge, sg_ic_lt, sg_iv2_v, sg_iv3_v, sg_iaload, nLg_n, nLg_i, nLg_r, tc_c, tc_l, tc_r, tc_m, tc_n, tc_o, tc_0, inR, true_and, and_true, ne_eq, not_true_eq_false, not_false_eq_true, true_imp_iff, false_imp_iff, Int.toNat_natCast, lit_a, Nat.reduceAdd, or_true, true_or, or_false, false_or, Int.reduceEq, Int.reduceNe, Int.reduceLT, Int.reduceLE, Int.reduceNeg, sg_nil]))
        all_goals (try omega)
        all_goals exact hq
    · have ec : c_putIn z (n : Int) len = -2 := by unfold c_putIn; rw [if_neg (by omega), if_pos (by omega)]
      rw [ec] at hf
      have hf := hf (by omega)
      refine wp_go b40_28 ?_; simp only [l40_28, sg_if_ne, sg_bipush, sg_iret0, nLg_n, nLg_i, nLg_r, tc_c, tc_l, tc_r, tc_m, tc_n, tc_o, tc_0, inR, true_and, and_true, ne_eq, not_true_eq_false, not_false_eq_true, true_imp_iff, false_imp_iff, Int.toNat_natCast, lit_a, Nat.reduceAdd, or_true, true_or, or_false, false_or, Int.reduceEq, Int.reduceNe, Int.reduceLT, Int.reduceLE, Int.reduceNeg, sg_nil]
      repeat' (first | with_reducible apply And.intro | (intro _) | ((first | refine wp_go b40_0 ?_ | refine wp_go b40_15 ?_ | refine wp_go b40_20 ?_ | refine wp_go b40_28 ?_ | refine wp_go b40_34 ?_ | refine wp_go b40_61 ?_ | refine wp_go b40_64 ?_ | refine wp_go b40_75 ?_ | refine wp_go b40_84 ?_); simp only [l40_0, l40_15, l40_20, l40_28, l40_34, l40_61, l40_64, l40_75, l40_84, sg_iload_1, sg_iconst, sg_aload_0, sg_getfp, sg_getf0, len4_0, len4_1, len4_2, len4_3, len4_4, sg_is3_1, sg_if_ne, sg_iret0, sg_iload_2, sg_sipush, sg_bipush, sg_ic_ge, sg_ic_lt, sg_iv2_v, sg_iv3_v, sg_iaload, nLg_n, nLg_i, nLg_r, tc_c, tc_l, tc_r, tc_m, tc_n, tc_o, tc_0, inR, true_and, and_true, ne_eq, not_true_eq_false, not_false_eq_true, true_imp_iff, false_imp_iff, Int.toNat_natCast, lit_a, Nat.reduceAdd, or_true, true_or, or_false, false_or, Int.reduceEq, Int.reduceNe, Int.reduceLT, Int.reduceLE, Int.reduceNeg, sg_nil]))
      all_goals (try omega)
      all_goals exact hf
  · have ec : c_putIn z p len = -1 := by unfold c_putIn; rw [if_pos (by omega)]
    rw [ec] at hf
    have hf := hf (by omega)
    refine wp_go b40_15 ?_; simp only [l40_15, sg_if_ne, sg_iconst, sg_iret0, nLg_n, nLg_i, nLg_r, tc_c, tc_l, tc_r, tc_m, tc_n, tc_o, tc_0, inR, true_and, and_true, ne_eq, not_true_eq_false, not_false_eq_true, true_imp_iff, false_imp_iff, Int.toNat_natCast, lit_a, Nat.reduceAdd, or_true, true_or, or_false, false_or, Int.reduceEq, Int.reduceNe, Int.reduceLT, Int.reduceLE, Int.reduceNeg, sg_nil]
    repeat' (first | with_reducible apply And.intro | (intro _) | ((first | refine wp_go b40_0 ?_ | refine wp_go b40_15 ?_ | refine wp_go b40_20 ?_ | refine wp_go b40_28 ?_ | refine wp_go b40_34 ?_ | refine wp_go b40_61 ?_ | refine wp_go b40_64 ?_ | refine wp_go b40_75 ?_ | refine wp_go b40_84 ?_); simp only [l40_0, l40_15, l40_20, l40_28, l40_34, l40_61, l40_64, l40_75, l40_84, sg_iload_1, sg_iconst, sg_aload_0, sg_getfp, sg_getf0, len4_0, len4_1, len4_2, len4_3, len4_4, sg_is3_1, sg_if_ne, sg_iret0, sg_iload_2, sg_sipush, sg_bipush, sg_ic_ge, sg_ic_lt, sg_iv2_v, sg_iv3_v, sg_iaload, nLg_n, nLg_i, nLg_r, tc_c, tc_l, tc_r, tc_m, tc_n, tc_o, tc_0, inR, true_and, and_true, ne_eq, not_true_eq_false, not_false_eq_true, true_imp_iff, false_imp_iff, Int.toNat_natCast, lit_a, Nat.reduceAdd, or_true, true_or, or_false, false_or, Int.reduceEq, Int.reduceNe, Int.reduceLT, Int.reduceLE, Int.reduceNeg, sg_nil]))
    all_goals (try omega)
    all_goals exact hf
def delR (z w : Rw) (s m : Nat) : Prop := w 0 = (m : Int) ∧ (∀ k, (1 ≤ k ∧ k ≤ 3) ∨ 196 ≤ k → w k = z k) ∧ w 6 = 1 ∧
  ∀ i, i < m → w (4 + 3 * i) = z (4 + 3 * (if i < s then i else i + 1)) ∧ w (5 + 3 * i) = z (5 + 3 * (if i < s then i else i + 1)) ∧ (i ≠ 0 → w (6 + 3 * i) = z (6 + 3 * (if i < s then i else i + 1))) ∧ w (76 + 5 * i) = z (76 + 5 * (if i < s then i else i + 1)) ∧ ∀ j, j < 4 → w (77 + 5 * i + j) = z (77 + 5 * (if i < s then i else i + 1) + j)
theorem IZ_del {z w : Rw} {s m : Nat} (hz : IZ z) (hn : z 0 = ((m + 1 : Nat) : Int)) (hm : 1 ≤ m) (H : delR z w s m) : IZ w := by
  obtain ⟨g0, gh, g6, ga⟩ := H
  have q := hz.1
  obtain ⟨q1, q2, q3, q5, q6⟩ := hz
  unfold IZ
  rw [g0, gh 1 (by omega), gh 2 (by omega), gh 3 (by omega)]
  refine ⟨by omega, fun i hi => ?_, g6, fun i hi => ?_, fun l hl => ?_⟩
  · obtain ⟨s1, s2, s3, s4, s5⟩ := ga i (by omega)
    have := q2 (if i < s then i else i + 1) (by split <;> omega)
    rw [s1, s2, s4]
    refine ⟨this.1, this.2.1, ?_, this.2.2.2.1, fun j hj => ?_⟩
    · by_cases h : i = 0
      · subst h
        rw [show 6 + 3 * 0 = 6 from rfl, g6]; omega
      · rw [s3 h]; exact this.2.2.1
    · rw [s5 j (by omega)]
      exact this.2.2.2.2 j hj
  · rw [gh (196 + 2 * i) (by omega), gh (197 + 2 * i) (by omega)]; exact q5 i hi
  · rw [gh (212 + 3 * l) (by omega), gh (213 + 3 * l) (by omega), gh (214 + 3 * l) (by omega), fw_hi (fun k hk => gh k (by omega)) l]; exact q6 l hl
theorem RC_del {z w : Rw} {μ μ' : Mem} {s m : Nat} (hz : IZ z) (hn : z 0 = ((m + 1 : Nat) : Int)) (hR : RC z μ 1) (H : delR z w s m)
    (f1 : ∀ k, (k < 1 + 1 ∨ 1 + 6 < k) → μ' k = μ k) (f2 : μ' (1 + 1) 3 = (m : Int))
    (f3 : ∀ k x, 1 + 2 ≤ k → k ≤ 1 + 5 → (k ≠ 1 + 4 ∨ x ≠ 0) → x < m → μ' k x = if x < s then μ k x else μ k (x + 1)) (f4 : μ' (1 + 4) 0 = 1)
    (f5 : ∀ x j, j < 4 → x < m → μ' (1 + 6) (4 * x + j) = if x < s then μ (1 + 6) (4 * x + j) else μ (1 + 6) (4 * (x + 1) + j)) : RC w μ' 1 := by
  obtain ⟨g0, gh, g6, ga⟩ := H
  have q := hz.1
  obtain ⟨⟨c0, c1, c2, c3⟩, h2, h5, h6⟩ := hR
  unfold RC
  rw [g0, gh 1 (by omega), gh 2 (by omega), gh 3 (by omega)]
  refine ⟨⟨f2, by rw [f1 1 (by omega)]; exact c1, by rw [f1 1 (by omega)]; exact c2, by rw [f1 1 (by omega)]; exact c3⟩, fun i hi => ?_, fun i hi => ?_, fun l hl => ?_⟩
  · obtain ⟨s1, s2, s3, s4, s5⟩ := ga i (by omega)
    have f3' : ∀ k, 1 + 2 ≤ k → k ≤ 1 + 5 → (k ≠ 1 + 4 ∨ i ≠ 0) → μ' k i = μ k (if i < s then i else i + 1) := fun k a b c => by rw [f3 k i a b c (by omega)]; split <;> rfl
    have f5' : ∀ j, j < 4 → μ' (1 + 6) (4 * i + j) = μ (1 + 6) (4 * (if i < s then i else i + 1) + j) := fun j hj => by rw [f5 i j hj (by omega)]; split <;> rfl
    have hlt : ((if i < s then i else i + 1 : Nat) : Int) < z 0 := by split <;> omega
    obtain ⟨b1, b2, b3, b4, b5⟩ := h2 (if i < s then i else i + 1) hlt
    have r := (hz.2.1 (if i < s then i else i + 1) hlt).2.2.2.1
    rw [s1, s2, s4, f3' (1 + 2) (by omega) (by omega) (by omega), f3' (1 + 3) (by omega) (by omega) (by omega), f3' (1 + 5) (by omega) (by omega) (by omega)]
    refine ⟨b1, b2, ?_, b4, fun j hj => by rw [f5' j (by omega), s5 j (by omega)]; exact b5 j hj⟩
    by_cases h : i = 0
    · subst h
      rw [show 6 + 3 * 0 = 6 from rfl, g6]; exact f4
    · rw [s3 h, f3' (1 + 4) (by omega) (by omega) (by omega)]; exact b3
  · rw [gh (196 + 2 * i) (by omega), gh (197 + 2 * i) (by omega), f1 _ (by omega), f1 _ (by omega)]; exact h5 i hi
  · rw [gh (212 + 3 * l) (by omega), gh (213 + 3 * l) (by omega), gh (214 + 3 * l) (by omega), fw_hi (fun k hk => gh k (by omega)) l, f1 (1 + 9) (by omega), f1 (1 + 10) (by omega), f1 (1 + 11) (by omega)]
    obtain ⟨b1, b2, b3, b4⟩ := h6 l hl
    exact ⟨b1, b2, b3, fun h => HR_f (fun k _ _ => f1 k (by omega)) (b4 h)⟩
def c_cutOut (z : Rw) (s : Int) : Int := if s < 0 ∨ z 0 ≤ s then -1 else if z 0 = 1 then -5 else 0
-- NS.cutOut: blocks [0, 8, 13, 30, 41, 62]
theorem k_NS_cutOut {d : Nat} {Q : QT} {μ : Mem} {s : Int} {z : Rw} {a : Hs} (hz : IZ z) (hR : RC z μ 1) (hC : CRr a μ) (hs : inR s) (hf : c_cutOut z s < 0 → Q (.inl (c_cutOut z s)) μ)
    (hq : c_cutOut z s = 0 → ∀ μ', MG (fun w => delR z w s.toNat (zn z - 1)) (hsPush a z) μ μ' → Q (.inl (z (4 + 3 * s.toNat))) μ') : Call σ1 (d + 5) 41 [.inr (.inr 0), .inl s] μ Q := by
  refine e_41 ?_
  have q := hz.1
  have e0 := zn_eq hz
  have e3 : μ 2 3 = z 0 := hR.1.1
  refine wp_go b41_0 ?_; simp only [l41_0, sg_aload_0, sg_getfp, sg_iload_1, sg_iv2_i, len4_0, len4_1, len4_2, len4_3, len4_4, nLg_n, nLg_i, nLg_r, tc_c, tc_l, tc_r, tc_m, tc_n, tc_o, tc_0, inR, true_and, and_true, ne_eq, not_true_eq_false, not_false_eq_true, true_imp_iff, false_imp_iff, Int.toNat_natCast, lit_a, Nat.reduceAdd, or_true, true_or, or_false, false_or, Int.reduceEq, Int.reduceNe, Int.reduceLT, Int.reduceLE, Int.reduceNeg, sg_nil, s1p, x0, x1, x2, x3, x4, x5, x6, x7, x8, x9, x10, x11, x12, x13, x56, x57, x388, x389, x390, x391, x392, x393, x394, x395, x396, x397, x398, x399]
  refine k_Sta_hasSentence st1 hR hz hs (fun h1 h2 => ?_) (fun h0 => ?_)
  · obtain ⟨n, rfl⟩ := nat_of h1
    rw [Int.toNat_natCast] at hq
    refine wp_go b41_8 ?_; simp only [l41_8, sg_if_ne, sg_iconst, sg_iret0, nLg_n, nLg_i, nLg_r, tc_c, tc_l, tc_r, tc_m, tc_n, tc_o, tc_0, inR, true_and, and_true, ne_eq, not_true_eq_false, not_false_eq_true, true_imp_iff, false_imp_iff, Int.toNat_natCast, lit_a, Nat.reduceAdd, or_true, true_or, or_false, false_or, Int.reduceEq, Int.reduceNe, Int.reduceLT, Int.reduceLE, Int.reduceNeg, sg_nil]
    repeat' (first | with_reducible apply And.intro | intro _)
    all_goals (try omega)
    by_cases hg : z 0 = 1
    · have ec : c_cutOut z (n : Int) = -5 := by unfold c_cutOut; rw [if_neg (by omega), if_pos hg]
      rw [ec] at hf
      have hf := hf (by omega)
      refine wp_go b41_13 ?_; simp only [l41_13, sg_aload_0, sg_getfp, sg_getf0, sg_iconst, sg_ic_ne, sg_bipush, sg_iret0, nLg_n, nLg_i, nLg_r, tc_c, tc_l, tc_r, tc_m, tc_n, tc_o, tc_0, inR, true_and, and_true, ne_eq, not_true_eq_false, not_false_eq_true, true_imp_iff, false_imp_iff, Int.toNat_natCast, lit_a, Nat.reduceAdd, or_true, true_or, or_false, false_or, Int.reduceEq, Int.reduceNe, Int.reduceLT, Int.reduceLE, Int.reduceNeg, sg_nil, s1p, x0, x1, x2, x3, x4, x5, x6, x7, x8, x9, x10, x11, x12, x13, x56, x57, x388, x389, x390, x391, x392, x393, x394, x395, x396, x397, x398, x399, e3]
      repeat' (first | with_reducible apply And.intro | (intro _) | ((first | refine wp_go b41_0 ?_ | refine wp_go b41_8 ?_ | refine wp_go b41_13 ?_ | refine wp_go b41_30 ?_ | refine wp_go b41_41 ?_ | refine wp_go b41_62 ?_); simp only [l41_0, l41_8, l41_13, l41_30, l41_41, l41_62, sg_aload_0, sg_getfp, sg_iload_1, sg_iv2_i, len4_0, len4_1, len4_2, len4_3, len4_4, sg_if_ne, sg_iconst, sg_iret0, sg_getf0, sg_ic_ne, sg_bipush, sg_iv2_v, sg_iaload, sg_istore_2, sg_iload_2, nLg_n, nLg_i, nLg_r, tc_c, tc_l, tc_r, tc_m, tc_n, tc_o, tc_0, inR, true_and, and_true, ne_eq, not_true_eq_false, not_false_eq_true, true_imp_iff, false_imp_iff, Int.toNat_natCast, lit_a, Nat.reduceAdd, or_true, true_or, or_false, false_or, Int.reduceEq, Int.reduceNe, Int.reduceLT, Int.reduceLE, Int.reduceNeg, sg_nil]))
      all_goals (try omega)
      all_goals exact hf
    · have ec : c_cutOut z (n : Int) = 0 := by unfold c_cutOut; rw [if_neg (by omega), if_neg hg]
      have hq := hq ec
      refine wp_go b41_13 ?_; simp only [l41_13, sg_aload_0, sg_getfp, sg_getf0, sg_iconst, sg_ic_ne, sg_bipush, sg_iret0, nLg_n, nLg_i, nLg_r, tc_c, tc_l, tc_r, tc_m, tc_n, tc_o, tc_0, inR, true_and, and_true, ne_eq, not_true_eq_false, not_false_eq_true, true_imp_iff, false_imp_iff, Int.toNat_natCast, lit_a, Nat.reduceAdd, or_true, true_or, or_false, false_or, Int.reduceEq, Int.reduceNe, Int.reduceLT, Int.reduceLE, Int.reduceNeg, sg_nil, s1p, x0, x1, x2, x3, x4, x5, x6, x7, x8, x9, x10, x11, x12, x13, x56, x57, x388, x389, x390, x391, x392, x393, x394, x395, x396, x397, x398, x399, e3]
      repeat' (first | with_reducible apply And.intro | intro _)
      all_goals (try omega)
      refine wp_go b41_30 ?_; simp only [l41_30, sg_aload_0, sg_getfp, sg_iv2_v, len4_0, len4_1, len4_2, len4_3, len4_4, nLg_n, nLg_i, nLg_r, tc_c, tc_l, tc_r, tc_m, tc_n, tc_o, tc_0, inR, true_and, and_true, ne_eq, not_true_eq_false, not_false_eq_true, true_imp_iff, false_imp_iff, Int.toNat_natCast, lit_a, Nat.reduceAdd, or_true, true_or, or_false, false_or, Int.reduceEq, Int.reduceNe, Int.reduceLT, Int.reduceLE, Int.reduceNeg, sg_nil, s1p, x0, x1, x2, x3, x4, x5, x6, x7, x8, x9, x10, x11, x12, x13, x56, x57, x388, x389, x390, x391, x392, x393, x394, x395, x396, x397, x398, x399]
      refine k_His_keep hz hR hC (fun μ1 f1 C1 => ?_)
      have R1 := keep_R hz f1 hR
      have e : μ1 3 n = z (4 + 3 * n) := (R1.2.1 n h2).1
      refine wp_go b41_41 ?_; simp only [l41_41, sg_aload_0, sg_getfp, sg_iload_1, sg_iaload, sg_istore_2, sg_iv2_v, len4_0, len4_1, len4_2, len4_3, len4_4, nLg_n, nLg_i, nLg_r, tc_c, tc_l, tc_r, tc_m, tc_n, tc_o, tc_0, inR, true_and, and_true, ne_eq, not_true_eq_false, not_false_eq_true, true_imp_iff, false_imp_iff, Int.toNat_natCast, lit_a, Nat.reduceAdd, or_true, true_or, or_false, false_or, Int.reduceEq, Int.reduceNe, Int.reduceLT, Int.reduceLE, Int.reduceNeg, sg_nil, s1p, x0, x1, x2, x3, x4, x5, x6, x7, x8, x9, x10, x11, x12, x13, x56, x57, x388, x389, x390, x391, x392, x393, x394, x395, x396, x397, x398, x399, e]
      repeat' (first | with_reducible apply And.intro | (intro _) | ((first | refine wp_go b41_0 ?_ | refine wp_go b41_8 ?_ | refine wp_go b41_13 ?_ | refine wp_go b41_30 ?_ | refine wp_go b41_41 ?_ | refine wp_go b41_62 ?_); simp only [l41_0, l41_8, l41_13, l41_30, l41_41, l41_62, sg_aload_0, sg_getfp, sg_iload_1, sg_iv2_i, len4_0, len4_1, len4_2, len4_3, len4_4, sg_if_ne, sg_iconst, sg_iret0, sg_getf0, sg_ic_ne, sg_bipush, sg_iv2_v, sg_iaload, sg_istore_2, sg_iload_2, nLg_n, nLg_i, nLg_r, tc_c, tc_l, tc_r, tc_m, tc_n, tc_o, tc_0, inR, true_and, and_true, ne_eq, not_true_eq_false, not_false_eq_true, true_imp_iff, false_imp_iff, Int.toNat_natCast, lit_a, Nat.reduceAdd, or_true, true_or, or_false, false_or, Int.reduceEq, Int.reduceNe, Int.reduceLT, Int.reduceLE, Int.reduceNeg, sg_nil]))
      all_goals (try omega)
      refine k_Sta_removeSentence st1 (m := zn z - 1) (R1.1.1.trans (by omega)) (by omega) (by omega) (fun μ2 g1 g2 g3 g4 g5 => ?_)
      have hq := hq μ2 ⟨fun k hk => by rw [g1 k (by omega), f1 k (by omega)], fun w hw => RC_del hz (by omega) R1 hw g1 g2 g3 g4 g5, CRr_f (fun k hk => g1 k (by omega)) C1⟩
      refine wp_go b41_62 ?_; simp only [l41_62, sg_iload_2, sg_iret0, nLg_n, nLg_i, nLg_r, tc_c, tc_l, tc_r, tc_m, tc_n, tc_o, tc_0, inR, true_and, and_true, ne_eq, not_true_eq_false, not_false_eq_true, true_imp_iff, false_imp_iff, Int.toNat_natCast, lit_a, Nat.reduceAdd, or_true, true_or, or_false, false_or, Int.reduceEq, Int.reduceNe, Int.reduceLT, Int.reduceLE, Int.reduceNeg, sg_nil]
      exact hq
  · have ec : c_cutOut z s = -1 := by unfold c_cutOut; rw [if_pos (by omega)]
    rw [ec] at hf
    have hf := hf (by omega)
    refine wp_go b41_8 ?_; simp only [l41_8, sg_if_ne, sg_iconst, sg_iret0, nLg_n, nLg_i, nLg_r, tc_c, tc_l, tc_r, tc_m, tc_n, tc_o, tc_0, inR, true_and, and_true, ne_eq, not_true_eq_false, not_false_eq_true, true_imp_iff, false_imp_iff, Int.toNat_natCast, lit_a, Nat.reduceAdd, or_true, true_or, or_false, false_or, Int.reduceEq, Int.reduceNe, Int.reduceLT, Int.reduceLE, Int.reduceNeg, sg_nil]
    repeat' (first | with_reducible apply And.intro | (intro _) | ((first | refine wp_go b41_0 ?_ | refine wp_go b41_8 ?_ | refine wp_go b41_13 ?_ | refine wp_go b41_30 ?_ | refine wp_go b41_41 ?_ | refine wp_go b41_62 ?_); simp only [l41_0, l41_8, l41_13, l41_30, l41_41, l41_62, sg_aload_0, sg_getfp, sg_iload_1, sg_iv2_i, len4_0, len4_1, len4_2, len4_3, len4_4, sg_if_ne, sg_iconst, sg_iret0, sg_getf0, sg_ic_ne, sg_bipush, sg_iv2_v, sg_iaload, sg_istore_2, sg_iload_2, nLg_n, nLg_i, nLg_r, tc_c, tc_l, tc_r, tc_m, tc_n, tc_o, tc_0, inR, true_and, and_true, ne_eq, not_true_eq_false, not_false_eq_true, true_imp_iff, false_imp_iff, Int.toNat_natCast, lit_a, Nat.reduceAdd, or_true, true_or, or_false, false_or, Int.reduceEq, Int.reduceNe, Int.reduceLT, Int.reduceLE, Int.reduceNeg, sg_nil]))
    all_goals (try omega)
    all_goals exact hf

