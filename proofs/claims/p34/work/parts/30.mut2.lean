theorem IZ_beg {z : Rw} {s : Nat} {v : Int} (hz : IZ z) (hs : (s : Int) < z 0) (h0 : s ≠ 0) (hv : 0 ≤ v ∧ v ≤ 1) : IZ (uz z (6 + 3 * s) v) := by
  have q := hz.1
  obtain ⟨h1, h2, h3, h5, h6⟩ := hz
  have bo : ∀ k, k ≠ 6 + 3 * s → uz z (6 + 3 * s) v k = z k := fun k h => uz_o z v h
  unfold IZ
  rw [bo 0 (by omega), bo 1 (by omega), bo 2 (by omega), bo 3 (by omega), bo 6 (by omega)]
  refine ⟨h1, fun i hi => ?_, h3, fun i hi => ?_, fun l hl => ?_⟩
  · rw [bo (4 + 3 * i) (by omega), bo (5 + 3 * i) (by omega), bo (76 + 5 * i) (by omega)]
    obtain ⟨b1, b2, b3, b4, b5⟩ := h2 i hi
    refine ⟨b1, b2, ?_, b4, fun j hj => by rw [bo _ (by omega)]; exact b5 j hj⟩
    rw [uz_at]; split
    · exact hv
    · exact b3
  · rw [bo (196 + 2 * i) (by omega), bo (197 + 2 * i) (by omega)]; exact h5 i hi
  · rw [bo (212 + 3 * l) (by omega), bo (213 + 3 * l) (by omega), bo (214 + 3 * l) (by omega), fw_uz z v l (by omega)]; exact h6 l hl
theorem RC_beg {z : Rw} {μ : Mem} {s : Nat} {v : Int} (hz : IZ z) (hs : (s : Int) < z 0) (hR : RC z μ 1) : RC (uz z (6 + 3 * s) v) (ms μ 5 s v) 1 := by
  have q := hz.1
  obtain ⟨⟨c0, c1, c2, c3⟩, h2, h5, h6⟩ := hR
  have bo : ∀ k, k ≠ 6 + 3 * s → uz z (6 + 3 * s) v k = z k := fun k h => uz_o z v h
  have mo : ∀ k, k ≠ 5 → ms μ 5 s v k = μ k := fun k h => by funext j; simp only [ms_at]; (repeat (first | rw [if_neg (by omega)] | rw [if_pos (by omega)]))
  unfold RC
  rw [bo 0 (by omega), bo 1 (by omega), bo 2 (by omega), bo 3 (by omega)]
  refine ⟨⟨by rw [mo _ (by omega)]; exact c0, by rw [mo _ (by omega)]; exact c1, by rw [mo _ (by omega)]; exact c2, by rw [mo _ (by omega)]; exact c3⟩, fun i hi => ?_, fun i hi => ?_, fun l hl => ?_⟩
  · rw [bo (4 + 3 * i) (by omega), bo (5 + 3 * i) (by omega), bo (76 + 5 * i) (by omega), mo (1 + 2) (by omega), mo (1 + 3) (by omega), mo (1 + 5) (by omega), mo (1 + 6) (by omega)]
    obtain ⟨b1, b2, b3, b4, b5⟩ := h2 i hi
    have r := (hz.2.1 i hi).2.2.2.1
    refine ⟨b1, b2, ?_, b4, fun j hj => by rw [bo _ (by omega)]; exact b5 j hj⟩
    simp only [uz_at, ms_at, true_and]
    by_cases h : i = s
    · rw [if_pos h, if_pos (by omega)]
    · rw [if_neg h, if_neg (by omega)]; exact b3
  · rw [bo (196 + 2 * i) (by omega), bo (197 + 2 * i) (by omega), mo (1 + 7) (by omega), mo (1 + 8) (by omega)]; exact h5 i hi
  · rw [bo (212 + 3 * l) (by omega), bo (213 + 3 * l) (by omega), bo (214 + 3 * l) (by omega), fw_uz z v l (by omega), mo (1 + 9) (by omega), mo (1 + 10) (by omega), mo (1 + 11) (by omega)]
    obtain ⟨b1, b2, b3, b4⟩ := h6 l hl
    exact ⟨b1, b2, b3, fun h => HR_f (fun k _ _ => mo k (by omega)) (b4 h)⟩

theorem zb_sum {z : Rw} {s : Nat} {v : Int} : zb (uz z (6 + 3 * s) v) = fun i => if i = s then v else zb z i := by
  funext i
  unfold zb
  rw [uz_at]
  by_cases h : i = s
  · rw [if_pos h, if_pos (by omega)]
  · rw [if_neg h, if_neg (by omega)]
def c_chapter (z : Rw) (s b : Int) : Int := if s < 0 ∨ z 0 ≤ s then -1 else if s = 0 ∨ z (6 + 3 * s.toNat) = b then -5 else 0
-- NS.chapter: blocks [0, 8, 13, 17, 38, 41, 52, 75]
theorem k_NS_chapter {d : Nat} {Q : QT} {μ : Mem} {s b : Int} {z : Rw} {a : Hs} (hz : IZ z) (hR : RC z μ 1) (hC : CRr a μ) (hs : inR s) (hb : 0 ≤ b ∧ b ≤ 1) (hf : c_chapter z s b < 0 → Q (.inl (c_chapter z s b)) μ)
    (hq : c_chapter z s b = 0 → ∀ μ', MF (uz z (6 + 3 * s.toNat) b) (hsPush a z) μ μ' → Q (.inl (sm (zb (uz z (6 + 3 * s.toNat) b)) (zn z))) μ') : Call σ1 (d + 5) 43 [.inr (.inr 0), .inl s, .inl b] μ Q := by
  refine e_43 ?_
  have q := hz.1
  refine wp_go b43_0 ?_; simp only [l43_0, sg_aload_0, sg_getfp, sg_iload_1, sg_iv2_i, len4_0, len4_1, len4_2, len4_3, len4_4, nLg_n, nLg_i, nLg_r, tc_c, tc_l, tc_r, tc_m, tc_n, tc_o, tc_0, inR, true_and, and_true, ne_eq, not_true_eq_false, not_false_eq_true, true_imp_iff, false_imp_iff, Int.toNat_natCast, lit_a, Nat.reduceAdd, or_true, true_or, or_false, false_or, Int.reduceEq, Int.reduceNe, Int.reduceLT, Int.reduceLE, Int.reduceNeg, sg_nil, s1p, x0, x1, x2, x3, x4, x5, x6, x7, x8, x9, x10, x11, x12, x13, x56, x57, x388, x389, x390, x391, x392, x393, x394, x395, x396, x397, x398, x399]
  refine k_Sta_hasSentence st1 hR hz hs (fun h1 h2 => ?_) (fun h0 => ?_)
  · obtain ⟨n, rfl⟩ := nat_of h1
    have e5 : μ 5 n = z (6 + 3 * n) := (hR.2.1 n h2).2.2.1
    rw [Int.toNat_natCast] at hq
    refine wp_go b43_8 ?_; simp only [l43_8, sg_if_ne, sg_iconst, sg_iret0, nLg_n, nLg_i, nLg_r, tc_c, tc_l, tc_r, tc_m, tc_n, tc_o, tc_0, inR, true_and, and_true, ne_eq, not_true_eq_false, not_false_eq_true, true_imp_iff, false_imp_iff, Int.toNat_natCast, lit_a, Nat.reduceAdd, or_true, true_or, or_false, false_or, Int.reduceEq, Int.reduceNe, Int.reduceLT, Int.reduceLE, Int.reduceNeg, sg_nil]
    repeat' (first | with_reducible apply And.intro | intro _)
    all_goals (try omega)
    refine wp_go b43_13 ?_; simp only [l43_13, sg_iload_2, len4_0, len4_1, len4_2, len4_3, len4_4, sg_is1_1, nLg_n, nLg_i, nLg_r, tc_c, tc_l, tc_r, tc_m, tc_n, tc_o, tc_0, inR, true_and, and_true, ne_eq, not_true_eq_false, not_false_eq_true, true_imp_iff, false_imp_iff, Int.toNat_natCast, lit_a, Nat.reduceAdd, or_true, true_or, or_false, false_or, Int.reduceEq, Int.reduceNe, Int.reduceLT, Int.reduceLE, Int.reduceNeg, sg_nil]
    refine k_NS_asNumber (by omega) ?_
    have fin : ¬ ((n : Int) = 0 ∨ z (6 + 3 * n) = b) → wp σ1 (Call σ1 (d + 4)) 43 Q 41 [some (.inr (.inr 0)), some (.inl (n : Int)), some (.inl b), some (.inl b)] [] μ := fun hn => by
      have ec : c_chapter z (n : Int) b = 0 := by unfold c_chapter; rw [if_neg (by omega), Int.toNat_natCast, if_neg hn]
      have hq := hq ec
      refine wp_go b43_41 ?_; simp only [l43_41, sg_aload_0, sg_getfp, sg_iv2_v, len4_0, len4_1, len4_2, len4_3, len4_4, nLg_n, nLg_i, nLg_r, tc_c, tc_l, tc_r, tc_m, tc_n, tc_o, tc_0, inR, true_and, and_true, ne_eq, not_true_eq_false, not_false_eq_true, true_imp_iff, false_imp_iff, Int.toNat_natCast, lit_a, Nat.reduceAdd, or_true, true_or, or_false, false_or, Int.reduceEq, Int.reduceNe, Int.reduceLT, Int.reduceLE, Int.reduceNeg, sg_nil, s1p, x0, x1, x2, x3, x4, x5, x6, x7, x8, x9, x10, x11, x12, x13, x56, x57, x388, x389, x390, x391, x392, x393, x394, x395, x396, x397, x398, x399]
      repeat' (first | with_reducible apply And.intro | intro _)
      all_goals (try omega)
      refine k_His_keep hz hR hC (fun μ1 f1 C1 => ?_)
      have R1 := keep_R hz f1 hR
      have hz1 : IZ (uz z (6 + 3 * n) b) := IZ_beg hz h2 (by omega) hb
      have R2 : RC (uz z (6 + 3 * n) b) (ms μ1 5 n b) 1 := RC_beg hz h2 R1
      have hq := hq _ ⟨fun k hk => by rw [← f1 k (by omega)]; funext j; simp only [ms_at]; (repeat (first | rw [if_neg (by omega)] | rw [if_pos (by omega)])), R2, CRr_f (fun k hk => by funext j; simp only [ms_at]; (repeat (first | rw [if_neg (by omega)] | rw [if_pos (by omega)]))) C1⟩
      have e0 := zn_eq hz
      have b0 : uz z (6 + 3 * n) b 0 = z 0 := uz_o z b (by omega)
      have hn0 : ms μ1 5 n b 2 3 = ((zn z : Nat) : Int) := R2.1.1.trans (b0.trans e0.1)
      refine wp_go b43_52 ?_; simp only [l43_52, sg_aload_0, sg_getfp, sg_iload_1, sg_iload_3, sg_iastore, sg_iv1_i, len4_0, len4_1, len4_2, len4_3, len4_4, nLg_n, nLg_i, nLg_r, tc_c, tc_l, tc_r, tc_m, tc_n, tc_o, tc_0, inR, true_and, and_true, ne_eq, not_true_eq_false, not_false_eq_true, true_imp_iff, false_imp_iff, Int.toNat_natCast, lit_a, Nat.reduceAdd, or_true, true_or, or_false, false_or, Int.reduceEq, Int.reduceNe, Int.reduceLT, Int.reduceLE, Int.reduceNeg, sg_nil, s1p, x0, x1, x2, x3, x4, x5, x6, x7, x8, x9, x10, x11, x12, x13, x56, x57, x388, x389, x390, x391, x392, x393, x394, x395, x396, x397, x398, x399]
      repeat' (first | with_reducible apply And.intro | (intro _) | ((first | refine wp_go b43_0 ?_ | refine wp_go b43_8 ?_ | refine wp_go b43_13 ?_ | refine wp_go b43_17 ?_ | refine wp_go b43_38 ?_ | refine wp_go b43_41 ?_ | refine wp_go b43_52 ?_ | refine wp_go b43_75 ?_); simp only [l43_0, l43_8, l43_13, l43_17, l43_38, l43_41, l43_52, l43_75, sg_aload_0, sg_getfp, sg_iload_1, sg_iv2_i, len4_0, len4_1, len4_2, len4_3, len4_4, sg_if_ne, sg_iconst, sg_iret0, sg_iload_2, sg_is1_1, sg_istore_3, sg_if_eq, sg_iaload, sg_iload_3, sg_ic_ne, sg_bipush, sg_iv2_v, sg_iastore, sg_iv1_i, nLg_n, nLg_i, nLg_r, tc_c, tc_l, tc_r, tc_m, tc_n, tc_o, tc_0, inR, true_and, and_true, ne_eq, not_true_eq_false, not_false_eq_true, true_imp_iff, false_imp_iff, Int.toNat_natCast, lit_a, Nat.reduceAdd, or_true, true_or, or_false, false_or, Int.reduceEq, Int.reduceNe, Int.reduceLT, Int.reduceLE, Int.reduceNeg, sg_nil]))
      all_goals (try omega)
      refine k_Sen_chapters st1.2.1 (n := zn z - 1) (hn0.trans (by omega)) (by omega) ?_
      rw [show sm (fun i => ms μ1 5 n b (2 + 3) (i + 1)) (zn z - 1) + 1 = sm (zb (uz z (6 + 3 * n) b)) (zn z) from by
        rw [sm_zb hz1 R2 (by rw [b0]; omega), show zn z - 1 + 1 = zn z by omega]; omega]
      refine wp_go b43_75 ?_; simp only [l43_75, sg_iret0, nLg_n, nLg_i, nLg_r, tc_c, tc_l, tc_r, tc_m, tc_n, tc_o, tc_0, inR, true_and, and_true, ne_eq, not_true_eq_false, not_false_eq_true, true_imp_iff, false_imp_iff, Int.toNat_natCast, lit_a, Nat.reduceAdd, or_true, true_or, or_false, false_or, Int.reduceEq, Int.reduceNe, Int.reduceLT, Int.reduceLE, Int.reduceNeg, sg_nil]
      exact hq
    have bad : ((n : Int) = 0 ∨ z (6 + 3 * n) = b) → Q (.inl (-5)) μ := fun hn => by
      have ec : c_chapter z (n : Int) b = -5 := by unfold c_chapter; rw [if_neg (by omega), Int.toNat_natCast, if_pos hn]
      rw [ec] at hf
      exact hf (by omega)
    have rb := (hz.2.1 n h2).2.2.1
    refine wp_go b43_17 ?_; simp only [l43_17, sg_istore_3, sg_iload_1, sg_if_eq, sg_aload_0, sg_getfp, sg_iaload, sg_iload_3, sg_ic_ne, nLg_n, nLg_i, nLg_r, tc_c, tc_l, tc_r, tc_m, tc_n, tc_o, tc_0, inR, true_and, and_true, ne_eq, not_true_eq_false, not_false_eq_true, true_imp_iff, false_imp_iff, Int.toNat_natCast, lit_a, Nat.reduceAdd, or_true, true_or, or_false, false_or, Int.reduceEq, Int.reduceNe, Int.reduceLT, Int.reduceLE, Int.reduceNeg, sg_nil, s1p, x0, x1, x2, x3, x4, x5, x6, x7, x8, x9, x10, x11, x12, x13, x56, x57, x388, x389, x390, x391, x392, x393, x394, x395, x396, x397, x398, x399, e5]
    repeat' (first | with_reducible apply And.intro | intro _)
    all_goals (try omega)
    all_goals first
      | exact fin (by omega)
      | (have h := bad (by omega); refine wp_go b43_38 ?_; simp only [l43_38, sg_bipush, sg_iret0, nLg_n, nLg_i, nLg_r, tc_c, tc_l, tc_r, tc_m, tc_n, tc_o, tc_0, inR, true_and, and_true, ne_eq, not_true_eq_false, not_false_eq_true, true_imp_iff, false_imp_iff, Int.toNat_natCast, lit_a, Nat.reduceAdd, or_true, true_or, or_false, false_or, Int.reduceEq, Int.reduceNe, Int.reduceLT, Int.reduceLE, Int.reduceNeg, sg_nil]; exact h)
  · have ec : c_chapter z s b = -1 := by unfold c_chapter; rw [if_pos (by omega)]
    rw [ec] at hf
    have hf := hf (by omega)
    refine wp_go b43_8 ?_; simp only [l43_8, sg_if_ne, sg_iconst, sg_iret0, nLg_n, nLg_i, nLg_r, tc_c, tc_l, tc_r, tc_m, tc_n, tc_o, tc_0, inR, true_and, and_true, ne_eq, not_true_eq_false, not_false_eq_true, true_imp_iff, false_imp_iff, Int.toNat_natCast, lit_a, Nat.reduceAdd, or_true, true_or, or_false, false_or, Int.reduceEq, Int.reduceNe, Int.reduceLT, Int.reduceLE, Int.reduceNeg, sg_nil]
    repeat' (first | with_reducible apply And.intro | (intro _) | ((first | refine wp_go b43_0 ?_ | refine wp_go b43_8 ?_ | refine wp_go b43_13 ?_ | refine wp_go b43_17 ?_ | refine wp_go b43_38 ?_ | refine wp_go b43_41 ?_ | refine wp_go b43_52 ?_ | refine wp_go b43_75 ?_); simp only [l43_0, l43_8, l43_13, l43_17, l43_38, l43_41, l43_52, l43_75, sg_aload_0, sg_getfp, sg_iload_1, sg_iv2_i, len4_0, len4_1, len4_2, len4_3, len4_4, sg_if_ne, sg_iconst, sg_iret0, sg_iload_2, sg_is1_1, sg_istore_3, sg_if_eq, sg_iaload, sg_iload_3, sg_ic_ne, sg_bipush, sg_iv2_v, sg_iastore, sg_iv1_i, nLg_n, nLg_i, nLg_r, tc_c, tc_l, tc_r, tc_m, tc_n, tc_o, tc_0, inR, true_and, and_true, ne_eq, not_true_eq_false, not_false_eq_true, true_imp_iff, false_imp_iff, Int.toNat_natCast, lit_a, Nat.reduceAdd, or_true, true_or, or_false, false_or, Int.reduceEq, Int.reduceNe, Int.reduceLT, Int.reduceLE, Int.reduceNeg, sg_nil]))
    all_goals (try omega)
    all_goals exact hf

