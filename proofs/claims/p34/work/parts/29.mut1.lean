def uz (z : Rw) (k : Nat) (v : Int) : Rw := fun x => if x = k then v else z x
theorem uz_at (z : Rw) (k : Nat) (v : Int) (x : Nat) : uz z k v x = if x = k then v else z x := rfl
theorem uz_s (z : Rw) (k : Nat) (v : Int) : uz z k v k = v := by unfold uz; rw [if_pos rfl]
theorem uz_o (z : Rw) {k : Nat} (v : Int) {x : Nat} (h : x ≠ k) : uz z k v x = z x := by unfold uz; rw [if_neg h]
theorem fw_uz (z : Rw) {k : Nat} (v : Int) (l : Nat) (h : k < 230) : fw (uz z k v) l = fw z l := by funext x; exact uz_o z v (by omega)
theorem keep_R {z : Rw} {μ μ' : Mem} (hz : IZ z) (hf : ∀ k, k < 56 ∨ 388 ≤ k → μ' k = μ k) (h : RC z μ 1) : RC z μ' 1 := RC_f (by have := hz.1; omega) (fun k _ _ => hf k (by omega)) h
theorem IZ_len {z : Rw} {s : Nat} {v : Int} (hz : IZ z) (hs : (s : Int) < z 0) (hv : 1 ≤ v ∧ v ≤ 300) : IZ (uz z (5 + 3 * s) v) := by
  have q := hz.1
  obtain ⟨h1, h2, h3, h5, h6⟩ := hz
  have bo : ∀ k, k ≠ 5 + 3 * s → uz z (5 + 3 * s) v k = z k := fun k h => uz_o z v h
  unfold IZ
  rw [bo 0 (by omega), bo 1 (by omega), bo 2 (by omega), bo 3 (by omega), bo 6 (by omega)]
  refine ⟨h1, fun i hi => ?_, h3, fun i hi => ?_, fun l hl => ?_⟩
  · rw [bo (4 + 3 * i) (by omega), bo (6 + 3 * i) (by omega), bo (76 + 5 * i) (by omega)]
    obtain ⟨b1, b2, b3, b4, b5⟩ := h2 i hi
    refine ⟨b1, ?_, b3, b4, fun j hj => by rw [bo _ (by omega)]; exact b5 j hj⟩
    rw [uz_at]; split
    · exact hv
    · exact b2
  · rw [bo (196 + 2 * i) (by omega), bo (197 + 2 * i) (by omega)]; exact h5 i hi
  · rw [bo (212 + 3 * l) (by omega), bo (213 + 3 * l) (by omega), bo (214 + 3 * l) (by omega), fw_uz z v l (by omega)]; exact h6 l hl
theorem RC_len {z : Rw} {μ : Mem} {s : Nat} {v : Int} (hz : IZ z) (hs : (s : Int) < z 0) (hR : RC z μ 1) : RC (uz z (5 + 3 * s) v) (ms μ 4 s v) 1 := by
  have q := hz.1
  obtain ⟨⟨c0, c1, c2, c3⟩, h2, h5, h6⟩ := hR
  have bo : ∀ k, k ≠ 5 + 3 * s → uz z (5 + 3 * s) v k = z k := fun k h => uz_o z v h
  have mo : ∀ k, k ≠ 4 → ms μ 4 s v k = μ k := fun k h => by funext j; simp only [ms_at]; (repeat (first | rw [if_neg (by omega)] | rw [if_pos (by omega)]))
  unfold RC
  rw [bo 0 (by omega), bo 1 (by omega), bo 2 (by omega), bo 3 (by omega)]
  refine ⟨⟨by rw [mo _ (by omega)]; exact c0, by rw [mo _ (by omega)]; exact c1, by rw [mo _ (by omega)]; exact c2, by rw [mo _ (by omega)]; exact c3⟩, fun i hi => ?_, fun i hi => ?_, fun l hl => ?_⟩
  · rw [bo (4 + 3 * i) (by omega), bo (6 + 3 * i) (by omega), bo (76 + 5 * i) (by omega), mo (1 + 2) (by omega), mo (1 + 4) (by omega), mo (1 + 5) (by omega), mo (1 + 6) (by omega)]
    obtain ⟨b1, b2, b3, b4, b5⟩ := h2 i hi
    have r := (hz.2.1 i hi).2.2.2.1
    refine ⟨b1, ?_, b3, b4, fun j hj => by rw [bo _ (by omega)]; exact b5 j hj⟩
    simp only [uz_at, ms_at, true_and]
    by_cases h : i = s
    · rw [if_pos h, if_pos (by omega)]
    · rw [if_neg h, if_neg (by omega)]; exact b2
  · rw [bo (196 + 2 * i) (by omega), bo (197 + 2 * i) (by omega), mo (1 + 7) (by omega), mo (1 + 8) (by omega)]; exact h5 i hi
  · rw [bo (212 + 3 * l) (by omega), bo (213 + 3 * l) (by omega), bo (214 + 3 * l) (by omega), fw_uz z v l (by omega), mo (1 + 9) (by omega), mo (1 + 10) (by omega), mo (1 + 11) (by omega)]
    obtain ⟨b1, b2, b3, b4⟩ := h6 l hl
    exact ⟨b1, b2, b3, fun h => HR_f (fun k _ _ => mo k (by omega)) (b4 h)⟩
def c_change (z : Rw) (s v : Int) : Int := if s < 0 ∨ z 0 ≤ s then -1 else if v < 1 ∨ 300 < v then -2 else 0
/-- what a mutator of the class leaves -/
def MF (z' : Rw) (a' : Hs) (μ μ' : Mem) : Prop := (∀ k, 510 ≤ k → μ' k = μ k) ∧ RC z' μ' 1 ∧ CRr a' μ'
-- NS.change: blocks [0, 8, 13, 21, 27, 38]
theorem k_NS_change {d : Nat} {Q : QT} {μ : Mem} {s v : Int} {z : Rw} {a : Hs} (hz : IZ z) (hR : RC z μ 1) (hC : CRr a μ) (hs : inR s) (hv : inR v) (hf : c_change z s v < 0 → Q (.inl (c_change z s v)) μ)
    (hq : c_change z s v = 0 → ∀ μ', MF (uz z (5 + 3 * s.toNat) v) (hsPush a z) μ μ' → Q (.inl (z (5 + 3 * s.toNat))) μ') : Call σ1 (d + 5) 42 [.inr (.inr 0), .inl s, .inl v] μ Q := by
  refine e_42 ?_
  have q := hz.1
  refine wp_go b42_0 ?_; simp only [l42_0, sg_aload_0, sg_getfp, sg_iload_1, sg_iv2_i, len4_0, len4_1, len4_2, len4_3, len4_4, nLg_n, nLg_i, nLg_r, tc_c, tc_l, tc_r, tc_m, tc_n, tc_o, tc_0, inR, true_and, and_true, ne_eq, not_true_eq_false, not_false_eq_true, true_imp_iff, false_imp_iff, Int.toNat_natCast, lit_a, Nat.reduceAdd, or_true, true_or, or_false, false_or, Int.reduceEq, Int.reduceNe, Int.reduceLT, Int.reduceLE, Int.reduceNeg, sg_nil, s1p, x0, x1, x2, x3, x4, x5, x6, x7, x8, x9, x10, x11, x12, x13, x56, x57, x388, x389, x390, x391, x392, x393, x394, x395, x396, x397, x398, x399]
  refine k_Sta_hasSentence st1 hR hz hs (fun h1 h2 => ?_) (fun h0 => ?_)
  · obtain ⟨n, rfl⟩ := nat_of h1
    refine wp_go b42_8 ?_; simp only [l42_8, sg_if_ne, sg_iconst, sg_iret0, nLg_n, nLg_i, nLg_r, tc_c, tc_l, tc_r, tc_m, tc_n, tc_o, tc_0, inR, true_and, and_true, ne_eq, not_true_eq_false, not_false_eq_true, true_imp_iff, false_imp_iff, Int.toNat_natCast, lit_a, Nat.reduceAdd, or_true, true_or, or_false, false_or, Int.reduceEq, Int.reduceNe, Int.reduceLT, Int.reduceLE, Int.reduceNeg, sg_nil]
    repeat' (first | with_reducible apply And.intro | intro _)
    all_goals (try omega)
    refine wp_go b42_13 ?_; simp only [l42_13, sg_iload_2, sg_iconst, sg_sipush, len4_0, len4_1, len4_2, len4_3, len4_4, sg_is3_1, nLg_n, nLg_i, nLg_r, tc_c, tc_l, tc_r, tc_m, tc_n, tc_o, tc_0, inR, true_and, and_true, ne_eq, not_true_eq_false, not_false_eq_true, true_imp_iff, false_imp_iff, Int.toNat_natCast, lit_a, Nat.reduceAdd, or_true, true_or, or_false, false_or, Int.reduceEq, Int.reduceNe, Int.reduceLT, Int.reduceLE, Int.reduceNeg, sg_nil]
    refine k_NS_isWithin hv (by unfold inR; omega) (by unfold inR; omega) (fun g1 g2 => ?_) (fun g0 => ?_)
    · have ec : c_change z (n : Int) v = 0 := by unfold c_change; rw [if_neg (by omega), if_neg (by omega)]
      have hq := hq ec
      rw [Int.toNat_natCast] at hq
      refine wp_go b42_21 ?_; simp only [l42_21, sg_if_ne, sg_bipush, sg_iret0, nLg_n, nLg_i, nLg_r, tc_c, tc_l, tc_r, tc_m, tc_n, tc_o, tc_0, inR, true_and, and_true, ne_eq, not_true_eq_false, not_false_eq_true, true_imp_iff, false_imp_iff, Int.toNat_natCast, lit_a, Nat.reduceAdd, or_true, true_or, or_false, false_or, Int.reduceEq, Int.reduceNe, Int.reduceLT, Int.reduceLE, Int.reduceNeg, sg_nil, s1p, x0, x1, x2, x3, x4, x5, x6, x7, x8, x9, x10, x11, x12, x13, x56, x57, x388, x389, x390, x391, x392, x393, x394, x395, x396, x397, x398, x399]
      repeat' (first | with_reducible apply And.intro | intro _)
      all_goals (try omega)
      refine wp_go b42_27 ?_; simp only [l42_27, sg_aload_0, sg_getfp, sg_iv2_v, len4_0, len4_1, len4_2, len4_3, len4_4, nLg_n, nLg_i, nLg_r, tc_c, tc_l, tc_r, tc_m, tc_n, tc_o, tc_0, inR, true_and, and_true, ne_eq, not_true_eq_false, not_false_eq_true, true_imp_iff, false_imp_iff, Int.toNat_natCast, lit_a, Nat.reduceAdd, or_true, true_or, or_false, false_or, Int.reduceEq, Int.reduceNe, Int.reduceLT, Int.reduceLE, Int.reduceNeg, sg_nil, s1p, x0, x1, x2, x3, x4, x5, x6, x7, x8, x9, x10, x11, x12, x13, x56, x57, x388, x389, x390, x391, x392, x393, x394, x395, x396, x397, x398, x399]
      refine k_His_keep hz hR hC (fun μ1 f1 C1 => ?_)
      have R1 := keep_R hz f1 hR
      have e := (R1.2.1 n h2).2.1
      have hq := hq _ ⟨fun k hk => by rw [← f1 k (by omega)]; funext j; simp only [ms_at]; (repeat (first | rw [if_neg (by omega)] | rw [if_pos (by omega)])), RC_len hz h2 R1, CRr_f (fun k hk => by funext j; simp only [ms_at]; (repeat (first | rw [if_neg (by omega)] | rw [if_pos (by omega)]))) C1⟩
      have e : μ1 4 n = z (5 + 3 * n) := e
      refine wp_go b42_38 ?_; simp only [l42_38, sg_aload_0, sg_getfp, sg_iload_1, sg_iaload, sg_istore_3, sg_iload_2, sg_iastore, sg_iload_3, sg_iret0, nLg_n, nLg_i, nLg_r, tc_c, tc_l, tc_r, tc_m, tc_n, tc_o, tc_0, inR, true_and, and_true, ne_eq, not_true_eq_false, not_false_eq_true, true_imp_iff, false_imp_iff, Int.toNat_natCast, lit_a, Nat.reduceAdd, or_true, true_or, or_false, false_or, Int.reduceEq, Int.reduceNe, Int.reduceLT, Int.reduceLE, Int.reduceNeg, sg_nil, s1p, x0, x1, x2, x3, x4, x5, x6, x7, x8, x9, x10, x11, x12, x13, x56, x57, x388, x389, x390, x391, x392, x393, x394, x395, x396, x397, x398, x399, e]
      repeat' (first | with_reducible apply And.intro | (intro _) | ((first | refine wp_go b42_0 ?_ | refine wp_go b42_8 ?_ | refine wp_go b42_13 ?_ | refine wp_go b42_21 ?_ | refine wp_go b42_27 ?_ | refine wp_go b42_38 ?_); simp only [l42_0, l42_8, l42_13, l42_21, l42_27, l42_38, sg_aload_0, sg_getfp, sg_iload_1, sg_iv2_i, len4_0, len4_1, len4_2, len4_3, len4_4, sg_if_ne, sg_iconst, sg_iret0, sg_iload_2, sg_sipush, sg_is3_1, sg_bipush, sg_iv2_v, sg_iaload, sg_istore_3, sg_iastore, sg_iload_3, nLg_n, nLg_i, nLg_r, tc_c, tc_l, tc_r, tc_m, tc_n, tc_o, tc_0, inR, true_and, and_true, ne_eq, not_true_eq_false, not_false_eq_true, true_imp_iff, false_imp_iff, Int.toNat_natCast, lit_a, Nat.reduceAdd, or_true, true_or, or_false, false_or, Int.reduceEq, Int.reduceNe, Int.reduceLT, Int.reduceLE, Int.reduceNeg, sg_nil]))
      all_goals (try omega)
      all_goals exact hq
    · have ec : c_change z (n : Int) v = -2 := by unfold c_change; rw [if_neg (by omega), if_pos (by omega)]
      rw [ec] at hf
      have hf := hf (by omega)
      refine wp_go b42_21 ?_; simp only [l42_21, sg_if_ne, sg_bipush, sg_iret0, nLg_n, nLg_i, nLg_r, tc_c, tc_l, tc_r, tc_m, tc_n, tc_o, tc_0, inR, true_and, and_true, ne_eq, not_true_eq_false, not_false_eq_true, true_imp_iff, false_imp_iff, Int.toNat_natCast, lit_a, Nat.reduceAdd, or_true, true_or, or_false, false_or, Int.reduceEq, Int.reduceNe, Int.reduceLT, Int.reduceLE, Int.reduceNeg, sg_nil]
      repeat' (first | with_reducible apply And.intro | (intro _) | ((first | refine wp_go b42_0 ?_ | refine wp_go b42_8 ?_ | refine wp_go b42_13 ?_ | refine wp_go b42_21 ?_ | refine wp_go b42_27 ?_ | refine wp_go b42_38 ?_); simp only [l42_0, l42_8, l42_13, l42_21, l42_27, l42_38, sg_aload_0, sg_getfp, sg_iload_1, sg_iv2_i, len4_0, len4_1, len4_2, len4_3, len4_4, sg_if_ne, sg_iconst, sg_iret0, sg_iload_2, sg_sipush, sg_is3_1, sg_bipush, sg_iv2_v, sg_iaload, sg_istore_3, sg_iastore, sg_iload_3, nLg_n, nLg_i, nLg_r, tc_c, tc_l, tc_r, tc_m, tc_n, tc_o, tc_0, inR, true_and, and_true, ne_eq, not_true_eq_false, not_false_eq_true, true_imp_iff, false_imp_iff, Int.toNat_natCast, lit_a, Nat.reduceAdd, or_true, true_or, or_false, false_or, Int.reduceEq, Int.reduceNe, Int.reduceLT, Int.reduceLE, Int.reduceNeg, sg_nil]))
      all_goals (try omega)
      all_goals exact hf
  · have ec : c_change z s v = -1 := by unfold c_change; rw [if_pos (by omega)]
    rw [ec] at hf
    have hf := hf (by omega)
    refine wp_go b42_8 ?_; simp only [l42_8, sg_if_ne, sg_iconst, sg_iret0, nLg_n, nLg_i, nLg_r, tc_c, tc_l, tc_r, tc_m, tc_n, tc_o, tc_0, inR, true_and, and_true, ne_eq, not_true_eq_false, not_false_eq_true, true_imp_iff, false_imp_iff, Int.toNat_natCast, lit_a, Nat.reduceAdd, or_true, true_or, or_false, false_or, Int.reduceEq, Int.reduceNe, Int.reduceLT, Int.reduceLE, Int.reduceNeg, sg_nil]
    repeat' (first | with_reducible apply And.intro | (intro _) | ((first | refine wp_go b42_0 ?_ | refine wp_go b42_8 ?_ | refine wp_go b42_13 ?_ | refine wp_go b42_21 ?_ | refine wp_go b42_27 ?_ | refine wp_go b42_38 ?_); simp only [l42_0, l42_8, l42_13, l42_21, l42_27, l42_38, sg_aload_0, sg_getfp, sg_iload_1, sg_iv2_i, len4_0, len4_1, len4_2, len4_3, len4_4, sg_if_ne, sg_iconst, sg_iret0, sg_iload_2, sg_sipush, sg_is3_1, sg_bipush, sg_iv2_v, sg_iaload, sg_istore_3, sg_iastore, sg_iload_3, nLg_n, nLg_i, nLg_r, tc_c, tc_l, tc_r, tc_m, tc_n, tc_o, tc_0, inR, true_and, and_true, ne_eq, not_true_eq_false, not_false_eq_true, true_imp_iff, false_imp_iff, Int.toNat_natCast, lit_a, Nat.reduceAdd, or_true, true_or, or_false, false_or, Int.reduceEq, Int.reduceNe, Int.reduceLT, Int.reduceLE, Int.reduceNeg, sg_nil]))
    all_goals (try omega)
    all_goals exact hf

