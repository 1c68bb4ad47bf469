-- NS.undo: blocks [0, 13, 24]
theorem k_NS_undo {d : Nat} {Q : QT} {μ : Mem} {a : Hs} (hC : CRr a μ) (hf : hsN a = 0 → Q (.inl (-5)) μ)
    (hq : hsN a ≠ 0 → ∀ μ', MF (hsH a (hsN a - 1)) (hsPop a) μ μ' → Q (.inl ((hsN a : Int) - 1)) μ') : Call σ1 (d + 5) 77 [.inr (.inr 0)] μ Q := by
  refine e_77 ?_
  have e2 : μ 56 2 = (hsN a : Int) := hC.1.2.1
  have q6 := hC.1.1
  refine wp_go b77_0 ?_; simp only [l77_0, sg_aload_0, sg_getfp, sg_getf0, sg_if_ne, sg_bipush, sg_iret0, nLg_n, nLg_i, nLg_r, tc_c, tc_l, tc_r, tc_m, tc_n, tc_o, tc_0, inR, true_and, and_true, ne_eq, not_true_eq_false, not_false_eq_true, true_imp_iff, false_imp_iff, Int.toNat_natCast, lit_a, Nat.reduceAdd, or_true, true_or, or_false, false_or, Int.reduceEq, Int.reduceNe, Int.reduceLT, Int.reduceLE, Int.reduceNeg, sg_nil, s1p, x0, x1, x2, x3, x4, x5, x6, x7, x8, x9, x10, x11, x12, x13, x56, x57, x388, x389, x390, x391, x392, x393, x394, x395, x396, x397, x398, x399, e2]
  rcases Nat.eq_zero_or_pos (hsN a) with h | h
  · have hf := hf h
    repeat' (first | with_reducible apply And.intro | intro _)
    all_goals (try omega)
  · have hq := hq (by omega)
    repeat' (first | with_reducible apply And.intro | intro _)
    all_goals (try omega)
    obtain ⟨n, hn⟩ : ∃ n, hsN a = n + 1 := ⟨hsN a - 1, by omega⟩
    refine wp_go b77_13 ?_; simp only [l77_13, sg_aload_0, sg_getfp, sg_iv2_v, len4_0, len4_1, len4_2, len4_3, len4_4, nLg_n, nLg_i, nLg_r, tc_c, tc_l, tc_r, tc_m, tc_n, tc_o, tc_0, inR, true_and, and_true, ne_eq, not_true_eq_false, not_false_eq_true, true_imp_iff, false_imp_iff, Int.toNat_natCast, lit_a, Nat.reduceAdd, or_true, true_or, or_false, false_or, Int.reduceEq, Int.reduceNe, Int.reduceLT, Int.reduceLE, Int.reduceNeg, sg_nil, s1p, x0, x1, x2, x3, x4, x5, x6, x7, x8, x9, x10, x11, x12, x13, x56, x57, x388, x389, x390, x391, x392, x393, x394, x395, x396, x397, x398, x399]
    refine k_His_takeBack hC hn (fun μ1 f1 R1 C1 => ?_)
    have e3 : μ1 56 2 = ((hsN a - 1 : Nat) : Int) := C1.1.2.1
    have hq := hq μ1 ⟨fun k hk => f1 k (by omega), by rw [hn]; exact R1, C1⟩
    rw [show (hsN a : Int) - 1 = ((hsN a - 1 : Nat) : Int) by omega] at hq
    refine wp_go b77_24 ?_; simp only [l77_24, sg_aload_0, sg_getfp, sg_getf0, sg_iret0, nLg_n, nLg_i, nLg_r, tc_c, tc_l, tc_r, tc_m, tc_n, tc_o, tc_0, inR, true_and, and_true, ne_eq, not_true_eq_false, not_false_eq_true, true_imp_iff, false_imp_iff, Int.toNat_natCast, lit_a, Nat.reduceAdd, or_true, true_or, or_false, false_or, Int.reduceEq, Int.reduceNe, Int.reduceLT, Int.reduceLE, Int.reduceNeg, sg_nil, s1p, x0, x1, x2, x3, x4, x5, x6, x7, x8, x9, x10, x11, x12, x13, x56, x57, x388, x389, x390, x391, x392, x393, x394, x395, x396, x397, x398, x399, e3]
    exact hq
def hsSave (a : Hs) (s : Nat) (z : Rw) : Hs := (hsN a, hsH a, (fun i => if i = s then 1 else hsV a i), (fun i => if i = s then z else hsL a i), hsP a, hsC a)
-- NS.save: blocks [0, 6, 12, 25]
theorem k_NS_save {d : Nat} {Q : QT} {μ : Mem} {s : Int} {z : Rw} {a : Hs} (hz : IZ z) (hR : RC z μ 1) (hC : CRr a μ) (hs : inR s) (hf : (s < 0 ∨ 1 < s) → Q (.inl (-2)) μ)
    (hq : 0 ≤ s → s ≤ 1 → ∀ μ', MF z (hsSave a s.toNat z) μ μ' → Q (.inl (z 0)) μ') : Call σ1 (d + 4) 78 [.inr (.inr 0), .inl s] μ Q := by
  refine e_78 ?_
  have q := hz.1
  refine wp_go b78_0 ?_; simp only [l78_0, sg_iload_1, sg_iconst, len4_0, len4_1, len4_2, len4_3, len4_4, sg_is3_1, nLg_n, nLg_i, nLg_r, tc_c, tc_l, tc_r, tc_m, tc_n, tc_o, tc_0, inR, true_and, and_true, ne_eq, not_true_eq_false, not_false_eq_true, true_imp_iff, false_imp_iff, Int.toNat_natCast, lit_a, Nat.reduceAdd, or_true, true_or, or_false, false_or, Int.reduceEq, Int.reduceNe, Int.reduceLT, Int.reduceLE, Int.reduceNeg, sg_nil]
  refine k_NS_isWithin hs (by unfold inR; omega) (by unfold inR; omega) (fun g1 g2 => ?_) (fun g0 => ?_)
  · obtain ⟨n, rfl⟩ := nat_of g1
    have hq := hq g1 g2
    rw [Int.toNat_natCast] at hq
    have stS : iSta σ1 (400 + 55 * n) := by
      rcases (show n = 0 ∨ n = 1 by omega) with rfl | rfl
      · exact st400
      · exact st455
    refine wp_go b78_6 ?_; simp only [l78_6, sg_if_ne, sg_bipush, sg_iret0, nLg_n, nLg_i, nLg_r, tc_c, tc_l, tc_r, tc_m, tc_n, tc_o, tc_0, inR, true_and, and_true, ne_eq, not_true_eq_false, not_false_eq_true, true_imp_iff, false_imp_iff, Int.toNat_natCast, lit_a, Nat.reduceAdd, or_true, true_or, or_false, false_or, Int.reduceEq, Int.reduceNe, Int.reduceLT, Int.reduceLE, Int.reduceNeg, sg_nil]
    repeat' (first | with_reducible apply And.intro | intro _)
    all_goals (try omega)
    refine wp_go b78_12 ?_; simp only [l78_12, sg_aload_0, sg_getfp, sg_iload_1, sg_aaload, sg_iv2_v, len4_0, len4_1, len4_2, len4_3, len4_4, nLg_n, nLg_i, nLg_r, tc_c, tc_l, tc_r, tc_m, tc_n, tc_o, tc_0, inR, true_and, and_true, ne_eq, not_true_eq_false, not_false_eq_true, true_imp_iff, false_imp_iff, Int.toNat_natCast, lit_a, Nat.reduceAdd, or_true, true_or, or_false, false_or, Int.reduceEq, Int.reduceNe, Int.reduceLT, Int.reduceLE, Int.reduceNeg, sg_nil, s1p, x0, x1, x2, x3, x4, x5, x6, x7, x8, x9, x10, x11, x12, x13, x56, x57, x388, x389, x390, x391, x392, x393, x394, x395, x396, x397, x398, x399, stS.1]
    repeat' (first | with_reducible apply And.intro | (intro _) | ((first | refine wp_go b78_0 ?_ | refine wp_go b78_6 ?_ | refine wp_go b78_12 ?_ | refine wp_go b78_25 ?_); simp only [l78_0, l78_6, l78_12, l78_25, sg_iload_1, sg_iconst, len4_0, len4_1, len4_2, len4_3, len4_4, sg_is3_1, sg_if_ne, sg_bipush, sg_iret0, sg_aload_0, sg_getfp, sg_aaload, sg_iv2_v, sg_bastore, sg_getf0, nLg_n, nLg_i, nLg_r, tc_c, tc_l, tc_r, tc_m, tc_n, tc_o, tc_0, inR, true_and, and_true, ne_eq, not_true_eq_false, not_false_eq_true, true_imp_iff, false_imp_iff, Int.toNat_natCast, lit_a, Nat.reduceAdd, or_true, true_or, or_false, false_or, Int.reduceEq, Int.reduceNe, Int.reduceLT, Int.reduceLE, Int.reduceNeg, sg_nil]))
    all_goals (try omega)
    refine k_Sta_copyFrom stS st1 (by omega) hz hR (fun μ1 f1 R1 => ?_)
    have h : ∀ μ' : Mem, (∀ k, k ≠ 389 → μ' k = μ1 k) → (∀ j, μ' 389 j = if j = n then 1 else μ1 389 j) → Q (.inl (z 0)) μ' := fun μ' m0 m1 => by
      have f3 : ∀ k, k ≠ 389 → k < 400 + 55 * n ∨ 400 + 55 * n + 55 ≤ k → μ' k = μ k := fun k h1 h2 => (m0 k h1).trans (f1 k h2)
      refine hq μ' ⟨fun k hk => f3 k (by omega) (by omega), RC_f (by omega) (fun k _ _ => f3 k (by omega) (by omega)) hR, HisR_f (fun k _ _ => f3 k (by omega) (by omega)) hC.1, fun i hi => ?_, ?_⟩
      · obtain ⟨g1, g2, g3⟩ := hC.2.1 i hi
        show ((if i = n then 1 else hsV a i) = 0 ∨ (if i = n then 1 else hsV a i) = 1) ∧ μ' 389 i = (if i = n then 1 else hsV a i) ∧ ((if i = n then 1 else hsV a i) = 1 → IZ (if i = n then z else hsL a i) ∧ RC (if i = n then z else hsL a i) μ' (400 + 55 * i))
        rw [m1 i]
        by_cases h : i = n
        · subst h
          rw [if_pos rfl, if_pos rfl, if_pos rfl]
          exact ⟨Or.inr rfl, rfl, fun _ => ⟨hz, RC_f (by omega) (fun k _ _ => m0 k (by omega)) R1⟩⟩
        · rw [if_neg h, if_neg h, if_neg h, f1 389 (by omega)]
          exact ⟨g1, g2, fun h => ⟨(g3 h).1, RC_f (by have := (g3 h).1.1; omega) (fun k _ _ => f3 k (by omega) (by omega)) (g3 h).2⟩⟩
      · show hsP a ≤ 60 ∧ _
        rw [f3 390 (by omega) (by omega), f3 391 (by omega) (by omega)]
        exact hC.2.2
    have e : μ1 2 3 = z 0 := by rw [f1 2 (by omega)]; exact hR.1.1
    refine wp_go b78_25 ?_; simp only [l78_25, sg_aload_0, sg_getfp, sg_iload_1, sg_iconst, sg_bastore, sg_getf0, sg_iret0, nLg_n, nLg_i, nLg_r, tc_c, tc_l, tc_r, tc_m, tc_n, tc_o, tc_0, inR, true_and, and_true, ne_eq, not_true_eq_false, not_false_eq_true, true_imp_iff, false_imp_iff, Int.toNat_natCast, lit_a, Nat.reduceAdd, or_true, true_or, or_false, false_or, Int.reduceEq, Int.reduceNe, Int.reduceLT, Int.reduceLE, Int.reduceNeg, sg_nil, s1p, x0, x1, x2, x3, x4, x5, x6, x7, x8, x9, x10, x11, x12, x13, x56, x57, x388, x389, x390, x391, x392, x393, x394, x395, x396, x397, x398, x399, e, ms_at, false_and, and_false, if_false, if_true, and_self, Nat.reduceEqDiff, ne_a, ne_b, Nat.add_left_cancel_iff]
    repeat' (first | with_reducible apply And.intro | (intro _) | ((first | refine wp_go b78_0 ?_ | refine wp_go b78_6 ?_ | refine wp_go b78_12 ?_ | refine wp_go b78_25 ?_); simp only [l78_0, l78_6, l78_12, l78_25, sg_iload_1, sg_iconst, len4_0, len4_1, len4_2, len4_3, len4_4, sg_is3_1, sg_if_ne, sg_bipush, sg_iret0, sg_aload_0, sg_getfp, sg_aaload, sg_iv2_v, sg_bastore, sg_getf0, nLg_n, nLg_i, nLg_r, tc_c, tc_l, tc_r, tc_m, tc_n, tc_o, tc_0, inR, true_and, and_true, ne_eq, not_true_eq_false, not_false_eq_true, true_imp_iff, false_imp_iff, Int.toNat_natCast, lit_a, Nat.reduceAdd, or_true, true_or, or_false, false_or, Int.reduceEq, Int.reduceNe, Int.reduceLT, Int.reduceLE, Int.reduceNeg, sg_nil]))
    all_goals (try omega)
    all_goals
      refine h _ (fun k hk => ?_) (fun j => ?_)
      · funext j; simp only [ms_at]; (repeat (first | rw [if_neg (by omega)] | rw [if_pos (by omega)]))
      · simp [ms_at]
  · have hf := hf (by omega)
    refine wp_go b78_6 ?_; simp only [l78_6, sg_if_ne, sg_bipush, sg_iret0, nLg_n, nLg_i, nLg_r, tc_c, tc_l, tc_r, tc_m, tc_n, tc_o, tc_0, inR, true_and, and_true, ne_eq, not_true_eq_false, not_false_eq_true, true_imp_iff, false_imp_iff, Int.toNat_natCast, lit_a, Nat.reduceAdd, or_true, true_or, or_false, false_or, Int.reduceEq, Int.reduceNe, Int.reduceLT, Int.reduceLE, Int.reduceNeg, sg_nil]
    repeat' (first | with_reducible apply And.intro | (intro _) | ((first | refine wp_go b78_0 ?_ | refine wp_go b78_6 ?_ | refine wp_go b78_12 ?_ | refine wp_go b78_25 ?_); simp only [l78_0, l78_6, l78_12, l78_25, sg_iload_1, sg_iconst, len4_0, len4_1, len4_2, len4_3, len4_4, sg_is3_1, sg_if_ne, sg_bipush, sg_iret0, sg_aload_0, sg_getfp, sg_aaload, sg_iv2_v, sg_bastore, sg_getf0, nLg_n, nLg_i, nLg_r, tc_c, tc_l, tc_r, tc_m, tc_n, tc_o, tc_0, inR, true_and, and_true, ne_eq, not_true_eq_false, not_false_eq_true, true_imp_iff, false_imp_iff, Int.toNat_natCast, lit_a, Nat.reduceAdd, or_true, true_or, or_false, false_or, Int.reduceEq, Int.reduceNe, Int.reduceLT, Int.reduceLE, Int.reduceNeg, sg_nil]))
    all_goals (try omega)
    all_goals exact hf
def c_restore (a : Hs) (s : Int) : Int := if s < 0 ∨ 1 < s then -2 else if hsV a s.toNat ≠ 1 then -5 else 0
-- NS.restore: blocks [0, 6, 12, 24, 35, 48]
theorem k_NS_restore {d : Nat} {Q : QT} {μ : Mem} {s : Int} {z : Rw} {a : Hs} (hz : IZ z) (hR : RC z μ 1) (hC : CRr a μ) (hs : inR s) (hf : c_restore a s < 0 → Q (.inl (c_restore a s)) μ)
    (hq : c_restore a s = 0 → ∀ μ', MF (hsL a s.toNat) (hsPush a z) μ μ' → Q (.inl (hsL a s.toNat 0)) μ') : Call σ1 (d + 5) 79 [.inr (.inr 0), .inl s] μ Q := by
  refine e_79 ?_
  have q := hz.1
  refine wp_go b79_0 ?_; simp only [l79_0, sg_iload_1, sg_iconst, len4_0, len4_1, len4_2, len4_3, len4_4, sg_is3_1, nLg_n, nLg_i, nLg_r, tc_c, tc_l, tc_r, tc_m, tc_n, tc_o, tc_0, inR, true_and, and_true, ne_eq, not_true_eq_false, not_false_eq_true, true_imp_iff, false_imp_iff, Int.toNat_natCast, lit_a, Nat.reduceAdd, or_true, true_or, or_false, false_or, Int.reduceEq, Int.reduceNe, Int.reduceLT, Int.reduceLE, Int.reduceNeg, sg_nil]
  refine k_NS_isWithin hs (by unfold inR; omega) (by unfold inR; omega) (fun g1 g2 => ?_) (fun g0 => ?_)
  · obtain ⟨n, rfl⟩ := nat_of g1
    rw [Int.toNat_natCast] at hq
    have stS : iSta σ1 (400 + 55 * n) := by
      rcases (show n = 0 ∨ n = 1 by omega) with rfl | rfl
      · exact st400
      · exact st455
    obtain ⟨v1, v2, v3⟩ := hC.2.1 n (by omega)
    refine wp_go b79_6 ?_; simp only [l79_6, sg_if_ne, sg_bipush, sg_iret0, nLg_n, nLg_i, nLg_r, tc_c, tc_l, tc_r, tc_m, tc_n, tc_o, tc_0, inR, true_and, and_true, ne_eq, not_true_eq_false, not_false_eq_true, true_imp_iff, false_imp_iff, Int.toNat_natCast, lit_a, Nat.reduceAdd, or_true, true_or, or_false, false_or, Int.reduceEq, Int.reduceNe, Int.reduceLT, Int.reduceLE, Int.reduceNeg, sg_nil]
    repeat' (first | with_reducible apply And.intro | intro _)
    all_goals (try omega)
    rcases v1 with v | v
    · have ec : c_restore a (n : Int) = -5 := by unfold c_restore; rw [if_neg (by omega), Int.toNat_natCast, if_pos (by omega)]
      rw [ec] at hf
      have hf := hf (by omega)
      rw [v] at v2
      refine wp_go b79_12 ?_; simp only [l79_12, sg_aload_0, sg_getfp, sg_iload_1, sg_baload, sg_if_ne, sg_bipush, sg_iret0, nLg_n, nLg_i, nLg_r, tc_c, tc_l, tc_r, tc_m, tc_n, tc_o, tc_0, inR, true_and, and_true, ne_eq, not_true_eq_false, not_false_eq_true, true_imp_iff, false_imp_iff, Int.toNat_natCast, lit_a, Nat.reduceAdd, or_true, true_or, or_false, false_or, Int.reduceEq, Int.reduceNe, Int.reduceLT, Int.reduceLE, Int.reduceNeg, sg_nil, s1p, x0, x1, x2, x3, x4, x5, x6, x7, x8, x9, x10, x11, x12, x13, x56, x57, x388, x389, x390, x391, x392, x393, x394, x395, x396, x397, x398, x399, v2]
      repeat' (first | with_reducible apply And.intro | (intro _) | ((first | refine wp_go b79_0 ?_ | refine wp_go b79_6 ?_ | refine wp_go b79_12 ?_ | refine wp_go b79_24 ?_ | refine wp_go b79_35 ?_ | refine wp_go b79_48 ?_); simp only [l79_0, l79_6, l79_12, l79_24, l79_35, l79_48, sg_iload_1, sg_iconst, len4_0, len4_1, len4_2, len4_3, len4_4, sg_is3_1, sg_if_ne, sg_bipush, sg_iret0, sg_aload_0, sg_getfp, sg_baload, sg_iv2_v, sg_aaload, sg_getf0, nLg_n, nLg_i, nLg_r, tc_c, tc_l, tc_r, tc_m, tc_n, tc_o, tc_0, inR, true_and, and_true, ne_eq, not_true_eq_false, not_false_eq_true, true_imp_iff, false_imp_iff, Int.toNat_natCast, lit_a, Nat.reduceAdd, or_true, true_or, or_false, false_or, Int.reduceEq, Int.reduceNe, Int.reduceLT, Int.reduceLE, Int.reduceNeg, sg_nil]))
      all_goals (try omega)
      all_goals exact hf
    · have ec : c_restore a (n : Int) = 0 := by unfold c_restore; rw [if_neg (by omega), Int.toNat_natCast, if_neg (by omega)]
      have hq := hq ec
      rw [v] at v2
      have I3 := (v3 v).1
      have q3 := I3.1
      refine wp_go b79_12 ?_; simp only [l79_12, sg_aload_0, sg_getfp, sg_iload_1, sg_baload, sg_if_ne, sg_bipush, sg_iret0, nLg_n, nLg_i, nLg_r, tc_c, tc_l, tc_r, tc_m, tc_n, tc_o, tc_0, inR, true_and, and_true, ne_eq, not_true_eq_false, not_false_eq_true, true_imp_iff, false_imp_iff, Int.toNat_natCast, lit_a, Nat.reduceAdd, or_true, true_or, or_false, false_or, Int.reduceEq, Int.reduceNe, Int.reduceLT, Int.reduceLE, Int.reduceNeg, sg_nil, s1p, x0, x1, x2, x3, x4, x5, x6, x7, x8, x9, x10, x11, x12, x13, x56, x57, x388, x389, x390, x391, x392, x393, x394, x395, x396, x397, x398, x399, v2]
      repeat' (first | with_reducible apply And.intro | intro _)
      all_goals (try omega)
      refine wp_go b79_24 ?_; simp only [l79_24, sg_aload_0, sg_getfp, sg_iv2_v, len4_0, len4_1, len4_2, len4_3, len4_4, nLg_n, nLg_i, nLg_r, tc_c, tc_l, tc_r, tc_m, tc_n, tc_o, tc_0, inR, true_and, and_true, ne_eq, not_true_eq_false, not_false_eq_true, true_imp_iff, false_imp_iff, Int.toNat_natCast, lit_a, Nat.reduceAdd, or_true, true_or, or_false, false_or, Int.reduceEq, Int.reduceNe, Int.reduceLT, Int.reduceLE, Int.reduceNeg, sg_nil, s1p, x0, x1, x2, x3, x4, x5, x6, x7, x8, x9, x10, x11, x12, x13, x56, x57, x388, x389, x390, x391, x392, x393, x394, x395, x396, x397, x398, x399]
      refine k_His_keep hz hR hC (fun μ1 f1 C1 => ?_)
      have R1 : RC (hsL a n) μ1 (400 + 55 * n) := RC_f (by omega) (fun k _ _ => f1 k (by omega)) (v3 v).2
      refine wp_go b79_35 ?_; simp only [l79_35, sg_aload_0, sg_getfp, sg_iload_1, sg_aaload, sg_iv2_v, len4_0, len4_1, len4_2, len4_3, len4_4, nLg_n, nLg_i, nLg_r, tc_c, tc_l, tc_r, tc_m, tc_n, tc_o, tc_0, inR, true_and, and_true, ne_eq, not_true_eq_false, not_false_eq_true, true_imp_iff, false_imp_iff, Int.toNat_natCast, lit_a, Nat.reduceAdd, or_true, true_or, or_false, false_or, Int.reduceEq, Int.reduceNe, Int.reduceLT, Int.reduceLE, Int.reduceNeg, sg_nil, s1p, x0, x1, x2, x3, x4, x5, x6, x7, x8, x9, x10, x11, x12, x13, x56, x57, x388, x389, x390, x391, x392, x393, x394, x395, x396, x397, x398, x399]
      repeat' (first | with_reducible apply And.intro | intro _)
      all_goals (try omega)
      refine k_Sta_copyFrom st1 stS (by omega) I3 R1 (fun μ2 f2 R2 => ?_)
      have hq := hq μ2 ⟨fun k hk => by rw [f2 k (by omega), f1 k (by omega)], R2, CRr_f (fun k hk => f2 k (by omega)) C1⟩
      have e : μ2 2 3 = hsL a n 0 := R2.1.1
      refine wp_go b79_48 ?_; simp only [l79_48, sg_aload_0, sg_getfp, sg_getf0, sg_iret0, nLg_n, nLg_i, nLg_r, tc_c, tc_l, tc_r, tc_m, tc_n, tc_o, tc_0, inR, true_and, and_true, ne_eq, not_true_eq_false, not_false_eq_true, true_imp_iff, false_imp_iff, Int.toNat_natCast, lit_a, Nat.reduceAdd, or_true, true_or, or_false, false_or, Int.reduceEq, Int.reduceNe, Int.reduceLT, Int.reduceLE, Int.reduceNeg, sg_nil, s1p, x0, x1, x2, x3, x4, x5, x6, x7, x8, x9, x10, x11, x12, x13, x56, x57, x388, x389, x390, x391, x392, x393, x394, x395, x396, x397, x398, x399, e]
      exact hq
  · have ec : c_restore a s = -2 := by unfold c_restore; rw [if_pos (by omega)]
    rw [ec] at hf
    have hf := hf (by omega)
    refine wp_go b79_6 ?_; simp only [l79_6, sg_if_ne, sg_bipush, sg_iret0, nLg_n, nLg_i, nLg_r, tc_c, tc_l, tc_r, tc_m, tc_n, tc_o, tc_0, inR, true_and, and_true, ne_eq, not_true_eq_false, not_false_eq_true, true_imp_iff, false_imp_iff, Int.toNat_natCast, lit_a, Nat.reduceAdd, or_true, true_or, or_false, false_or, Int.reduceEq, Int.reduceNe, Int.reduceLT, Int.reduceLE, Int.reduceNeg, sg_nil]
    repeat' (first | with_reducible apply And.intro | (intro _) | ((first | refine wp_go b79_0 ?_ | refine wp_go b79_6 ?_ | refine wp_go b79_12 ?_ | refine wp_go b79_24 ?_ | refine wp_go b79_35 ?_ | refine wp_go b79_48 ?_); simp only [l79_0, l79_6, l79_12, l79_24, l79_35, l79_48, sg_iload_1, sg_iconst, len4_0, len4_1, len4_2, len4_3, len4_4, sg_is3_1, sg_if_ne, sg_bipush, sg_iret0, sg_aload_0, sg_getfp, sg_baload, sg_iv2_v, sg_aaload, sg_getf0, nLg_n, nLg_i, nLg_r, tc_c, tc_l, tc_r, tc_m, tc_n, tc_o, tc_0, inR, true_and, and_true, ne_eq, not_true_eq_false, not_false_eq_true, true_imp_iff, false_imp_iff, Int.toNat_natCast, lit_a, Nat.reduceAdd, or_true, true_or, or_false, false_or, Int.reduceEq, Int.reduceNe, Int.reduceLT, Int.reduceLE, Int.reduceNeg, sg_nil]))
    all_goals (try omega)
    all_goals exact hf
