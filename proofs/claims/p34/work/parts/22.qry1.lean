theorem sm_h (f : Nat → Int) : ∀ n : Nat, sm f (n + 1) = f 0 + sm (fun i => f (i + 1)) n
  | 0 => by rw [sm_s, sm_0, sm_0]; omega
  | n + 1 => by rw [sm_s, sm_h f n, sm_s]; omega
def zm (z : Rw) (i : Nat) : Int := z (4 + 3 * i)
def zl (z : Rw) (i : Nat) : Int := z (5 + 3 * i)
def zb (z : Rw) (i : Nat) : Int := z (6 + 3 * i)
def zn (z : Rw) : Nat := (z 0).toNat
def znl (z : Rw) : Nat := (z 3).toNat
theorem zn_eq {z : Rw} (hz : IZ z) : z 0 = ((zn z : Nat) : Int) ∧ 1 ≤ zn z ∧ zn z ≤ 24 := by have := hz.1; unfold zn; omega
theorem znl_eq {z : Rw} (hz : IZ z) : z 3 = ((znl z : Nat) : Int) ∧ znl z ≤ 6 := by have := hz.1; unfold znl; omega
/-- what a question leaves: its scratch cells, and the end of the rows -/
def QF (z : Rw) (μ μ' : Mem) : Prop := (∀ k, k ≠ 6 → k ≠ 7 → (k < 392 ∨ 400 ≤ k) → μ' k = μ k) ∧ RC z μ' 1
theorem QF_r {z : Rw} {μ : Mem} (h : RC z μ 1) : QF z μ μ := ⟨fun _ _ _ _ => rfl, h⟩
theorem QF_s {z : Rw} {μ μ' : Mem} (hz : IZ z) (h : RC z μ 1) (hf : ∀ k, (k < 392 ∨ 400 ≤ k) → μ' k = μ k) : QF z μ μ' := ⟨fun k _ _ h => hf k h, RC_f (by have := hz.1; omega) (fun k _ _ => hf k (by omega)) h⟩
def F_sentence (z : Rw) (s w : Int) : Int := if s < 0 ∨ z 0 ≤ s then -1 else if w = 0 then zm z s.toNat else if w = 1 then zl z s.toNat else if w = 2 then sm (zl z) s.toNat else if w = 3 then sm (zb z) (s.toNat + 1) - 1 else if w = 4 then zb z s.toNat else if w = 5 then z (76 + 5 * s.toNat) else -2
theorem sm_zl {z : Rw} {μ : Mem} {n : Nat} (hR : RC z μ 1) (h : (n : Int) ≤ z 0) : sm (μ 4) n = sm (zl z) n := sm_c (fun i hi => (hR.2.1 i (by omega)).2.1)
theorem sm_zb {z : Rw} {μ : Mem} {n : Nat} (hz : IZ z) (hR : RC z μ 1) (h : (n : Int) < z 0) : sm (fun i => μ 5 (i + 1)) n = sm (zb z) (n + 1) - 1 := by
  rw [sm_h (zb z) n, show zb z 0 = 1 from hz.2.2.1, sm_c (f := fun i => μ 5 (i + 1)) (g := fun i => zb z (i + 1)) (fun i hi => (hR.2.1 (i + 1) (by omega)).2.2.1)]
  omega
-- NS.sentence: blocks [0, 8, 13, 52, 65, 78, 89, 90, 101, 102, 115, 125]
theorem k_NS_sentence {d : Nat} {Q : QT} {μ : Mem} {s w : Int} {z : Rw} (hz : IZ z) (hR : RC z μ 1) (hs : inR s) (hw : inR w) (hq : ∀ μ', QF z μ μ' → Q (.inl (F_sentence z s w)) μ') : Call σ1 (d + 3) 49 [.inr (.inr 0), .inl s, .inl w] μ Q := by
  refine e_49 ?_
  have h := hq μ (QF_r hR)
  have q := hz.1
  refine wp_go b49_0 ?_; simp only [l49_0, sg_aload_0, sg_getfp, sg_iload_1, sg_iv2_i, len4_0, len4_1, len4_2, len4_3, len4_4, nLg_n, nLg_i, nLg_r, tc_c, tc_l, tc_r, tc_m, tc_n, tc_o, tc_0, inR, true_and, and_true, ne_eq, not_true_eq_false, not_false_eq_true, true_imp_iff, false_imp_iff, Int.toNat_natCast, lit_a, Nat.reduceAdd, or_true, true_or, or_false, false_or, Int.reduceEq, Int.reduceNe, Int.reduceLT, Int.reduceLE, Int.reduceNeg, sg_nil, s1p, x0, x1, x2, x3, x4, x5, x6, x7, x8, x9, x10, x11, x12, x13, x56, x57, x388, x389, x390, x391, x392, x393, x394, x395, x396, x397, x398, x399]
  refine k_Sta_hasSentence st1 hR hz hs (fun h1 h2 => ?_) (fun h0 => ?_)
  · obtain ⟨n, rfl⟩ := nat_of h1
    obtain ⟨a1, a2, a3, a4, -⟩ := hR.2.1 n h2
    have a1 : μ 3 n = zm z n := a1
    have a2 : μ 4 n = zl z n := a2
    have a3 : μ 5 n = zb z n := a3
    have a4 : μ 6 n = z (76 + 5 * n) := a4
    have b1 : sm (μ (2 + 2)) n = sm (zl z) n := sm_zl hR (by omega)
    have b2 : sm (fun i => μ (2 + 3) (i + 1)) n = sm (zb z) (n + 1) - 1 := sm_zb hz hR h2
    unfold inR at hw
    refine wp_go b49_8 ?_; simp only [l49_8, sg_if_ne, sg_iconst, sg_iret0, nLg_n, nLg_i, nLg_r, tc_c, tc_l, tc_r, tc_m, tc_n, tc_o, tc_0, inR, true_and, and_true, ne_eq, not_true_eq_false, not_false_eq_true, true_imp_iff, false_imp_iff, Int.toNat_natCast, lit_a, Nat.reduceAdd, or_true, true_or, or_false, false_or, Int.reduceEq, Int.reduceNe, Int.reduceLT, Int.reduceLE, Int.reduceNeg, sg_nil]
    repeat' (first | with_reducible apply And.intro | (intro _) | refine k_Sen_timeOf st1.2.1 (by omega) ?_ | refine k_Sen_chapterOf st1.2.1 (by omega) ?_ | ((first | refine wp_go b49_0 ?_ | refine wp_go b49_8 ?_ | refine wp_go b49_13 ?_ | refine wp_go b49_52 ?_ | refine wp_go b49_65 ?_ | refine wp_go b49_78 ?_ | refine wp_go b49_89 ?_ | refine wp_go b49_90 ?_ | refine wp_go b49_101 ?_ | refine wp_go b49_102 ?_ | refine wp_go b49_115 ?_ | refine wp_go b49_125 ?_); simp only [l49_0, l49_8, l49_13, l49_52, l49_65, l49_78, l49_89, l49_90, l49_101, l49_102, l49_115, l49_125, sg_aload_0, sg_getfp, sg_iload_1, sg_iv2_i, len4_0, len4_1, len4_2, len4_3, len4_4, sg_if_ne, sg_iconst, sg_iret0, sg_iload_2, sg_tsw, swc_n, swc_c, List.toList_toArray, Int.reduceAdd, Int.reduceToNat, sg_iaload, sg_bipush, nLg_n, nLg_i, nLg_r, tc_c, tc_l, tc_r, tc_m, tc_n, tc_o, tc_0, inR, true_and, and_true, ne_eq, not_true_eq_false, not_false_eq_true, true_imp_iff, false_imp_iff, Int.toNat_natCast, lit_a, Nat.reduceAdd, or_true, true_or, or_false, false_or, Int.reduceEq, Int.reduceNe, Int.reduceLT, Int.reduceLE, Int.reduceNeg, sg_nil, s1p, x0, x1, x2, x3, x4, x5, x6, x7, x8, x9, x10, x11, x12, x13, x56, x57, x388, x389, x390, x391, x392, x393, x394, x395, x396, x397, x398, x399, a1, a2, a3, a4]))
    all_goals (try omega)
    all_goals first
      | (revert h; unfold F_sentence; (try simp only [Int.toNat_natCast]); (repeat (first | rw [if_neg (by omega)] | rw [if_pos (by omega)])); exact id)
      | (rw [b1]; (revert h; unfold F_sentence; (try simp only [Int.toNat_natCast]); (repeat (first | rw [if_neg (by omega)] | rw [if_pos (by omega)])); exact id))
      | (rw [b2]; (revert h; unfold F_sentence; (try simp only [Int.toNat_natCast]); (repeat (first | rw [if_neg (by omega)] | rw [if_pos (by omega)])); exact id))
  · refine wp_go b49_8 ?_; simp only [l49_8, sg_if_ne, sg_iconst, sg_iret0, nLg_n, nLg_i, nLg_r, tc_c, tc_l, tc_r, tc_m, tc_n, tc_o, tc_0, inR, true_and, and_true, ne_eq, not_true_eq_false, not_false_eq_true, true_imp_iff, false_imp_iff, Int.toNat_natCast, lit_a, Nat.reduceAdd, or_true, true_or, or_false, false_or, Int.reduceEq, Int.reduceNe, Int.reduceLT, Int.reduceLE, Int.reduceNeg, sg_nil]
    repeat' (first | with_reducible apply And.intro | (intro _) | ((first | refine wp_go b49_0 ?_ | refine wp_go b49_8 ?_ | refine wp_go b49_13 ?_ | refine wp_go b49_52 ?_ | refine wp_go b49_65 ?_ | refine wp_go b49_78 ?_ | refine wp_go b49_89 ?_ | refine wp_go b49_90 ?_ | refine wp_go b49_101 ?_ | refine wp_go b49_102 ?_ | refine wp_go b49_115 ?_ | refine wp_go b49_125 ?_); simp only [l49_0, l49_8, l49_13, l49_52, l49_65, l49_78, l49_89, l49_90, l49_101, l49_102, l49_115, l49_125, sg_aload_0, sg_getfp, sg_iload_1, sg_iv2_i, len4_0, len4_1, len4_2, len4_3, len4_4, sg_if_ne, sg_iconst, sg_iret0, sg_iload_2, sg_tsw, swc_n, swc_c, List.toList_toArray, Int.reduceAdd, Int.reduceToNat, sg_iaload, sg_bipush, nLg_n, nLg_i, nLg_r, tc_c, tc_l, tc_r, tc_m, tc_n, tc_o, tc_0, inR, true_and, and_true, ne_eq, not_true_eq_false, not_false_eq_true, true_imp_iff, false_imp_iff, Int.toNat_natCast, lit_a, Nat.reduceAdd, or_true, true_or, or_false, false_or, Int.reduceEq, Int.reduceNe, Int.reduceLT, Int.reduceLE, Int.reduceNeg, sg_nil, s1p, x0, x1, x2, x3, x4, x5, x6, x7, x8, x9, x10, x11, x12, x13, x56, x57, x388, x389, x390, x391, x392, x393, x394, x395, x396, x397, x398, x399]))
    all_goals (try omega)
    all_goals (revert h; unfold F_sentence; (try simp only [Int.toNat_natCast]); (repeat (first | rw [if_neg (by omega)] | rw [if_pos (by omega)])); exact id)

