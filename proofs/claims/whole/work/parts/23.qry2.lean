def wm (w : Rw) (i : Nat) : Int := w (5 * i + 3)
def wl4 (w : Rw) (i : Nat) : Int := w (5 * i + 4)
def wb (w : Rw) (i : Nat) : Int := w (5 * i + 5)
theorem h_len {w : Rw} {μ : Mem} {c p : Nat} (H : HR w μ c) (hp : (p : Int) ≤ w 0) : sm (μ (c + 1 + 2)) p = sm (wl4 w) p := sm_c (fun i hi => (H.2 i (by omega)).2.1)
theorem h_bg {w : Rw} {μ : Mem} {c p : Nat} (H : HR w μ c) (hp : (p : Int) ≤ w 0) : sm (μ (c + 1 + 3)) p = sm (wb w) p := sm_c (fun i hi => (H.2 i (by omega)).2.2.1)
theorem h_bg1 {w : Rw} {μ : Mem} {c p : Nat} (H : HR w μ c) (W : WH w) (hp : (p : Int) < w 0) : sm (fun i => μ (c + 1 + 3) (i + 1)) p = sm (wb w) (p + 1) - 1 := by
  rw [sm_h (wb w) p, show wb w 0 = 1 from W.2.2.1, sm_c (f := fun i => μ (c + 1 + 3) (i + 1)) (g := fun i => wb w (i + 1)) (fun i hi => (H.2 (i + 1) (by omega)).2.2.1)]
  omega
def F_marked (z : Rw) (m : Int) : Int := fsI (fun i => decide (zm z i = m)) (-1) (zn z)
theorem fs_zm {z : Rw} {μ : Mem} (hz : IZ z) (hR : RC z μ 1) (m : Int) : fsI (fun i => decide (μ 3 i = m)) (-1) (zn z) = F_marked z m := fsI_c (fun i hi => by rw [show μ 3 i = zm z i from (hR.2.1 i (by have := zn_eq hz; omega)).1])
theorem zm_r {z : Rw} {μ : Mem} (hz : IZ z) (hR : RC z μ 1) {i : Nat} (hi : i < zn z) : inR (μ 3 i) := by
  have e := zn_eq hz
  have q := (hz.2.1 i (by omega)).1
  unfold inR; rw [show μ 3 i = z (4 + 3 * i) from (hR.2.1 i (by omega)).1]; omega
-- NS.marked: blocks [0, 11]
theorem k_NS_marked {d : Nat} {Q : QT} {μ : Mem} {m : Int} {z : Rw} (hz : IZ z) (hR : RC z μ 1) (hm : inR m) (hq : ∀ μ', QF z μ μ' → Q (.inl (F_marked z m)) μ') : Call σ1 (d + 2) 60 [.inr (.inr 0), .inl m] μ Q := by
  refine e_60 ?_
  have h := hq μ (QF_r hR)
  have e := zn_eq hz
  refine wp_go b60_0 ?_; simp only [l60_0, sg_aload_0, sg_getfp, sg_iload_1, sg_iv2_i, len4_0, len4_1, len4_2, len4_3, len4_4, nLg_n, nLg_i, nLg_r, tc_c, tc_l, tc_r, tc_m, tc_n, tc_o, tc_0, inR, true_and, and_true, ne_eq, not_true_eq_false, not_false_eq_true, true_imp_iff, false_imp_iff, Int.toNat_natCast, lit_a, Nat.reduceAdd, or_true, true_or, sg_nil, s1p, x0, x1, x2, x3, x4, x5, x6, x7, x8, x9, x10, x11, x12, x13, x56, x57, x388, x389, x390, x391, x392, x393, x394, x395, x396, x397, x398, x399]
  refine k_Sen_placeOf st1.2.1 (n := zn z) (hR.1.1.trans e.1) e.2.2 (fun i hi => zm_r hz hR hi) hm ?_
  rw [fs_zm hz hR m]
  refine wp_go b60_11 ?_; simp only [l60_11, sg_iret0, nLg_n, nLg_i, nLg_r, tc_c, tc_l, tc_r, tc_m, tc_n, tc_o, tc_0, inR, true_and, and_true, ne_eq, not_true_eq_false, not_false_eq_true, true_imp_iff, false_imp_iff, Int.toNat_natCast, lit_a, Nat.reduceAdd, or_true, true_or, sg_nil]
  exact h
def F_booked (z : Rw) (s p : Int) : Int := if s < 0 ∨ z 0 ≤ s then -1 else if p < 0 ∨ z (76 + 5 * s.toNat) ≤ p then -1 else z (77 + 5 * s.toNat + p.toNat)
-- NS.booked: blocks [0, 8, 27, 30, 32, 41]
theorem k_NS_booked {d : Nat} {Q : QT} {μ : Mem} {s p : Int} {z : Rw} (hz : IZ z) (hR : RC z μ 1) (hs : inR s) (hp : inR p) (hq : ∀ μ', QF z μ μ' → Q (.inl (F_booked z s p)) μ') : Call σ1 (d + 3) 61 [.inr (.inr 0), .inl s, .inl p] μ Q := by
  refine e_61 ?_
  have h := hq μ (QF_r hR)
  have q := hz.1
  refine wp_go b61_0 ?_; simp only [l61_0, sg_aload_0, sg_getfp, sg_iload_1, sg_iv2_i, len4_0, len4_1, len4_2, len4_3, len4_4, nLg_n, nLg_i, nLg_r, tc_c, tc_l, tc_r, tc_m, tc_n, tc_o, tc_0, inR, true_and, and_true, ne_eq, not_true_eq_false, not_false_eq_true, true_imp_iff, false_imp_iff, Int.toNat_natCast, lit_a, Nat.reduceAdd, or_true, true_or, sg_nil, s1p, x0, x1, x2, x3, x4, x5, x6, x7, x8, x9, x10, x11, x12, x13, x56, x57, x388, x389, x390, x391, x392, x393, x394, x395, x396, x397, x398, x399]
  refine k_Sta_hasSentence st1 hR hz hs (fun h1 h2 => ?_) (fun h0 => ?_)
  · obtain ⟨n, rfl⟩ := nat_of h1
    have a4 : μ 6 n = z (76 + 5 * n) := (hR.2.1 n h2).2.2.2.1
    have r := (hz.2.1 n h2).2.2.2.1
    refine wp_go b61_8 ?_; simp only [l61_8, sg_if_eq, sg_iload_2, sg_iconst, sg_aload_0, sg_getfp, sg_iload_1, sg_iaload, sg_isub, len4_0, len4_1, len4_2, len4_3, len4_4, sg_is3_1, nLg_n, nLg_i, nLg_r, tc_c, tc_l, tc_r, tc_m, tc_n, tc_o, tc_0, inR, true_and, and_true, ne_eq, not_true_eq_false, not_false_eq_true, true_imp_iff, false_imp_iff, Int.toNat_natCast, lit_a, Nat.reduceAdd, or_true, true_or, sg_nil, s1p, x0, x1, x2, x3, x4, x5, x6, x7, x8, x9, x10, x11, x12, x13, x56, x57, x388, x389, x390, x391, x392, x393, x394, x395, x396, x397, x398, x399, a4]
    repeat' (first | with_reducible apply And.intro | (intro _) | refine k_NS_isWithin hp (by unfold inR; omega) (by unfold inR; omega) ?_ ?_ | ((first | refine wp_go b61_0 ?_ | refine wp_go b61_8 ?_ | refine wp_go b61_27 ?_ | refine wp_go b61_30 ?_ | refine wp_go b61_32 ?_ | refine wp_go b61_41 ?_); simp only [l61_0, l61_8, l61_27, l61_30, l61_32, l61_41, sg_aload_0, sg_getfp, sg_iload_1, sg_iv2_i, len4_0, len4_1, len4_2, len4_3, len4_4, sg_if_eq, sg_iload_2, sg_iconst, sg_iaload, sg_isub, sg_is3_1, sg_if_ne, sg_iret0, sg_iv3_i, nLg_n, nLg_i, nLg_r, tc_c, tc_l, tc_r, tc_m, tc_n, tc_o, tc_0, inR, true_and, and_true, ne_eq, not_true_eq_false, not_false_eq_true, true_imp_iff, false_imp_iff, Int.toNat_natCast, lit_a, Nat.reduceAdd, or_true, true_or, sg_nil, s1p, x0, x1, x2, x3, x4, x5, x6, x7, x8, x9, x10, x11, x12, x13, x56, x57, x388, x389, x390, x391, x392, x393, x394, x395, x396, x397, x398, x399]))
    all_goals (try omega)
    · obtain ⟨j, rfl⟩ := nat_of (show 0 ≤ p by omega)
      refine k_Sta_inRow st1 hR.r0 hz h2 (by omega) ?_
      refine wp_go b61_41 ?_; simp only [l61_41, sg_iret0, nLg_n, nLg_i, nLg_r, tc_c, tc_l, tc_r, tc_m, tc_n, tc_o, tc_0, inR, true_and, and_true, ne_eq, not_true_eq_false, not_false_eq_true, true_imp_iff, false_imp_iff, Int.toNat_natCast, lit_a, Nat.reduceAdd, or_true, true_or, sg_nil]
      (revert h; unfold F_booked; (try simp only [Int.toNat_natCast]); (repeat (first | rw [if_neg (by omega)] | rw [if_pos (by omega)])); exact id)
    · (revert h; unfold F_booked; (try simp only [Int.toNat_natCast]); (repeat (first | rw [if_neg (by omega)] | rw [if_pos (by omega)])); exact id)
  · refine wp_go b61_8 ?_; simp only [l61_8, sg_if_eq, sg_iload_2, sg_iconst, sg_aload_0, sg_getfp, sg_iload_1, sg_iaload, sg_isub, len4_0, len4_1, len4_2, len4_3, len4_4, sg_is3_1, nLg_n, nLg_i, nLg_r, tc_c, tc_l, tc_r, tc_m, tc_n, tc_o, tc_0, inR, true_and, and_true, ne_eq, not_true_eq_false, not_false_eq_true, true_imp_iff, false_imp_iff, Int.toNat_natCast, lit_a, Nat.reduceAdd, or_true, true_or, sg_nil]
    repeat' (first | with_reducible apply And.intro | (intro _) | ((first | refine wp_go b61_0 ?_ | refine wp_go b61_8 ?_ | refine wp_go b61_27 ?_ | refine wp_go b61_30 ?_ | refine wp_go b61_32 ?_ | refine wp_go b61_41 ?_); simp only [l61_0, l61_8, l61_27, l61_30, l61_32, l61_41, sg_aload_0, sg_getfp, sg_iload_1, sg_iv2_i, len4_0, len4_1, len4_2, len4_3, len4_4, sg_if_eq, sg_iload_2, sg_iconst, sg_iaload, sg_isub, sg_is3_1, sg_if_ne, sg_iret0, sg_iv3_i, nLg_n, nLg_i, nLg_r, tc_c, tc_l, tc_r, tc_m, tc_n, tc_o, tc_0, inR, true_and, and_true, ne_eq, not_true_eq_false, not_false_eq_true, true_imp_iff, false_imp_iff, Int.toNat_natCast, lit_a, Nat.reduceAdd, or_true, true_or, sg_nil, s1p, x0, x1, x2, x3, x4, x5, x6, x7, x8, x9, x10, x11, x12, x13, x56, x57, x388, x389, x390, x391, x392, x393, x394, x395, x396, x397, x398, x399]))
    all_goals (try omega)
    all_goals (revert h; unfold F_booked; (try simp only [Int.toNat_natCast]); (repeat (first | rw [if_neg (by omega)] | rw [if_pos (by omega)])); exact id)
def F_ofNotice (z : Rw) (t w : Int) : Int := if t < 0 ∨ z 2 ≤ t then -1 else if w = 0 then z (196 + 2 * t.toNat) else if w = 1 then z (197 + 2 * t.toNat) else if w = 2 then sm (brk z t) (zn z) else if w = 3 then sm (hrs z (zn z) t) (znl z) else -2
-- NS.ofNotice: blocks [0, 8, 13, 44, 54, 64, 72, 73, 78, 79]
theorem k_NS_ofNotice {d : Nat} {Q : QT} {μ : Mem} {t w : Int} {z : Rw} (hz : IZ z) (hR : RC z μ 1) (ht : inR t) (hw : inR w) (hq : ∀ μ', QF z μ μ' → Q (.inl (F_ofNotice z t w)) μ') : Call σ1 (d + 5) 62 [.inr (.inr 0), .inl t, .inl w] μ Q := by
  refine e_62 ?_
  have h := hq μ (QF_r hR)
  have q := hz.1
  have e := zn_eq hz
  have e3 := znl_eq hz
  refine wp_go b62_0 ?_; simp only [l62_0, sg_aload_0, sg_getfp, sg_iload_1, sg_iv2_i, len4_0, len4_1, len4_2, len4_3, len4_4, nLg_n, nLg_i, nLg_r, tc_c, tc_l, tc_r, tc_m, tc_n, tc_o, tc_0, inR, true_and, and_true, ne_eq, not_true_eq_false, not_false_eq_true, true_imp_iff, false_imp_iff, Int.toNat_natCast, lit_a, Nat.reduceAdd, or_true, true_or, sg_nil, s1p, x0, x1, x2, x3, x4, x5, x6, x7, x8, x9, x10, x11, x12, x13, x56, x57, x388, x389, x390, x391, x392, x393, x394, x395, x396, x397, x398, x399]
  refine k_Sta_hasNotice st1 hR hz ht (fun h1 h2 => ?_) (fun h0 => ?_)
  · obtain ⟨n, rfl⟩ := nat_of h1
    obtain ⟨a1, a2⟩ := hR.2.2.1 n h2
    have a1 : μ 8 n = z (196 + 2 * n) := a1
    have a2 : μ 9 n = z (197 + 2 * n) := a2
    unfold inR at hw
    refine wp_go b62_8 ?_; simp only [l62_8, sg_if_ne, sg_iconst, sg_iret0, nLg_n, nLg_i, nLg_r, tc_c, tc_l, tc_r, tc_m, tc_n, tc_o, tc_0, inR, true_and, and_true, ne_eq, not_true_eq_false, not_false_eq_true, true_imp_iff, false_imp_iff, Int.toNat_natCast, lit_a, Nat.reduceAdd, or_true, true_or, sg_nil]
    repeat' (first | with_reducible apply And.intro | intro _)
    all_goals (try omega)
    refine wp_go b62_13 ?_; simp only [l62_13, sg_iload_2, sg_tsw, swc_n, swc_c, List.toList_toArray, Int.reduceAdd, Int.reduceToNat, nLg_n, nLg_i, nLg_r, tc_c, tc_l, tc_r, tc_m, tc_n, tc_o, tc_0, inR, true_and, and_true, ne_eq, not_true_eq_false, not_false_eq_true, true_imp_iff, false_imp_iff, Int.toNat_natCast, lit_a, Nat.reduceAdd, or_true, true_or, sg_nil]
    repeat' (first | with_reducible apply And.intro | (intro _))
    all_goals (try omega)
    · refine wp_go b62_44 ?_; simp only [l62_44, sg_aload_0, sg_getfp, sg_iload_1, sg_iaload, sg_iret0, nLg_n, nLg_i, nLg_r, tc_c, tc_l, tc_r, tc_m, tc_n, tc_o, tc_0, inR, true_and, and_true, ne_eq, not_true_eq_false, not_false_eq_true, true_imp_iff, false_imp_iff, Int.toNat_natCast, lit_a, Nat.reduceAdd, or_true, true_or, sg_nil, s1p, x0, x1, x2, x3, x4, x5, x6, x7, x8, x9, x10, x11, x12, x13, x56, x57, x388, x389, x390, x391, x392, x393, x394, x395, x396, x397, x398, x399, a1]
      repeat' (first | with_reducible apply And.intro | (intro _) | ((first | refine wp_go b62_0 ?_ | refine wp_go b62_8 ?_ | refine wp_go b62_13 ?_ | refine wp_go b62_44 ?_ | refine wp_go b62_54 ?_ | refine wp_go b62_64 ?_ | refine wp_go b62_72 ?_ | refine wp_go b62_73 ?_ | refine wp_go b62_78 ?_ | refine wp_go b62_79 ?_); simp only [l62_0, l62_8, l62_13, l62_44, l62_54, l62_64, l62_72, l62_73, l62_78, l62_79, sg_aload_0, sg_getfp, sg_iload_1, sg_iv2_i, len4_0, len4_1, len4_2, len4_3, len4_4, sg_if_ne, sg_iconst, sg_iret0, sg_iload_2, sg_tsw, swc_n, swc_c, List.toList_toArray, Int.reduceAdd, Int.reduceToNat, sg_iaload, sg_bipush, nLg_n, nLg_i, nLg_r, tc_c, tc_l, tc_r, tc_m, tc_n, tc_o, tc_0, inR, true_and, and_true, ne_eq, not_true_eq_false, not_false_eq_true, true_imp_iff, false_imp_iff, Int.toNat_natCast, lit_a, Nat.reduceAdd, or_true, true_or, sg_nil]))
      all_goals (try omega)
      (revert h; unfold F_ofNotice; (try simp only [Int.toNat_natCast]); (repeat (first | rw [if_neg (by omega)] | rw [if_pos (by omega)])); exact id)
    · refine wp_go b62_54 ?_; simp only [l62_54, sg_aload_0, sg_getfp, sg_iload_1, sg_iaload, sg_iret0, nLg_n, nLg_i, nLg_r, tc_c, tc_l, tc_r, tc_m, tc_n, tc_o, tc_0, inR, true_and, and_true, ne_eq, not_true_eq_false, not_false_eq_true, true_imp_iff, false_imp_iff, Int.toNat_natCast, lit_a, Nat.reduceAdd, or_true, true_or, sg_nil, s1p, x0, x1, x2, x3, x4, x5, x6, x7, x8, x9, x10, x11, x12, x13, x56, x57, x388, x389, x390, x391, x392, x393, x394, x395, x396, x397, x398, x399, a2]
      repeat' (first | with_reducible apply And.intro | (intro _) | ((first | refine wp_go b62_0 ?_ | refine wp_go b62_8 ?_ | refine wp_go b62_13 ?_ | refine wp_go b62_44 ?_ | refine wp_go b62_54 ?_ | refine wp_go b62_64 ?_ | refine wp_go b62_72 ?_ | refine wp_go b62_73 ?_ | refine wp_go b62_78 ?_ | refine wp_go b62_79 ?_); simp only [l62_0, l62_8, l62_13, l62_44, l62_54, l62_64, l62_72, l62_73, l62_78, l62_79, sg_aload_0, sg_getfp, sg_iload_1, sg_iv2_i, len4_0, len4_1, len4_2, len4_3, len4_4, sg_if_ne, sg_iconst, sg_iret0, sg_iload_2, sg_tsw, swc_n, swc_c, List.toList_toArray, Int.reduceAdd, Int.reduceToNat, sg_iaload, sg_bipush, nLg_n, nLg_i, nLg_r, tc_c, tc_l, tc_r, tc_m, tc_n, tc_o, tc_0, inR, true_and, and_true, ne_eq, not_true_eq_false, not_false_eq_true, true_imp_iff, false_imp_iff, Int.toNat_natCast, lit_a, Nat.reduceAdd, or_true, true_or, sg_nil]))
      all_goals (try omega)
      (revert h; unfold F_ofNotice; (try simp only [Int.toNat_natCast]); (repeat (first | rw [if_neg (by omega)] | rw [if_pos (by omega)])); exact id)
    · refine wp_go b62_64 ?_; simp only [l62_64, sg_aload_0, sg_getfp, sg_iload_1, sg_iv2_i, len4_0, len4_1, len4_2, len4_3, len4_4, nLg_n, nLg_i, nLg_r, tc_c, tc_l, tc_r, tc_m, tc_n, tc_o, tc_0, inR, true_and, and_true, ne_eq, not_true_eq_false, not_false_eq_true, true_imp_iff, false_imp_iff, Int.toNat_natCast, lit_a, Nat.reduceAdd, or_true, true_or, sg_nil, s1p, x0, x1, x2, x3, x4, x5, x6, x7, x8, x9, x10, x11, x12, x13, x56, x57, x388, x389, x390, x391, x392, x393, x394, x395, x396, x397, x398, x399]
      refine k_Sta_countBreaksWith st1 hR hz e.1 ht ?_
      refine wp_go b62_72 ?_; simp only [l62_72, sg_iret0, nLg_n, nLg_i, nLg_r, tc_c, tc_l, tc_r, tc_m, tc_n, tc_o, tc_0, inR, true_and, and_true, ne_eq, not_true_eq_false, not_false_eq_true, true_imp_iff, false_imp_iff, Int.toNat_natCast, lit_a, Nat.reduceAdd, or_true, true_or, sg_nil]
      (revert h; unfold F_ofNotice; (try simp only [Int.toNat_natCast]); (repeat (first | rw [if_neg (by omega)] | rw [if_pos (by omega)])); exact id)
    · refine wp_go b62_73 ?_; simp only [l62_73, sg_aload_0, sg_iload_1, sg_iv2_i, len4_0, len4_1, len4_2, len4_3, len4_4, nLg_n, nLg_i, nLg_r, tc_c, tc_l, tc_r, tc_m, tc_n, tc_o, tc_0, inR, true_and, and_true, ne_eq, not_true_eq_false, not_false_eq_true, true_imp_iff, false_imp_iff, Int.toNat_natCast, lit_a, Nat.reduceAdd, or_true, true_or, sg_nil, s1p, x0, x1, x2, x3, x4, x5, x6, x7, x8, x9, x10, x11, x12, x13, x56, x57, x388, x389, x390, x391, x392, x393, x394, x395, x396, x397, x398, x399]
      refine k_NS_countHearers hz hR e3.1 e.1 (fun μ' f => ?_)
      have h := hq μ' (QF_s hz hR (fun k hk => f k (by omega)))
      refine wp_go b62_78 ?_; simp only [l62_78, sg_iret0, nLg_n, nLg_i, nLg_r, tc_c, tc_l, tc_r, tc_m, tc_n, tc_o, tc_0, inR, true_and, and_true, ne_eq, not_true_eq_false, not_false_eq_true, true_imp_iff, false_imp_iff, Int.toNat_natCast, lit_a, Nat.reduceAdd, or_true, true_or, sg_nil]
      (revert h; unfold F_ofNotice; (try simp only [Int.toNat_natCast]); (repeat (first | rw [if_neg (by omega)] | rw [if_pos (by omega)])); exact id)
    · refine wp_go b62_79 ?_; simp only [l62_79, sg_bipush, sg_iret0, nLg_n, nLg_i, nLg_r, tc_c, tc_l, tc_r, tc_m, tc_n, tc_o, tc_0, inR, true_and, and_true, ne_eq, not_true_eq_false, not_false_eq_true, true_imp_iff, false_imp_iff, Int.toNat_natCast, lit_a, Nat.reduceAdd, or_true, true_or, sg_nil]
      (revert h; unfold F_ofNotice; (try simp only [Int.toNat_natCast]); (repeat (first | rw [if_neg (by omega)] | rw [if_pos (by omega)])); exact id)
  · refine wp_go b62_8 ?_; simp only [l62_8, sg_if_ne, sg_iconst, sg_iret0, nLg_n, nLg_i, nLg_r, tc_c, tc_l, tc_r, tc_m, tc_n, tc_o, tc_0, inR, true_and, and_true, ne_eq, not_true_eq_false, not_false_eq_true, true_imp_iff, false_imp_iff, Int.toNat_natCast, lit_a, Nat.reduceAdd, or_true, true_or, sg_nil]
    repeat' (first | with_reducible apply And.intro | (intro _) | ((first | refine wp_go b62_0 ?_ | refine wp_go b62_8 ?_ | refine wp_go b62_13 ?_ | refine wp_go b62_44 ?_ | refine wp_go b62_54 ?_ | refine wp_go b62_64 ?_ | refine wp_go b62_72 ?_ | refine wp_go b62_73 ?_ | refine wp_go b62_78 ?_ | refine wp_go b62_79 ?_); simp only [l62_0, l62_8, l62_13, l62_44, l62_54, l62_64, l62_72, l62_73, l62_78, l62_79, sg_aload_0, sg_getfp, sg_iload_1, sg_iv2_i, len4_0, len4_1, len4_2, len4_3, len4_4, sg_if_ne, sg_iconst, sg_iret0, sg_iload_2, sg_tsw, swc_n, swc_c, List.toList_toArray, Int.reduceAdd, Int.reduceToNat, sg_iaload, sg_bipush, nLg_n, nLg_i, nLg_r, tc_c, tc_l, tc_r, tc_m, tc_n, tc_o, tc_0, inR, true_and, and_true, ne_eq, not_true_eq_false, not_false_eq_true, true_imp_iff, false_imp_iff, Int.toNat_natCast, lit_a, Nat.reduceAdd, or_true, true_or, sg_nil, s1p, x0, x1, x2, x3, x4, x5, x6, x7, x8, x9, x10, x11, x12, x13, x56, x57, x388, x389, x390, x391, x392, x393, x394, x395, x396, x397, x398, x399]))
    all_goals (try omega)
    all_goals (revert h; unfold F_ofNotice; (try simp only [Int.toNat_natCast]); (repeat (first | rw [if_neg (by omega)] | rw [if_pos (by omega)])); exact id)
def F_of (z : Rw) (l w : Int) : Int := if l < 0 ∨ z 3 ≤ l then -1 else if w = 0 then z (212 + 3 * l.toNat) else if w = 1 then z (213 + 3 * l.toNat) else if w = 2 then z (214 + 3 * l.toNat) else if w = 3 then old z l.toNat else if w = 4 then tot z l.toNat else if w = 5 then sm (fun i => bI (wO z l.toNat (5 * i + 1) ≠ -6)) (nw z l.toNat) else if w = 6 then sm (fun i => wO z l.toNat (5 * i + 2)) (nw z l.toNat) else if w = 7 then wO z l.toNat 0 else -2
-- NS.of: blocks [0, 8, 13, 60, 70, 80, 92, 93, 98, 101, 102, 107, 110, 111, 116, 119, 120, 125, 128, 129, 134, 141]
theorem k_NS_of {d : Nat} {Q : QT} {μ : Mem} {l w : Int} {z : Rw} (hz : IZ z) (hR : RC z μ 1) (hl : inR l) (hw : inR w) (hq : ∀ μ', QF z μ μ' → Q (.inl (F_of z l w)) μ') : Call σ1 (d + 5) 63 [.inr (.inr 0), .inl l, .inl w] μ Q := by
  refine e_63 ?_
  have h := hq μ (QF_r hR)
  have q := hz.1
  refine wp_go b63_0 ?_; simp only [l63_0, sg_aload_0, sg_getfp, sg_iload_1, sg_iv2_i, len4_0, len4_1, len4_2, len4_3, len4_4, nLg_n, nLg_i, nLg_r, tc_c, tc_l, tc_r, tc_m, tc_n, tc_o, tc_0, inR, true_and, and_true, ne_eq, not_true_eq_false, not_false_eq_true, true_imp_iff, false_imp_iff, Int.toNat_natCast, lit_a, Nat.reduceAdd, or_true, true_or, sg_nil, s1p, x0, x1, x2, x3, x4, x5, x6, x7, x8, x9, x10, x11, x12, x13, x56, x57, x388, x389, x390, x391, x392, x393, x394, x395, x396, x397, x398, x399]
  refine k_Sta_hasListener st1 hR hz hl (fun h1 h2 => ?_) (fun h0 => ?_)
  · obtain ⟨n, rfl⟩ := nat_of h1
    obtain ⟨a1, a2, a3, -⟩ := hR.2.2.2 n h2
    have a1 : μ 10 n = z (212 + 3 * n) := a1
    have a2 : μ 11 n = z (213 + 3 * n) := a2
    have a3 : μ 12 n = z (214 + 3 * n) := a3
    have z01 := (hz.2.2.2.2 n h2).2.2.1
    have nn := nw_eq hz h2
    have W := wO_W hz h2
    unfold inR at hw
    refine wp_go b63_8 ?_; simp only [l63_8, sg_if_ne, sg_iconst, sg_iret0, nLg_n, nLg_i, nLg_r, tc_c, tc_l, tc_r, tc_m, tc_n, tc_o, tc_0, inR, true_and, and_true, ne_eq, not_true_eq_false, not_false_eq_true, true_imp_iff, false_imp_iff, Int.toNat_natCast, lit_a, Nat.reduceAdd, or_true, true_or, sg_nil]
    repeat' (first | with_reducible apply And.intro | intro _)
    all_goals (try omega)
    refine wp_go b63_13 ?_; simp only [l63_13, sg_iload_2, sg_tsw, swc_n, swc_c, List.toList_toArray, Int.reduceAdd, Int.reduceToNat, nLg_n, nLg_i, nLg_r, tc_c, tc_l, tc_r, tc_m, tc_n, tc_o, tc_0, inR, true_and, and_true, ne_eq, not_true_eq_false, not_false_eq_true, true_imp_iff, false_imp_iff, Int.toNat_natCast, lit_a, Nat.reduceAdd, or_true, true_or, sg_nil]
    repeat' (first | with_reducible apply And.intro | (intro _))
    all_goals (try omega)
    · refine wp_go b63_60 ?_; simp only [l63_60, sg_aload_0, sg_getfp, sg_iload_1, sg_iaload, sg_iret0, nLg_n, nLg_i, nLg_r, tc_c, tc_l, tc_r, tc_m, tc_n, tc_o, tc_0, inR, true_and, and_true, ne_eq, not_true_eq_false, not_false_eq_true, true_imp_iff, false_imp_iff, Int.toNat_natCast, lit_a, Nat.reduceAdd, or_true, true_or, sg_nil, s1p, x0, x1, x2, x3, x4, x5, x6, x7, x8, x9, x10, x11, x12, x13, x56, x57, x388, x389, x390, x391, x392, x393, x394, x395, x396, x397, x398, x399, a1]
      repeat' (first | with_reducible apply And.intro | (intro _) | ((first | refine wp_go b63_0 ?_ | refine wp_go b63_8 ?_ | refine wp_go b63_13 ?_ | refine wp_go b63_60 ?_ | refine wp_go b63_70 ?_ | refine wp_go b63_80 ?_ | refine wp_go b63_92 ?_ | refine wp_go b63_93 ?_ | refine wp_go b63_98 ?_ | refine wp_go b63_101 ?_ | refine wp_go b63_102 ?_ | refine wp_go b63_107 ?_ | refine wp_go b63_110 ?_ | refine wp_go b63_111 ?_ | refine wp_go b63_116 ?_ | refine wp_go b63_119 ?_ | refine wp_go b63_120 ?_ | refine wp_go b63_125 ?_ | refine wp_go b63_128 ?_ | refine wp_go b63_129 ?_ | refine wp_go b63_134 ?_ | refine wp_go b63_141 ?_); simp only [l63_0, l63_8, l63_13, l63_60, l63_70, l63_80, l63_92, l63_93, l63_98, l63_101, l63_102, l63_107, l63_110, l63_111, l63_116, l63_119, l63_120, l63_125, l63_128, l63_129, l63_134, l63_141, sg_aload_0, sg_getfp, sg_iload_1, sg_iv2_i, len4_0, len4_1, len4_2, len4_3, len4_4, sg_if_ne, sg_iconst, sg_iret0, sg_iload_2, sg_tsw, swc_n, swc_c, List.toList_toArray, Int.reduceAdd, Int.reduceToNat, sg_iaload, sg_baload, sg_is1_1, sg_iv2_r, sg_iv1_i, sg_getf0, sg_bipush, nLg_n, nLg_i, nLg_r, tc_c, tc_l, tc_r, tc_m, tc_n, tc_o, tc_0, inR, true_and, and_true, ne_eq, not_true_eq_false, not_false_eq_true, true_imp_iff, false_imp_iff, Int.toNat_natCast, lit_a, Nat.reduceAdd, or_true, true_or, sg_nil]))
      all_goals (try omega)
      (revert h; unfold F_of; (try simp only [Int.toNat_natCast]); (repeat (first | rw [if_neg (by omega)] | rw [if_pos (by omega)])); exact id)
    · refine wp_go b63_70 ?_; simp only [l63_70, sg_aload_0, sg_getfp, sg_iload_1, sg_iaload, sg_iret0, nLg_n, nLg_i, nLg_r, tc_c, tc_l, tc_r, tc_m, tc_n, tc_o, tc_0, inR, true_and, and_true, ne_eq, not_true_eq_false, not_false_eq_true, true_imp_iff, false_imp_iff, Int.toNat_natCast, lit_a, Nat.reduceAdd, or_true, true_or, sg_nil, s1p, x0, x1, x2, x3, x4, x5, x6, x7, x8, x9, x10, x11, x12, x13, x56, x57, x388, x389, x390, x391, x392, x393, x394, x395, x396, x397, x398, x399, a2]
      repeat' (first | with_reducible apply And.intro | (intro _) | ((first | refine wp_go b63_0 ?_ | refine wp_go b63_8 ?_ | refine wp_go b63_13 ?_ | refine wp_go b63_60 ?_ | refine wp_go b63_70 ?_ | refine wp_go b63_80 ?_ | refine wp_go b63_92 ?_ | refine wp_go b63_93 ?_ | refine wp_go b63_98 ?_ | refine wp_go b63_101 ?_ | refine wp_go b63_102 ?_ | refine wp_go b63_107 ?_ | refine wp_go b63_110 ?_ | refine wp_go b63_111 ?_ | refine wp_go b63_116 ?_ | refine wp_go b63_119 ?_ | refine wp_go b63_120 ?_ | refine wp_go b63_125 ?_ | refine wp_go b63_128 ?_ | refine wp_go b63_129 ?_ | refine wp_go b63_134 ?_ | refine wp_go b63_141 ?_); simp only [l63_0, l63_8, l63_13, l63_60, l63_70, l63_80, l63_92, l63_93, l63_98, l63_101, l63_102, l63_107, l63_110, l63_111, l63_116, l63_119, l63_120, l63_125, l63_128, l63_129, l63_134, l63_141, sg_aload_0, sg_getfp, sg_iload_1, sg_iv2_i, len4_0, len4_1, len4_2, len4_3, len4_4, sg_if_ne, sg_iconst, sg_iret0, sg_iload_2, sg_tsw, swc_n, swc_c, List.toList_toArray, Int.reduceAdd, Int.reduceToNat, sg_iaload, sg_baload, sg_is1_1, sg_iv2_r, sg_iv1_i, sg_getf0, sg_bipush, nLg_n, nLg_i, nLg_r, tc_c, tc_l, tc_r, tc_m, tc_n, tc_o, tc_0, inR, true_and, and_true, ne_eq, not_true_eq_false, not_false_eq_true, true_imp_iff, false_imp_iff, Int.toNat_natCast, lit_a, Nat.reduceAdd, or_true, true_or, sg_nil]))
      all_goals (try omega)
      (revert h; unfold F_of; (try simp only [Int.toNat_natCast]); (repeat (first | rw [if_neg (by omega)] | rw [if_pos (by omega)])); exact id)
    · refine wp_go b63_80 ?_; simp only [l63_80, sg_aload_0, sg_getfp, sg_iload_1, sg_baload, len4_0, len4_1, len4_2, len4_3, len4_4, sg_is1_1, nLg_n, nLg_i, nLg_r, tc_c, tc_l, tc_r, tc_m, tc_n, tc_o, tc_0, inR, true_and, and_true, ne_eq, not_true_eq_false, not_false_eq_true, true_imp_iff, false_imp_iff, Int.toNat_natCast, lit_a, Nat.reduceAdd, or_true, true_or, sg_nil, s1p, x0, x1, x2, x3, x4, x5, x6, x7, x8, x9, x10, x11, x12, x13, x56, x57, x388, x389, x390, x391, x392, x393, x394, x395, x396, x397, x398, x399, a3]
      repeat' (first | with_reducible apply And.intro | intro _)
      all_goals (try omega)
      refine k_NS_asNumber (by omega) ?_
      refine wp_go b63_92 ?_; simp only [l63_92, sg_iret0, nLg_n, nLg_i, nLg_r, tc_c, tc_l, tc_r, tc_m, tc_n, tc_o, tc_0, inR, true_and, and_true, ne_eq, not_true_eq_false, not_false_eq_true, true_imp_iff, false_imp_iff, Int.toNat_natCast, lit_a, Nat.reduceAdd, or_true, true_or, sg_nil]
      (revert h; unfold F_of; (try simp only [Int.toNat_natCast]); (repeat (first | rw [if_neg (by omega)] | rw [if_pos (by omega)])); exact id)
    · refine wp_go b63_93 ?_; simp only [l63_93, sg_aload_0, sg_iload_1, sg_iv2_i, len4_0, len4_1, len4_2, len4_3, len4_4, nLg_n, nLg_i, nLg_r, tc_c, tc_l, tc_r, tc_m, tc_n, tc_o, tc_0, inR, true_and, and_true, ne_eq, not_true_eq_false, not_false_eq_true, true_imp_iff, false_imp_iff, Int.toNat_natCast, lit_a, Nat.reduceAdd, or_true, true_or, sg_nil, s1p, x0, x1, x2, x3, x4, x5, x6, x7, x8, x9, x10, x11, x12, x13, x56, x57, x388, x389, x390, x391, x392, x393, x394, x395, x396, x397, x398, x399]
      refine k_NS_isOutOfDate hz hR h2 (fun μ' f => ?_)
      have h := hq μ' (QF_s hz hR f)
      refine wp_go b63_98 ?_; simp only [l63_98, len4_0, len4_1, len4_2, len4_3, len4_4, sg_is1_1, nLg_n, nLg_i, nLg_r, tc_c, tc_l, tc_r, tc_m, tc_n, tc_o, tc_0, inR, true_and, and_true, ne_eq, not_true_eq_false, not_false_eq_true, true_imp_iff, false_imp_iff, Int.toNat_natCast, lit_a, Nat.reduceAdd, or_true, true_or, sg_nil]
      refine k_NS_asNumber (old_01 z n) ?_
      refine wp_go b63_101 ?_; simp only [l63_101, sg_iret0, nLg_n, nLg_i, nLg_r, tc_c, tc_l, tc_r, tc_m, tc_n, tc_o, tc_0, inR, true_and, and_true, ne_eq, not_true_eq_false, not_false_eq_true, true_imp_iff, false_imp_iff, Int.toNat_natCast, lit_a, Nat.reduceAdd, or_true, true_or, sg_nil]
      (revert h; unfold F_of; (try simp only [Int.toNat_natCast]); (repeat (first | rw [if_neg (by omega)] | rw [if_pos (by omega)])); exact id)
    · refine wp_go b63_102 ?_; simp only [l63_102, sg_aload_0, sg_iload_1, sg_iv2_r, len4_0, len4_1, len4_2, len4_3, len4_4, nLg_n, nLg_i, nLg_r, tc_c, tc_l, tc_r, tc_m, tc_n, tc_o, tc_0, inR, true_and, and_true, ne_eq, not_true_eq_false, not_false_eq_true, true_imp_iff, false_imp_iff, Int.toNat_natCast, lit_a, Nat.reduceAdd, or_true, true_or, sg_nil, s1p, x0, x1, x2, x3, x4, x5, x6, x7, x8, x9, x10, x11, x12, x13, x56, x57, x388, x389, x390, x391, x392, x393, x394, x395, x396, x397, x398, x399]
      refine k_NS_hearingOf hz hR h2 (fun μ' c f H hH _ _ => ?_)
      have h := hq μ' (QF_s hz hR f)
      refine wp_go b63_107 ?_; simp only [l63_107, sg_iv1_i, len4_0, len4_1, len4_2, len4_3, len4_4, nLg_n, nLg_i, nLg_r, tc_c, tc_l, tc_r, tc_m, tc_n, tc_o, tc_0, inR, true_and, and_true, ne_eq, not_true_eq_false, not_false_eq_true, true_imp_iff, false_imp_iff, Int.toNat_natCast, lit_a, Nat.reduceAdd, or_true, true_or, sg_nil, hH.1]
      refine k_Hea_total hH H (by omega) nn.1 ?_
      have et : bt (wO z n) (nw z n) = tot z n := rfl
      rw [et]
      refine wp_go b63_110 ?_; simp only [l63_110, sg_iret0, nLg_n, nLg_i, nLg_r, tc_c, tc_l, tc_r, tc_m, tc_n, tc_o, tc_0, inR, true_and, and_true, ne_eq, not_true_eq_false, not_false_eq_true, true_imp_iff, false_imp_iff, Int.toNat_natCast, lit_a, Nat.reduceAdd, or_true, true_or, sg_nil]
      (revert h; unfold F_of; (try simp only [Int.toNat_natCast]); (repeat (first | rw [if_neg (by omega)] | rw [if_pos (by omega)])); exact id)
    · refine wp_go b63_111 ?_; simp only [l63_111, sg_aload_0, sg_iload_1, sg_iv2_r, len4_0, len4_1, len4_2, len4_3, len4_4, nLg_n, nLg_i, nLg_r, tc_c, tc_l, tc_r, tc_m, tc_n, tc_o, tc_0, inR, true_and, and_true, ne_eq, not_true_eq_false, not_false_eq_true, true_imp_iff, false_imp_iff, Int.toNat_natCast, lit_a, Nat.reduceAdd, or_true, true_or, sg_nil, s1p, x0, x1, x2, x3, x4, x5, x6, x7, x8, x9, x10, x11, x12, x13, x56, x57, x388, x389, x390, x391, x392, x393, x394, x395, x396, x397, x398, x399]
      refine k_NS_hearingOf hz hR h2 (fun μ' c f H hH _ _ => ?_)
      have h := hq μ' (QF_s hz hR f)
      refine wp_go b63_116 ?_; simp only [l63_116, sg_iv1_i, len4_0, len4_1, len4_2, len4_3, len4_4, nLg_n, nLg_i, nLg_r, tc_c, tc_l, tc_r, tc_m, tc_n, tc_o, tc_0, inR, true_and, and_true, ne_eq, not_true_eq_false, not_false_eq_true, true_imp_iff, false_imp_iff, Int.toNat_natCast, lit_a, Nat.reduceAdd, or_true, true_or, sg_nil, hH.1]
      refine k_Hea_countNotices hH H W nn.1 ?_
      refine wp_go b63_119 ?_; simp only [l63_119, sg_iret0, nLg_n, nLg_i, nLg_r, tc_c, tc_l, tc_r, tc_m, tc_n, tc_o, tc_0, inR, true_and, and_true, ne_eq, not_true_eq_false, not_false_eq_true, true_imp_iff, false_imp_iff, Int.toNat_natCast, lit_a, Nat.reduceAdd, or_true, true_or, sg_nil]
      (revert h; unfold F_of; (try simp only [Int.toNat_natCast]); (repeat (first | rw [if_neg (by omega)] | rw [if_pos (by omega)])); exact id)
    · refine wp_go b63_120 ?_; simp only [l63_120, sg_aload_0, sg_iload_1, sg_iv2_r, len4_0, len4_1, len4_2, len4_3, len4_4, nLg_n, nLg_i, nLg_r, tc_c, tc_l, tc_r, tc_m, tc_n, tc_o, tc_0, inR, true_and, and_true, ne_eq, not_true_eq_false, not_false_eq_true, true_imp_iff, false_imp_iff, Int.toNat_natCast, lit_a, Nat.reduceAdd, or_true, true_or, sg_nil, s1p, x0, x1, x2, x3, x4, x5, x6, x7, x8, x9, x10, x11, x12, x13, x56, x57, x388, x389, x390, x391, x392, x393, x394, x395, x396, x397, x398, x399]
      refine k_NS_hearingOf hz hR h2 (fun μ' c f H hH _ _ => ?_)
      have h := hq μ' (QF_s hz hR f)
      refine wp_go b63_125 ?_; simp only [l63_125, sg_iv1_i, len4_0, len4_1, len4_2, len4_3, len4_4, nLg_n, nLg_i, nLg_r, tc_c, tc_l, tc_r, tc_m, tc_n, tc_o, tc_0, inR, true_and, and_true, ne_eq, not_true_eq_false, not_false_eq_true, true_imp_iff, false_imp_iff, Int.toNat_natCast, lit_a, Nat.reduceAdd, or_true, true_or, sg_nil, hH.1]
      refine k_Hea_noticeSeconds hH H (by omega) nn.1 ?_
      refine wp_go b63_128 ?_; simp only [l63_128, sg_iret0, nLg_n, nLg_i, nLg_r, tc_c, tc_l, tc_r, tc_m, tc_n, tc_o, tc_0, inR, true_and, and_true, ne_eq, not_true_eq_false, not_false_eq_true, true_imp_iff, false_imp_iff, Int.toNat_natCast, lit_a, Nat.reduceAdd, or_true, true_or, sg_nil]
      (revert h; unfold F_of; (try simp only [Int.toNat_natCast]); (repeat (first | rw [if_neg (by omega)] | rw [if_pos (by omega)])); exact id)
    · refine wp_go b63_129 ?_; simp only [l63_129, sg_aload_0, sg_iload_1, sg_iv2_r, len4_0, len4_1, len4_2, len4_3, len4_4, nLg_n, nLg_i, nLg_r, tc_c, tc_l, tc_r, tc_m, tc_n, tc_o, tc_0, inR, true_and, and_true, ne_eq, not_true_eq_false, not_false_eq_true, true_imp_iff, false_imp_iff, Int.toNat_natCast, lit_a, Nat.reduceAdd, or_true, true_or, sg_nil, s1p, x0, x1, x2, x3, x4, x5, x6, x7, x8, x9, x10, x11, x12, x13, x56, x57, x388, x389, x390, x391, x392, x393, x394, x395, x396, x397, x398, x399]
      refine k_NS_hearingOf hz hR h2 (fun μ' c f H hH _ _ => ?_)
      have h := hq μ' (QF_s hz hR f)
      obtain ⟨a0, a1, a2, a3, a4, a5, a6, p0, p1, p2, p3, p4, p5⟩ := heaF hH
      refine wp_go b63_134 ?_; simp only [l63_134, sg_getfp, sg_getf0, sg_iret0, nLg_n, nLg_i, nLg_r, tc_c, tc_l, tc_r, tc_m, tc_n, tc_o, tc_0, inR, true_and, and_true, ne_eq, not_true_eq_false, not_false_eq_true, true_imp_iff, false_imp_iff, Int.toNat_natCast, lit_a, Nat.reduceAdd, or_true, true_or, sg_nil, a0, a1, a2, a3, a4, a5, a6, p0, p1, p2, p3, p4, p5, H.1]
      (revert h; unfold F_of; (try simp only [Int.toNat_natCast]); (repeat (first | rw [if_neg (by omega)] | rw [if_pos (by omega)])); exact id)
    · refine wp_go b63_141 ?_; simp only [l63_141, sg_bipush, sg_iret0, nLg_n, nLg_i, nLg_r, tc_c, tc_l, tc_r, tc_m, tc_n, tc_o, tc_0, inR, true_and, and_true, ne_eq, not_true_eq_false, not_false_eq_true, true_imp_iff, false_imp_iff, Int.toNat_natCast, lit_a, Nat.reduceAdd, or_true, true_or, sg_nil]
      (revert h; unfold F_of; (try simp only [Int.toNat_natCast]); (repeat (first | rw [if_neg (by omega)] | rw [if_pos (by omega)])); exact id)
  · refine wp_go b63_8 ?_; simp only [l63_8, sg_if_ne, sg_iconst, sg_iret0, nLg_n, nLg_i, nLg_r, tc_c, tc_l, tc_r, tc_m, tc_n, tc_o, tc_0, inR, true_and, and_true, ne_eq, not_true_eq_false, not_false_eq_true, true_imp_iff, false_imp_iff, Int.toNat_natCast, lit_a, Nat.reduceAdd, or_true, true_or, sg_nil]
    repeat' (first | with_reducible apply And.intro | (intro _) | ((first | refine wp_go b63_0 ?_ | refine wp_go b63_8 ?_ | refine wp_go b63_13 ?_ | refine wp_go b63_60 ?_ | refine wp_go b63_70 ?_ | refine wp_go b63_80 ?_ | refine wp_go b63_92 ?_ | refine wp_go b63_93 ?_ | refine wp_go b63_98 ?_ | refine wp_go b63_101 ?_ | refine wp_go b63_102 ?_ | refine wp_go b63_107 ?_ | refine wp_go b63_110 ?_ | refine wp_go b63_111 ?_ | refine wp_go b63_116 ?_ | refine wp_go b63_119 ?_ | refine wp_go b63_120 ?_ | refine wp_go b63_125 ?_ | refine wp_go b63_128 ?_ | refine wp_go b63_129 ?_ | refine wp_go b63_134 ?_ | refine wp_go b63_141 ?_); simp only [l63_0, l63_8, l63_13, l63_60, l63_70, l63_80, l63_92, l63_93, l63_98, l63_101, l63_102, l63_107, l63_110, l63_111, l63_116, l63_119, l63_120, l63_125, l63_128, l63_129, l63_134, l63_141, sg_aload_0, sg_getfp, sg_iload_1, sg_iv2_i, len4_0, len4_1, len4_2, len4_3, len4_4, sg_if_ne, sg_iconst, sg_iret0, sg_iload_2, sg_tsw, swc_n, swc_c, List.toList_toArray, Int.reduceAdd, Int.reduceToNat, sg_iaload, sg_baload, sg_is1_1, sg_iv2_r, sg_iv1_i, sg_getf0, sg_bipush, nLg_n, nLg_i, nLg_r, tc_c, tc_l, tc_r, tc_m, tc_n, tc_o, tc_0, inR, true_and, and_true, ne_eq, not_true_eq_false, not_false_eq_true, true_imp_iff, false_imp_iff, Int.toNat_natCast, lit_a, Nat.reduceAdd, or_true, true_or, sg_nil, s1p, x0, x1, x2, x3, x4, x5, x6, x7, x8, x9, x10, x11, x12, x13, x56, x57, x388, x389, x390, x391, x392, x393, x394, x395, x396, x397, x398, x399]))
    all_goals (try omega)
    all_goals (revert h; unfold F_of; (try simp only [Int.toNat_natCast]); (repeat (first | rw [if_neg (by omega)] | rw [if_pos (by omega)])); exact id)
def F_count (z : Rw) (pl hs w : Int) : Int := if w = 0 then z 0 else if w = 1 then sm (zl z) (zn z) else if w = 2 then sm (zb z) (zn z) else if w = 3 then z 2 else if w = 4 then z 3 else if w = 5 then olds z (znl z) else if w = 6 then (lng z (znl z)).1 else if w = 7 then pl else if w = 8 then hs else -2
-- NS.count: blocks [0, 52, 63, 73, 74, 84, 85, 93, 101, 105, 106, 110, 111, 119, 127]
theorem k_NS_count {d : Nat} {Q : QT} {μ : Mem} {w : Int} {z : Rw} (hz : IZ z) (hR : RC z μ 1) (hw : inR w) (hq : ∀ μ', QF z μ μ' → Q (.inl (F_count z (μ 390 1) (μ 56 2) w)) μ') : Call σ1 (d + 6) 64 [.inr (.inr 0), .inl w] μ Q := by
  refine e_64 ?_
  have h := hq μ (QF_r hR)
  have q := hz.1
  have e := zn_eq hz
  have e3 := znl_eq hz
  have a0 : μ 2 3 = z 0 := hR.1.1
  have a1 : μ 1 10 = z 2 := hR.1.2.2.1
  have a2 : μ 1 11 = z 3 := hR.1.2.2.2
  unfold inR at hw
  refine wp_go b64_0 ?_; simp only [l64_0, sg_iload_1, sg_tsw, swc_n, swc_c, List.toList_toArray, Int.reduceAdd, Int.reduceToNat, nLg_n, nLg_i, nLg_r, tc_c, tc_l, tc_r, tc_m, tc_n, tc_o, tc_0, inR, true_and, and_true, ne_eq, not_true_eq_false, not_false_eq_true, true_imp_iff, false_imp_iff, Int.toNat_natCast, lit_a, Nat.reduceAdd, or_true, true_or, sg_nil]
  repeat' (first | with_reducible apply And.intro | (intro _))
  all_goals (try omega)
  · refine wp_go b64_52 ?_; simp only [l64_52, sg_aload_0, sg_getfp, sg_getf0, sg_iret0, nLg_n, nLg_i, nLg_r, tc_c, tc_l, tc_r, tc_m, tc_n, tc_o, tc_0, inR, true_and, and_true, ne_eq, not_true_eq_false, not_false_eq_true, true_imp_iff, false_imp_iff, Int.toNat_natCast, lit_a, Nat.reduceAdd, or_true, true_or, sg_nil, s1p, x0, x1, x2, x3, x4, x5, x6, x7, x8, x9, x10, x11, x12, x13, x56, x57, x388, x389, x390, x391, x392, x393, x394, x395, x396, x397, x398, x399, a0]
    (revert h; unfold F_count; (try simp only [Int.toNat_natCast]); (repeat (first | rw [if_neg (by omega)] | rw [if_pos (by omega)])); exact id)
  · refine wp_go b64_63 ?_; simp only [l64_63, sg_aload_0, sg_getfp, sg_iv1_i, len4_0, len4_1, len4_2, len4_3, len4_4, nLg_n, nLg_i, nLg_r, tc_c, tc_l, tc_r, tc_m, tc_n, tc_o, tc_0, inR, true_and, and_true, ne_eq, not_true_eq_false, not_false_eq_true, true_imp_iff, false_imp_iff, Int.toNat_natCast, lit_a, Nat.reduceAdd, or_true, true_or, sg_nil, s1p, x0, x1, x2, x3, x4, x5, x6, x7, x8, x9, x10, x11, x12, x13, x56, x57, x388, x389, x390, x391, x392, x393, x394, x395, x396, x397, x398, x399]
    refine k_Sen_total st1.2.1 (a0.trans e.1) e.2.2 ?_
    rw [show sm (μ (2 + 2)) (zn z) = sm (zl z) (zn z) from sm_zl hR (by omega)]
    refine wp_go b64_73 ?_; simp only [l64_73, sg_iret0, nLg_n, nLg_i, nLg_r, tc_c, tc_l, tc_r, tc_m, tc_n, tc_o, tc_0, inR, true_and, and_true, ne_eq, not_true_eq_false, not_false_eq_true, true_imp_iff, false_imp_iff, Int.toNat_natCast, lit_a, Nat.reduceAdd, or_true, true_or, sg_nil]
    (revert h; unfold F_count; (try simp only [Int.toNat_natCast]); (repeat (first | rw [if_neg (by omega)] | rw [if_pos (by omega)])); exact id)
  · refine wp_go b64_74 ?_; simp only [l64_74, sg_aload_0, sg_getfp, sg_iv1_i, len4_0, len4_1, len4_2, len4_3, len4_4, nLg_n, nLg_i, nLg_r, tc_c, tc_l, tc_r, tc_m, tc_n, tc_o, tc_0, inR, true_and, and_true, ne_eq, not_true_eq_false, not_false_eq_true, true_imp_iff, false_imp_iff, Int.toNat_natCast, lit_a, Nat.reduceAdd, or_true, true_or, sg_nil, s1p, x0, x1, x2, x3, x4, x5, x6, x7, x8, x9, x10, x11, x12, x13, x56, x57, x388, x389, x390, x391, x392, x393, x394, x395, x396, x397, x398, x399]
    refine k_Sen_chapters st1.2.1 (n := zn z - 1) (a0.trans (by omega)) (by omega) ?_
    rw [show sm (fun i => μ (2 + 3) (i + 1)) (zn z - 1) + 1 = sm (zb z) (zn z) from by
      rw [show sm (fun i => μ (2 + 3) (i + 1)) (zn z - 1) = _ from sm_zb hz hR (by omega), show zn z - 1 + 1 = zn z by omega]; omega]
    refine wp_go b64_84 ?_; simp only [l64_84, sg_iret0, nLg_n, nLg_i, nLg_r, tc_c, tc_l, tc_r, tc_m, tc_n, tc_o, tc_0, inR, true_and, and_true, ne_eq, not_true_eq_false, not_false_eq_true, true_imp_iff, false_imp_iff, Int.toNat_natCast, lit_a, Nat.reduceAdd, or_true, true_or, sg_nil]
    (revert h; unfold F_count; (try simp only [Int.toNat_natCast]); (repeat (first | rw [if_neg (by omega)] | rw [if_pos (by omega)])); exact id)
  · refine wp_go b64_85 ?_; simp only [l64_85, sg_aload_0, sg_getfp, sg_getf0, sg_iret0, nLg_n, nLg_i, nLg_r, tc_c, tc_l, tc_r, tc_m, tc_n, tc_o, tc_0, inR, true_and, and_true, ne_eq, not_true_eq_false, not_false_eq_true, true_imp_iff, false_imp_iff, Int.toNat_natCast, lit_a, Nat.reduceAdd, or_true, true_or, sg_nil, s1p, x0, x1, x2, x3, x4, x5, x6, x7, x8, x9, x10, x11, x12, x13, x56, x57, x388, x389, x390, x391, x392, x393, x394, x395, x396, x397, x398, x399, a1]
    (revert h; unfold F_count; (try simp only [Int.toNat_natCast]); (repeat (first | rw [if_neg (by omega)] | rw [if_pos (by omega)])); exact id)
  · refine wp_go b64_93 ?_; simp only [l64_93, sg_aload_0, sg_getfp, sg_getf0, sg_iret0, nLg_n, nLg_i, nLg_r, tc_c, tc_l, tc_r, tc_m, tc_n, tc_o, tc_0, inR, true_and, and_true, ne_eq, not_true_eq_false, not_false_eq_true, true_imp_iff, false_imp_iff, Int.toNat_natCast, lit_a, Nat.reduceAdd, or_true, true_or, sg_nil, s1p, x0, x1, x2, x3, x4, x5, x6, x7, x8, x9, x10, x11, x12, x13, x56, x57, x388, x389, x390, x391, x392, x393, x394, x395, x396, x397, x398, x399, a2]
    (revert h; unfold F_count; (try simp only [Int.toNat_natCast]); (repeat (first | rw [if_neg (by omega)] | rw [if_pos (by omega)])); exact id)
  · refine wp_go b64_101 ?_; simp only [l64_101, sg_aload_0, sg_iv1_i, len4_0, len4_1, len4_2, len4_3, len4_4, nLg_n, nLg_i, nLg_r, tc_c, tc_l, tc_r, tc_m, tc_n, tc_o, tc_0, inR, true_and, and_true, ne_eq, not_true_eq_false, not_false_eq_true, true_imp_iff, false_imp_iff, Int.toNat_natCast, lit_a, Nat.reduceAdd, or_true, true_or, sg_nil, s1p, x0, x1, x2, x3, x4, x5, x6, x7, x8, x9, x10, x11, x12, x13, x56, x57, x388, x389, x390, x391, x392, x393, x394, x395, x396, x397, x398, x399]
    refine k_NS_outOfDateListeners hz hR e3.1 (fun μ' f => ?_)
    have h := hq μ' (QF_s hz hR f)
    refine wp_go b64_105 ?_; simp only [l64_105, sg_iret0, nLg_n, nLg_i, nLg_r, tc_c, tc_l, tc_r, tc_m, tc_n, tc_o, tc_0, inR, true_and, and_true, ne_eq, not_true_eq_false, not_false_eq_true, true_imp_iff, false_imp_iff, Int.toNat_natCast, lit_a, Nat.reduceAdd, or_true, true_or, sg_nil]
    (revert h; unfold F_count; (try simp only [Int.toNat_natCast]); (repeat (first | rw [if_neg (by omega)] | rw [if_pos (by omega)])); exact id)
  · refine wp_go b64_106 ?_; simp only [l64_106, sg_aload_0, sg_iv1_i, len4_0, len4_1, len4_2, len4_3, len4_4, nLg_n, nLg_i, nLg_r, tc_c, tc_l, tc_r, tc_m, tc_n, tc_o, tc_0, inR, true_and, and_true, ne_eq, not_true_eq_false, not_false_eq_true, true_imp_iff, false_imp_iff, Int.toNat_natCast, lit_a, Nat.reduceAdd, or_true, true_or, sg_nil, s1p, x0, x1, x2, x3, x4, x5, x6, x7, x8, x9, x10, x11, x12, x13, x56, x57, x388, x389, x390, x391, x392, x393, x394, x395, x396, x397, x398, x399]
    refine k_NS_longestListener hz hR e3.1 (fun μ' f => ?_)
    have h := hq μ' (QF_s hz hR f)
    refine wp_go b64_110 ?_; simp only [l64_110, sg_iret0, nLg_n, nLg_i, nLg_r, tc_c, tc_l, tc_r, tc_m, tc_n, tc_o, tc_0, inR, true_and, and_true, ne_eq, not_true_eq_false, not_false_eq_true, true_imp_iff, false_imp_iff, Int.toNat_natCast, lit_a, Nat.reduceAdd, or_true, true_or, sg_nil]
    (revert h; unfold F_count; (try simp only [Int.toNat_natCast]); (repeat (first | rw [if_neg (by omega)] | rw [if_pos (by omega)])); exact id)
  · refine wp_go b64_111 ?_; simp only [l64_111, sg_aload_0, sg_getfp, sg_getf0, sg_iret0, nLg_n, nLg_i, nLg_r, tc_c, tc_l, tc_r, tc_m, tc_n, tc_o, tc_0, inR, true_and, and_true, ne_eq, not_true_eq_false, not_false_eq_true, true_imp_iff, false_imp_iff, Int.toNat_natCast, lit_a, Nat.reduceAdd, or_true, true_or, sg_nil, s1p, x0, x1, x2, x3, x4, x5, x6, x7, x8, x9, x10, x11, x12, x13, x56, x57, x388, x389, x390, x391, x392, x393, x394, x395, x396, x397, x398, x399]
    (revert h; unfold F_count; (try simp only [Int.toNat_natCast]); (repeat (first | rw [if_neg (by omega)] | rw [if_pos (by omega)])); exact id)
  · refine wp_go b64_119 ?_; simp only [l64_119, sg_aload_0, sg_getfp, sg_getf0, sg_iret0, nLg_n, nLg_i, nLg_r, tc_c, tc_l, tc_r, tc_m, tc_n, tc_o, tc_0, inR, true_and, and_true, ne_eq, not_true_eq_false, not_false_eq_true, true_imp_iff, false_imp_iff, Int.toNat_natCast, lit_a, Nat.reduceAdd, or_true, true_or, sg_nil, s1p, x0, x1, x2, x3, x4, x5, x6, x7, x8, x9, x10, x11, x12, x13, x56, x57, x388, x389, x390, x391, x392, x393, x394, x395, x396, x397, x398, x399]
    (revert h; unfold F_count; (try simp only [Int.toNat_natCast]); (repeat (first | rw [if_neg (by omega)] | rw [if_pos (by omega)])); exact id)
  · refine wp_go b64_127 ?_; simp only [l64_127, sg_bipush, sg_iret0, nLg_n, nLg_i, nLg_r, tc_c, tc_l, tc_r, tc_m, tc_n, tc_o, tc_0, inR, true_and, and_true, ne_eq, not_true_eq_false, not_false_eq_true, true_imp_iff, false_imp_iff, Int.toNat_natCast, lit_a, Nat.reduceAdd, or_true, true_or, sg_nil]
    (revert h; unfold F_count; (try simp only [Int.toNat_natCast]); (repeat (first | rw [if_neg (by omega)] | rw [if_pos (by omega)])); exact id)
