theorem fw_book (z : Rw) (s : Nat) (t : Int) (l : Nat) (h : 77 + 5 * s + (z (76 + 5 * s)).toNat < 230) (h2 : s < 24) : fw (bookZ z s t) l = fw z l := by funext k; exact bookZ_o z s _ t (by omega) (by omega)
theorem IZ_book {z : Rw} {s : Nat} {t : Int} (hz : IZ z) (hs : (s : Int) < z 0) (h4 : z (76 + 5 * s) < 4) (ht : 0 ≤ t ∧ t < z 2) : IZ (bookZ z s t) := by
  have q := hz.1
  have r := (hz.2.1 s hs).2.2.2.1
  obtain ⟨n, hn⟩ := nat_of r.1
  have bo : ∀ k, k ≠ 76 + 5 * s → k ≠ 77 + 5 * s + n → bookZ z s t k = z k := fun k h1 h2 => bookZ_o z s k t h1 (by rw [hn]; exact h2)
  obtain ⟨h1, h2, h3, h5, h6⟩ := hz
  unfold IZ
  rw [bo 0 (by omega) (by omega), bo 1 (by omega) (by omega), bo 2 (by omega) (by omega), bo 3 (by omega) (by omega), bo 6 (by omega) (by omega)]
  refine ⟨h1, fun i hi => ?_, h3, fun i hi => ?_, fun l hl => ?_⟩
  · rw [bo (4 + 3 * i) (by omega) (by omega), bo (5 + 3 * i) (by omega) (by omega), bo (6 + 3 * i) (by omega) (by omega)]
    obtain ⟨b1, b2, b3, b4, b5⟩ := h2 i hi
    refine ⟨b1, b2, b3, ?_, fun j hj => ?_⟩
    · by_cases hii : i = s
      · subst hii; rw [bookZ_s]; omega
      · rw [bo _ (by omega) (by omega)]; exact b4
    · by_cases hii : i = s
      · subst hii
        rw [bookZ_s] at hj
        by_cases hjn : j = n
        · subst hjn; rw [bookZ_n z i j t hn]; exact ht
        · rw [bo _ (by omega) (by omega)]; exact b5 j (by omega)
      · rw [bo _ (by omega) (by omega)] at hj
        rw [bo _ (by omega) (by omega)]; exact b5 j hj
  · rw [bo (196 + 2 * i) (by omega) (by omega), bo (197 + 2 * i) (by omega) (by omega)]; exact h5 i hi
  · rw [bo (212 + 3 * l) (by omega) (by omega), bo (213 + 3 * l) (by omega) (by omega), bo (214 + 3 * l) (by omega) (by omega), fw_book z s t l (by omega) (by omega)]; exact h6 l hl
theorem QF_t {z : Rw} {μ μ1 μ2 : Mem} (h1 : QF z μ μ1) (h2 : QF z μ1 μ2) : QF z μ μ2 := ⟨fun k a b c => (h2.1 k a b c).trans (h1.1 k a b c), h2.2⟩
def hib (z : Rw) (t : Int) (s : Nat) : Int := if 4 ≤ z (76 + 5 * s) then -6 else sm (hrs (bookZ z s t) (zn z) t) (znl z)
-- NS.hearersIfBooked: blocks [0, 8, 14, 23, 28, 37]
theorem k_NS_hearersIfBooked {d s : Nat} {Q : QT} {μ : Mem} {t : Int} {z : Rw} (hz : IZ z) (hR : RC z μ 1) (hs : (s : Int) < z 0) (ht : 0 ≤ t ∧ t < z 2) (hq : ∀ μ', QF z μ μ' → Q (.inl (hib z t s)) μ') : Call σ1 (d + 5) 92 [.inr (.inr 0), .inl (s : Int), .inl t] μ Q := by
  refine e_92 ?_
  have h := hq μ (QF_r hR)
  have q := hz.1
  refine wp_go b92_0 ?_; simp only [l92_0, sg_aload_0, sg_getfp, sg_iload_1, sg_iv2_i, len4_0, len4_1, len4_2, len4_3, len4_4, nLg_n, nLg_i, nLg_r, tc_c, tc_l, tc_r, tc_m, tc_n, tc_o, tc_0, inR, true_and, and_true, ne_eq, not_true_eq_false, not_false_eq_true, true_imp_iff, false_imp_iff, Int.toNat_natCast, lit_a, Nat.reduceAdd, or_true, true_or, or_false, false_or, Int.reduceEq, Int.reduceNe, Int.reduceLT, Int.reduceLE, Int.reduceNeg, sg_nil, s1p, x0, x1, x2, x3, x4, x5, x6, x7, x8, x9, x10, x11, x12, x13, x56, x57, x388, x389, x390, x391, x392, x393, x394, x395, x396, x397, x398, x399]
  refine k_Sta_isRowFull st1 hR hz hs (fun h1 => ?_) (fun h1 => ?_)
  · unfold hib at h
    rw [if_pos h1] at h
    refine wp_go b92_8 ?_; simp only [l92_8, sg_if_eq, sg_bipush, sg_iret0, nLg_n, nLg_i, nLg_r, tc_c, tc_l, tc_r, tc_m, tc_n, tc_o, tc_0, inR, true_and, and_true, ne_eq, not_true_eq_false, not_false_eq_true, true_imp_iff, false_imp_iff, Int.toNat_natCast, lit_a, Nat.reduceAdd, or_true, true_or, or_false, false_or, Int.reduceEq, Int.reduceNe, Int.reduceLT, Int.reduceLE, Int.reduceNeg, sg_nil]
    repeat' (first | with_reducible apply And.intro | (intro _) | ((first | refine wp_go b92_0 ?_ | refine wp_go b92_8 ?_ | refine wp_go b92_14 ?_ | refine wp_go b92_23 ?_ | refine wp_go b92_28 ?_ | refine wp_go b92_37 ?_); simp only [l92_0, l92_8, l92_14, l92_23, l92_28, l92_37, sg_aload_0, sg_getfp, sg_iload_1, sg_iv2_i, len4_0, len4_1, len4_2, len4_3, len4_4, sg_if_eq, sg_bipush, sg_iret0, sg_iload_2, sg_iv3_v, sg_istore_3, sg_iv2_v, sg_iload_3, nLg_n, nLg_i, nLg_r, tc_c, tc_l, tc_r, tc_m, tc_n, tc_o, tc_0, inR, true_and, and_true, ne_eq, not_true_eq_false, not_false_eq_true, true_imp_iff, false_imp_iff, Int.toNat_natCast, lit_a, Nat.reduceAdd, or_true, true_or, or_false, false_or, Int.reduceEq, Int.reduceNe, Int.reduceLT, Int.reduceLE, Int.reduceNeg, sg_nil]))
    all_goals (try omega)
    all_goals exact h
  · refine wp_go b92_8 ?_; simp only [l92_8, sg_if_eq, sg_bipush, sg_iret0, nLg_n, nLg_i, nLg_r, tc_c, tc_l, tc_r, tc_m, tc_n, tc_o, tc_0, inR, true_and, and_true, ne_eq, not_true_eq_false, not_false_eq_true, true_imp_iff, false_imp_iff, Int.toNat_natCast, lit_a, Nat.reduceAdd, or_true, true_or, or_false, false_or, Int.reduceEq, Int.reduceNe, Int.reduceLT, Int.reduceLE, Int.reduceNeg, sg_nil]
    repeat' (first | with_reducible apply And.intro | (intro _) | ((first | refine wp_go b92_0 ?_ | refine wp_go b92_8 ?_ | refine wp_go b92_14 ?_ | refine wp_go b92_23 ?_ | refine wp_go b92_28 ?_ | refine wp_go b92_37 ?_); simp only [l92_0, l92_8, l92_14, l92_23, l92_28, l92_37, sg_aload_0, sg_getfp, sg_iload_1, sg_iv2_i, len4_0, len4_1, len4_2, len4_3, len4_4, sg_if_eq, sg_bipush, sg_iret0, sg_iload_2, sg_iv3_v, sg_istore_3, sg_iv2_v, sg_iload_3, nLg_n, nLg_i, nLg_r, tc_c, tc_l, tc_r, tc_m, tc_n, tc_o, tc_0, inR, true_and, and_true, ne_eq, not_true_eq_false, not_false_eq_true, true_imp_iff, false_imp_iff, Int.toNat_natCast, lit_a, Nat.reduceAdd, or_true, true_or, or_false, false_or, Int.reduceEq, Int.reduceNe, Int.reduceLT, Int.reduceLE, Int.reduceNeg, sg_nil, s1p, x0, x1, x2, x3, x4, x5, x6, x7, x8, x9, x10, x11, x12, x13, x56, x57, x388, x389, x390, x391, x392, x393, x394, x395, x396, x397, x398, x399]))
    all_goals (try omega)
    refine k_Sta_appendToRow st1 hR hz hs h1 (fun μ1 f1 R1 => ?_)
    have hz1 := IZ_book hz hs h1 ht
    have r := (hz.2.1 s hs).2.2.2.1
    have b0 : bookZ z s t 0 = z 0 := bookZ_o z s 0 t (by omega) (by omega)
    have b3 : bookZ z s t 3 = z 3 := bookZ_o z s 3 t (by omega) (by omega)
    refine wp_go b92_23 ?_; simp only [l92_23, sg_aload_0, sg_iload_2, sg_iv2_i, len4_0, len4_1, len4_2, len4_3, len4_4, nLg_n, nLg_i, nLg_r, tc_c, tc_l, tc_r, tc_m, tc_n, tc_o, tc_0, inR, true_and, and_true, ne_eq, not_true_eq_false, not_false_eq_true, true_imp_iff, false_imp_iff, Int.toNat_natCast, lit_a, Nat.reduceAdd, or_true, true_or, or_false, false_or, Int.reduceEq, Int.reduceNe, Int.reduceLT, Int.reduceLE, Int.reduceNeg, sg_nil, s1p, x0, x1, x2, x3, x4, x5, x6, x7, x8, x9, x10, x11, x12, x13, x56, x57, x388, x389, x390, x391, x392, x393, x394, x395, x396, x397, x398, x399]
    refine k_NS_countHearers hz1 R1 (b3.trans (znl_eq hz).1) (b0.trans (zn_eq hz).1) (fun μ2 f2 => ?_)
    refine wp_go b92_28 ?_; simp only [l92_28, sg_istore_3, sg_aload_0, sg_getfp, sg_iload_1, sg_iv2_v, len4_0, len4_1, len4_2, len4_3, len4_4, nLg_n, nLg_i, nLg_r, tc_c, tc_l, tc_r, tc_m, tc_n, tc_o, tc_0, inR, true_and, and_true, ne_eq, not_true_eq_false, not_false_eq_true, true_imp_iff, false_imp_iff, Int.toNat_natCast, lit_a, Nat.reduceAdd, or_true, true_or, or_false, false_or, Int.reduceEq, Int.reduceNe, Int.reduceLT, Int.reduceLE, Int.reduceNeg, sg_nil, s1p, x0, x1, x2, x3, x4, x5, x6, x7, x8, x9, x10, x11, x12, x13, x56, x57, x388, x389, x390, x391, x392, x393, x394, x395, x396, x397, x398, x399]
    refine k_Sta_dropFromRow st1 hz hs h1 (RC_f (by omega) (fun k _ _ => f2 k (by omega)) R1) (fun μ3 f3 R3 => ?_)
    have h := hq μ3 ⟨fun k a b c => by rw [f3 k (by omega), f2 k (by omega), f1 k (by omega) (by omega)], R3⟩
    unfold hib at h
    rw [if_neg (by omega)] at h
    refine wp_go b92_37 ?_; simp only [l92_37, sg_iload_3, sg_iret0, nLg_n, nLg_i, nLg_r, tc_c, tc_l, tc_r, tc_m, tc_n, tc_o, tc_0, inR, true_and, and_true, ne_eq, not_true_eq_false, not_false_eq_true, true_imp_iff, false_imp_iff, Int.toNat_natCast, lit_a, Nat.reduceAdd, or_true, true_or, or_false, false_or, Int.reduceEq, Int.reduceNe, Int.reduceLT, Int.reduceLE, Int.reduceNeg, sg_nil]
    repeat' (first | with_reducible apply And.intro | (intro _) | ((first | refine wp_go b92_0 ?_ | refine wp_go b92_8 ?_ | refine wp_go b92_14 ?_ | refine wp_go b92_23 ?_ | refine wp_go b92_28 ?_ | refine wp_go b92_37 ?_); simp only [l92_0, l92_8, l92_14, l92_23, l92_28, l92_37, sg_aload_0, sg_getfp, sg_iload_1, sg_iv2_i, len4_0, len4_1, len4_2, len4_3, len4_4, sg_if_eq, sg_bipush, sg_iret0, sg_iload_2, sg_iv3_v, sg_istore_3, sg_iv2_v, sg_iload_3, nLg_n, nLg_i, nLg_r, tc_c, tc_l, tc_r, tc_m, tc_n, tc_o, tc_0, inR, true_and, and_true, ne_eq, not_true_eq_false, not_false_eq_true, true_imp_iff, false_imp_iff, Int.toNat_natCast, lit_a, Nat.reduceAdd, or_true, true_or, or_false, false_or, Int.reduceEq, Int.reduceNe, Int.reduceLT, Int.reduceLE, Int.reduceNeg, sg_nil]))
    all_goals (try omega)
    all_goals exact h
def F_ifBooked (z : Rw) (s t : Int) : Int := if (s < 0 ∨ z 0 ≤ s) ∨ (t < 0 ∨ z 2 ≤ t) then -1 else if 4 ≤ z (76 + 5 * s.toNat) then -4 else 10000 + sm (secs (bookZ z s.toNat t) (zn z)) (znl z) - sm (secs z (zn z)) (znl z)
theorem secs_b {z : Rw} (hz : IZ z) : 0 ≤ sm (secs z (zn z)) (znl z) ∧ sm (secs z (zn z)) (znl z) ≤ 3600 := by
  have e := znl_eq hz
  have e0 := zn_eq hz
  have := sm_b (f := secs z (zn z)) (b := 600) (n := znl z) (fun i hi => by
    have c := (hz.2.2.2.2 i (by omega)).2.1
    have := rn_b (g := z (212 + 3 * i)) (b := z (213 + 3 * i)) hz (by omega) (zn z) (by omega)
    unfold secs; omega)
  omega
-- NS.ifBooked: blocks [0, 8, 19, 22, 24, 32, 38, 42, 52, 56, 66]
theorem k_NS_ifBooked {d : Nat} {Q : QT} {μ : Mem} {s t : Int} {z : Rw} (hz : IZ z) (hR : RC z μ 1) (hs : inR s) (ht : inR t) (hq : ∀ μ', QF z μ μ' → Q (.inl (F_ifBooked z s t)) μ') : Call σ1 (d + 5) 71 [.inr (.inr 0), .inl s, .inl t] μ Q := by
  refine e_71 ?_
  have h := hq μ (QF_r hR)
  have q := hz.1
  refine wp_go b71_0 ?_; simp only [l71_0, sg_aload_0, sg_getfp, sg_iload_1, sg_iv2_i, len4_0, len4_1, len4_2, len4_3, len4_4, nLg_n, nLg_i, nLg_r, tc_c, tc_l, tc_r, tc_m, tc_n, tc_o, tc_0, inR, true_and, and_true, ne_eq, not_true_eq_false, not_false_eq_true, true_imp_iff, false_imp_iff, Int.toNat_natCast, lit_a, Nat.reduceAdd, or_true, true_or, or_false, false_or, Int.reduceEq, Int.reduceNe, Int.reduceLT, Int.reduceLE, Int.reduceNeg, sg_nil, s1p, x0, x1, x2, x3, x4, x5, x6, x7, x8, x9, x10, x11, x12, x13, x56, x57, x388, x389, x390, x391, x392, x393, x394, x395, x396, x397, x398, x399]
  refine k_Sta_hasSentence st1 hR hz hs (fun h1 h2 => ?_) (fun h0 => ?_)
  · obtain ⟨n, rfl⟩ := nat_of h1
    refine wp_go b71_8 ?_; simp only [l71_8, sg_if_eq, sg_aload_0, sg_getfp, sg_iload_2, sg_iv2_i, len4_0, len4_1, len4_2, len4_3, len4_4, nLg_n, nLg_i, nLg_r, tc_c, tc_l, tc_r, tc_m, tc_n, tc_o, tc_0, inR, true_and, and_true, ne_eq, not_true_eq_false, not_false_eq_true, true_imp_iff, false_imp_iff, Int.toNat_natCast, lit_a, Nat.reduceAdd, or_true, true_or, or_false, false_or, Int.reduceEq, Int.reduceNe, Int.reduceLT, Int.reduceLE, Int.reduceNeg, sg_nil, s1p, x0, x1, x2, x3, x4, x5, x6, x7, x8, x9, x10, x11, x12, x13, x56, x57, x388, x389, x390, x391, x392, x393, x394, x395, x396, x397, x398, x399]
    repeat' (first | with_reducible apply And.intro | intro _)
    all_goals (try omega)
    refine k_Sta_hasNotice st1 hR hz ht (fun h3 h4 => ?_) (fun h0 => ?_)
    · refine wp_go b71_19 ?_; simp only [l71_19, sg_if_ne, nLg_n, nLg_i, nLg_r, tc_c, tc_l, tc_r, tc_m, tc_n, tc_o, tc_0, inR, true_and, and_true, ne_eq, not_true_eq_false, not_false_eq_true, true_imp_iff, false_imp_iff, Int.toNat_natCast, lit_a, Nat.reduceAdd, or_true, true_or, or_false, false_or, Int.reduceEq, Int.reduceNe, Int.reduceLT, Int.reduceLE, Int.reduceNeg, sg_nil, s1p, x0, x1, x2, x3, x4, x5, x6, x7, x8, x9, x10, x11, x12, x13, x56, x57, x388, x389, x390, x391, x392, x393, x394, x395, x396, x397, x398, x399]
      repeat' (first | with_reducible apply And.intro | intro _)
      all_goals (try omega)
      refine wp_go b71_24 ?_; simp only [l71_24, sg_aload_0, sg_getfp, sg_iload_1, sg_iv2_i, len4_0, len4_1, len4_2, len4_3, len4_4, nLg_n, nLg_i, nLg_r, tc_c, tc_l, tc_r, tc_m, tc_n, tc_o, tc_0, inR, true_and, and_true, ne_eq, not_true_eq_false, not_false_eq_true, true_imp_iff, false_imp_iff, Int.toNat_natCast, lit_a, Nat.reduceAdd, or_true, true_or, or_false, false_or, Int.reduceEq, Int.reduceNe, Int.reduceLT, Int.reduceLE, Int.reduceNeg, sg_nil, s1p, x0, x1, x2, x3, x4, x5, x6, x7, x8, x9, x10, x11, x12, x13, x56, x57, x388, x389, x390, x391, x392, x393, x394, x395, x396, x397, x398, x399]
      refine k_Sta_isRowFull st1 hR hz h2 (fun h5 => ?_) (fun h5 => ?_)
      · refine wp_go b71_32 ?_; simp only [l71_32, sg_if_eq, sg_bipush, sg_iret0, nLg_n, nLg_i, nLg_r, tc_c, tc_l, tc_r, tc_m, tc_n, tc_o, tc_0, inR, true_and, and_true, ne_eq, not_true_eq_false, not_false_eq_true, true_imp_iff, false_imp_iff, Int.toNat_natCast, lit_a, Nat.reduceAdd, or_true, true_or, or_false, false_or, Int.reduceEq, Int.reduceNe, Int.reduceLT, Int.reduceLE, Int.reduceNeg, sg_nil]
        repeat' (first | with_reducible apply And.intro | (intro _) | ((first | refine wp_go b71_0 ?_ | refine wp_go b71_8 ?_ | refine wp_go b71_19 ?_ | refine wp_go b71_22 ?_ | refine wp_go b71_24 ?_ | refine wp_go b71_32 ?_ | refine wp_go b71_38 ?_ | refine wp_go b71_42 ?_ | refine wp_go b71_52 ?_ | refine wp_go b71_56 ?_ | refine wp_go b71_66 ?_); simp only [l71_0, l71_8, l71_19, l71_22, l71_24, l71_32, l71_38, l71_42, l71_52, l71_56, l71_66, sg_aload_0, sg_getfp, sg_iload_1, sg_iv2_i, len4_0, len4_1, len4_2, len4_3, len4_4, sg_if_eq, sg_iload_2, sg_if_ne, sg_iconst, sg_iret0, sg_bipush, sg_iv1_i, sg_istore_3, sg_iv3_v, sg_istore, okS_4, stL_4, sg_iv2_v, sg_sipush, sg_iload, ldI_4, sg_iadd, sg_iload_3, sg_isub, nLg_n, nLg_i, nLg_r, tc_c, tc_l, tc_r, tc_m, tc_n, tc_o, tc_0, inR, true_and, and_true, ne_eq, not_true_eq_false, not_false_eq_true, true_imp_iff, false_imp_iff, Int.toNat_natCast, lit_a, Nat.reduceAdd, or_true, true_or, or_false, false_or, Int.reduceEq, Int.reduceNe, Int.reduceLT, Int.reduceLE, Int.reduceNeg, sg_nil]))
        all_goals (try omega)
        all_goals (revert h; unfold F_ifBooked; (try simp only [Int.toNat_natCast]); (repeat (first | rw [if_neg (by omega)] | rw [if_pos (by omega)])); exact id)
      · refine wp_go b71_32 ?_; simp only [l71_32, sg_if_eq, sg_bipush, sg_iret0, nLg_n, nLg_i, nLg_r, tc_c, tc_l, tc_r, tc_m, tc_n, tc_o, tc_0, inR, true_and, and_true, ne_eq, not_true_eq_false, not_false_eq_true, true_imp_iff, false_imp_iff, Int.toNat_natCast, lit_a, Nat.reduceAdd, or_true, true_or, or_false, false_or, Int.reduceEq, Int.reduceNe, Int.reduceLT, Int.reduceLE, Int.reduceNeg, sg_nil]
        repeat' (first | with_reducible apply And.intro | intro _)
        all_goals (try omega)
        refine wp_go b71_38 ?_; simp only [l71_38, sg_aload_0, sg_iv1_i, len4_0, len4_1, len4_2, len4_3, len4_4, nLg_n, nLg_i, nLg_r, tc_c, tc_l, tc_r, tc_m, tc_n, tc_o, tc_0, inR, true_and, and_true, ne_eq, not_true_eq_false, not_false_eq_true, true_imp_iff, false_imp_iff, Int.toNat_natCast, lit_a, Nat.reduceAdd, or_true, true_or, or_false, false_or, Int.reduceEq, Int.reduceNe, Int.reduceLT, Int.reduceLE, Int.reduceNeg, sg_nil, s1p, x0, x1, x2, x3, x4, x5, x6, x7, x8, x9, x10, x11, x12, x13, x56, x57, x388, x389, x390, x391, x392, x393, x394, x395, x396, x397, x398, x399]
        refine k_NS_secondsOfAll hz hR (znl_eq hz).1 (zn_eq hz).1 (fun μ1 f1 => ?_)
        have R1 : RC z μ1 1 := RC_f (by omega) (fun k _ _ => f1 k (by omega)) hR
        refine wp_go b71_42 ?_; simp only [l71_42, sg_istore_3, sg_aload_0, sg_getfp, sg_iload_1, sg_iload_2, sg_iv3_v, len4_0, len4_1, len4_2, len4_3, len4_4, nLg_n, nLg_i, nLg_r, tc_c, tc_l, tc_r, tc_m, tc_n, tc_o, tc_0, inR, true_and, and_true, ne_eq, not_true_eq_false, not_false_eq_true, true_imp_iff, false_imp_iff, Int.toNat_natCast, lit_a, Nat.reduceAdd, or_true, true_or, or_false, false_or, Int.reduceEq, Int.reduceNe, Int.reduceLT, Int.reduceLE, Int.reduceNeg, sg_nil, s1p, x0, x1, x2, x3, x4, x5, x6, x7, x8, x9, x10, x11, x12, x13, x56, x57, x388, x389, x390, x391, x392, x393, x394, x395, x396, x397, x398, x399]
        refine k_Sta_appendToRow st1 R1 hz h2 h5 (fun μ2 f2 R2 => ?_)
        have hz1 := IZ_book hz h2 h5 ⟨h3, h4⟩
        have r := (hz.2.1 n h2).2.2.2.1
        have b0 : bookZ z n t 0 = z 0 := bookZ_o z n 0 t (by omega) (by omega)
        have b3 : bookZ z n t 3 = z 3 := bookZ_o z n 3 t (by omega) (by omega)
        refine wp_go b71_52 ?_; simp only [l71_52, sg_aload_0, sg_iv1_i, len4_0, len4_1, len4_2, len4_3, len4_4, nLg_n, nLg_i, nLg_r, tc_c, tc_l, tc_r, tc_m, tc_n, tc_o, tc_0, inR, true_and, and_true, ne_eq, not_true_eq_false, not_false_eq_true, true_imp_iff, false_imp_iff, Int.toNat_natCast, lit_a, Nat.reduceAdd, or_true, true_or, or_false, false_or, Int.reduceEq, Int.reduceNe, Int.reduceLT, Int.reduceLE, Int.reduceNeg, sg_nil, s1p, x0, x1, x2, x3, x4, x5, x6, x7, x8, x9, x10, x11, x12, x13, x56, x57, x388, x389, x390, x391, x392, x393, x394, x395, x396, x397, x398, x399]
        refine k_NS_secondsOfAll hz1 R2 (b3.trans (znl_eq hz).1) (b0.trans (zn_eq hz).1) (fun μ3 f3 => ?_)
        refine wp_go b71_56 ?_; simp only [l71_56, sg_istore, okS_4, stL_4, sg_aload_0, sg_getfp, sg_iload_1, sg_iv2_v, len4_0, len4_1, len4_2, len4_3, len4_4, nLg_n, nLg_i, nLg_r, tc_c, tc_l, tc_r, tc_m, tc_n, tc_o, tc_0, inR, true_and, and_true, ne_eq, not_true_eq_false, not_false_eq_true, true_imp_iff, false_imp_iff, Int.toNat_natCast, lit_a, Nat.reduceAdd, or_true, true_or, or_false, false_or, Int.reduceEq, Int.reduceNe, Int.reduceLT, Int.reduceLE, Int.reduceNeg, sg_nil, s1p, x0, x1, x2, x3, x4, x5, x6, x7, x8, x9, x10, x11, x12, x13, x56, x57, x388, x389, x390, x391, x392, x393, x394, x395, x396, x397, x398, x399]
        refine k_Sta_dropFromRow st1 hz h2 h5 (RC_f (by omega) (fun k _ _ => f3 k (by omega)) R2) (fun μ4 f4 R4 => ?_)
        have h := hq μ4 ⟨fun k a b c => by rw [f4 k (by omega), f3 k (by omega), f2 k (by omega) (by omega), f1 k (by omega)], R4⟩
        have sb := secs_b hz
        have sb1 := secs_b hz1
        have e1 : zn (bookZ z n t) = zn z := by unfold zn; rw [b0]
        have e2 : znl (bookZ z n t) = znl z := by unfold znl; rw [b3]
        rw [e1, e2] at sb1
        unfold F_ifBooked at h
        rw [if_neg (by omega), Int.toNat_natCast, if_neg (by omega)] at h
        refine wp_go b71_66 ?_; simp only [l71_66, sg_sipush, sg_iload, ldI_4, sg_iadd, sg_iload_3, sg_isub, sg_iret0, nLg_n, nLg_i, nLg_r, tc_c, tc_l, tc_r, tc_m, tc_n, tc_o, tc_0, inR, true_and, and_true, ne_eq, not_true_eq_false, not_false_eq_true, true_imp_iff, false_imp_iff, Int.toNat_natCast, lit_a, Nat.reduceAdd, or_true, true_or, or_false, false_or, Int.reduceEq, Int.reduceNe, Int.reduceLT, Int.reduceLE, Int.reduceNeg, sg_nil]
        repeat' (first | with_reducible apply And.intro | (intro _) | ((first | refine wp_go b71_0 ?_ | refine wp_go b71_8 ?_ | refine wp_go b71_19 ?_ | refine wp_go b71_22 ?_ | refine wp_go b71_24 ?_ | refine wp_go b71_32 ?_ | refine wp_go b71_38 ?_ | refine wp_go b71_42 ?_ | refine wp_go b71_52 ?_ | refine wp_go b71_56 ?_ | refine wp_go b71_66 ?_); simp only [l71_0, l71_8, l71_19, l71_22, l71_24, l71_32, l71_38, l71_42, l71_52, l71_56, l71_66, sg_aload_0, sg_getfp, sg_iload_1, sg_iv2_i, len4_0, len4_1, len4_2, len4_3, len4_4, sg_if_eq, sg_iload_2, sg_if_ne, sg_iconst, sg_iret0, sg_bipush, sg_iv1_i, sg_istore_3, sg_iv3_v, sg_istore, okS_4, stL_4, sg_iv2_v, sg_sipush, sg_iload, ldI_4, sg_iadd, sg_iload_3, sg_isub, nLg_n, nLg_i, nLg_r, tc_c, tc_l, tc_r, tc_m, tc_n, tc_o, tc_0, inR, true_and, and_true, ne_eq, not_true_eq_false, not_false_eq_true, true_imp_iff, false_imp_iff, Int.toNat_natCast, lit_a, Nat.reduceAdd, or_true, true_or, or_false, false_or, Int.reduceEq, Int.reduceNe, Int.reduceLT, Int.reduceLE, Int.reduceNeg, sg_nil]))
        all_goals (try omega)
        all_goals exact h
    · refine wp_go b71_19 ?_; simp only [l71_19, sg_if_ne, nLg_n, nLg_i, nLg_r, tc_c, tc_l, tc_r, tc_m, tc_n, tc_o, tc_0, inR, true_and, and_true, ne_eq, not_true_eq_false, not_false_eq_true, true_imp_iff, false_imp_iff, Int.toNat_natCast, lit_a, Nat.reduceAdd, or_true, true_or, or_false, false_or, Int.reduceEq, Int.reduceNe, Int.reduceLT, Int.reduceLE, Int.reduceNeg, sg_nil]
      repeat' (first | with_reducible apply And.intro | (intro _) | ((first | refine wp_go b71_0 ?_ | refine wp_go b71_8 ?_ | refine wp_go b71_19 ?_ | refine wp_go b71_22 ?_ | refine wp_go b71_24 ?_ | refine wp_go b71_32 ?_ | refine wp_go b71_38 ?_ | refine wp_go b71_42 ?_ | refine wp_go b71_52 ?_ | refine wp_go b71_56 ?_ | refine wp_go b71_66 ?_); simp only [l71_0, l71_8, l71_19, l71_22, l71_24, l71_32, l71_38, l71_42, l71_52, l71_56, l71_66, sg_aload_0, sg_getfp, sg_iload_1, sg_iv2_i, len4_0, len4_1, len4_2, len4_3, len4_4, sg_if_eq, sg_iload_2, sg_if_ne, sg_iconst, sg_iret0, sg_bipush, sg_iv1_i, sg_istore_3, sg_iv3_v, sg_istore, okS_4, stL_4, sg_iv2_v, sg_sipush, sg_iload, ldI_4, sg_iadd, sg_iload_3, sg_isub, nLg_n, nLg_i, nLg_r, tc_c, tc_l, tc_r, tc_m, tc_n, tc_o, tc_0, inR, true_and, and_true, ne_eq, not_true_eq_false, not_false_eq_true, true_imp_iff, false_imp_iff, Int.toNat_natCast, lit_a, Nat.reduceAdd, or_true, true_or, or_false, false_or, Int.reduceEq, Int.reduceNe, Int.reduceLT, Int.reduceLE, Int.reduceNeg, sg_nil]))
      all_goals (try omega)
      all_goals (revert h; unfold F_ifBooked; (try simp only [Int.toNat_natCast]); (repeat (first | rw [if_neg (by omega)] | rw [if_pos (by omega)])); exact id)
  · refine wp_go b71_8 ?_; simp only [l71_8, sg_if_eq, sg_aload_0, sg_getfp, sg_iload_2, sg_iv2_i, len4_0, len4_1, len4_2, len4_3, len4_4, nLg_n, nLg_i, nLg_r, tc_c, tc_l, tc_r, tc_m, tc_n, tc_o, tc_0, inR, true_and, and_true, ne_eq, not_true_eq_false, not_false_eq_true, true_imp_iff, false_imp_iff, Int.toNat_natCast, lit_a, Nat.reduceAdd, or_true, true_or, or_false, false_or, Int.reduceEq, Int.reduceNe, Int.reduceLT, Int.reduceLE, Int.reduceNeg, sg_nil]
    repeat' (first | with_reducible apply And.intro | (intro _) | ((first | refine wp_go b71_0 ?_ | refine wp_go b71_8 ?_ | refine wp_go b71_19 ?_ | refine wp_go b71_22 ?_ | refine wp_go b71_24 ?_ | refine wp_go b71_32 ?_ | refine wp_go b71_38 ?_ | refine wp_go b71_42 ?_ | refine wp_go b71_52 ?_ | refine wp_go b71_56 ?_ | refine wp_go b71_66 ?_); simp only [l71_0, l71_8, l71_19, l71_22, l71_24, l71_32, l71_38, l71_42, l71_52, l71_56, l71_66, sg_aload_0, sg_getfp, sg_iload_1, sg_iv2_i, len4_0, len4_1, len4_2, len4_3, len4_4, sg_if_eq, sg_iload_2, sg_if_ne, sg_iconst, sg_iret0, sg_bipush, sg_iv1_i, sg_istore_3, sg_iv3_v, sg_istore, okS_4, stL_4, sg_iv2_v, sg_sipush, sg_iload, ldI_4, sg_iadd, sg_iload_3, sg_isub, nLg_n, nLg_i, nLg_r, tc_c, tc_l, tc_r, tc_m, tc_n, tc_o, tc_0, inR, true_and, and_true, ne_eq, not_true_eq_false, not_false_eq_true, true_imp_iff, false_imp_iff, Int.toNat_natCast, lit_a, Nat.reduceAdd, or_true, true_or, or_false, false_or, Int.reduceEq, Int.reduceNe, Int.reduceLT, Int.reduceLE, Int.reduceNeg, sg_nil, s1p, x0, x1, x2, x3, x4, x5, x6, x7, x8, x9, x10, x11, x12, x13, x56, x57, x388, x389, x390, x391, x392, x393, x394, x395, x396, x397, x398, x399]))
    all_goals (try omega)
    all_goals (revert h; unfold F_ifBooked; (try simp only [Int.toNat_natCast]); (repeat (first | rw [if_neg (by omega)] | rw [if_pos (by omega)])); exact id)
/-- the best break: where, and how many hear it -/
def bb (f : Nat → Int) : Nat → Int × Int
  | 0 => (-6, -6)
  | n + 1 => if (bb f n).2 < f n then ((n : Int), f n) else bb f n
def F_bestBreak (z : Rw) (t w : Int) : Int := if t < 0 ∨ z 2 ≤ t then -1 else if w < 0 ∨ 1 < w then -2 else if w = 0 then (bb (hib z t) (zn z)).1 else (bb (hib z t) (zn z)).2
theorem hib_b (z : Rw) (t : Int) (s : Nat) : -6 ≤ hib z t s ∧ hib z t s ≤ znl z := by
  unfold hib
  split
  · omega
  · have := sm_b (f := hrs (bookZ z s t) (zn z) t) (b := 1) (n := znl z) (fun i hi => by
      have := bit_01 (rn (bookZ z s t) (bookZ z s t (212 + 3 * i)) (bookZ z s t (213 + 3 * i)) (zn z)).1 t
      unfold hrs; omega)
    omega
theorem bb_b {f : Nat → Int} {a b : Int} (ha : a ≤ -6) (hb : -6 ≤ b) (h : ∀ i, a ≤ f i ∧ f i ≤ b) : ∀ n, a ≤ (bb f n).2 ∧ (bb f n).2 ≤ b
  | 0 => ⟨ha, hb⟩
  | n + 1 => by
    have := bb_b ha hb h n
    unfold bb
    split
    · exact h n
    · exact this
-- NS.bestBreak: blocks [0, 8, 13, 19, 25, 35, 57, 73, 79, 87, 89]
theorem k_NS_bestBreak {d : Nat} {Q : QT} {μ : Mem} {t w : Int} {z : Rw} (hz : IZ z) (hR : RC z μ 1) (ht : inR t) (hw : inR w) (hq : ∀ μ', QF z μ μ' → Q (.inl (F_bestBreak z t w)) μ') : Call σ1 (d + 6) 72 [.inr (.inr 0), .inl t, .inl w] μ Q := by
  refine e_72 ?_
  have h := hq μ (QF_r hR)
  have q := hz.1
  refine wp_go b72_0 ?_; simp only [l72_0, sg_aload_0, sg_getfp, sg_iload_1, sg_iv2_i, len4_0, len4_1, len4_2, len4_3, len4_4, nLg_n, nLg_i, nLg_r, tc_c, tc_l, tc_r, tc_m, tc_n, tc_o, tc_0, inR, true_and, and_true, ne_eq, not_true_eq_false, not_false_eq_true, true_imp_iff, false_imp_iff, Int.toNat_natCast, lit_a, Nat.reduceAdd, or_true, true_or, or_false, false_or, Int.reduceEq, Int.reduceNe, Int.reduceLT, Int.reduceLE, Int.reduceNeg, sg_nil, s1p, x0, x1, x2, x3, x4, x5, x6, x7, x8, x9, x10, x11, x12, x13, x56, x57, x388, x389, x390, x391, x392, x393, x394, x395, x396, x397, x398, x399]
  refine k_Sta_hasNotice st1 hR hz ht (fun h1 h2 => ?_) (fun h0 => ?_)
  · refine wp_go b72_8 ?_; simp only [l72_8, sg_if_ne, sg_iconst, sg_iret0, nLg_n, nLg_i, nLg_r, tc_c, tc_l, tc_r, tc_m, tc_n, tc_o, tc_0, inR, true_and, and_true, ne_eq, not_true_eq_false, not_false_eq_true, true_imp_iff, false_imp_iff, Int.toNat_natCast, lit_a, Nat.reduceAdd, or_true, true_or, or_false, false_or, Int.reduceEq, Int.reduceNe, Int.reduceLT, Int.reduceLE, Int.reduceNeg, sg_nil]
    repeat' (first | with_reducible apply And.intro | intro _)
    all_goals (try omega)
    refine wp_go b72_13 ?_; simp only [l72_13, sg_iload_2, sg_iconst, len4_0, len4_1, len4_2, len4_3, len4_4, sg_is3_1, nLg_n, nLg_i, nLg_r, tc_c, tc_l, tc_r, tc_m, tc_n, tc_o, tc_0, inR, true_and, and_true, ne_eq, not_true_eq_false, not_false_eq_true, true_imp_iff, false_imp_iff, Int.toNat_natCast, lit_a, Nat.reduceAdd, or_true, true_or, or_false, false_or, Int.reduceEq, Int.reduceNe, Int.reduceLT, Int.reduceLE, Int.reduceNeg, sg_nil]
    refine k_NS_isWithin hw (by unfold inR; omega) (by unfold inR; omega) (fun g1 g2 => ?_) (fun g0 => ?_)
    · have e0 := zn_eq hz
      have e3 := znl_eq hz
      have loop : ∀ k i : Nat, i + k = zn z → ∀ (μ1 : Mem) (o6 : Option MV), QF z μ μ1 → wp σ1 (Call σ1 (d + 5)) 72 Q 35 [some (.inr (.inr 0)), some (.inl t), some (.inl w), some (.inl (bb (hib z t) i).1), some (.inl (bb (hib z t) i).2), some (.inl (i : Int)), o6] [] μ1 := by
        intro k
        induction k with
        | zero =>
          intro i hi μ1 o6 f1
          have him : i = zn z := by omega
          have h := hq μ1 f1
          unfold F_bestBreak at h
          rw [if_neg (by omega), if_neg (by omega), ← him] at h
          have e : μ1 2 3 = (i : Int) := f1.2.1.1.trans (by omega)
          refine wp_go b72_35 ?_; simp only [l72_35, sg_iload, ldI_5, sg_aload_0, sg_getfp, sg_getf0, sg_ic_ge, sg_iload_1, sg_iv3_i, len4_0, len4_1, len4_2, len4_3, len4_4, nLg_n, nLg_i, nLg_r, tc_c, tc_l, tc_r, tc_m, tc_n, tc_o, tc_0, inR, true_and, and_true, ne_eq, not_true_eq_false, not_false_eq_true, true_imp_iff, false_imp_iff, Int.toNat_natCast, lit_a, Nat.reduceAdd, or_true, true_or, or_false, false_or, Int.reduceEq, Int.reduceNe, Int.reduceLT, Int.reduceLE, Int.reduceNeg, sg_nil, s1p, x0, x1, x2, x3, x4, x5, x6, x7, x8, x9, x10, x11, x12, x13, x56, x57, x388, x389, x390, x391, x392, x393, x394, x395, x396, x397, x398, x399, e]
          repeat' (first | with_reducible apply And.intro | intro _)
          all_goals (try omega)
          refine wp_go b72_79 ?_; simp only [l72_79, sg_iload_2, sg_if_ne, sg_iload_3, sg_goto, nLg_n, nLg_i, nLg_r, tc_c, tc_l, tc_r, tc_m, tc_n, tc_o, tc_0, inR, true_and, and_true, ne_eq, not_true_eq_false, not_false_eq_true, true_imp_iff, false_imp_iff, Int.toNat_natCast, lit_a, Nat.reduceAdd, or_true, true_or, or_false, false_or, Int.reduceEq, Int.reduceNe, Int.reduceLT, Int.reduceLE, Int.reduceNeg, sg_nil]
          repeat' (first | with_reducible apply And.intro | intro _)
          all_goals (try omega)
          all_goals first
            | rw [if_pos (by omega)] at h
              repeat' (first | with_reducible apply And.intro | (intro _) | ((first | refine wp_go b72_0 ?_ | refine wp_go b72_8 ?_ | refine wp_go b72_13 ?_ | refine wp_go b72_19 ?_ | refine wp_go b72_25 ?_ | refine wp_go b72_57 ?_ | refine wp_go b72_73 ?_ | refine wp_go b72_79 ?_ | refine wp_go b72_87 ?_ | refine wp_go b72_89 ?_); simp only [l72_0, l72_8, l72_13, l72_19, l72_25, l72_57, l72_73, l72_79, l72_87, l72_89, sg_aload_0, sg_getfp, sg_iload_1, sg_iv2_i, len4_0, len4_1, len4_2, len4_3, len4_4, sg_if_ne, sg_iconst, sg_iret0, sg_iload_2, sg_is3_1, sg_bipush, sg_istore_3, sg_istore, okS_4, stL_4, okS_5, stL_5, okS_6, stL_6, sg_iload, ldI_6, ldI_4, sg_ic_le, ldI_5, sg_iinc, sg_goto, sg_iload_3, nLg_n, nLg_i, nLg_r, tc_c, tc_l, tc_r, tc_m, tc_n, tc_o, tc_0, inR, true_and, and_true, ne_eq, not_true_eq_false, not_false_eq_true, true_imp_iff, false_imp_iff, Int.toNat_natCast, lit_a, Nat.reduceAdd, or_true, true_or, or_false, false_or, Int.reduceEq, Int.reduceNe, Int.reduceLT, Int.reduceLE, Int.reduceNeg, sg_nil]))
              all_goals (try omega)
              all_goals exact h
            | rw [if_neg (by omega)] at h
              repeat' (first | with_reducible apply And.intro | (intro _) | ((first | refine wp_go b72_0 ?_ | refine wp_go b72_8 ?_ | refine wp_go b72_13 ?_ | refine wp_go b72_19 ?_ | refine wp_go b72_25 ?_ | refine wp_go b72_57 ?_ | refine wp_go b72_73 ?_ | refine wp_go b72_79 ?_ | refine wp_go b72_87 ?_ | refine wp_go b72_89 ?_); simp only [l72_0, l72_8, l72_13, l72_19, l72_25, l72_57, l72_73, l72_79, l72_87, l72_89, sg_aload_0, sg_getfp, sg_iload_1, sg_iv2_i, len4_0, len4_1, len4_2, len4_3, len4_4, sg_if_ne, sg_iconst, sg_iret0, sg_iload_2, sg_is3_1, sg_bipush, sg_istore_3, sg_istore, okS_4, stL_4, okS_5, stL_5, okS_6, stL_6, sg_iload, ldI_6, ldI_4, sg_ic_le, ldI_5, sg_iinc, sg_goto, sg_iload_3, nLg_n, nLg_i, nLg_r, tc_c, tc_l, tc_r, tc_m, tc_n, tc_o, tc_0, inR, true_and, and_true, ne_eq, not_true_eq_false, not_false_eq_true, true_imp_iff, false_imp_iff, Int.toNat_natCast, lit_a, Nat.reduceAdd, or_true, true_or, or_false, false_or, Int.reduceEq, Int.reduceNe, Int.reduceLT, Int.reduceLE, Int.reduceNeg, sg_nil]))
              all_goals (try omega)
              all_goals exact h
        | succ k ih =>
          intro i hi μ1 o6 f1
          have e : μ1 2 3 = (zn z : Int) := f1.2.1.1.trans (by omega)
          refine wp_go b72_35 ?_; simp only [l72_35, sg_iload, ldI_5, sg_aload_0, sg_getfp, sg_getf0, sg_ic_ge, sg_iload_1, sg_iv3_i, len4_0, len4_1, len4_2, len4_3, len4_4, nLg_n, nLg_i, nLg_r, tc_c, tc_l, tc_r, tc_m, tc_n, tc_o, tc_0, inR, true_and, and_true, ne_eq, not_true_eq_false, not_false_eq_true, true_imp_iff, false_imp_iff, Int.toNat_natCast, lit_a, Nat.reduceAdd, or_true, true_or, or_false, false_or, Int.reduceEq, Int.reduceNe, Int.reduceLT, Int.reduceLE, Int.reduceNeg, sg_nil, s1p, x0, x1, x2, x3, x4, x5, x6, x7, x8, x9, x10, x11, x12, x13, x56, x57, x388, x389, x390, x391, x392, x393, x394, x395, x396, x397, x398, x399, e]
          repeat' (first | with_reducible apply And.intro | intro _)
          all_goals (try omega)
          refine k_NS_hearersIfBooked hz f1.2 (by omega) ⟨h1, h2⟩ (fun μ2 f2 => ?_)
          have ih1 := ih (i + 1) (by omega) μ2 (some (.inl (hib z t i))) (QF_t f1 f2)
          have hb := hib_b z t i
          have bb1 := bb_b (f := hib z t) (a := -6) (b := znl z) (by omega) (by omega) (hib_b z t) i
          have e4 : bb (hib z t) (i + 1) = if (bb (hib z t) i).2 < hib z t i then ((i : Int), hib z t i) else bb (hib z t) i := rfl
          rw [e4] at ih1
          refine wp_go b72_57 ?_; simp only [l72_57, sg_istore, okS_6, stL_6, sg_iload, ldI_6, ldI_4, sg_ic_le, ldI_5, sg_istore_3, okS_4, stL_4, nLg_n, nLg_i, nLg_r, tc_c, tc_l, tc_r, tc_m, tc_n, tc_o, tc_0, inR, true_and, and_true, ne_eq, not_true_eq_false, not_false_eq_true, true_imp_iff, false_imp_iff, Int.toNat_natCast, lit_a, Nat.reduceAdd, or_true, true_or, or_false, false_or, Int.reduceEq, Int.reduceNe, Int.reduceLT, Int.reduceLE, Int.reduceNeg, sg_nil]
          repeat' (first | with_reducible apply And.intro | intro _)
          all_goals (try omega)
          all_goals first
            | rw [if_pos (by omega)] at ih1
              refine wp_go b72_73 ?_; simp only [l72_73, sg_iinc, ldI_5, okS_5, stL_5, sg_goto, nLg_n, nLg_i, nLg_r, tc_c, tc_l, tc_r, tc_m, tc_n, tc_o, tc_0, inR, true_and, and_true, ne_eq, not_true_eq_false, not_false_eq_true, true_imp_iff, false_imp_iff, Int.toNat_natCast, lit_a, Nat.reduceAdd, or_true, true_or, or_false, false_or, Int.reduceEq, Int.reduceNe, Int.reduceLT, Int.reduceLE, Int.reduceNeg, sg_nil]
              repeat' (first | with_reducible apply And.intro | (intro _) | ((first | refine wp_go b72_0 ?_ | refine wp_go b72_8 ?_ | refine wp_go b72_13 ?_ | refine wp_go b72_19 ?_ | refine wp_go b72_25 ?_ | refine wp_go b72_57 ?_ | refine wp_go b72_73 ?_ | refine wp_go b72_79 ?_ | refine wp_go b72_87 ?_ | refine wp_go b72_89 ?_); simp only [l72_0, l72_8, l72_13, l72_19, l72_25, l72_57, l72_73, l72_79, l72_87, l72_89, sg_aload_0, sg_getfp, sg_iload_1, sg_iv2_i, len4_0, len4_1, len4_2, len4_3, len4_4, sg_if_ne, sg_iconst, sg_iret0, sg_iload_2, sg_is3_1, sg_bipush, sg_istore_3, sg_istore, okS_4, stL_4, okS_5, stL_5, okS_6, stL_6, sg_iload, ldI_6, ldI_4, sg_ic_le, ldI_5, sg_iinc, sg_goto, sg_iload_3, nLg_n, nLg_i, nLg_r, tc_c, tc_l, tc_r, tc_m, tc_n, tc_o, tc_0, inR, true_and, and_true, ne_eq, not_true_eq_false, not_false_eq_true, true_imp_iff, false_imp_iff, Int.toNat_natCast, lit_a, Nat.reduceAdd, or_true, true_or, or_false, false_or, Int.reduceEq, Int.reduceNe, Int.reduceLT, Int.reduceLE, Int.reduceNeg, sg_nil]))
              all_goals (try omega)
              all_goals exact ih1
            | rw [if_neg (by omega)] at ih1
              refine wp_go b72_73 ?_; simp only [l72_73, sg_iinc, ldI_5, okS_5, stL_5, sg_goto, nLg_n, nLg_i, nLg_r, tc_c, tc_l, tc_r, tc_m, tc_n, tc_o, tc_0, inR, true_and, and_true, ne_eq, not_true_eq_false, not_false_eq_true, true_imp_iff, false_imp_iff, Int.toNat_natCast, lit_a, Nat.reduceAdd, or_true, true_or, or_false, false_or, Int.reduceEq, Int.reduceNe, Int.reduceLT, Int.reduceLE, Int.reduceNeg, sg_nil]
              repeat' (first | with_reducible apply And.intro | (intro _) | ((first | refine wp_go b72_0 ?_ | refine wp_go b72_8 ?_ | refine wp_go b72_13 ?_ | refine wp_go b72_19 ?_ | refine wp_go b72_25 ?_ | refine wp_go b72_57 ?_ | refine wp_go b72_73 ?_ | refine wp_go b72_79 ?_ | refine wp_go b72_87 ?_ | refine wp_go b72_89 ?_); simp only [l72_0, l72_8, l72_13, l72_19, l72_25, l72_57, l72_73, l72_79, l72_87, l72_89, sg_aload_0, sg_getfp, sg_iload_1, sg_iv2_i, len4_0, len4_1, len4_2, len4_3, len4_4, sg_if_ne, sg_iconst, sg_iret0, sg_iload_2, sg_is3_1, sg_bipush, sg_istore_3, sg_istore, okS_4, stL_4, okS_5, stL_5, okS_6, stL_6, sg_iload, ldI_6, ldI_4, sg_ic_le, ldI_5, sg_iinc, sg_goto, sg_iload_3, nLg_n, nLg_i, nLg_r, tc_c, tc_l, tc_r, tc_m, tc_n, tc_o, tc_0, inR, true_and, and_true, ne_eq, not_true_eq_false, not_false_eq_true, true_imp_iff, false_imp_iff, Int.toNat_natCast, lit_a, Nat.reduceAdd, or_true, true_or, or_false, false_or, Int.reduceEq, Int.reduceNe, Int.reduceLT, Int.reduceLE, Int.reduceNeg, sg_nil]))
              all_goals (try omega)
              all_goals exact ih1
      refine wp_go b72_19 ?_; simp only [l72_19, sg_if_ne, sg_bipush, sg_iret0, nLg_n, nLg_i, nLg_r, tc_c, tc_l, tc_r, tc_m, tc_n, tc_o, tc_0, inR, true_and, and_true, ne_eq, not_true_eq_false, not_false_eq_true, true_imp_iff, false_imp_iff, Int.toNat_natCast, lit_a, Nat.reduceAdd, or_true, true_or, or_false, false_or, Int.reduceEq, Int.reduceNe, Int.reduceLT, Int.reduceLE, Int.reduceNeg, sg_nil]
      repeat' (first | with_reducible apply And.intro | intro _)
      all_goals (try omega)
      refine wp_go b72_25 ?_; simp only [l72_25, sg_bipush, sg_istore_3, sg_istore, okS_4, stL_4, sg_iconst, okS_5, stL_5, nLg_n, nLg_i, nLg_r, tc_c, tc_l, tc_r, tc_m, tc_n, tc_o, tc_0, inR, true_and, and_true, ne_eq, not_true_eq_false, not_false_eq_true, true_imp_iff, false_imp_iff, Int.toNat_natCast, lit_a, Nat.reduceAdd, or_true, true_or, or_false, false_or, Int.reduceEq, Int.reduceNe, Int.reduceLT, Int.reduceLE, Int.reduceNeg, sg_nil]
      exact loop (zn z) 0 (by omega) μ none (QF_r hR)
    · refine wp_go b72_19 ?_; simp only [l72_19, sg_if_ne, sg_bipush, sg_iret0, nLg_n, nLg_i, nLg_r, tc_c, tc_l, tc_r, tc_m, tc_n, tc_o, tc_0, inR, true_and, and_true, ne_eq, not_true_eq_false, not_false_eq_true, true_imp_iff, false_imp_iff, Int.toNat_natCast, lit_a, Nat.reduceAdd, or_true, true_or, or_false, false_or, Int.reduceEq, Int.reduceNe, Int.reduceLT, Int.reduceLE, Int.reduceNeg, sg_nil]
      repeat' (first | with_reducible apply And.intro | (intro _) | ((first | refine wp_go b72_0 ?_ | refine wp_go b72_8 ?_ | refine wp_go b72_13 ?_ | refine wp_go b72_19 ?_ | refine wp_go b72_25 ?_ | refine wp_go b72_57 ?_ | refine wp_go b72_73 ?_ | refine wp_go b72_79 ?_ | refine wp_go b72_87 ?_ | refine wp_go b72_89 ?_); simp only [l72_0, l72_8, l72_13, l72_19, l72_25, l72_57, l72_73, l72_79, l72_87, l72_89, sg_aload_0, sg_getfp, sg_iload_1, sg_iv2_i, len4_0, len4_1, len4_2, len4_3, len4_4, sg_if_ne, sg_iconst, sg_iret0, sg_iload_2, sg_is3_1, sg_bipush, sg_istore_3, sg_istore, okS_4, stL_4, okS_5, stL_5, okS_6, stL_6, sg_iload, ldI_6, ldI_4, sg_ic_le, ldI_5, sg_iinc, sg_goto, sg_iload_3, nLg_n, nLg_i, nLg_r, tc_c, tc_l, tc_r, tc_m, tc_n, tc_o, tc_0, inR, true_and, and_true, ne_eq, not_true_eq_false, not_false_eq_true, true_imp_iff, false_imp_iff, Int.toNat_natCast, lit_a, Nat.reduceAdd, or_true, true_or, or_false, false_or, Int.reduceEq, Int.reduceNe, Int.reduceLT, Int.reduceLE, Int.reduceNeg, sg_nil]))
      all_goals (try omega)
      all_goals (revert h; unfold F_bestBreak; (try simp only [Int.toNat_natCast]); (repeat (first | rw [if_neg (by omega)] | rw [if_pos (by omega)])); exact id)
  · refine wp_go b72_8 ?_; simp only [l72_8, sg_if_ne, sg_iconst, sg_iret0, nLg_n, nLg_i, nLg_r, tc_c, tc_l, tc_r, tc_m, tc_n, tc_o, tc_0, inR, true_and, and_true, ne_eq, not_true_eq_false, not_false_eq_true, true_imp_iff, false_imp_iff, Int.toNat_natCast, lit_a, Nat.reduceAdd, or_true, true_or, or_false, false_or, Int.reduceEq, Int.reduceNe, Int.reduceLT, Int.reduceLE, Int.reduceNeg, sg_nil]
    repeat' (first | with_reducible apply And.intro | (intro _) | ((first | refine wp_go b72_0 ?_ | refine wp_go b72_8 ?_ | refine wp_go b72_13 ?_ | refine wp_go b72_19 ?_ | refine wp_go b72_25 ?_ | refine wp_go b72_57 ?_ | refine wp_go b72_73 ?_ | refine wp_go b72_79 ?_ | refine wp_go b72_87 ?_ | refine wp_go b72_89 ?_); simp only [l72_0, l72_8, l72_13, l72_19, l72_25, l72_57, l72_73, l72_79, l72_87, l72_89, sg_aload_0, sg_getfp, sg_iload_1, sg_iv2_i, len4_0, len4_1, len4_2, len4_3, len4_4, sg_if_ne, sg_iconst, sg_iret0, sg_iload_2, sg_is3_1, sg_bipush, sg_istore_3, sg_istore, okS_4, stL_4, okS_5, stL_5, okS_6, stL_6, sg_iload, ldI_6, ldI_4, sg_ic_le, ldI_5, sg_iinc, sg_goto, sg_iload_3, nLg_n, nLg_i, nLg_r, tc_c, tc_l, tc_r, tc_m, tc_n, tc_o, tc_0, inR, true_and, and_true, ne_eq, not_true_eq_false, not_false_eq_true, true_imp_iff, false_imp_iff, Int.toNat_natCast, lit_a, Nat.reduceAdd, or_true, true_or, or_false, false_or, Int.reduceEq, Int.reduceNe, Int.reduceLT, Int.reduceLE, Int.reduceNeg, sg_nil, s1p, x0, x1, x2, x3, x4, x5, x6, x7, x8, x9, x10, x11, x12, x13, x56, x57, x388, x389, x390, x391, x392, x393, x394, x395, x396, x397, x398, x399]))
    all_goals (try omega)
    all_goals (revert h; unfold F_bestBreak; (try simp only [Int.toNat_natCast]); (repeat (first | rw [if_neg (by omega)] | rw [if_pos (by omega)])); exact id)
