def F_chapterAt (z : Rw) (l c : Int) : Int := if l < 0 ∨ z 3 ≤ l then -1 else if c < 0 ∨ sm (wb (wO z l.toNat)) (nw z l.toNat) ≤ c then -1 else bt (wO z l.toNat) (fsI (fun i => decide (c < sm (wb (wO z l.toNat)) (i + 1))) 0 (nw z l.toNat)).toNat
theorem wb_b {w : Rw} (hW : WH w) {p : Nat} (hp : (p : Int) ≤ w 0) : 0 ≤ sm (wb w) p ∧ sm (wb w) p ≤ p := by
  have := sm_b (f := wb w) (b := 1) (n := p) (fun j hj => (hW.2.1 j (by omega)).2.2.1)
  omega
-- NS.chapterAt: blocks [0, 8, 13, 18, 28, 33, 38, 47, 50]
theorem k_NS_chapterAt {d : Nat} {Q : QT} {μ : Mem} {l t : Int} {z : Rw} (hz : IZ z) (hR : RC z μ 1) (hl : inR l) (ht : inR t) (hq : ∀ μ', QF z μ μ' → Q (.inl (F_chapterAt z l t)) μ') : Call σ1 (d + 5) 58 [.inr (.inr 0), .inl l, .inl t] μ Q := by
  refine e_58 ?_
  have h := hq μ (QF_r hR)
  have q := hz.1
  refine wp_go b58_0 ?_; simp only [l58_0, sg_aload_0, sg_getfp, sg_iload_1, sg_iv2_i, len4_0, len4_1, len4_2, len4_3, len4_4, nLg_n, nLg_i, nLg_r, tc_c, tc_l, tc_r, tc_m, tc_n, tc_o, tc_0, inR, true_and, and_true, ne_eq, not_true_eq_false, not_false_eq_true, true_imp_iff, false_imp_iff, Int.toNat_natCast, lit_a, Nat.reduceAdd, or_true, true_or, or_false, false_or, Int.reduceEq, Int.reduceNe, Int.reduceLT, Int.reduceLE, Int.reduceNeg, sg_nil, s1p, x0, x1, x2, x3, x4, x5, x6, x7, x8, x9, x10, x11, x12, x13, x56, x57, x388, x389, x390, x391, x392, x393, x394, x395, x396, x397, x398, x399]
  refine k_Sta_hasListener st1 hR hz hl (fun h1 h2 => ?_) (fun h0 => ?_)
  · obtain ⟨n, rfl⟩ := nat_of h1
    have nn := nw_eq hz h2
    have W := wO_W hz h2
    have wbb := wb_b W (p := nw z n) (by omega)
    refine wp_go b58_8 ?_; simp only [l58_8, sg_if_ne, sg_iconst, sg_iret0, nLg_n, nLg_i, nLg_r, tc_c, tc_l, tc_r, tc_m, tc_n, tc_o, tc_0, inR, true_and, and_true, ne_eq, not_true_eq_false, not_false_eq_true, true_imp_iff, false_imp_iff, Int.toNat_natCast, lit_a, Nat.reduceAdd, or_true, true_or, or_false, false_or, Int.reduceEq, Int.reduceNe, Int.reduceLT, Int.reduceLE, Int.reduceNeg, sg_nil]
    repeat' (first | with_reducible apply And.intro | intro _)
    all_goals (try omega)
    refine wp_go b58_13 ?_; simp only [l58_13, sg_aload_0, sg_iload_1, sg_iv2_r, len4_0, len4_1, len4_2, len4_3, len4_4, nLg_n, nLg_i, nLg_r, tc_c, tc_l, tc_r, tc_m, tc_n, tc_o, tc_0, inR, true_and, and_true, ne_eq, not_true_eq_false, not_false_eq_true, true_imp_iff, false_imp_iff, Int.toNat_natCast, lit_a, Nat.reduceAdd, or_true, true_or, or_false, false_or, Int.reduceEq, Int.reduceNe, Int.reduceLT, Int.reduceLE, Int.reduceNeg, sg_nil, s1p, x0, x1, x2, x3, x4, x5, x6, x7, x8, x9, x10, x11, x12, x13, x56, x57, x388, x389, x390, x391, x392, x393, x394, x395, x396, x397, x398, x399]
    refine k_NS_hearingOf hz hR h2 (fun μ' c f H hH _ _ => ?_)
    have h := hq μ' (QF_s hz hR f)
    obtain ⟨a0, a1, a2, a3, a4, a5, a6, p0, p1, p2, p3, p4, p5⟩ := heaF hH
    refine wp_go b58_18 ?_; simp only [l58_18, sg_astore_3, sg_iload_2, sg_iconst, sg_aload_3, sg_getfp, sg_iv1_i, len4_0, len4_1, len4_2, len4_3, len4_4, nLg_n, nLg_i, nLg_r, tc_c, tc_l, tc_r, tc_m, tc_n, tc_o, tc_0, inR, true_and, and_true, ne_eq, not_true_eq_false, not_false_eq_true, true_imp_iff, false_imp_iff, Int.toNat_natCast, lit_a, Nat.reduceAdd, or_true, true_or, or_false, false_or, Int.reduceEq, Int.reduceNe, Int.reduceLT, Int.reduceLE, Int.reduceNeg, sg_nil, a0, a1, a2, a3, a4, a5, a6, p0, p1, p2, p3, p4, p5]
    refine k_Sen_chapters hH.2.1 (n := nw z n - 1) (H.1.trans (by omega)) (by omega) ?_
    rw [show sm (fun i => μ' (c + 1 + 3) (i + 1)) (nw z n - 1) + 1 = sm (wb (wO z n)) (nw z n) from by
      rw [h_bg1 H W (p := nw z n - 1) (by omega), show nw z n - 1 + 1 = nw z n by omega]; omega]
    refine wp_go b58_28 ?_; simp only [l58_28, sg_iconst, sg_isub, len4_0, len4_1, len4_2, len4_3, len4_4, sg_is3_1, nLg_n, nLg_i, nLg_r, tc_c, tc_l, tc_r, tc_m, tc_n, tc_o, tc_0, inR, true_and, and_true, ne_eq, not_true_eq_false, not_false_eq_true, true_imp_iff, false_imp_iff, Int.toNat_natCast, lit_a, Nat.reduceAdd, or_true, true_or, or_false, false_or, Int.reduceEq, Int.reduceNe, Int.reduceLT, Int.reduceLE, Int.reduceNeg, sg_nil]
    refine k_NS_isWithin ht (by unfold inR; omega) (by unfold inR; omega) (fun g1 g2 => ?_) (fun g0 => ?_)
    · unfold F_chapterAt at h
      rw [if_neg (by omega), Int.toNat_natCast, if_neg (by omega)] at h
      refine wp_go b58_33 ?_; simp only [l58_33, sg_if_ne, sg_iconst, sg_iret0, nLg_n, nLg_i, nLg_r, tc_c, tc_l, tc_r, tc_m, tc_n, tc_o, tc_0, inR, true_and, and_true, ne_eq, not_true_eq_false, not_false_eq_true, true_imp_iff, false_imp_iff, Int.toNat_natCast, lit_a, Nat.reduceAdd, or_true, true_or, or_false, false_or, Int.reduceEq, Int.reduceNe, Int.reduceLT, Int.reduceLE, Int.reduceNeg, sg_nil]
      repeat' (first | with_reducible apply And.intro | intro _)
      all_goals (try omega)
      refine wp_go b58_38 ?_; simp only [l58_38, sg_aload_3, sg_getfp, sg_iload_2, sg_iv2_i, len4_0, len4_1, len4_2, len4_3, len4_4, nLg_n, nLg_i, nLg_r, tc_c, tc_l, tc_r, tc_m, tc_n, tc_o, tc_0, inR, true_and, and_true, ne_eq, not_true_eq_false, not_false_eq_true, true_imp_iff, false_imp_iff, Int.toNat_natCast, lit_a, Nat.reduceAdd, or_true, true_or, or_false, false_or, Int.reduceEq, Int.reduceNe, Int.reduceLT, Int.reduceLE, Int.reduceNeg, sg_nil, a0, a1, a2, a3, a4, a5, a6, p0, p1, p2, p3, p4, p5]
      refine k_Sen_firstOfChapter hH.2.1 (n := nw z n) (H.1.trans nn.1) nn.2.2 (fun i hi => ?_) ht ?_
      · rw [show μ' (c + 1 + 3) i = wO z n (5 * i + 5) from (H.2 i (by omega)).2.2.1]
        exact (W.2.1 i (by omega)).2.2.1
      · have e1 : fsI (fun i => decide (t < sm (μ' (c + 1 + 3)) (i + 1))) 0 (nw z n) = fsI (fun i => decide (t < sm (wb (wO z n)) (i + 1))) 0 (nw z n) := fsI_c (fun i hi => by simp only [h_bg H (show ((i + 1 : Nat) : Int) ≤ wO z n 0 by omega)])
        rw [e1]
        obtain ⟨i, hi, e2⟩ : ∃ i : Nat, i < nw z n ∧ fsI (fun i => decide (t < sm (wb (wO z n)) (i + 1))) 0 (nw z n) = (i : Int) := by
          rcases fsI_in (fun i => decide (t < sm (wb (wO z n)) (i + 1))) 0 (nw z n) with e | ⟨i, h1, h2, -⟩
          · exact ⟨0, by omega, e⟩
          · exact ⟨i, h1, h2⟩
        rw [e2, Int.toNat_natCast] at h
        rw [e2]
        refine wp_go b58_47 ?_; simp only [l58_47, sg_iv2_i, len4_0, len4_1, len4_2, len4_3, len4_4, nLg_n, nLg_i, nLg_r, tc_c, tc_l, tc_r, tc_m, tc_n, tc_o, tc_0, inR, true_and, and_true, ne_eq, not_true_eq_false, not_false_eq_true, true_imp_iff, false_imp_iff, Int.toNat_natCast, lit_a, Nat.reduceAdd, or_true, true_or, or_false, false_or, Int.reduceEq, Int.reduceNe, Int.reduceLT, Int.reduceLE, Int.reduceNeg, sg_nil, hH.1]
        refine k_Hea_breakTime hH H (by omega) (by omega) ?_
        refine wp_go b58_50 ?_; simp only [l58_50, sg_iret0, nLg_n, nLg_i, nLg_r, tc_c, tc_l, tc_r, tc_m, tc_n, tc_o, tc_0, inR, true_and, and_true, ne_eq, not_true_eq_false, not_false_eq_true, true_imp_iff, false_imp_iff, Int.toNat_natCast, lit_a, Nat.reduceAdd, or_true, true_or, or_false, false_or, Int.reduceEq, Int.reduceNe, Int.reduceLT, Int.reduceLE, Int.reduceNeg, sg_nil]
        exact h
    · refine wp_go b58_33 ?_; simp only [l58_33, sg_if_ne, sg_iconst, sg_iret0, nLg_n, nLg_i, nLg_r, tc_c, tc_l, tc_r, tc_m, tc_n, tc_o, tc_0, inR, true_and, and_true, ne_eq, not_true_eq_false, not_false_eq_true, true_imp_iff, false_imp_iff, Int.toNat_natCast, lit_a, Nat.reduceAdd, or_true, true_or, or_false, false_or, Int.reduceEq, Int.reduceNe, Int.reduceLT, Int.reduceLE, Int.reduceNeg, sg_nil]
      repeat' (first | with_reducible apply And.intro | (intro _) | ((first | refine wp_go b58_0 ?_ | refine wp_go b58_8 ?_ | refine wp_go b58_13 ?_ | refine wp_go b58_18 ?_ | refine wp_go b58_28 ?_ | refine wp_go b58_33 ?_ | refine wp_go b58_38 ?_ | refine wp_go b58_47 ?_ | refine wp_go b58_50 ?_); simp only [l58_0, l58_8, l58_13, l58_18, l58_28, l58_33, l58_38, l58_47, l58_50, sg_aload_0, sg_getfp, sg_iload_1, sg_iv2_i, len4_0, len4_1, len4_2, len4_3, len4_4, sg_if_ne, sg_iconst, sg_iret0, sg_iv2_r, sg_astore_3, sg_iload_2, sg_aload_3, sg_iv1_i, sg_isub, sg_is3_1, nLg_n, nLg_i, nLg_r, tc_c, tc_l, tc_r, tc_m, tc_n, tc_o, tc_0, inR, true_and, and_true, ne_eq, not_true_eq_false, not_false_eq_true, true_imp_iff, false_imp_iff, Int.toNat_natCast, lit_a, Nat.reduceAdd, or_true, true_or, or_false, false_or, Int.reduceEq, Int.reduceNe, Int.reduceLT, Int.reduceLE, Int.reduceNeg, sg_nil]))
      all_goals (try omega)
      all_goals (revert h; unfold F_chapterAt; (try simp only [Int.toNat_natCast]); (repeat (first | rw [if_neg (by omega)] | rw [if_pos (by omega)])); exact id)
  · refine wp_go b58_8 ?_; simp only [l58_8, sg_if_ne, sg_iconst, sg_iret0, nLg_n, nLg_i, nLg_r, tc_c, tc_l, tc_r, tc_m, tc_n, tc_o, tc_0, inR, true_and, and_true, ne_eq, not_true_eq_false, not_false_eq_true, true_imp_iff, false_imp_iff, Int.toNat_natCast, lit_a, Nat.reduceAdd, or_true, true_or, or_false, false_or, Int.reduceEq, Int.reduceNe, Int.reduceLT, Int.reduceLE, Int.reduceNeg, sg_nil]
    repeat' (first | with_reducible apply And.intro | (intro _) | ((first | refine wp_go b58_0 ?_ | refine wp_go b58_8 ?_ | refine wp_go b58_13 ?_ | refine wp_go b58_18 ?_ | refine wp_go b58_28 ?_ | refine wp_go b58_33 ?_ | refine wp_go b58_38 ?_ | refine wp_go b58_47 ?_ | refine wp_go b58_50 ?_); simp only [l58_0, l58_8, l58_13, l58_18, l58_28, l58_33, l58_38, l58_47, l58_50, sg_aload_0, sg_getfp, sg_iload_1, sg_iv2_i, len4_0, len4_1, len4_2, len4_3, len4_4, sg_if_ne, sg_iconst, sg_iret0, sg_iv2_r, sg_astore_3, sg_iload_2, sg_aload_3, sg_iv1_i, sg_isub, sg_is3_1, nLg_n, nLg_i, nLg_r, tc_c, tc_l, tc_r, tc_m, tc_n, tc_o, tc_0, inR, true_and, and_true, ne_eq, not_true_eq_false, not_false_eq_true, true_imp_iff, false_imp_iff, Int.toNat_natCast, lit_a, Nat.reduceAdd, or_true, true_or, or_false, false_or, Int.reduceEq, Int.reduceNe, Int.reduceLT, Int.reduceLE, Int.reduceNeg, sg_nil, s1p, x0, x1, x2, x3, x4, x5, x6, x7, x8, x9, x10, x11, x12, x13, x56, x57, x388, x389, x390, x391, x392, x393, x394, x395, x396, x397, x398, x399]))
    all_goals (try omega)
    all_goals (revert h; unfold F_chapterAt; (try simp only [Int.toNat_natCast]); (repeat (first | rw [if_neg (by omega)] | rw [if_pos (by omega)])); exact id)
def pMk (w : Rw) (n : Nat) (m : Int) : Int := fsI (fun i => decide (wm w i = m)) (-1) n
def F_open (z : Rw) (l m s : Int) : Int := if l < 0 ∨ z 3 ≤ l then -1 else if s < 0 ∨ 299 < s then -2 else if pMk (wO z l.toNat) (nw z l.toNat) m = -1 then -5 else if wl4 (wO z l.toNat) (pMk (wO z l.toNat) (nw z l.toNat) m).toNat ≤ s then -5 else sT (wO z l.toNat) (pMk (wO z l.toNat) (nw z l.toNat) m).toNat + s
theorem h_mk {w : Rw} {μ : Mem} {c n : Nat} {m : Int} (H : HR w μ c) (hn : w 0 = (n : Int)) : fsI (fun i => decide (μ (c + 1 + 1) i = m)) (-1) n = pMk w n m := fsI_c (fun i hi => by rw [show μ (c + 1 + 1) i = wm w i from (H.2 i (by omega)).1])
-- NS.open: blocks [0, 8, 13, 21, 27, 32, 43, 66, 69, 76]
theorem k_NS_open {d : Nat} {Q : QT} {μ : Mem} {l m s : Int} {z : Rw} (hz : IZ z) (hR : RC z μ 1) (hl : inR l) (hm : inR m) (hs : inR s) (hq : ∀ μ', QF z μ μ' → Q (.inl (F_open z l m s)) μ') : Call σ1 (d + 5) 59 [.inr (.inr 0), .inl l, .inl m, .inl s] μ Q := by
  refine e_59 ?_
  have h := hq μ (QF_r hR)
  have q := hz.1
  refine wp_go b59_0 ?_; simp only [l59_0, sg_aload_0, sg_getfp, sg_iload_1, sg_iv2_i, len4_0, len4_1, len4_2, len4_3, len4_4, nLg_n, nLg_i, nLg_r, tc_c, tc_l, tc_r, tc_m, tc_n, tc_o, tc_0, inR, true_and, and_true, ne_eq, not_true_eq_false, not_false_eq_true, true_imp_iff, false_imp_iff, Int.toNat_natCast, lit_a, Nat.reduceAdd, or_true, true_or, or_false, false_or, Int.reduceEq, Int.reduceNe, Int.reduceLT, Int.reduceLE, Int.reduceNeg, sg_nil, s1p, x0, x1, x2, x3, x4, x5, x6, x7, x8, x9, x10, x11, x12, x13, x56, x57, x388, x389, x390, x391, x392, x393, x394, x395, x396, x397, x398, x399]
  refine k_Sta_hasListener st1 hR hz hl (fun h1 h2 => ?_) (fun h0 => ?_)
  · obtain ⟨n, rfl⟩ := nat_of h1
    have nn := nw_eq hz h2
    have W := wO_W hz h2
    refine wp_go b59_8 ?_; simp only [l59_8, sg_if_ne, sg_iconst, sg_iret0, nLg_n, nLg_i, nLg_r, tc_c, tc_l, tc_r, tc_m, tc_n, tc_o, tc_0, inR, true_and, and_true, ne_eq, not_true_eq_false, not_false_eq_true, true_imp_iff, false_imp_iff, Int.toNat_natCast, lit_a, Nat.reduceAdd, or_true, true_or, or_false, false_or, Int.reduceEq, Int.reduceNe, Int.reduceLT, Int.reduceLE, Int.reduceNeg, sg_nil]
    repeat' (first | with_reducible apply And.intro | intro _)
    all_goals (try omega)
    refine wp_go b59_13 ?_; simp only [l59_13, sg_iload_3, sg_iconst, sg_sipush, len4_0, len4_1, len4_2, len4_3, len4_4, sg_is3_1, nLg_n, nLg_i, nLg_r, tc_c, tc_l, tc_r, tc_m, tc_n, tc_o, tc_0, inR, true_and, and_true, ne_eq, not_true_eq_false, not_false_eq_true, true_imp_iff, false_imp_iff, Int.toNat_natCast, lit_a, Nat.reduceAdd, or_true, true_or, or_false, false_or, Int.reduceEq, Int.reduceNe, Int.reduceLT, Int.reduceLE, Int.reduceNeg, sg_nil]
    refine k_NS_isWithin hs (by unfold inR; omega) (by unfold inR; omega) (fun g1 g2 => ?_) (fun g0 => ?_)
    · refine wp_go b59_21 ?_; simp only [l59_21, sg_if_ne, sg_bipush, sg_iret0, nLg_n, nLg_i, nLg_r, tc_c, tc_l, tc_r, tc_m, tc_n, tc_o, tc_0, inR, true_and, and_true, ne_eq, not_true_eq_false, not_false_eq_true, true_imp_iff, false_imp_iff, Int.toNat_natCast, lit_a, Nat.reduceAdd, or_true, true_or, or_false, false_or, Int.reduceEq, Int.reduceNe, Int.reduceLT, Int.reduceLE, Int.reduceNeg, sg_nil]
      repeat' (first | with_reducible apply And.intro | intro _)
      all_goals (try omega)
      refine wp_go b59_27 ?_; simp only [l59_27, sg_aload_0, sg_iload_1, sg_iv2_r, len4_0, len4_1, len4_2, len4_3, len4_4, nLg_n, nLg_i, nLg_r, tc_c, tc_l, tc_r, tc_m, tc_n, tc_o, tc_0, inR, true_and, and_true, ne_eq, not_true_eq_false, not_false_eq_true, true_imp_iff, false_imp_iff, Int.toNat_natCast, lit_a, Nat.reduceAdd, or_true, true_or, or_false, false_or, Int.reduceEq, Int.reduceNe, Int.reduceLT, Int.reduceLE, Int.reduceNeg, sg_nil, s1p, x0, x1, x2, x3, x4, x5, x6, x7, x8, x9, x10, x11, x12, x13, x56, x57, x388, x389, x390, x391, x392, x393, x394, x395, x396, x397, x398, x399]
      refine k_NS_hearingOf hz hR h2 (fun μ' c f H hH _ _ => ?_)
      have h := hq μ' (QF_s hz hR f)
      obtain ⟨a0, a1, a2, a3, a4, a5, a6, p0, p1, p2, p3, p4, p5⟩ := heaF hH
      unfold F_open at h
      rw [if_neg (by omega), if_neg (by omega), Int.toNat_natCast] at h
      refine wp_go b59_32 ?_; simp only [l59_32, sg_astore, okS_4, stL_4, sg_aload, ldR_4, sg_getfp, sg_iload_2, sg_iv2_i, len4_0, len4_1, len4_2, len4_3, len4_4, nLg_n, nLg_i, nLg_r, tc_c, tc_l, tc_r, tc_m, tc_n, tc_o, tc_0, inR, true_and, and_true, ne_eq, not_true_eq_false, not_false_eq_true, true_imp_iff, false_imp_iff, Int.toNat_natCast, lit_a, Nat.reduceAdd, or_true, true_or, or_false, false_or, Int.reduceEq, Int.reduceNe, Int.reduceLT, Int.reduceLE, Int.reduceNeg, sg_nil, a0, a1, a2, a3, a4, a5, a6, p0, p1, p2, p3, p4, p5]
      refine k_Sen_placeOf hH.2.1 (n := nw z n) (H.1.trans nn.1) nn.2.2 (fun i hi => ?_) hm ?_
      · rw [show μ' (c + 1 + 1) i = wO z n (5 * i + 3) from (H.2 i (by omega)).1]
        have := (W.2.1 i (by omega)).1
        unfold inR; omega
      · rw [h_mk H nn.1]
        rcases fsI_in (fun i => decide (wm (wO z n) i = m)) (-1) (nw z n) with e2 | ⟨i, i1, i2, i3⟩
        · have e2 : pMk (wO z n) (nw z n) m = -1 := e2
          rw [if_pos e2] at h
          rw [e2]
          refine wp_go b59_43 ?_; simp only [l59_43, sg_istore, okS_5, stL_5, sg_iload, ldI_5, sg_iconst, sg_ic_eq, sg_iload_3, sg_aload, ldR_4, sg_getfp, sg_iaload, sg_ic_lt, nLg_n, nLg_i, nLg_r, tc_c, tc_l, tc_r, tc_m, tc_n, tc_o, tc_0, inR, true_and, and_true, ne_eq, not_true_eq_false, not_false_eq_true, true_imp_iff, false_imp_iff, Int.toNat_natCast, lit_a, Nat.reduceAdd, or_true, true_or, or_false, false_or, Int.reduceEq, Int.reduceNe, Int.reduceLT, Int.reduceLE, Int.reduceNeg, sg_nil]
          repeat' (first | with_reducible apply And.intro | (intro _) | ((first | refine wp_go b59_0 ?_ | refine wp_go b59_8 ?_ | refine wp_go b59_13 ?_ | refine wp_go b59_21 ?_ | refine wp_go b59_27 ?_ | refine wp_go b59_32 ?_ | refine wp_go b59_43 ?_ | refine wp_go b59_66 ?_ | refine wp_go b59_69 ?_ | refine wp_go b59_76 ?_); simp only [l59_0, l59_8, l59_13, l59_21, l59_27, l59_32, l59_43, l59_66, l59_69, l59_76, sg_aload_0, sg_getfp, sg_iload_1, sg_iv2_i, len4_0, len4_1, len4_2, len4_3, len4_4, sg_if_ne, sg_iconst, sg_iret0, sg_iload_3, sg_sipush, sg_is3_1, sg_bipush, sg_iv2_r, sg_astore, okS_4, stL_4, sg_aload, ldR_4, sg_iload_2, sg_istore, okS_5, stL_5, sg_iload, ldI_5, sg_ic_eq, sg_iaload, sg_ic_lt, sg_iadd, nLg_n, nLg_i, nLg_r, tc_c, tc_l, tc_r, tc_m, tc_n, tc_o, tc_0, inR, true_and, and_true, ne_eq, not_true_eq_false, not_false_eq_true, true_imp_iff, false_imp_iff, Int.toNat_natCast, lit_a, Nat.reduceAdd, or_true, true_or, or_false, false_or, Int.reduceEq, Int.reduceNe, Int.reduceLT, Int.reduceLE, Int.reduceNeg, sg_nil]))
          all_goals (try omega)
          all_goals exact h
        · have e2 : pMk (wO z n) (nw z n) m = (i : Int) := i2
          rw [e2, if_neg (by omega), Int.toNat_natCast] at h
          have el : μ' (c + 3) i = wl4 (wO z n) i := (H.2 i (by omega)).2.1
          have rl : 1 ≤ wl4 (wO z n) i ∧ wl4 (wO z n) i ≤ 300 := (W.2.1 i (by omega)).2.1
          rw [e2]
          refine wp_go b59_43 ?_; simp only [l59_43, sg_istore, okS_5, stL_5, sg_iload, ldI_5, sg_iconst, sg_ic_eq, sg_iload_3, sg_aload, ldR_4, sg_getfp, sg_iaload, sg_ic_lt, nLg_n, nLg_i, nLg_r, tc_c, tc_l, tc_r, tc_m, tc_n, tc_o, tc_0, inR, true_and, and_true, ne_eq, not_true_eq_false, not_false_eq_true, true_imp_iff, false_imp_iff, Int.toNat_natCast, lit_a, Nat.reduceAdd, or_true, true_or, or_false, false_or, Int.reduceEq, Int.reduceNe, Int.reduceLT, Int.reduceLE, Int.reduceNeg, sg_nil, a0, a1, a2, a3, a4, a5, a6, p0, p1, p2, p3, p4, p5, el]
          repeat' (first | with_reducible apply And.intro | intro _)
          all_goals (try omega)
          · rw [if_neg (by omega)] at h
            refine wp_go b59_69 ?_; simp only [l59_69, sg_aload, ldR_4, sg_iload, ldI_5, sg_iv2_i, len4_0, len4_1, len4_2, len4_3, len4_4, nLg_n, nLg_i, nLg_r, tc_c, tc_l, tc_r, tc_m, tc_n, tc_o, tc_0, inR, true_and, and_true, ne_eq, not_true_eq_false, not_false_eq_true, true_imp_iff, false_imp_iff, Int.toNat_natCast, lit_a, Nat.reduceAdd, or_true, true_or, or_false, false_or, Int.reduceEq, Int.reduceNe, Int.reduceLT, Int.reduceLE, Int.reduceNeg, sg_nil, hH.1]
            refine k_Hea_sentenceTime hH H (by omega) (by omega) ?_
            refine wp_go b59_76 ?_; simp only [l59_76, sg_iload_3, sg_iadd, sg_iret0, nLg_n, nLg_i, nLg_r, tc_c, tc_l, tc_r, tc_m, tc_n, tc_o, tc_0, inR, true_and, and_true, ne_eq, not_true_eq_false, not_false_eq_true, true_imp_iff, false_imp_iff, Int.toNat_natCast, lit_a, Nat.reduceAdd, or_true, true_or, or_false, false_or, Int.reduceEq, Int.reduceNe, Int.reduceLT, Int.reduceLE, Int.reduceNeg, sg_nil]
            exact h
          · rw [if_pos (by omega)] at h
            refine wp_go b59_66 ?_; simp only [l59_66, sg_bipush, sg_iret0, nLg_n, nLg_i, nLg_r, tc_c, tc_l, tc_r, tc_m, tc_n, tc_o, tc_0, inR, true_and, and_true, ne_eq, not_true_eq_false, not_false_eq_true, true_imp_iff, false_imp_iff, Int.toNat_natCast, lit_a, Nat.reduceAdd, or_true, true_or, or_false, false_or, Int.reduceEq, Int.reduceNe, Int.reduceLT, Int.reduceLE, Int.reduceNeg, sg_nil]
            exact h
    · refine wp_go b59_21 ?_; simp only [l59_21, sg_if_ne, sg_bipush, sg_iret0, nLg_n, nLg_i, nLg_r, tc_c, tc_l, tc_r, tc_m, tc_n, tc_o, tc_0, inR, true_and, and_true, ne_eq, not_true_eq_false, not_false_eq_true, true_imp_iff, false_imp_iff, Int.toNat_natCast, lit_a, Nat.reduceAdd, or_true, true_or, or_false, false_or, Int.reduceEq, Int.reduceNe, Int.reduceLT, Int.reduceLE, Int.reduceNeg, sg_nil]
      repeat' (first | with_reducible apply And.intro | (intro _) | ((first | refine wp_go b59_0 ?_ | refine wp_go b59_8 ?_ | refine wp_go b59_13 ?_ | refine wp_go b59_21 ?_ | refine wp_go b59_27 ?_ | refine wp_go b59_32 ?_ | refine wp_go b59_43 ?_ | refine wp_go b59_66 ?_ | refine wp_go b59_69 ?_ | refine wp_go b59_76 ?_); simp only [l59_0, l59_8, l59_13, l59_21, l59_27, l59_32, l59_43, l59_66, l59_69, l59_76, sg_aload_0, sg_getfp, sg_iload_1, sg_iv2_i, len4_0, len4_1, len4_2, len4_3, len4_4, sg_if_ne, sg_iconst, sg_iret0, sg_iload_3, sg_sipush, sg_is3_1, sg_bipush, sg_iv2_r, sg_astore, okS_4, stL_4, sg_aload, ldR_4, sg_iload_2, sg_istore, okS_5, stL_5, sg_iload, ldI_5, sg_ic_eq, sg_iaload, sg_ic_lt, sg_iadd, nLg_n, nLg_i, nLg_r, tc_c, tc_l, tc_r, tc_m, tc_n, tc_o, tc_0, inR, true_and, and_true, ne_eq, not_true_eq_false, not_false_eq_true, true_imp_iff, false_imp_iff, Int.toNat_natCast, lit_a, Nat.reduceAdd, or_true, true_or, or_false, false_or, Int.reduceEq, Int.reduceNe, Int.reduceLT, Int.reduceLE, Int.reduceNeg, sg_nil]))
      all_goals (try omega)
      all_goals (revert h; unfold F_open; (try simp only [Int.toNat_natCast]); (repeat (first | rw [if_neg (by omega)] | rw [if_pos (by omega)])); exact id)
  · refine wp_go b59_8 ?_; simp only [l59_8, sg_if_ne, sg_iconst, sg_iret0, nLg_n, nLg_i, nLg_r, tc_c, tc_l, tc_r, tc_m, tc_n, tc_o, tc_0, inR, true_and, and_true, ne_eq, not_true_eq_false, not_false_eq_true, true_imp_iff, false_imp_iff, Int.toNat_natCast, lit_a, Nat.reduceAdd, or_true, true_or, or_false, false_or, Int.reduceEq, Int.reduceNe, Int.reduceLT, Int.reduceLE, Int.reduceNeg, sg_nil]
    repeat' (first | with_reducible apply And.intro | (intro _) | ((first | refine wp_go b59_0 ?_ | refine wp_go b59_8 ?_ | refine wp_go b59_13 ?_ | refine wp_go b59_21 ?_ | refine wp_go b59_27 ?_ | refine wp_go b59_32 ?_ | refine wp_go b59_43 ?_ | refine wp_go b59_66 ?_ | refine wp_go b59_69 ?_ | refine wp_go b59_76 ?_); simp only [l59_0, l59_8, l59_13, l59_21, l59_27, l59_32, l59_43, l59_66, l59_69, l59_76, sg_aload_0, sg_getfp, sg_iload_1, sg_iv2_i, len4_0, len4_1, len4_2, len4_3, len4_4, sg_if_ne, sg_iconst, sg_iret0, sg_iload_3, sg_sipush, sg_is3_1, sg_bipush, sg_iv2_r, sg_astore, okS_4, stL_4, sg_aload, ldR_4, sg_iload_2, sg_istore, okS_5, stL_5, sg_iload, ldI_5, sg_ic_eq, sg_iaload, sg_ic_lt, sg_iadd, nLg_n, nLg_i, nLg_r, tc_c, tc_l, tc_r, tc_m, tc_n, tc_o, tc_0, inR, true_and, and_true, ne_eq, not_true_eq_false, not_false_eq_true, true_imp_iff, false_imp_iff, Int.toNat_natCast, lit_a, Nat.reduceAdd, or_true, true_or, or_false, false_or, Int.reduceEq, Int.reduceNe, Int.reduceLT, Int.reduceLE, Int.reduceNeg, sg_nil, s1p, x0, x1, x2, x3, x4, x5, x6, x7, x8, x9, x10, x11, x12, x13, x56, x57, x388, x389, x390, x391, x392, x393, x394, x395, x396, x397, x398, x399]))
    all_goals (try omega)
    all_goals (revert h; unfold F_open; (try simp only [Int.toNat_natCast]); (repeat (first | rw [if_neg (by omega)] | rw [if_pos (by omega)])); exact id)
/-- the moment of the episode of now that a listener hears at a time -/
def mom (z : Rw) (l : Nat) (t : Int) : Int := if pHt (wO z l) (nw z l) t = -6 then -5 else if F_marked z (wm (wO z l) (pHt (wO z l) (nw z l) t).toNat) = -1 then -5 else sm (zl z) (F_marked z (wm (wO z l) (pHt (wO z l) (nw z l) t).toNat)).toNat + (if 0 < t - sT (wO z l) (pHt (wO z l) (nw z l) t).toNat then t - sT (wO z l) (pHt (wO z l) (nw z l) t).toNat else 0)
def F_wrongAt (z : Rw) (l o t : Int) : Int := if (l < 0 ∨ z 3 ≤ l) ∨ (o < 0 ∨ z 3 ≤ o) then -1 else if t < 0 ∨ 9999 < t then -2 else if mom z l.toNat t = -5 ∨ mom z o.toNat t = -5 then -5 else if 0 ≤ mom z o.toNat t - mom z l.toNat t then mom z o.toNat t - mom z l.toNat t else 0 - (mom z o.toNat t - mom z l.toNat t)
theorem mom_b {z : Rw} (hz : IZ z) {l : Nat} {t : Int} (htt : 0 ≤ t ∧ t ≤ 9999) (hl : (l : Int) < z 3) : -5 ≤ mom z l t ∧ mom z l t ≤ 20000 := by
  have W := wO_W hz hl
  have nn := nw_eq hz hl
  have e0 := zn_eq hz
  unfold mom
  rcases fsI_in (fun i => decide (t < ht (wO z l) (i + 1))) (-6) (nw z l) with e2 | ⟨i, i1, i2, i3⟩
  · have e2 : pHt (wO z l) (nw z l) t = -6 := e2
    rw [if_pos e2]; omega
  · have e2 : pHt (wO z l) (nw z l) t = (i : Int) := i2
    rw [e2, if_neg (by omega), Int.toNat_natCast]
    have sb := sT_b W (p := i) (by omega)
    rcases fsI_in (fun j => decide (zm z j = wm (wO z l) i)) (-1) (zn z) with e3 | ⟨j, j1, j2, j3⟩
    · have e3 : F_marked z (wm (wO z l) i) = -1 := e3
      rw [if_pos e3]; omega
    · have e3 : F_marked z (wm (wO z l) i) = (j : Int) := j2
      rw [e3, if_neg (by omega), Int.toNat_natCast]
      have b := sm_b (f := zl z) (b := 300) (n := j) (fun x hx => by
        have := (hz.2.1 x (by omega)).2.1
        unfold zl; omega)
      split <;> omega
