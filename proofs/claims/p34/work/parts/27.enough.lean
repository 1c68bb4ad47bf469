def cnt (z : Rw) (l : Nat) (b : Int) : Int := sm (fun i => bI (ch z (z (212 + 3 * l)) b i ≠ -6)) (zn z)
theorem rn_s (z : Rw) (g b : Int) (s : Nat) : rn z g b (s + 1) = nxt z (rn z g b s) (ch z g b s) := rfl
/-- whether something is chosen is seen from the seconds -/
theorem ch_rn {z : Rw} {g b : Int} {s : Nat} (hz : IZ z) (hs : (s : Int) < z 0) : bI (ch z g b s ≠ -6) = bI ((rn z g b (s + 1)).2 ≠ (rn z g b s).2) := by
  have q := hz.1
  rw [rn_s]
  unfold nxt bI
  rcases ch_in (g := g) (b := b) hz hs with h | ⟨h1, h2⟩
  · rw [h, if_neg (by simp), if_pos rfl, if_neg (by simp)]
  · have r := (hz.2.2.2.1 (ch z g b s).toNat (by omega)).1
    rw [if_neg (show ¬ ch z g b s = -6 by omega), if_pos (show ch z g b s ≠ -6 by omega), if_pos (show (rn z g b s).2 + z (196 + 2 * (ch z g b s).toNat) ≠ (rn z g b s).2 by omega)]
theorem cnt_c {z : Rw} {l : Nat} {b b' : Int} (hz : IZ z) (h : ∀ i, i ≤ zn z → rn z (z (212 + 3 * l)) b' i = rn z (z (212 + 3 * l)) b i) : cnt z l b' = cnt z l b := by
  have e0 := zn_eq hz
  unfold cnt
  refine sm_c (fun i hi => ?_)
  rw [ch_rn hz (by omega), ch_rn hz (by omega), h i (by omega), h (i + 1) (by omega)]
theorem cnt_b {z : Rw} {l : Nat} {b : Int} (hz : IZ z) : 0 ≤ cnt z l b ∧ cnt z l b ≤ 24 := by
  have e0 := zn_eq hz
  have := sm_b (f := fun i => bI (ch z (z (212 + 3 * l)) b i ≠ -6)) (b := 1) (n := zn z) (fun i _ => by
    show 0 ≤ bI _ ∧ bI _ ≤ 1
    unfold bI; split <;> omega)
  unfold cnt; omega
def F_enough (z : Rw) (l : Int) : Int := if l < 0 ∨ z 3 ≤ l then -1 else fsI (fun b => decide (cnt z l.toNat (b : Int) = cnt z l.toNat 600)) 600 600
-- NS.enough: blocks [0, 8, 13, 21, 34, 51, 58, 72, 80, 86]
theorem k_NS_enough {d : Nat} {Q : QT} {μ : Mem} {l : Int} {z : Rw} (hz : IZ z) (hR : RC z μ 1) (hl : inR l) (hq : ∀ μ', QF z μ μ' → Q (.inl (F_enough z l)) μ') : Call σ1 (d + 4) 60 [.inr (.inr 0), .inl l] μ Q := by
  refine e_60 ?_
  have h := hq μ (QF_r hR)
  have q := hz.1
  refine wp_go b60_0 ?_; simp only [l60_0, sg_aload_0, sg_getfp, sg_iload_1, sg_iv2_i, len4_0, len4_1, len4_2, len4_3, len4_4, nLg_n, nLg_i, nLg_r, tc_c, tc_l, tc_r, tc_m, tc_n, tc_o, tc_0, inR, true_and, and_true, ne_eq, not_true_eq_false, not_false_eq_true, true_imp_iff, false_imp_iff, Int.toNat_natCast, lit_a, Nat.reduceAdd, or_true, true_or, or_false, false_or, Int.reduceEq, Int.reduceNe, Int.reduceLT, Int.reduceLE, Int.reduceNeg, sg_nil, s1p, x0, x1, x2, x3, x4, x5, x6, x7, x8, x9, x10, x11, x12, x13, x56, x57, x388, x389, x390, x391, x392, x393, x394, x395, x396, x397, x398, x399]
  refine k_Sta_hasListener st1 hR hz hl (fun h1 h2 => ?_) (fun h0 => ?_)
  · obtain ⟨n, rfl⟩ := nat_of h1
    obtain ⟨e9, e10, -, -⟩ := hR.2.2.2 n h2
    refine wp_go b60_8 ?_; simp only [l60_8, sg_if_ne, sg_iconst, sg_iret0, nLg_n, nLg_i, nLg_r, tc_c, tc_l, tc_r, tc_m, tc_n, tc_o, tc_0, inR, true_and, and_true, ne_eq, not_true_eq_false, not_false_eq_true, true_imp_iff, false_imp_iff, Int.toNat_natCast, lit_a, Nat.reduceAdd, or_true, true_or, or_false, false_or, Int.reduceEq, Int.reduceNe, Int.reduceLT, Int.reduceLE, Int.reduceNeg, sg_nil]
    repeat' (first | with_reducible apply And.intro | intro _)
    all_goals (try omega)
    refine wp_go b60_13 ?_; simp only [l60_13, sg_aload_0, sg_iload_1, sg_sipush, sg_iv3_v, len4_0, len4_1, len4_2, len4_3, len4_4, nLg_n, nLg_i, nLg_r, tc_c, tc_l, tc_r, tc_m, tc_n, tc_o, tc_0, inR, true_and, and_true, ne_eq, not_true_eq_false, not_false_eq_true, true_imp_iff, false_imp_iff, Int.toNat_natCast, lit_a, Nat.reduceAdd, or_true, true_or, or_false, false_or, Int.reduceEq, Int.reduceNe, Int.reduceLT, Int.reduceLE, Int.reduceNeg, sg_nil, s1p, x0, x1, x2, x3, x4, x5, x6, x7, x8, x9, x10, x11, x12, x13, x56, x57, x388, x389, x390, x391, x392, x393, x394, x395, x396, x397, x398, x399]
    repeat' (first | with_reducible apply And.intro | intro _)
    all_goals (try omega)
    refine k_NS_chooseAll (b := 600) hz hR.r0 hR.1.1 (zn_eq hz).1 h2 e9 (by omega) (fun μ1 nb f1 c2 _ _ _ _ _ _ => ?_)
    have c2 : μ1 392 2 = cnt z n 600 := c2
    have loop : ∀ k i : Nat, i + k = 600 → ∀ (μ2 : Mem) (N : Int), (∀ k, k ≠ 392 → μ2 k = μ k) → 0 ≤ N → N ≤ 600 → (∀ j : Nat, j < i → cnt z n (j : Int) ≠ cnt z n 600) → (∀ j : Nat, i ≤ j → (j : Int) < N → cnt z n (j : Int) ≠ cnt z n 600) →
        wp σ1 (Call σ1 (d + 3)) 60 Q 34 [some (.inr (.inr 0)), some (.inl (n : Int)), some (.inl (cnt z n 600)), some (.inl N), some (.inl (i : Int))] [] μ2 := by
      intro k
      induction k with
      | zero =>
        intro i hi μ2 N f2 n1 n2 g1 g2
        have h := hq μ2 (QF_s hz hR (fun k hk => f2 k (by omega)))
        unfold F_enough at h
        rw [if_neg (by omega), Int.toNat_natCast, fsI_n (fun j hj => decide_eq_false (g1 j (by omega)))] at h
        refine wp_go b60_34 ?_; simp only [l60_34, sg_iload, ldI_4, sg_sipush, sg_ic_ge, sg_iload_3, sg_goto, nLg_n, nLg_i, nLg_r, tc_c, tc_l, tc_r, tc_m, tc_n, tc_o, tc_0, inR, true_and, and_true, ne_eq, not_true_eq_false, not_false_eq_true, true_imp_iff, false_imp_iff, Int.toNat_natCast, lit_a, Nat.reduceAdd, or_true, true_or, or_false, false_or, Int.reduceEq, Int.reduceNe, Int.reduceLT, Int.reduceLE, Int.reduceNeg, sg_nil]
        repeat' (first | with_reducible apply And.intro | intro _)
        all_goals (try omega)
        refine wp_go b60_86 ?_; simp only [l60_86, sg_sipush, sg_iret0, nLg_n, nLg_i, nLg_r, tc_c, tc_l, tc_r, tc_m, tc_n, tc_o, tc_0, inR, true_and, and_true, ne_eq, not_true_eq_false, not_false_eq_true, true_imp_iff, false_imp_iff, Int.toNat_natCast, lit_a, Nat.reduceAdd, or_true, true_or, or_false, false_or, Int.reduceEq, Int.reduceNe, Int.reduceLT, Int.reduceLE, Int.reduceNeg, sg_nil]
        exact h
      | succ k ih =>
        intro i hi μ2 N f2 n1 n2 g1 g2
        refine wp_go b60_34 ?_; simp only [l60_34, sg_iload, ldI_4, sg_sipush, sg_ic_ge, sg_iload_3, sg_goto, nLg_n, nLg_i, nLg_r, tc_c, tc_l, tc_r, tc_m, tc_n, tc_o, tc_0, inR, true_and, and_true, ne_eq, not_true_eq_false, not_false_eq_true, true_imp_iff, false_imp_iff, Int.toNat_natCast, lit_a, Nat.reduceAdd, or_true, true_or, or_false, false_or, Int.reduceEq, Int.reduceNe, Int.reduceLT, Int.reduceLE, Int.reduceNeg, sg_nil]
        repeat' (first | with_reducible apply And.intro | (intro _) | ((first | refine wp_go b60_0 ?_ | refine wp_go b60_8 ?_ | refine wp_go b60_13 ?_ | refine wp_go b60_21 ?_ | refine wp_go b60_51 ?_ | refine wp_go b60_58 ?_ | refine wp_go b60_72 ?_ | refine wp_go b60_80 ?_ | refine wp_go b60_86 ?_); simp only [l60_0, l60_8, l60_13, l60_21, l60_51, l60_58, l60_72, l60_80, l60_86, sg_aload_0, sg_getfp, sg_iload_1, sg_iv2_i, len4_0, len4_1, len4_2, len4_3, len4_4, sg_if_ne, sg_iconst, sg_iret0, sg_sipush, sg_iv3_v, sg_getf0, sg_istore_2, sg_istore_3, sg_istore, okS_4, stL_4, sg_iload, ldI_4, sg_iload_2, sg_ic_ne, sg_iinc, sg_goto, nLg_n, nLg_i, nLg_r, tc_c, tc_l, tc_r, tc_m, tc_n, tc_o, tc_0, inR, true_and, and_true, ne_eq, not_true_eq_false, not_false_eq_true, true_imp_iff, false_imp_iff, Int.toNat_natCast, lit_a, Nat.reduceAdd, or_true, true_or, or_false, false_or, Int.reduceEq, Int.reduceNe, Int.reduceLT, Int.reduceLE, Int.reduceNeg, sg_nil, s1p, x0, x1, x2, x3, x4, x5, x6, x7, x8, x9, x10, x11, x12, x13, x56, x57, x388, x389, x390, x391, x392, x393, x394, x395, x396, x397, x398, x399]))
        all_goals (try omega)
        · refine ih (i + 1) (by omega) μ2 N f2 n1 n2 (fun j hj => ?_) (fun j hj hj2 => g2 j (by omega) hj2)
          rcases Nat.lt_or_ge j i with hh | hh
          · exact g1 j hh
          · exact g2 j hh (by omega)
        · have R2 : RC z μ2 1 := RC_f (by omega) (fun k _ _ => f2 k (by omega)) hR
          obtain ⟨w9, -, -, -⟩ := R2.2.2.2 n h2
          refine k_NS_chooseAll (b := (i : Int)) hz R2.r0 R2.1.1 (zn_eq hz).1 h2 w9 (by omega) (fun μ3 nb f3 c2 _ _ c5 m1 m2 c6 => ?_)
          have c2 : μ3 392 2 = cnt z n (i : Int) := c2
          have f4 : ∀ k, k ≠ 392 → μ3 k = μ k := fun k hk => (f3 k hk).trans (f2 k hk)
          have cb := cnt_b (l := n) (b := (i : Int)) hz
          have cb6 := cnt_b (l := n) (b := 600) hz
          refine wp_go b60_58 ?_; simp only [l60_58, sg_aload_0, sg_getfp, sg_getf0, sg_iload_2, sg_ic_ne, sg_iload, ldI_4, sg_iret0, nLg_n, nLg_i, nLg_r, tc_c, tc_l, tc_r, tc_m, tc_n, tc_o, tc_0, inR, true_and, and_true, ne_eq, not_true_eq_false, not_false_eq_true, true_imp_iff, false_imp_iff, Int.toNat_natCast, lit_a, Nat.reduceAdd, or_true, true_or, or_false, false_or, Int.reduceEq, Int.reduceNe, Int.reduceLT, Int.reduceLE, Int.reduceNeg, sg_nil, s1p, x0, x1, x2, x3, x4, x5, x6, x7, x8, x9, x10, x11, x12, x13, x56, x57, x388, x389, x390, x391, x392, x393, x394, x395, x396, x397, x398, x399, c2]
          repeat' (first | with_reducible apply And.intro | intro _)
          all_goals (try omega)
          · have h := hq μ3 (QF_s hz hR (fun k hk => f4 k (by omega)))
            unfold F_enough at h
            rw [if_neg (by omega), Int.toNat_natCast, fsI_s (i := i) (by omega) (decide_eq_true (by assumption)) (fun j hj => decide_eq_false (g1 j (by omega)))] at h
            exact h
          · refine wp_go b60_72 ?_; simp only [l60_72, sg_aload_0, sg_getfp, sg_getf0, sg_istore_3, nLg_n, nLg_i, nLg_r, tc_c, tc_l, tc_r, tc_m, tc_n, tc_o, tc_0, inR, true_and, and_true, ne_eq, not_true_eq_false, not_false_eq_true, true_imp_iff, false_imp_iff, Int.toNat_natCast, lit_a, Nat.reduceAdd, or_true, true_or, or_false, false_or, Int.reduceEq, Int.reduceNe, Int.reduceLT, Int.reduceLE, Int.reduceNeg, sg_nil, s1p, x0, x1, x2, x3, x4, x5, x6, x7, x8, x9, x10, x11, x12, x13, x56, x57, x388, x389, x390, x391, x392, x393, x394, x395, x396, x397, x398, x399, c5]
            repeat' (first | with_reducible apply And.intro | (intro _) | ((first | refine wp_go b60_0 ?_ | refine wp_go b60_8 ?_ | refine wp_go b60_13 ?_ | refine wp_go b60_21 ?_ | refine wp_go b60_51 ?_ | refine wp_go b60_58 ?_ | refine wp_go b60_72 ?_ | refine wp_go b60_80 ?_ | refine wp_go b60_86 ?_); simp only [l60_0, l60_8, l60_13, l60_21, l60_51, l60_58, l60_72, l60_80, l60_86, sg_aload_0, sg_getfp, sg_iload_1, sg_iv2_i, len4_0, len4_1, len4_2, len4_3, len4_4, sg_if_ne, sg_iconst, sg_iret0, sg_sipush, sg_iv3_v, sg_getf0, sg_istore_2, sg_istore_3, sg_istore, okS_4, stL_4, sg_iload, ldI_4, sg_iload_2, sg_ic_ne, sg_iinc, sg_goto, nLg_n, nLg_i, nLg_r, tc_c, tc_l, tc_r, tc_m, tc_n, tc_o, tc_0, inR, true_and, and_true, ne_eq, not_true_eq_false, not_false_eq_true, true_imp_iff, false_imp_iff, Int.toNat_natCast, lit_a, Nat.reduceAdd, or_true, true_or, or_false, false_or, Int.reduceEq, Int.reduceNe, Int.reduceLT, Int.reduceLE, Int.reduceNeg, sg_nil]))
            all_goals (try omega)
            refine ih (i + 1) (by omega) μ3 nb f4 m1 m2 (fun j hj => ?_) (fun j hj hj2 => ?_)
            · rcases Nat.lt_or_ge j i with hh | hh
              · exact g1 j hh
              · rw [show j = i by omega]; assumption
            · rw [cnt_c hz (c6 j (by omega) hj2)]; assumption
    refine wp_go b60_21 ?_; simp only [l60_21, sg_aload_0, sg_getfp, sg_getf0, sg_istore_2, sg_iconst, sg_istore_3, sg_istore, okS_4, stL_4, nLg_n, nLg_i, nLg_r, tc_c, tc_l, tc_r, tc_m, tc_n, tc_o, tc_0, inR, true_and, and_true, ne_eq, not_true_eq_false, not_false_eq_true, true_imp_iff, false_imp_iff, Int.toNat_natCast, lit_a, Nat.reduceAdd, or_true, true_or, or_false, false_or, Int.reduceEq, Int.reduceNe, Int.reduceLT, Int.reduceLE, Int.reduceNeg, sg_nil, s1p, x0, x1, x2, x3, x4, x5, x6, x7, x8, x9, x10, x11, x12, x13, x56, x57, x388, x389, x390, x391, x392, x393, x394, x395, x396, x397, x398, x399, c2]
    exact loop 600 0 (by omega) μ1 0 f1 (by omega) (by omega) (fun j hj => absurd hj (by omega)) (fun j _ hj2 => absurd hj2 (by omega))
  · refine wp_go b60_8 ?_; simp only [l60_8, sg_if_ne, sg_iconst, sg_iret0, nLg_n, nLg_i, nLg_r, tc_c, tc_l, tc_r, tc_m, tc_n, tc_o, tc_0, inR, true_and, and_true, ne_eq, not_true_eq_false, not_false_eq_true, true_imp_iff, false_imp_iff, Int.toNat_natCast, lit_a, Nat.reduceAdd, or_true, true_or, or_false, false_or, Int.reduceEq, Int.reduceNe, Int.reduceLT, Int.reduceLE, Int.reduceNeg, sg_nil]
    repeat' (first | with_reducible apply And.intro | (intro _) | ((first | refine wp_go b60_0 ?_ | refine wp_go b60_8 ?_ | refine wp_go b60_13 ?_ | refine wp_go b60_21 ?_ | refine wp_go b60_51 ?_ | refine wp_go b60_58 ?_ | refine wp_go b60_72 ?_ | refine wp_go b60_80 ?_ | refine wp_go b60_86 ?_); simp only [l60_0, l60_8, l60_13, l60_21, l60_51, l60_58, l60_72, l60_80, l60_86, sg_aload_0, sg_getfp, sg_iload_1, sg_iv2_i, len4_0, len4_1, len4_2, len4_3, len4_4, sg_if_ne, sg_iconst, sg_iret0, sg_sipush, sg_iv3_v, sg_getf0, sg_istore_2, sg_istore_3, sg_istore, okS_4, stL_4, sg_iload, ldI_4, sg_iload_2, sg_ic_ne, sg_iinc, sg_goto, nLg_n, nLg_i, nLg_r, tc_c, tc_l, tc_r, tc_m, tc_n, tc_o, tc_0, inR, true_and, and_true, ne_eq, not_true_eq_false, not_false_eq_true, true_imp_iff, false_imp_iff, Int.toNat_natCast, lit_a, Nat.reduceAdd, or_true, true_or, or_false, false_or, Int.reduceEq, Int.reduceNe, Int.reduceLT, Int.reduceLE, Int.reduceNeg, sg_nil, s1p, x0, x1, x2, x3, x4, x5, x6, x7, x8, x9, x10, x11, x12, x13, x56, x57, x388, x389, x390, x391, x392, x393, x394, x395, x396, x397, x398, x399]))
    all_goals (try omega)
    all_goals (revert h; unfold F_enough; (try simp only [Int.toNat_natCast]); (repeat (first | rw [if_neg (by omega)] | rw [if_pos (by omega)])); exact id)

