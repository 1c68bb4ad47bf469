theorem rn_b {z : Rw} {g b : Int} (hz : IZ z) (hb : 0 ≤ b) : ∀ s : Nat, (s : Int) ≤ z 0 → 0 ≤ (rn z g b s).2 ∧ (rn z g b s).2 ≤ b
  | 0, _ => ⟨Int.le_refl 0, hb⟩
  | s + 1, h => by
    have ih := rn_b (g := g) hz hb s (by omega)
    unfold rn nxt
    rcases chs_in (g := g) (b := b) (q := rn z g b s) hz (show (s : Int) < z 0 by omega) with e | ⟨h1, h2, h3⟩
    · rw [if_pos e]; exact ih
    · rw [if_neg (by omega)]
      unfold okN at h3
      have h3 := (of_decide_eq_true h3).2.2
      obtain ⟨m, hm⟩ := nat_of h1
      rw [hm] at h2 h3 ⊢
      have := (hz.2.2.2.1 m h2).1
      rw [Int.toNat_natCast] at h3 ⊢
      dsimp only
      omega
-- NS.hearNow: blocks [0, 14, 39, 41, 67, 93, 103, 110]
theorem k_NS_hearNow {d : Nat} {Q : QT} {μ : Mem} {l h : Nat} {z : Rw} (hz : IZ z) (hR : R0 z μ 1) (hn0 : μ 2 3 = z 0) (hl : (l : Int) < z 3) (hg : μ 10 l = z (212 + 3 * l)) (hb : μ 11 l = z (213 + 3 * l)) (hH : iHea σ1 h) (hh : 13 < h ∧ (h + 7 ≤ 56 ∨ h = 393))
    (hq : ∀ μ' : Mem, (∀ k, k ≠ 392 → (k < h ∨ h + 7 ≤ k) → μ' k = μ k) → HR (hrL z l) μ' h → Q (.inl 0) μ') : Call σ1 (d + 3) 64 [.inr (.inr 0), .inl (l : Int), .inr (.inr h)] μ Q := by
  refine e_64 ?_
  obtain ⟨a0, a1, a2, a3, a4, a5, a6, p0, p1, p2, p3, p4, p5⟩ := heaF hH
  have q := hz.1
  have qb := (hz.2.2.2.2 l hl).2.1
  obtain ⟨n, hn⟩ := nat_of (show 0 ≤ z 0 by omega)
  refine wp_go b64_0 ?_; simp only [l64_0, sg_aload_2, sg_getfp, sg_aload_0, sg_iv2_v, len4_0, len4_1, len4_2, len4_3, len4_4, nLg_n, nLg_i, nLg_r, tc_c, tc_l, tc_r, tc_m, tc_n, tc_o, tc_0, inR, true_and, and_true, ne_eq, not_true_eq_false, not_false_eq_true, true_imp_iff, false_imp_iff, Int.toNat_natCast, lit_a, Nat.reduceAdd, or_true, true_or, or_false, false_or, Int.reduceEq, Int.reduceNe, Int.reduceLT, Int.reduceLE, Int.reduceNeg, sg_nil, s1p, x0, x1, x2, x3, x4, x5, x6, x7, x8, x9, x10, x11, x12, x13, x56, x57, x388, x389, x390, x391, x392, x393, x394, x395, x396, x397, x398, x399, a0, a1, a2, a3, a4, a5, a6, p0, p1, p2, p3, p4, p5]
  refine k_Sen_copyFrom hH.2.1 st1.2.1 (by omega) (n := n) (by rw [← hn]; exact hn0) (by omega) (fun μ1 f1 n1 c1 => ?_)
  have R1 : R0 z μ1 1 := R0_f (fun k _ _ => f1 k (by omega)) hR
  have e10 : μ1 10 l = z (212 + 3 * l) := by rw [f1 10 (by omega)]; exact hg
  have e11 : μ1 11 l = z (213 + 3 * l) := by rw [f1 11 (by omega)]; exact hb
  have e2 : μ1 2 3 = (n : Int) := by rw [f1 2 (by omega), hn0, hn]
  refine wp_go b64_14 ?_; simp only [l64_14, sg_aload_0, sg_getfp, sg_iload_1, sg_iaload, sg_iv3_v, len4_0, len4_1, len4_2, len4_3, len4_4, nLg_n, nLg_i, nLg_r, tc_c, tc_l, tc_r, tc_m, tc_n, tc_o, tc_0, inR, true_and, and_true, ne_eq, not_true_eq_false, not_false_eq_true, true_imp_iff, false_imp_iff, Int.toNat_natCast, lit_a, Nat.reduceAdd, or_true, true_or, or_false, false_or, Int.reduceEq, Int.reduceNe, Int.reduceLT, Int.reduceLE, Int.reduceNeg, sg_nil, s1p, x0, x1, x2, x3, x4, x5, x6, x7, x8, x9, x10, x11, x12, x13, x56, x57, x388, x389, x390, x391, x392, x393, x394, x395, x396, x397, x398, x399, e10, e11]
  repeat' (first | with_reducible apply And.intro | (intro _) | ((first | refine wp_go b64_0 ?_ | refine wp_go b64_14 ?_ | refine wp_go b64_39 ?_ | refine wp_go b64_67 ?_ | refine wp_go b64_93 ?_ | refine wp_go b64_103 ?_ | refine wp_go b64_110 ?_); simp only [l64_0, l64_14, l64_39, l64_67, l64_93, l64_103, l64_110, sg_aload_2, sg_getfp, sg_aload_0, sg_iv2_v, len4_0, len4_1, len4_2, len4_3, len4_4, sg_iload_1, sg_iaload, sg_iv3_v, sg_iconst, sg_istore_3, sg_istore, okS_4, stL_4, sg_iload_3, sg_iload, ldI_4, sg_iastore, sg_bipush, sg_ic_ne, sg_goto, sg_iinc, ldI_3, okS_3, stL_3, sg_ret, nLg_n, nLg_i, nLg_r, tc_c, tc_l, tc_r, tc_m, tc_n, tc_o, tc_0, inR, true_and, and_true, ne_eq, not_true_eq_false, not_false_eq_true, true_imp_iff, false_imp_iff, Int.toNat_natCast, lit_a, Nat.reduceAdd, or_true, true_or, or_false, false_or, Int.reduceEq, Int.reduceNe, Int.reduceLT, Int.reduceLE, Int.reduceNeg, sg_nil]))
  all_goals (try omega)
  refine k_Cho_begin ch392 (fun μ2 f2 g0 g1 g2 g3 g4 g5 => ?_)
  have loop : ∀ k s : Nat, s + k = n → ∀ (μ3 : Mem) (o4 : Option MV) (cnt nb : Int), (∀ k, k ≠ 392 → k ≠ h + 5 → k ≠ h + 6 → μ3 k = μ1 k) → μ3 392 0 = z (212 + 3 * l) → μ3 392 1 = z (213 + 3 * l) → μ3 392 2 = cnt → μ3 392 3 = (rn z (z (212 + 3 * l)) (z (213 + 3 * l)) s).1 → μ3 392 4 = (rn z (z (212 + 3 * l)) (z (213 + 3 * l)) s).2 → μ3 392 5 = nb → 0 ≤ nb → nb ≤ 600 →
      (∀ i, i < s → μ3 (h + 5) i = ch z (z (212 + 3 * l)) (z (213 + 3 * l)) i ∧ μ3 (h + 6) i = cl z (ch z (z (212 + 3 * l)) (z (213 + 3 * l)) i)) →
      wp σ1 (Call σ1 (d + 2)) 64 Q 41 [some (.inr (.inr 0)), some (.inl (l : Int)), some (.inr (.inr h)), some (.inl (s : Int)), o4] [] μ3 := by
    intro k
    induction k with
    | zero =>
      intro s hs μ3 o4 cnt nb f3 m0 m1 m2 m3 m4 m5 n0 n2 c3
      have hsn : s = n := by omega
      subst hsn
      have hq := hq μ3 (fun k h1 h2 => by rw [f3 k h1 (by omega) (by omega), f1 k (by omega)]) ⟨by rw [f3 (h + 1) (by omega) (by omega) (by omega)]; show μ1 (h + 1) 3 = z 0; rw [n1, hn], fun i hi => by
        have hi' : (i : Int) < z 0 := hi
        have c := c1 i (by omega)
        have c0 := hR.1 i hi'
        unfold hrL
        rw [hr_1 hi', hr_2 hi', hr_3 hi', hr_4 hi', hr_5 hi', f3 (h + 2) (by omega) (by omega) (by omega), f3 (h + 3) (by omega) (by omega) (by omega), f3 (h + 4) (by omega) (by omega) (by omega)]
        exact ⟨c.1.trans c0.1, c.2.1.trans c0.2.1, c.2.2.trans c0.2.2.1, c3 i (by omega)⟩⟩
      have e3 : μ3 2 3 = (s : Int) := by rw [f3 2 (by omega) (by omega) (by omega)]; exact e2
      refine wp_go b64_41 ?_; simp only [l64_41, sg_iload_3, sg_aload_0, sg_getfp, sg_getf0, sg_ic_ge, sg_iv3_i, len4_0, len4_1, len4_2, len4_3, len4_4, nLg_n, nLg_i, nLg_r, tc_c, tc_l, tc_r, tc_m, tc_n, tc_o, tc_0, inR, true_and, and_true, ne_eq, not_true_eq_false, not_false_eq_true, true_imp_iff, false_imp_iff, Int.toNat_natCast, lit_a, Nat.reduceAdd, or_true, true_or, or_false, false_or, Int.reduceEq, Int.reduceNe, Int.reduceLT, Int.reduceLE, Int.reduceNeg, sg_nil, s1p, x0, x1, x2, x3, x4, x5, x6, x7, x8, x9, x10, x11, x12, x13, x56, x57, x388, x389, x390, x391, x392, x393, x394, x395, x396, x397, x398, x399, e3]
      repeat' (first | with_reducible apply And.intro | (intro _) | ((first | refine wp_go b64_0 ?_ | refine wp_go b64_14 ?_ | refine wp_go b64_39 ?_ | refine wp_go b64_67 ?_ | refine wp_go b64_93 ?_ | refine wp_go b64_103 ?_ | refine wp_go b64_110 ?_); simp only [l64_0, l64_14, l64_39, l64_67, l64_93, l64_103, l64_110, sg_aload_2, sg_getfp, sg_aload_0, sg_iv2_v, len4_0, len4_1, len4_2, len4_3, len4_4, sg_iload_1, sg_iaload, sg_iv3_v, sg_iconst, sg_istore_3, sg_istore, okS_4, stL_4, sg_iload_3, sg_iload, ldI_4, sg_iastore, sg_bipush, sg_ic_ne, sg_goto, sg_iinc, ldI_3, okS_3, stL_3, sg_ret, nLg_n, nLg_i, nLg_r, tc_c, tc_l, tc_r, tc_m, tc_n, tc_o, tc_0, inR, true_and, and_true, ne_eq, not_true_eq_false, not_false_eq_true, true_imp_iff, false_imp_iff, Int.toNat_natCast, lit_a, Nat.reduceAdd, or_true, true_or, or_false, false_or, Int.reduceEq, Int.reduceNe, Int.reduceLT, Int.reduceLE, Int.reduceNeg, sg_nil]))
      all_goals (try omega)
      all_goals exact hq
    | succ k ih =>
      intro s hs μ3 o4 cnt nb f3 m0 m1 m2 m3 m4 m5 n0 n2 c3
      have hs0 : (s : Int) < z 0 := by omega
      have e3 : μ3 2 3 = (n : Int) := by rw [f3 2 (by omega) (by omega) (by omega)]; exact e2
      have R3 : R0 z μ3 1 := R0_f (fun k _ _ => f3 k (by omega) (by omega) (by omega)) R1
      have rb := rn_b (g := z (212 + 3 * l)) hz qb.1 s (by omega)
      refine wp_go b64_41 ?_; simp only [l64_41, sg_iload_3, sg_aload_0, sg_getfp, sg_getf0, sg_ic_ge, sg_iv3_i, len4_0, len4_1, len4_2, len4_3, len4_4, nLg_n, nLg_i, nLg_r, tc_c, tc_l, tc_r, tc_m, tc_n, tc_o, tc_0, inR, true_and, and_true, ne_eq, not_true_eq_false, not_false_eq_true, true_imp_iff, false_imp_iff, Int.toNat_natCast, lit_a, Nat.reduceAdd, or_true, true_or, or_false, false_or, Int.reduceEq, Int.reduceNe, Int.reduceLT, Int.reduceLE, Int.reduceNeg, sg_nil, s1p, x0, x1, x2, x3, x4, x5, x6, x7, x8, x9, x10, x11, x12, x13, x56, x57, x388, x389, x390, x391, x392, x393, x394, x395, x396, x397, x398, x399, e3]
      repeat' (first | with_reducible apply And.intro | intro _)
      all_goals (try omega)
      refine k_Cho_choose ch392 st1 R3 hz hs0 (by omega) m0 m1 m2 m3 m4 m5 qb rb ⟨n0, n2⟩ (fun μ4 nb' f4 j0 j1 j2 j3 j4 j5 j6 j7 j8 => ?_)
      rcases ch_in (g := z (212 + 3 * l)) (b := z (213 + 3 * l)) hz hs0 with e | ⟨h1, h2⟩
      · have e' : chs z (z (212 + 3 * l)) (z (213 + 3 * l)) (rn z (z (212 + 3 * l)) (z (213 + 3 * l)) s) s = -6 := e
        have ih1 := ih (s + 1) (by omega) (ms (ms μ4 (h + 5) s (-6)) (h + 6) s 0) (some (.inl (-6))) _ nb' (fun k h1 h2 h3 => by rw [← f3 k h1 h2 h3, ← f4 k h1]; funext j; simp [ms_at, h2, h3])
          (by simp only [ms_at]; (repeat (first | rw [if_neg (by omega)] | rw [if_pos (by omega)])); exact j0) (by simp only [ms_at]; (repeat (first | rw [if_neg (by omega)] | rw [if_pos (by omega)])); exact j1) rfl (by simp only [ms_at]; (repeat (first | rw [if_neg (by omega)] | rw [if_pos (by omega)])); exact j3) (by simp only [ms_at]; (repeat (first | rw [if_neg (by omega)] | rw [if_pos (by omega)])); exact j4) (by simp only [ms_at]; (repeat (first | rw [if_neg (by omega)] | rw [if_pos (by omega)])); exact j5) j6 (by omega) (fun i hi => by
            rcases Nat.lt_or_ge i s with hh2 | hh2
            · obtain ⟨y1, y2⟩ := c3 i hh2
              simp only [ms_at]
              (repeat (first | rw [if_neg (by omega)] | rw [if_pos (by omega)]))
              rw [f4 (h + 5) (by omega), f4 (h + 6) (by omega)]
              exact ⟨y1, y2⟩
            · have hi : i = s := by omega
              subst hi
              rw [e]
              simp [ms_at, cl])
        rw [e']
        refine wp_go b64_67 ?_; simp only [l64_67, sg_istore, okS_4, stL_4, sg_aload_2, sg_getfp, sg_iload_3, sg_iload, ldI_4, sg_iastore, sg_bipush, sg_ic_ne, sg_iconst, sg_goto, nLg_n, nLg_i, nLg_r, tc_c, tc_l, tc_r, tc_m, tc_n, tc_o, tc_0, inR, true_and, and_true, ne_eq, not_true_eq_false, not_false_eq_true, true_imp_iff, false_imp_iff, Int.toNat_natCast, lit_a, Nat.reduceAdd, or_true, true_or, or_false, false_or, Int.reduceEq, Int.reduceNe, Int.reduceLT, Int.reduceLE, Int.reduceNeg, sg_nil, s1p, x0, x1, x2, x3, x4, x5, x6, x7, x8, x9, x10, x11, x12, x13, x56, x57, x388, x389, x390, x391, x392, x393, x394, x395, x396, x397, x398, x399, a0, a1, a2, a3, a4, a5, a6, p0, p1, p2, p3, p4, p5]
        repeat' (first | with_reducible apply And.intro | (intro _) | ((first | refine wp_go b64_0 ?_ | refine wp_go b64_14 ?_ | refine wp_go b64_39 ?_ | refine wp_go b64_67 ?_ | refine wp_go b64_93 ?_ | refine wp_go b64_103 ?_ | refine wp_go b64_110 ?_); simp only [l64_0, l64_14, l64_39, l64_67, l64_93, l64_103, l64_110, sg_aload_2, sg_getfp, sg_aload_0, sg_iv2_v, len4_0, len4_1, len4_2, len4_3, len4_4, sg_iload_1, sg_iaload, sg_iv3_v, sg_iconst, sg_istore_3, sg_istore, okS_4, stL_4, sg_iload_3, sg_iload, ldI_4, sg_iastore, sg_bipush, sg_ic_ne, sg_goto, sg_iinc, ldI_3, okS_3, stL_3, sg_ret, nLg_n, nLg_i, nLg_r, tc_c, tc_l, tc_r, tc_m, tc_n, tc_o, tc_0, inR, true_and, and_true, ne_eq, not_true_eq_false, not_false_eq_true, true_imp_iff, false_imp_iff, Int.toNat_natCast, lit_a, Nat.reduceAdd, or_true, true_or, or_false, false_or, Int.reduceEq, Int.reduceNe, Int.reduceLT, Int.reduceLE, Int.reduceNeg, sg_nil, s1p, x0, x1, x2, x3, x4, x5, x6, x7, x8, x9, x10, x11, x12, x13, x56, x57, x388, x389, x390, x391, x392, x393, x394, x395, x396, x397, x398, x399, a0, a1, a2, a3, a4, a5, a6, p0, p1, p2, p3, p4, p5]))
        all_goals (try omega)
        all_goals exact ih1
      · obtain ⟨m, hm⟩ := nat_of h1
        have hm' : chs z (z (212 + 3 * l)) (z (213 + 3 * l)) (rn z (z (212 + 3 * l)) (z (213 + 3 * l)) s) s = (m : Int) := hm
        have rl := (hz.2.2.2.1 m (by omega)).1
        have e8 : μ4 8 m = z (196 + 2 * m) := by rw [f4 8 (by omega)]; exact (R3.2 m (by omega)).1
        have ih1 := ih (s + 1) (by omega) (ms (ms μ4 (h + 5) s (m : Int)) (h + 6) s (z (196 + 2 * m))) (some (.inl (m : Int))) _ nb' (fun k h1 h2 h3 => by rw [← f3 k h1 h2 h3, ← f4 k h1]; funext j; simp [ms_at, h2, h3])
          (by simp only [ms_at]; (repeat (first | rw [if_neg (by omega)] | rw [if_pos (by omega)])); exact j0) (by simp only [ms_at]; (repeat (first | rw [if_neg (by omega)] | rw [if_pos (by omega)])); exact j1) rfl (by simp only [ms_at]; (repeat (first | rw [if_neg (by omega)] | rw [if_pos (by omega)])); exact j3) (by simp only [ms_at]; (repeat (first | rw [if_neg (by omega)] | rw [if_pos (by omega)])); exact j4) (by simp only [ms_at]; (repeat (first | rw [if_neg (by omega)] | rw [if_pos (by omega)])); exact j5) j6 (by omega) (fun i hi => by
            rcases Nat.lt_or_ge i s with hh2 | hh2
            · obtain ⟨y1, y2⟩ := c3 i hh2
              simp only [ms_at]
              (repeat (first | rw [if_neg (by omega)] | rw [if_pos (by omega)]))
              rw [f4 (h + 5) (by omega), f4 (h + 6) (by omega)]
              exact ⟨y1, y2⟩
            · have hi : i = s := by omega
              subst hi
              rw [hm]
              have c0 : cl z (m : Int) = z (196 + 2 * m) := by unfold cl; rw [if_neg (by omega)]; rfl
              rw [c0]
              simp [ms_at])
        have hx8 : (8 = h + 5) = False := eq_false (by omega)
        rw [hm']
        refine wp_go b64_67 ?_; simp only [l64_67, sg_istore, okS_4, stL_4, sg_aload_2, sg_getfp, sg_iload_3, sg_iload, ldI_4, sg_iastore, sg_bipush, sg_ic_ne, sg_iconst, sg_goto, nLg_n, nLg_i, nLg_r, tc_c, tc_l, tc_r, tc_m, tc_n, tc_o, tc_0, inR, true_and, and_true, ne_eq, not_true_eq_false, not_false_eq_true, true_imp_iff, false_imp_iff, Int.toNat_natCast, lit_a, Nat.reduceAdd, or_true, true_or, or_false, false_or, Int.reduceEq, Int.reduceNe, Int.reduceLT, Int.reduceLE, Int.reduceNeg, sg_nil, s1p, x0, x1, x2, x3, x4, x5, x6, x7, x8, x9, x10, x11, x12, x13, x56, x57, x388, x389, x390, x391, x392, x393, x394, x395, x396, x397, x398, x399, a0, a1, a2, a3, a4, a5, a6, p0, p1, p2, p3, p4, p5]
        repeat' (first | with_reducible apply And.intro | (intro _) | ((first | refine wp_go b64_0 ?_ | refine wp_go b64_14 ?_ | refine wp_go b64_39 ?_ | refine wp_go b64_67 ?_ | refine wp_go b64_93 ?_ | refine wp_go b64_103 ?_ | refine wp_go b64_110 ?_); simp only [l64_0, l64_14, l64_39, l64_67, l64_93, l64_103, l64_110, sg_aload_2, sg_getfp, sg_aload_0, sg_iv2_v, len4_0, len4_1, len4_2, len4_3, len4_4, sg_iload_1, sg_iaload, sg_iv3_v, sg_iconst, sg_istore_3, sg_istore, okS_4, stL_4, sg_iload_3, sg_iload, ldI_4, sg_iastore, sg_bipush, sg_ic_ne, sg_goto, sg_iinc, ldI_3, okS_3, stL_3, sg_ret, nLg_n, nLg_i, nLg_r, tc_c, tc_l, tc_r, tc_m, tc_n, tc_o, tc_0, inR, true_and, and_true, ne_eq, not_true_eq_false, not_false_eq_true, true_imp_iff, false_imp_iff, Int.toNat_natCast, lit_a, Nat.reduceAdd, or_true, true_or, or_false, false_or, Int.reduceEq, Int.reduceNe, Int.reduceLT, Int.reduceLE, Int.reduceNeg, sg_nil, s1p, x0, x1, x2, x3, x4, x5, x6, x7, x8, x9, x10, x11, x12, x13, x56, x57, x388, x389, x390, x391, x392, x393, x394, x395, x396, x397, x398, x399, a0, a1, a2, a3, a4, a5, a6, p0, p1, p2, p3, p4, p5, ms_at, hx8, false_and, if_false, e8]))
        all_goals (try omega)
        all_goals exact ih1
  refine wp_go b64_39 ?_; simp only [l64_39, sg_iconst, sg_istore_3, nLg_n, nLg_i, nLg_r, tc_c, tc_l, tc_r, tc_m, tc_n, tc_o, tc_0, inR, true_and, and_true, ne_eq, not_true_eq_false, not_false_eq_true, true_imp_iff, false_imp_iff, Int.toNat_natCast, lit_a, Nat.reduceAdd, or_true, true_or, or_false, false_or, Int.reduceEq, Int.reduceNe, Int.reduceLT, Int.reduceLE, Int.reduceNeg, sg_nil]
  exact loop n 0 (by omega) μ2 none 0 600 (fun k h1 _ _ => f2 k h1) g0 g1 g2 g3 g4 g5 (by omega) (by omega) (fun i hi => absurd hi (by omega))
-- NS.chooseAll: blocks [0, 17, 19, 45, 52]
theorem k_NS_chooseAll {d : Nat} {Q : QT} {μ : Mem} {l n : Nat} {b : Int} {z : Rw} (hz : IZ z) (hR : R0 z μ 1) (hn0 : μ 2 3 = z 0) (hn : z 0 = (n : Int)) (hl : (l : Int) < z 3) (hg : μ 10 l = z (212 + 3 * l)) (hb : 0 ≤ b ∧ b ≤ 600)
    (hq : ∀ (μ' : Mem) (nb : Int), (∀ k, k ≠ 392 → μ' k = μ k) → μ' 392 2 = sm (fun i => bI (ch z (z (212 + 3 * l)) b i ≠ -6)) n → μ' 392 3 = (rn z (z (212 + 3 * l)) b n).1 → μ' 392 4 = (rn z (z (212 + 3 * l)) b n).2 → μ' 392 5 = nb → 0 ≤ nb → nb ≤ 600 → (∀ b', b ≤ b' → b' < nb → ∀ i, i ≤ n → rn z (z (212 + 3 * l)) b' i = rn z (z (212 + 3 * l)) b i) → Q (.inl 0) μ') : Call σ1 (d + 3) 68 [.inr (.inr 0), .inl (l : Int), .inl b] μ Q := by
  refine e_68 ?_
  have q := hz.1
  refine wp_go b68_0 ?_; simp only [l68_0, sg_aload_0, sg_getfp, sg_iload_1, sg_iaload, sg_iload_2, sg_iv3_v, len4_0, len4_1, len4_2, len4_3, len4_4, nLg_n, nLg_i, nLg_r, tc_c, tc_l, tc_r, tc_m, tc_n, tc_o, tc_0, inR, true_and, and_true, ne_eq, not_true_eq_false, not_false_eq_true, true_imp_iff, false_imp_iff, Int.toNat_natCast, lit_a, Nat.reduceAdd, or_true, true_or, or_false, false_or, Int.reduceEq, Int.reduceNe, Int.reduceLT, Int.reduceLE, Int.reduceNeg, sg_nil, s1p, x0, x1, x2, x3, x4, x5, x6, x7, x8, x9, x10, x11, x12, x13, x56, x57, x388, x389, x390, x391, x392, x393, x394, x395, x396, x397, x398, x399, hg]
  repeat' (first | with_reducible apply And.intro | (intro _) | ((first | refine wp_go b68_0 ?_ | refine wp_go b68_17 ?_ | refine wp_go b68_45 ?_ | refine wp_go b68_52 ?_); simp only [l68_0, l68_17, l68_45, l68_52, sg_aload_0, sg_getfp, sg_iload_1, sg_iaload, sg_iload_2, sg_iv3_v, len4_0, len4_1, len4_2, len4_3, len4_4, sg_iconst, sg_istore_3, sg_pop_i, sg_pop_r, sg_iinc, ldI_3, okS_3, stL_3, sg_goto, sg_ret, nLg_n, nLg_i, nLg_r, tc_c, tc_l, tc_r, tc_m, tc_n, tc_o, tc_0, inR, true_and, and_true, ne_eq, not_true_eq_false, not_false_eq_true, true_imp_iff, false_imp_iff, Int.toNat_natCast, lit_a, Nat.reduceAdd, or_true, true_or, or_false, false_or, Int.reduceEq, Int.reduceNe, Int.reduceLT, Int.reduceLE, Int.reduceNeg, sg_nil]))
  all_goals (try omega)
  refine k_Cho_begin ch392 (fun μ2 f2 g0 g1 g2 g3 g4 g5 => ?_)
  have loop : ∀ k s : Nat, s + k = n → ∀ (μ3 : Mem) (nb : Int), (∀ k, k ≠ 392 → μ3 k = μ k) → μ3 392 0 = z (212 + 3 * l) → μ3 392 1 = b → μ3 392 2 = sm (fun i => bI (ch z (z (212 + 3 * l)) b i ≠ -6)) s → μ3 392 3 = (rn z (z (212 + 3 * l)) b s).1 → μ3 392 4 = (rn z (z (212 + 3 * l)) b s).2 → μ3 392 5 = nb → 0 ≤ nb → nb ≤ 600 →
      (∀ b', b ≤ b' → b' < nb → ∀ i, i ≤ s → rn z (z (212 + 3 * l)) b' i = rn z (z (212 + 3 * l)) b i) →
      wp σ1 (Call σ1 (d + 2)) 68 Q 19 [some (.inr (.inr 0)), some (.inl (l : Int)), some (.inl b), some (.inl (s : Int))] [] μ3 := by
    intro k
    induction k with
    | zero =>
      intro s hs μ3 nb f3 m0 m1 m2 m3 m4 m5 n0 n2 c3
      have hsn : s = n := by omega
      subst hsn
      have hq := hq μ3 nb f3 m2 m3 m4 m5 n0 n2 c3
      have e3 : μ3 2 3 = (s : Int) := by rw [f3 2 (by omega), hn0, hn]
      refine wp_go b68_19 ?_; simp only [l68_19, sg_iload_3, sg_aload_0, sg_getfp, sg_getf0, sg_ic_ge, sg_iv3_i, len4_0, len4_1, len4_2, len4_3, len4_4, nLg_n, nLg_i, nLg_r, tc_c, tc_l, tc_r, tc_m, tc_n, tc_o, tc_0, inR, true_and, and_true, ne_eq, not_true_eq_false, not_false_eq_true, true_imp_iff, false_imp_iff, Int.toNat_natCast, lit_a, Nat.reduceAdd, or_true, true_or, or_false, false_or, Int.reduceEq, Int.reduceNe, Int.reduceLT, Int.reduceLE, Int.reduceNeg, sg_nil, s1p, x0, x1, x2, x3, x4, x5, x6, x7, x8, x9, x10, x11, x12, x13, x56, x57, x388, x389, x390, x391, x392, x393, x394, x395, x396, x397, x398, x399, e3]
      repeat' (first | with_reducible apply And.intro | (intro _) | ((first | refine wp_go b68_0 ?_ | refine wp_go b68_17 ?_ | refine wp_go b68_45 ?_ | refine wp_go b68_52 ?_); simp only [l68_0, l68_17, l68_45, l68_52, sg_aload_0, sg_getfp, sg_iload_1, sg_iaload, sg_iload_2, sg_iv3_v, len4_0, len4_1, len4_2, len4_3, len4_4, sg_iconst, sg_istore_3, sg_pop_i, sg_pop_r, sg_iinc, ldI_3, okS_3, stL_3, sg_goto, sg_ret, nLg_n, nLg_i, nLg_r, tc_c, tc_l, tc_r, tc_m, tc_n, tc_o, tc_0, inR, true_and, and_true, ne_eq, not_true_eq_false, not_false_eq_true, true_imp_iff, false_imp_iff, Int.toNat_natCast, lit_a, Nat.reduceAdd, or_true, true_or, or_false, false_or, Int.reduceEq, Int.reduceNe, Int.reduceLT, Int.reduceLE, Int.reduceNeg, sg_nil]))
      all_goals (try omega)
      all_goals exact hq
    | succ k ih =>
      intro s hs μ3 nb f3 m0 m1 m2 m3 m4 m5 n0 n2 c3
      have hs0 : (s : Int) < z 0 := by omega
      have e3 : μ3 2 3 = (n : Int) := by rw [f3 2 (by omega), hn0, hn]
      have R3 : R0 z μ3 1 := R0_f (fun k _ _ => f3 k (by omega)) hR
      have rb := rn_b (g := z (212 + 3 * l)) hz hb.1 s (by omega)
      refine wp_go b68_19 ?_; simp only [l68_19, sg_iload_3, sg_aload_0, sg_getfp, sg_getf0, sg_ic_ge, sg_iv3_i, len4_0, len4_1, len4_2, len4_3, len4_4, nLg_n, nLg_i, nLg_r, tc_c, tc_l, tc_r, tc_m, tc_n, tc_o, tc_0, inR, true_and, and_true, ne_eq, not_true_eq_false, not_false_eq_true, true_imp_iff, false_imp_iff, Int.toNat_natCast, lit_a, Nat.reduceAdd, or_true, true_or, or_false, false_or, Int.reduceEq, Int.reduceNe, Int.reduceLT, Int.reduceLE, Int.reduceNeg, sg_nil, s1p, x0, x1, x2, x3, x4, x5, x6, x7, x8, x9, x10, x11, x12, x13, x56, x57, x388, x389, x390, x391, x392, x393, x394, x395, x396, x397, x398, x399, e3]
      repeat' (first | with_reducible apply And.intro | intro _)
      all_goals (try omega)
      refine k_Cho_choose ch392 st1 R3 hz hs0 (by omega) m0 m1 m2 m3 m4 m5 hb rb ⟨n0, n2⟩ (fun μ4 nb' f4 j0 j1 j2 j3 j4 j5 j6 j7 j8 => ?_)
      have ih1 := ih (s + 1) (by omega) μ4 nb' (fun k h1 => by rw [f4 k h1, f3 k h1]) j0 j1 j2 j3 j4 j5 j6 (by omega) (fun b' h1 h2 i hi => by
        rcases Nat.lt_or_ge s i with hh | hh
        · have : i = s + 1 := by omega
          subst this
          have r := c3 b' h1 (by omega) s (Nat.le_refl s)
          have j := j8 b' h1 h2
          show nxt z (rn z _ b' s) (chs z _ b' (rn z _ b' s) s) = nxt z (rn z _ b s) (chs z _ b (rn z _ b s) s)
          rw [r]
          rw [show chs z (z (212 + 3 * l)) b' (rn z (z (212 + 3 * l)) b s) s = chs z (z (212 + 3 * l)) b (rn z (z (212 + 3 * l)) b s) s from j]
        · exact c3 b' h1 (by omega) i hh)
      refine wp_go b68_45 ?_; simp only [l68_45, sg_pop_i, sg_pop_r, sg_iinc, ldI_3, okS_3, stL_3, sg_goto, nLg_n, nLg_i, nLg_r, tc_c, tc_l, tc_r, tc_m, tc_n, tc_o, tc_0, inR, true_and, and_true, ne_eq, not_true_eq_false, not_false_eq_true, true_imp_iff, false_imp_iff, Int.toNat_natCast, lit_a, Nat.reduceAdd, or_true, true_or, or_false, false_or, Int.reduceEq, Int.reduceNe, Int.reduceLT, Int.reduceLE, Int.reduceNeg, sg_nil]
      repeat' (first | with_reducible apply And.intro | (intro _) | ((first | refine wp_go b68_0 ?_ | refine wp_go b68_17 ?_ | refine wp_go b68_45 ?_ | refine wp_go b68_52 ?_); simp only [l68_0, l68_17, l68_45, l68_52, sg_aload_0, sg_getfp, sg_iload_1, sg_iaload, sg_iload_2, sg_iv3_v, len4_0, len4_1, len4_2, len4_3, len4_4, sg_iconst, sg_istore_3, sg_pop_i, sg_pop_r, sg_iinc, ldI_3, okS_3, stL_3, sg_goto, sg_ret, nLg_n, nLg_i, nLg_r, tc_c, tc_l, tc_r, tc_m, tc_n, tc_o, tc_0, inR, true_and, and_true, ne_eq, not_true_eq_false, not_false_eq_true, true_imp_iff, false_imp_iff, Int.toNat_natCast, lit_a, Nat.reduceAdd, or_true, true_or, or_false, false_or, Int.reduceEq, Int.reduceNe, Int.reduceLT, Int.reduceLE, Int.reduceNeg, sg_nil]))
      all_goals (try omega)
      all_goals exact ih1
  refine wp_go b68_17 ?_; simp only [l68_17, sg_iconst, sg_istore_3, nLg_n, nLg_i, nLg_r, tc_c, tc_l, tc_r, tc_m, tc_n, tc_o, tc_0, inR, true_and, and_true, ne_eq, not_true_eq_false, not_false_eq_true, true_imp_iff, false_imp_iff, Int.toNat_natCast, lit_a, Nat.reduceAdd, or_true, true_or, or_false, false_or, Int.reduceEq, Int.reduceNe, Int.reduceLT, Int.reduceLE, Int.reduceNeg, sg_nil]
  exact loop n 0 (by omega) μ2 600 f2 g0 g1 g2 g3 g4 g5 (by omega) (by omega) (fun b' _ _ i hi => by rw [show i = 0 by omega]; rfl)

