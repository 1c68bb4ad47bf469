-- Mo.record: blocks [0, 11, 40, 50, 52, 86]
theorem k_Mo_record {d n : Nat} {Q : QT} {μ : Mem} {z : Rw} (hM : μ 511 = z) (hn : μ 510 4 = (n : Int)) (h6 : n ≤ 6)
    (hr : ∀ k, k < 956 → inR (z k))
    (hq : ∀ μ', (∀ k, k ≠ 510 → k ≠ 512 → μ' k = μ k) → (∀ j, j ≠ 4 → μ' 510 j = μ 510 j) → μ' 510 4 = ((hpn n : Nat) : Int) → (∀ j k, j < hpn n → k < 956 → μ' 512 (956 * j + k) = hpush n (fun j k => μ 512 (956 * j + k)) z j k) → Q (.inl 0) μ') : Call σ1 (d + 1) 106 [.inr (.inr 510)] μ Q := by
  refine e_106 ?_
  have second : ∀ (m : Nat) (μ0 : Mem), m ≤ 5 → μ0 511 = z → μ0 510 4 = (m : Int) → (∀ μ' : Mem, (∀ k, k ≠ 510 → k ≠ 512 → μ' k = μ0 k) → (∀ j, j ≠ 4 → μ' 510 j = μ0 510 j) → μ' 510 4 = ((m + 1 : Nat) : Int) → (∀ x, μ' 512 x = if 956 * m ≤ x ∧ x < 956 * m + 956 then z (x - 956 * m) else μ0 512 x) → Q (.inl 0) μ') → ∀ o1 : Option MV, wp σ1 (Call σ1 d) 106 Q 50 [some (.inr (.inr 510)), o1] [] μ0 := by
    intro m μ0 hm M0 e4 hq0 o1
    have loop : ∀ k i : Nat, i + k = 956 → ∀ μ1 : Mem, (∀ k, k ≠ 512 → μ1 k = μ0 k) → (∀ x, μ1 512 x = if 956 * m ≤ x ∧ x < 956 * m + i then z (x - 956 * m) else μ0 512 x) → wp σ1 (Call σ1 d) 106 Q 52 [some (.inr (.inr 510)), some (.inl (i : Int))] [] μ1 := by
      intro k
      induction k with
      | zero =>
        intro i hi μ1 f1 g1
        have hi6 : i = 956 := by omega
        subst hi6
        have w4 : μ1 510 4 = (m : Int) := by rw [f1 510 (by omega)]; exact e4
        have hq1 := hq0 (ms μ1 510 4 ((m + 1 : Nat) : Int)) (fun k h1 h2 => by rw [← f1 k h2]; funext j; simp only [ms_at]; (repeat (first | rw [if_neg (by omega)] | rw [if_pos (by omega)]))) (fun j hj => by rw [← f1 510 (by omega)]; simp only [ms_at]; (repeat (first | rw [if_neg (by omega)] | rw [if_pos (by omega)]))) (by simp [ms_at]) (fun x => by rw [← g1 x]; simp only [ms_at]; (repeat (first | rw [if_neg (by omega)] | rw [if_pos (by omega)])))
        refine wp_go b106_52 ?_; simp only [l106_52, sg_iload_1, sg_sipush, sg_ic_ge, sg_aload_0, sg_getfp, sg_getf0, sg_imul, sg_iadd, sg_iaload, sg_iastore, sg_iinc, ldI_1, okS_1, stL_1, sg_goto, nLg_n, nLg_i, nLg_r, tc_c, tc_l, tc_r, tc_m, tc_n, tc_o, tc_0, inR, true_and, and_true, ne_eq, not_true_eq_false, not_false_eq_true, true_imp_iff, false_imp_iff, Int.toNat_natCast, lit_a, Nat.reduceAdd, or_true, true_or, or_false, false_or, Int.reduceEq, Int.reduceNe, Int.reduceLT, Int.reduceLE, Int.reduceNeg, sg_nil]
        repeat' (first | with_reducible apply And.intro | intro _)
        all_goals (try omega)
        refine wp_go b106_86 ?_; simp only [l106_86, sg_aload_0, sg_dup_i, sg_dup_r, sg_getf0, sg_iconst, sg_iadd, sg_putf0, sg_ret, nLg_n, nLg_i, nLg_r, tc_c, tc_l, tc_r, tc_m, tc_n, tc_o, tc_0, inR, true_and, and_true, ne_eq, not_true_eq_false, not_false_eq_true, true_imp_iff, false_imp_iff, Int.toNat_natCast, lit_a, Nat.reduceAdd, or_true, true_or, or_false, false_or, Int.reduceEq, Int.reduceNe, Int.reduceLT, Int.reduceLE, Int.reduceNeg, sg_nil, s1p, x510, x511, x512, x513, x514, x515, x516, x517, w4]
        repeat' (first | with_reducible apply And.intro | intro _)
        all_goals (try omega)
      | succ k ih =>
        intro i hi μ1 f1 g1
        have w4 : μ1 510 4 = (m : Int) := by rw [f1 510 (by omega)]; exact e4
        have M1 : μ1 511 = z := by rw [f1 511 (by omega)]; exact M0
        have ih1 := ih (i + 1) (by omega) (ms μ1 512 (956 * m + i) (z i)) (fun k hk => by rw [← f1 k hk]; funext j; simp only [ms_at]; (repeat (first | rw [if_neg (by omega)] | rw [if_pos (by omega)]))) (fun x => by
          simp only [ms_at, true_and]
          by_cases hx : x = 956 * m + i
          · rw [if_pos hx, if_pos (by omega), hx, show 956 * m + i - 956 * m = i by omega]
          · rw [if_neg hx, g1 x]
            by_cases hy : 956 * m ≤ x ∧ x < 956 * m + i
            · rw [if_pos hy, if_pos (by omega)]
            · rw [if_neg hy, if_neg (by omega)])
        rw [show 956 * m + i = m * 956 + i by omega] at ih1
        refine wp_go b106_52 ?_; simp only [l106_52, sg_iload_1, sg_sipush, sg_ic_ge, sg_aload_0, sg_getfp, sg_getf0, sg_imul, sg_iadd, sg_iaload, sg_iastore, sg_iinc, ldI_1, okS_1, stL_1, sg_goto, nLg_n, nLg_i, nLg_r, tc_c, tc_l, tc_r, tc_m, tc_n, tc_o, tc_0, inR, true_and, and_true, ne_eq, not_true_eq_false, not_false_eq_true, true_imp_iff, false_imp_iff, Int.toNat_natCast, lit_a, Nat.reduceAdd, or_true, true_or, or_false, false_or, Int.reduceEq, Int.reduceNe, Int.reduceLT, Int.reduceLE, Int.reduceNeg, sg_nil, s1p, x510, x511, x512, x513, x514, x515, x516, x517, w4, M1]
        repeat' (first | with_reducible apply And.intro | intro _)
        all_goals (try omega)
    have st := loop 956 0 (by omega) μ0 (fun _ _ => rfl) (fun x => by rw [if_neg (by omega)])
    refine wp_go b106_50 ?_; simp only [l106_50, sg_iconst, sg_istore_1, nLg_n, nLg_i, nLg_r, tc_c, tc_l, tc_r, tc_m, tc_n, tc_o, tc_0, inR, true_and, and_true, ne_eq, not_true_eq_false, not_false_eq_true, true_imp_iff, false_imp_iff, Int.toNat_natCast, lit_a, Nat.reduceAdd, or_true, true_or, or_false, false_or, Int.reduceEq, Int.reduceNe, Int.reduceLT, Int.reduceLE, Int.reduceNeg, sg_nil]
    exact st
  by_cases hn6 : n = 6
  · subst hn6
    have shift : ∀ k i : Nat, i + k = 4780 → ∀ μ1 : Mem, (∀ k, k ≠ 512 → μ1 k = μ k) → (∀ x, μ1 512 x = if x < i then μ 512 (x + 956) else μ 512 x) → wp σ1 (Call σ1 d) 106 Q 11 [some (.inr (.inr 510)), some (.inl (i : Int))] [] μ1 := by
      intro k
      induction k with
      | zero =>
        intro i hi μ1 f1 g1
        have hi6 : i = 4780 := by omega
        subst hi6
        have w4 : μ1 510 4 = 6 := by rw [f1 510 (by omega)]; exact hn
        have st := second 5 (ms μ1 510 4 5) (by omega) (by rw [← hM, ← f1 511 (by omega)]; funext j; simp only [ms_at]; (repeat (first | rw [if_neg (by omega)] | rw [if_pos (by omega)]))) (by simp [ms_at]) (fun μ' j1 j2 j3 j4 => by
          refine hq μ' (fun k h1 h2 => ?_) (fun j hj => ?_) j3 (fun j k hj hk => ?_)
          · rw [j1 k h1 h2, ← f1 k h2]; funext j; simp only [ms_at]; (repeat (first | rw [if_neg (by omega)] | rw [if_pos (by omega)]))
          · rw [j2 j hj, ← f1 510 (by omega)]; simp only [ms_at]; (repeat (first | rw [if_neg (by omega)] | rw [if_pos (by omega)]))
          · have hj : j < 6 := hj
            rw [j4]
            have hp : ∀ H : Nat → Rw, hpush 6 H z j = if j = 5 then z else H (j + 1) := fun H => by unfold hpush; rw [if_neg (by omega)]
            rw [hp]
            by_cases h5 : j = 5
            · subst h5
              rw [if_pos (show 956 * 5 ≤ 956 * 5 + k ∧ 956 * 5 + k < 956 * 5 + 956 by omega), if_pos rfl, show 956 * 5 + k - 956 * 5 = k by omega]
            · rw [if_neg (show ¬ (956 * 5 ≤ 956 * j + k ∧ 956 * j + k < 956 * 5 + 956) by omega), if_neg h5]
              have e : ms μ1 510 4 5 512 (956 * j + k) = μ1 512 (956 * j + k) := by simp only [ms_at]; (repeat (first | rw [if_neg (by omega)] | rw [if_pos (by omega)]))
              rw [e, g1, if_pos (by omega)]
              congr 1; omega) (some (.inl (4780 : Int)))
        refine wp_go b106_11 ?_; simp only [l106_11, sg_iload_1, sg_sipush, sg_ic_ge, sg_aload_0, sg_getfp, sg_iadd, sg_iaload, sg_iastore, sg_iinc, ldI_1, okS_1, stL_1, sg_goto, nLg_n, nLg_i, nLg_r, tc_c, tc_l, tc_r, tc_m, tc_n, tc_o, tc_0, inR, true_and, and_true, ne_eq, not_true_eq_false, not_false_eq_true, true_imp_iff, false_imp_iff, Int.toNat_natCast, lit_a, Nat.reduceAdd, or_true, true_or, or_false, false_or, Int.reduceEq, Int.reduceNe, Int.reduceLT, Int.reduceLE, Int.reduceNeg, sg_nil]
        repeat' (first | with_reducible apply And.intro | intro _)
        all_goals (try omega)
        refine wp_go b106_40 ?_; simp only [l106_40, sg_aload_0, sg_dup_i, sg_dup_r, sg_getf0, sg_iconst, sg_isub, sg_putf0, nLg_n, nLg_i, nLg_r, tc_c, tc_l, tc_r, tc_m, tc_n, tc_o, tc_0, inR, true_and, and_true, ne_eq, not_true_eq_false, not_false_eq_true, true_imp_iff, false_imp_iff, Int.toNat_natCast, lit_a, Nat.reduceAdd, or_true, true_or, or_false, false_or, Int.reduceEq, Int.reduceNe, Int.reduceLT, Int.reduceLE, Int.reduceNeg, sg_nil, s1p, x510, x511, x512, x513, x514, x515, x516, x517, w4]
        repeat' (first | with_reducible apply And.intro | intro _)
        all_goals (try omega)
        rw [show (6 : Int) - 1 = 5 from rfl]
        exact st
      | succ k ih =>
        intro i hi μ1 f1 g1
        have e : μ1 512 (i + 956) = μ 512 (i + 956) := by rw [g1, if_neg (by omega)]
        have ih1 := ih (i + 1) (by omega) (ms μ1 512 i (μ 512 (i + 956))) (fun k hk => by rw [← f1 k hk]; funext j; simp only [ms_at]; (repeat (first | rw [if_neg (by omega)] | rw [if_pos (by omega)]))) (fun x => by
          simp only [ms_at, true_and]
          by_cases hx : x = i
          · rw [if_pos hx, if_pos (by omega), hx]
          · rw [if_neg hx, g1 x]
            by_cases hy : x < i
            · rw [if_pos hy, if_pos (by omega)]
            · rw [if_neg hy, if_neg (by omega)])
        refine wp_go b106_11 ?_; simp only [l106_11, sg_iload_1, sg_sipush, sg_ic_ge, sg_aload_0, sg_getfp, sg_iadd, sg_iaload, sg_iastore, sg_iinc, ldI_1, okS_1, stL_1, sg_goto, nLg_n, nLg_i, nLg_r, tc_c, tc_l, tc_r, tc_m, tc_n, tc_o, tc_0, inR, true_and, and_true, ne_eq, not_true_eq_false, not_false_eq_true, true_imp_iff, false_imp_iff, Int.toNat_natCast, lit_a, Nat.reduceAdd, or_true, true_or, or_false, false_or, Int.reduceEq, Int.reduceNe, Int.reduceLT, Int.reduceLE, Int.reduceNeg, sg_nil, s1p, x510, x511, x512, x513, x514, x515, x516, x517, e]
        repeat' (first | with_reducible apply And.intro | intro _)
        all_goals (try omega)
    have st := shift 4780 0 (by omega) μ (fun _ _ => rfl) (fun x => by rw [if_neg (by omega)])
    have w4 : μ 510 4 = 6 := hn
    refine wp_go b106_0 ?_; simp only [l106_0, sg_aload_0, sg_getf0, sg_bipush, sg_ic_ne, sg_iconst, sg_istore_1, nLg_n, nLg_i, nLg_r, tc_c, tc_l, tc_r, tc_m, tc_n, tc_o, tc_0, inR, true_and, and_true, ne_eq, not_true_eq_false, not_false_eq_true, true_imp_iff, false_imp_iff, Int.toNat_natCast, lit_a, Nat.reduceAdd, or_true, true_or, or_false, false_or, Int.reduceEq, Int.reduceNe, Int.reduceLT, Int.reduceLE, Int.reduceNeg, sg_nil, s1p, x510, x511, x512, x513, x514, x515, x516, x517, w4]
    exact st
  · have st := second n μ (by omega) hM hn (fun μ' j1 j2 j3 j4 => by
      have e : hpn n = n + 1 := by unfold hpn; rw [if_pos (by omega)]
      refine hq μ' j1 j2 (by rw [e]; exact j3) (fun j k hj hk => ?_)
      rw [e] at hj
      rw [j4]
      have hp : ∀ H : Nat → Rw, hpush n H z j = if j = n then z else H j := fun H => by unfold hpush; rw [if_pos (by omega)]
      rw [hp]
      by_cases h5 : j = n
      · subst h5
        rw [if_pos (show 956 * j ≤ 956 * j + k ∧ 956 * j + k < 956 * j + 956 by omega), if_pos rfl, show 956 * j + k - 956 * j = k by omega]
      · rw [if_neg (show ¬ (956 * n ≤ 956 * j + k ∧ 956 * j + k < 956 * n + 956) by omega), if_neg h5]) none
    refine wp_go b106_0 ?_; simp only [l106_0, sg_aload_0, sg_getf0, sg_bipush, sg_ic_ne, sg_iconst, sg_istore_1, nLg_n, nLg_i, nLg_r, tc_c, tc_l, tc_r, tc_m, tc_n, tc_o, tc_0, inR, true_and, and_true, ne_eq, not_true_eq_false, not_false_eq_true, true_imp_iff, false_imp_iff, Int.toNat_natCast, lit_a, Nat.reduceAdd, or_true, true_or, or_false, false_or, Int.reduceEq, Int.reduceNe, Int.reduceLT, Int.reduceLE, Int.reduceNeg, sg_nil, s1p, x510, x511, x512, x513, x514, x515, x516, x517, hn]
    repeat' (first | with_reducible apply And.intro | intro _)
    all_goals (try omega)
