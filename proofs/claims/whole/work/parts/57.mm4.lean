def xch (z : Rw) (a s : Nat) : Rw := fun k => if a ≤ k ∧ k < a + s then z (k + s) else if a + s ≤ k ∧ k < a + s + s then z (k - s) else z k
-- Mo.exchange: blocks [0, 2, 53]
theorem k_Mo_exchange {d a s : Nat} {Q : QT} {μ : Mem} {z : Rw} (hM : μ 511 = z) (ha : a + 2 * s ≤ 956) (hq : ∀ μ', (∀ k, k ≠ 511 → μ' k = μ k) → μ' 511 = xch z a s → Q (.inl 0) μ') : Call σ1 (d + 1) 117 [.inr (.inr 510), .inl (a : Int), .inl (s : Int)] μ Q := by
  refine e_117 ?_
  have loop : ∀ k i : Nat, i + k = s → ∀ (o4 : Option MV) (μ1 : Mem), nLg o4 → (∀ k, k ≠ 511 → μ1 k = μ k) → (∀ x, μ1 511 x = if a ≤ x ∧ x < a + i then z (x + s) else if a + s ≤ x ∧ x < a + s + i then z (x - s) else z x) → wp σ1 (Call σ1 d) 117 Q 2 [some (.inr (.inr 510)), some (.inl (a : Int)), some (.inl (s : Int)), some (.inl (i : Int)), o4] [] μ1 := by
    intro k
    induction k with
    | zero =>
      intro i hi o4 μ1 l4 f1 g1
      have hin : i = s := by omega
      subst hin
      have hq := hq μ1 f1 (funext g1)
      refine wp_go b117_2 ?_; simp only [l117_2, sg_iload_3, sg_iload_2, sg_ic_ge, sg_aload_0, sg_getfp, sg_iload_1, sg_iadd, sg_iaload, sg_istore, okS_4, stL_4, sg_iastore, sg_iload, ldI_4, sg_iinc, ldI_3, okS_3, stL_3, sg_goto, nLg_n, nLg_i, nLg_r, tc_c, tc_l, tc_r, tc_m, tc_n, tc_o, tc_0, inR, true_and, and_true, ne_eq, not_true_eq_false, not_false_eq_true, true_imp_iff, false_imp_iff, Int.toNat_natCast, lit_a, Nat.reduceAdd, or_true, true_or, or_false, false_or, Int.reduceEq, Int.reduceNe, Int.reduceLT, Int.reduceLE, Int.reduceNeg, sg_nil, s1p, x510, x511, x512, x513, x514, x515, x516, x517]
      repeat' (first | with_reducible apply And.intro | intro _)
      all_goals (try omega)
      refine wp_go b117_53 ?_; simp only [l117_53, sg_ret, nLg_n, nLg_i, nLg_r, tc_c, tc_l, tc_r, tc_m, tc_n, tc_o, tc_0, inR, true_and, and_true, ne_eq, not_true_eq_false, not_false_eq_true, true_imp_iff, false_imp_iff, Int.toNat_natCast, lit_a, Nat.reduceAdd, or_true, true_or, or_false, false_or, Int.reduceEq, Int.reduceNe, Int.reduceLT, Int.reduceLE, Int.reduceNeg, sg_nil, s1p, x510, x511, x512, x513, x514, x515, x516, x517]
      exact hq
    | succ k ih =>
      intro i hi o4 μ1 l4 f1 g1
      have e1 : μ1 511 (a + i) = z (a + i) := by rw [g1, if_neg (by omega), if_neg (by omega)]
      have e2 : μ1 511 (a + s + i) = z (a + i + s) := by rw [g1, if_neg (by omega), if_neg (by omega), show a + s + i = a + i + s by omega]
      have ih1 := ih (i + 1) (by omega) (some (.inl (z (a + i)))) (ms (ms μ1 511 (a + i) (z (a + i + s))) 511 (a + s + i) (z (a + i))) trivial (fun k hk => by rw [← f1 k hk]; funext j; simp only [ms_at]; (repeat (first | rw [if_neg (by omega)] | rw [if_pos (by omega)]))) (fun x => by
        simp only [ms_at, true_and]
        by_cases hx : x = a + s + i
        · rw [if_pos hx, if_neg (by omega), if_pos (by omega), hx, show a + s + i - s = a + i by omega]
        · rw [if_neg hx]
          by_cases hy : x = a + i
          · rw [if_pos hy, if_pos (by omega), hy]
          · rw [if_neg hy, g1 x]
            by_cases c1 : a ≤ x ∧ x < a + i
            · rw [if_pos c1, if_pos (by omega)]
            · rw [if_neg c1, if_neg (show ¬ (a ≤ x ∧ x < a + (i + 1)) by omega)]
              by_cases c2 : a + s ≤ x ∧ x < a + s + i
              · rw [if_pos c2, if_pos (by omega)]
              · rw [if_neg c2, if_neg (by omega)])
      refine wp_go b117_2 ?_; simp only [l117_2, sg_iload_3, sg_iload_2, sg_ic_ge, sg_aload_0, sg_getfp, sg_iload_1, sg_iadd, sg_iaload, sg_istore, okS_4, stL_4, sg_iastore, sg_iload, ldI_4, sg_iinc, ldI_3, okS_3, stL_3, sg_goto, nLg_n, nLg_i, nLg_r, tc_c, tc_l, tc_r, tc_m, tc_n, tc_o, tc_0, inR, true_and, and_true, ne_eq, not_true_eq_false, not_false_eq_true, true_imp_iff, false_imp_iff, Int.toNat_natCast, lit_a, Nat.reduceAdd, or_true, true_or, or_false, false_or, Int.reduceEq, Int.reduceNe, Int.reduceLT, Int.reduceLE, Int.reduceNeg, sg_nil, s1p, x510, x511, x512, x513, x514, x515, x516, x517, e1, e2, l4]
      repeat' (first | with_reducible apply And.intro | intro _)
      all_goals (try omega)
  refine wp_go b117_0 ?_; simp only [l117_0, sg_iconst, sg_istore_3, nLg_n, nLg_i, nLg_r, tc_c, tc_l, tc_r, tc_m, tc_n, tc_o, tc_0, inR, true_and, and_true, ne_eq, not_true_eq_false, not_false_eq_true, true_imp_iff, false_imp_iff, Int.toNat_natCast, lit_a, Nat.reduceAdd, or_true, true_or, or_false, false_or, Int.reduceEq, Int.reduceNe, Int.reduceLT, Int.reduceLE, Int.reduceNeg, sg_nil, s1p, x510, x511, x512, x513, x514, x515, x516, x517]
  exact loop s 0 (by omega) none μ trivial (fun _ _ => rfl) (fun x => by rw [if_neg (by omega), if_neg (by omega), hM])
def xsZ (z : Rw) (s : Nat) : Rw := xch (xch z (4 + 3 * s) 3) (76 + 5 * s) 5
-- Mo.exchangeSentences: blocks [0, 10, 21]
theorem k_Mo_exchangeSentences {d s : Nat} {Q : QT} {μ : Mem} {z : Rw} (hM : μ 511 = z) (hs : s + 1 < 24) (hq : ∀ μ', (∀ k, k ≠ 511 → μ' k = μ k) → μ' 511 = xsZ z s → Q (.inl 0) μ') : Call σ1 (d + 2) 118 [.inr (.inr 510), .inl (s : Int)] μ Q := by
  refine e_118 ?_
  refine wp_go b118_0 ?_; simp only [l118_0, sg_aload_0, sg_iconst, sg_iload_1, sg_imul, sg_iadd, sg_iv3_v, len4_0, len4_1, len4_2, len4_3, len4_4, nLg_n, nLg_i, nLg_r, tc_c, tc_l, tc_r, tc_m, tc_n, tc_o, tc_0, inR, true_and, and_true, ne_eq, not_true_eq_false, not_false_eq_true, true_imp_iff, false_imp_iff, Int.toNat_natCast, lit_a, Nat.reduceAdd, or_true, true_or, or_false, false_or, Int.reduceEq, Int.reduceNe, Int.reduceLT, Int.reduceLE, Int.reduceNeg, sg_nil, s1p, x510, x511, x512, x513, x514, x515, x516, x517]
  refine k_Mo_exchange (a := 4 + 3 * s) (s := 3) hM (by omega) (fun μ1 f1 M1 => ?_)
  refine wp_go b118_10 ?_; simp only [l118_10, sg_aload_0, sg_bipush, sg_iconst, sg_iload_1, sg_imul, sg_iadd, sg_iv3_v, len4_0, len4_1, len4_2, len4_3, len4_4, nLg_n, nLg_i, nLg_r, tc_c, tc_l, tc_r, tc_m, tc_n, tc_o, tc_0, inR, true_and, and_true, ne_eq, not_true_eq_false, not_false_eq_true, true_imp_iff, false_imp_iff, Int.toNat_natCast, lit_a, Nat.reduceAdd, or_true, true_or, or_false, false_or, Int.reduceEq, Int.reduceNe, Int.reduceLT, Int.reduceLE, Int.reduceNeg, sg_nil, s1p, x510, x511, x512, x513, x514, x515, x516, x517]
  refine k_Mo_exchange (a := 76 + 5 * s) (s := 5) M1 (by omega) (fun μ2 f2 M2 => ?_)
  have hq := hq μ2 (fun k hk => (f2 k hk).trans (f1 k hk)) M2
  refine wp_go b118_21 ?_; simp only [l118_21, sg_ret, nLg_n, nLg_i, nLg_r, tc_c, tc_l, tc_r, tc_m, tc_n, tc_o, tc_0, inR, true_and, and_true, ne_eq, not_true_eq_false, not_false_eq_true, true_imp_iff, false_imp_iff, Int.toNat_natCast, lit_a, Nat.reduceAdd, or_true, true_or, or_false, false_or, Int.reduceEq, Int.reduceNe, Int.reduceLT, Int.reduceLE, Int.reduceNeg, sg_nil, s1p, x510, x511, x512, x513, x514, x515, x516, x517]
  exact hq
theorem xch_lo {z : Rw} {a s k : Nat} (h : k < a ∨ a + s + s ≤ k) : xch z a s k = z k := by unfold xch; rw [if_neg (by omega), if_neg (by omega)]
theorem xch_1 {z : Rw} {a s k : Nat} (h : a ≤ k) (h2 : k < a + s) : xch z a s k = z (k + s) := by unfold xch; rw [if_pos ⟨h, h2⟩]
theorem xch_2 {z : Rw} {a s k : Nat} (h : a + s ≤ k) (h2 : k < a + s + s) : xch z a s k = z (k - s) := by unfold xch; rw [if_neg (by omega), if_pos ⟨h, h2⟩]
theorem xs_o {z : Rw} {s k : Nat} (hs : s + 1 < 24) (h : k < 4 ∨ 196 ≤ k) : xsZ z s k = z k := by unfold xsZ; rw [xch_lo (by omega), xch_lo (by omega)]
theorem xs_n {z : Rw} {s i : Nat} (hs : s + 1 < 24) (hi : i < 24) (h : i ≠ s) (h2 : i ≠ s + 1) : SE (xsZ z s) i z i := by
  unfold SE xsZ
  refine ⟨?_, ?_, ?_, ?_, fun j hj => ?_⟩ <;> rw [xch_lo (by omega), xch_lo (by omega)]
theorem xs_1 {z : Rw} {s : Nat} (hs : s + 1 < 24) : SE (xsZ z s) s z (s + 1) := by
  unfold SE xsZ
  refine ⟨?_, ?_, ?_, ?_, fun j hj => ?_⟩
  · rw [xch_lo (by omega), xch_1 (by omega) (by omega)]; congr 1
  · rw [xch_lo (by omega), xch_1 (by omega) (by omega)]; congr 1
  · rw [xch_lo (by omega), xch_1 (by omega) (by omega)]; congr 1
  · rw [xch_1 (by omega) (by omega), xch_lo (by omega)]; congr 1
  · rw [xch_1 (by omega) (by omega), xch_lo (by omega)]; congr 1 <;> omega
theorem xs_2 {z : Rw} {s : Nat} (hs : s + 1 < 24) : SE (xsZ z s) (s + 1) z s := by
  unfold SE xsZ
  refine ⟨?_, ?_, ?_, ?_, fun j hj => ?_⟩
  · rw [xch_lo (by omega), xch_2 (by omega) (by omega)]; congr 1
  · rw [xch_lo (by omega), xch_2 (by omega) (by omega)]; congr 1 <;> omega
  · rw [xch_lo (by omega), xch_2 (by omega) (by omega)]; congr 1 <;> omega
  · rw [xch_2 (by omega) (by omega), xch_lo (by omega)]; congr 1
  · rw [xch_2 (by omega) (by omega), xch_lo (by omega)]; congr 1 <;> omega
theorem IR_xch {z : Rw} {a s : Nat} (h : IR z) (ha : a + 2 * s ≤ 956) : IR (xch z a s) := fun k hk => by
  unfold xch
  split
  · exact h _ (by omega)
  · split
    · exact h _ (by omega)
    · exact h _ hk
theorem IR_xs {z : Rw} {s : Nat} (h : IR z) (hs : s + 1 < 24) : IR (xsZ z s) := IR_xch (IR_xch h (by omega)) (by omega)
theorem SE_t {v w z : Rw} {i j k : Nat} (h : SE v i w j) (h2 : SE w j z k) : SE v i z k := ⟨h.1.trans h2.1, h.2.1.trans h2.2.1, h.2.2.1.trans h2.2.2.1, h.2.2.2.1.trans h2.2.2.2.1, fun x hx => (h.2.2.2.2 x hx).trans (h2.2.2.2.2 x hx)⟩
def clZ (z : Rw) (s : Nat) : Rw := fun k => if (4 + 3 * s ≤ k ∧ k < 7 + 3 * s) ∨ (76 + 5 * s ≤ k ∧ k < 81 + 5 * s) then 0 else z k
-- Mo.clearSentence: blocks [0, 2, 26, 28, 53]
theorem k_Mo_clearSentence {d s : Nat} {Q : QT} {μ : Mem} {z : Rw} (hM : μ 511 = z) (hs : s < 24) (hq : ∀ μ', (∀ k, k ≠ 511 → μ' k = μ k) → μ' 511 = clZ z s → Q (.inl 0) μ') : Call σ1 (d + 1) 119 [.inr (.inr 510), .inl (s : Int)] μ Q := by
  refine e_119 ?_
  have loop2 : ∀ k i : Nat, i + k = 5 → ∀ μ1 : Mem, (∀ k, k ≠ 511 → μ1 k = μ k) → (∀ x, μ1 511 x = if (4 + 3 * s ≤ x ∧ x < 7 + 3 * s) ∨ (76 + 5 * s ≤ x ∧ x < 76 + 5 * s + i) then 0 else z x) → wp σ1 (Call σ1 d) 119 Q 28 [some (.inr (.inr 510)), some (.inl (s : Int)), some (.inl (i : Int))] [] μ1 := by
    intro k
    induction k with
    | zero =>
      intro i hi μ1 f1 g1
      have hin : i = 5 := by omega
      subst hin
      have hq := hq μ1 f1 (by funext x; rw [g1]; unfold clZ; rw [show 76 + 5 * s + 5 = 81 + 5 * s by omega])
      refine wp_go b119_28 ?_; simp only [l119_28, sg_iload_2, sg_iconst, sg_ic_ge, sg_aload_0, sg_getfp, sg_bipush, sg_iload_1, sg_imul, sg_iadd, sg_iastore, sg_iinc, ldI_2, okS_2, stL_2, sg_goto, nLg_n, nLg_i, nLg_r, tc_c, tc_l, tc_r, tc_m, tc_n, tc_o, tc_0, inR, true_and, and_true, ne_eq, not_true_eq_false, not_false_eq_true, true_imp_iff, false_imp_iff, Int.toNat_natCast, lit_a, Nat.reduceAdd, or_true, true_or, or_false, false_or, Int.reduceEq, Int.reduceNe, Int.reduceLT, Int.reduceLE, Int.reduceNeg, sg_nil, s1p, x510, x511, x512, x513, x514, x515, x516, x517]
      repeat' (first | with_reducible apply And.intro | intro _)
      all_goals (try omega)
      refine wp_go b119_53 ?_; simp only [l119_53, sg_ret, nLg_n, nLg_i, nLg_r, tc_c, tc_l, tc_r, tc_m, tc_n, tc_o, tc_0, inR, true_and, and_true, ne_eq, not_true_eq_false, not_false_eq_true, true_imp_iff, false_imp_iff, Int.toNat_natCast, lit_a, Nat.reduceAdd, or_true, true_or, or_false, false_or, Int.reduceEq, Int.reduceNe, Int.reduceLT, Int.reduceLE, Int.reduceNeg, sg_nil, s1p, x510, x511, x512, x513, x514, x515, x516, x517]
      exact hq
    | succ k ih =>
      intro i hi μ1 f1 g1
      have ih1 := ih (i + 1) (by omega) (ms μ1 511 (76 + 5 * s + i) 0) (fun k hk => by rw [← f1 k hk]; funext j; simp only [ms_at]; (repeat (first | rw [if_neg (by omega)] | rw [if_pos (by omega)]))) (fun x => by
        simp only [ms_at, true_and]
        by_cases hx : x = 76 + 5 * s + i
        · rw [if_pos hx, if_pos (by omega)]
        · rw [if_neg hx, g1 x]
          by_cases hy : (4 + 3 * s ≤ x ∧ x < 7 + 3 * s) ∨ (76 + 5 * s ≤ x ∧ x < 76 + 5 * s + i)
          · rw [if_pos hy, if_pos (by omega)]
          · rw [if_neg hy, if_neg (by omega)])
      refine wp_go b119_28 ?_; simp only [l119_28, sg_iload_2, sg_iconst, sg_ic_ge, sg_aload_0, sg_getfp, sg_bipush, sg_iload_1, sg_imul, sg_iadd, sg_iastore, sg_iinc, ldI_2, okS_2, stL_2, sg_goto, nLg_n, nLg_i, nLg_r, tc_c, tc_l, tc_r, tc_m, tc_n, tc_o, tc_0, inR, true_and, and_true, ne_eq, not_true_eq_false, not_false_eq_true, true_imp_iff, false_imp_iff, Int.toNat_natCast, lit_a, Nat.reduceAdd, or_true, true_or, or_false, false_or, Int.reduceEq, Int.reduceNe, Int.reduceLT, Int.reduceLE, Int.reduceNeg, sg_nil, s1p, x510, x511, x512, x513, x514, x515, x516, x517]
      repeat' (first | with_reducible apply And.intro | intro _)
      all_goals (try omega)
  have loop1 : ∀ k i : Nat, i + k = 3 → ∀ μ1 : Mem, (∀ k, k ≠ 511 → μ1 k = μ k) → (∀ x, μ1 511 x = if 4 + 3 * s ≤ x ∧ x < 4 + 3 * s + i then 0 else z x) → wp σ1 (Call σ1 d) 119 Q 2 [some (.inr (.inr 510)), some (.inl (s : Int)), some (.inl (i : Int))] [] μ1 := by
    intro k
    induction k with
    | zero =>
      intro i hi μ1 f1 g1
      have hin : i = 3 := by omega
      subst hin
      have st := loop2 5 0 (by omega) μ1 f1 (fun x => by
        rw [g1]
        by_cases hy : 4 + 3 * s ≤ x ∧ x < 4 + 3 * s + 3
        · rw [if_pos hy, if_pos (by omega)]
        · rw [if_neg hy, if_neg (by omega)])
      refine wp_go b119_2 ?_; simp only [l119_2, sg_iload_2, sg_iconst, sg_ic_ge, sg_aload_0, sg_getfp, sg_iload_1, sg_imul, sg_iadd, sg_iastore, sg_iinc, ldI_2, okS_2, stL_2, sg_goto, nLg_n, nLg_i, nLg_r, tc_c, tc_l, tc_r, tc_m, tc_n, tc_o, tc_0, inR, true_and, and_true, ne_eq, not_true_eq_false, not_false_eq_true, true_imp_iff, false_imp_iff, Int.toNat_natCast, lit_a, Nat.reduceAdd, or_true, true_or, or_false, false_or, Int.reduceEq, Int.reduceNe, Int.reduceLT, Int.reduceLE, Int.reduceNeg, sg_nil, s1p, x510, x511, x512, x513, x514, x515, x516, x517]
      repeat' (first | with_reducible apply And.intro | intro _)
      all_goals (try omega)
      refine wp_go b119_26 ?_; simp only [l119_26, sg_iconst, sg_istore_2, nLg_n, nLg_i, nLg_r, tc_c, tc_l, tc_r, tc_m, tc_n, tc_o, tc_0, inR, true_and, and_true, ne_eq, not_true_eq_false, not_false_eq_true, true_imp_iff, false_imp_iff, Int.toNat_natCast, lit_a, Nat.reduceAdd, or_true, true_or, or_false, false_or, Int.reduceEq, Int.reduceNe, Int.reduceLT, Int.reduceLE, Int.reduceNeg, sg_nil, s1p, x510, x511, x512, x513, x514, x515, x516, x517]
      exact st
    | succ k ih =>
      intro i hi μ1 f1 g1
      have ih1 := ih (i + 1) (by omega) (ms μ1 511 (4 + 3 * s + i) 0) (fun k hk => by rw [← f1 k hk]; funext j; simp only [ms_at]; (repeat (first | rw [if_neg (by omega)] | rw [if_pos (by omega)]))) (fun x => by
        simp only [ms_at, true_and]
        by_cases hx : x = 4 + 3 * s + i
        · rw [if_pos hx, if_pos (by omega)]
        · rw [if_neg hx, g1 x]
          by_cases hy : 4 + 3 * s ≤ x ∧ x < 4 + 3 * s + i
          · rw [if_pos hy, if_pos (by omega)]
          · rw [if_neg hy, if_neg (by omega)])
      refine wp_go b119_2 ?_; simp only [l119_2, sg_iload_2, sg_iconst, sg_ic_ge, sg_aload_0, sg_getfp, sg_iload_1, sg_imul, sg_iadd, sg_iastore, sg_iinc, ldI_2, okS_2, stL_2, sg_goto, nLg_n, nLg_i, nLg_r, tc_c, tc_l, tc_r, tc_m, tc_n, tc_o, tc_0, inR, true_and, and_true, ne_eq, not_true_eq_false, not_false_eq_true, true_imp_iff, false_imp_iff, Int.toNat_natCast, lit_a, Nat.reduceAdd, or_true, true_or, or_false, false_or, Int.reduceEq, Int.reduceNe, Int.reduceLT, Int.reduceLE, Int.reduceNeg, sg_nil, s1p, x510, x511, x512, x513, x514, x515, x516, x517]
      repeat' (first | with_reducible apply And.intro | intro _)
      all_goals (try omega)
  refine wp_go b119_0 ?_; simp only [l119_0, sg_iconst, sg_istore_2, nLg_n, nLg_i, nLg_r, tc_c, tc_l, tc_r, tc_m, tc_n, tc_o, tc_0, inR, true_and, and_true, ne_eq, not_true_eq_false, not_false_eq_true, true_imp_iff, false_imp_iff, Int.toNat_natCast, lit_a, Nat.reduceAdd, or_true, true_or, or_false, false_or, Int.reduceEq, Int.reduceNe, Int.reduceLT, Int.reduceLE, Int.reduceNeg, sg_nil, s1p, x510, x511, x512, x513, x514, x515, x516, x517]
  exact loop1 3 0 (by omega) μ (fun _ _ => rfl) (fun x => by rw [if_neg (by omega), hM])
theorem IR_cl {z : Rw} {s : Nat} (h : IR z) : IR (clZ z s) := fun k hk => by
  unfold clZ
  split
  · unfold inR; omega
  · exact h k hk
/-- a sentence put in at the end, and moved to place q -/
def pinR (z w : Rw) (q n : Nat) (len b : Int) : Prop := w 0 = ((n + 1 : Nat) : Int) ∧ w 1 = z 1 + 1 ∧ (∀ k, k = 2 ∨ k = 3 ∨ 196 ≤ k → w k = z k) ∧ (∀ i, i < q → SE w i z i) ∧ (∀ i, q ≤ i → i < n → SE w (i + 1) z i) ∧ w (4 + 3 * q) = z 1 ∧ w (5 + 3 * q) = len ∧ w (6 + 3 * q) = b ∧ w (76 + 5 * q) = 0
theorem pin_s {z w : Rw} {q n : Nat} {len b : Int} (hq : q < n) (hn : n < 24) (H : pinR z w (q + 1) n len b) : pinR z (xsZ w q) q n len b := by
  obtain ⟨g0, g1, gh, ga, gb, g4, g5, g6, g7⟩ := H
  have hs : q + 1 < 24 := by omega
  obtain ⟨c1, c2, c3, c4, c5⟩ := xs_1 (z := w) hs
  refine ⟨(xs_o hs (by omega)).trans g0, (xs_o hs (by omega)).trans g1, fun k hk => (xs_o hs (by omega)).trans (gh k hk), fun i hi => SE_t (xs_n hs (by omega) (by omega) (by omega)) (ga i (by omega)), fun i h1 h2 => ?_, c1.trans g4, c2.trans g5, c3.trans g6, c4.trans g7⟩
  rcases Nat.lt_or_ge q i with h | h
  · exact SE_t (xs_n hs (by omega) (by omega) (by omega)) (gb i (by omega) h2)
  · have : i = q := by omega
    subst this
    exact SE_t (xs_2 hs) (ga i (by omega))
-- Mo.putIn: blocks [0, 11, 16, 24, 30, 52, 55, 59, 71, 119, 120, 146, 158, 164, 170]
theorem k_Mo_putIn {d : Nat} {Q : QT} {μ : Mem} {p len : Int} {z : Rw} {a : Hs} (hM : μ 511 = z) (hz : IZ z) (hI : IR z) (hC : CRm a μ) (hp : inR p) (hlen : inR len) (hf : c_putIn z p len < 0 → Q (.inl (c_putIn z p len)) μ)
    (hq : c_putIn z p len = 0 → ∀ μ', PG (fun w => insR z w p.toNat (zn z) len) (hsPush a z) μ μ' → Q (.inl (z 1)) μ') : Call σ1 (d + 3) 120 [.inr (.inr 510), .inl p, .inl len] μ Q := by
  refine e_120 ?_
  have q := hz.1
  obtain ⟨z0, n1, n24⟩ := zn_eq hz
  generalize hnn : zn z = n at *
  refine wp_go b120_0 ?_; simp only [l120_0, sg_iload_1, sg_iconst, sg_aload_0, sg_getfp, sg_iaload, len4_0, len4_1, len4_2, len4_3, len4_4, sg_is3_1, nLg_n, nLg_i, nLg_r, tc_c, tc_l, tc_r, tc_m, tc_n, tc_o, tc_0, inR, true_and, and_true, ne_eq, not_true_eq_false, not_false_eq_true, true_imp_iff, false_imp_iff, Int.toNat_natCast, lit_a, Nat.reduceAdd, or_true, true_or, or_false, false_or, Int.reduceEq, Int.reduceNe, Int.reduceLT, Int.reduceLE, Int.reduceNeg, sg_nil, s1p, x510, x511, x512, x513, x514, x515, x516, x517, hM, z0, Int.toNat_zero]
  repeat' (first | with_reducible apply And.intro | intro _)
  all_goals (try omega)
  refine k_Mo_in hp (by unfold inR; omega) (by unfold inR; omega) (fun h1 h2 => ?_) (fun h0 => ?_)
  · obtain ⟨p, rfl⟩ := nat_of h1
    refine wp_go b120_11 ?_; simp only [l120_11, sg_if_ne, sg_iconst, sg_iret0, nLg_n, nLg_i, nLg_r, tc_c, tc_l, tc_r, tc_m, tc_n, tc_o, tc_0, inR, true_and, and_true, ne_eq, not_true_eq_false, not_false_eq_true, true_imp_iff, false_imp_iff, Int.toNat_natCast, lit_a, Nat.reduceAdd, or_true, true_or, or_false, false_or, Int.reduceEq, Int.reduceNe, Int.reduceLT, Int.reduceLE, Int.reduceNeg, sg_nil, s1p, x510, x511, x512, x513, x514, x515, x516, x517]
    repeat' (first | with_reducible apply And.intro | intro _)
    all_goals (try omega)
    refine wp_go b120_16 ?_; simp only [l120_16, sg_iload_2, sg_iconst, sg_sipush, len4_0, len4_1, len4_2, len4_3, len4_4, sg_is3_1, nLg_n, nLg_i, nLg_r, tc_c, tc_l, tc_r, tc_m, tc_n, tc_o, tc_0, inR, true_and, and_true, ne_eq, not_true_eq_false, not_false_eq_true, true_imp_iff, false_imp_iff, Int.toNat_natCast, lit_a, Nat.reduceAdd, or_true, true_or, or_false, false_or, Int.reduceEq, Int.reduceNe, Int.reduceLT, Int.reduceLE, Int.reduceNeg, sg_nil, s1p, x510, x511, x512, x513, x514, x515, x516, x517]
    refine k_Mo_in hlen (by unfold inR; omega) (by unfold inR; omega) (fun h3 h4 => ?_) (fun h0 => ?_)
    · by_cases gm : 24 ≤ z 0 ∨ 100 ≤ z 1
      · have ec : c_putIn z (p : Int) len = -4 := by unfold c_putIn; rw [if_neg (by omega), if_neg (by omega), if_pos gm]
        rw [ec] at hf
        have hf := hf (by omega)
        refine wp_go b120_24 ?_; simp only [l120_24, sg_if_ne, sg_bipush, sg_iret0, nLg_n, nLg_i, nLg_r, tc_c, tc_l, tc_r, tc_m, tc_n, tc_o, tc_0, inR, true_and, and_true, ne_eq, not_true_eq_false, not_false_eq_true, true_imp_iff, false_imp_iff, Int.toNat_natCast, lit_a, Nat.reduceAdd, or_true, true_or, or_false, false_or, Int.reduceEq, Int.reduceNe, Int.reduceLT, Int.reduceLE, Int.reduceNeg, sg_nil, s1p, x510, x511, x512, x513, x514, x515, x516, x517]
        repeat' (first | with_reducible apply And.intro | intro _)
        all_goals (try omega)
        refine wp_go b120_30 ?_; simp only [l120_30, sg_aload_0, sg_getfp, sg_iconst, sg_iaload, sg_bipush, sg_ic_eq, sg_ic_ne, nLg_n, nLg_i, nLg_r, tc_c, tc_l, tc_r, tc_m, tc_n, tc_o, tc_0, inR, true_and, and_true, ne_eq, not_true_eq_false, not_false_eq_true, true_imp_iff, false_imp_iff, Int.toNat_natCast, lit_a, Nat.reduceAdd, or_true, true_or, or_false, false_or, Int.reduceEq, Int.reduceNe, Int.reduceLT, Int.reduceLE, Int.reduceNeg, sg_nil, s1p, x510, x511, x512, x513, x514, x515, x516, x517, hM, z0, Int.toNat_zero, Int.reduceToNat]
        repeat' (first | with_reducible apply And.intro | (intro _) | ((first | refine wp_go b120_0 ?_ | refine wp_go b120_11 ?_ | refine wp_go b120_16 ?_ | refine wp_go b120_24 ?_ | refine wp_go b120_30 ?_ | refine wp_go b120_52 ?_ | refine wp_go b120_55 ?_ | refine wp_go b120_59 ?_ | refine wp_go b120_71 ?_ | refine wp_go b120_119 ?_ | refine wp_go b120_120 ?_ | refine wp_go b120_158 ?_ | refine wp_go b120_164 ?_ | refine wp_go b120_170 ?_); simp only [l120_0, l120_11, l120_16, l120_24, l120_30, l120_52, l120_55, l120_59, l120_71, l120_119, l120_120, l120_158, l120_164, l120_170, sg_iload_1, sg_iconst, sg_aload_0, sg_getfp, sg_iaload, len4_0, len4_1, len4_2, len4_3, len4_4, sg_is3_1, sg_if_ne, sg_iret0, sg_iload_2, sg_sipush, sg_bipush, sg_ic_eq, sg_ic_ne, sg_iv1_v, sg_istore_3, sg_iload_3, sg_iv2_v, sg_imul, sg_iadd, sg_iastore, sg_goto, sg_dup2, sg_isub, sg_istore, okS_4, stL_4, sg_iinc, ldI_4, sg_iv3_i, nLg_n, nLg_i, nLg_r, tc_c, tc_l, tc_r, tc_m, tc_n, tc_o, tc_0, inR, true_and, and_true, ne_eq, not_true_eq_false, not_false_eq_true, true_imp_iff, false_imp_iff, Int.toNat_natCast, lit_a, Nat.reduceAdd, or_true, true_or, or_false, false_or, Int.reduceEq, Int.reduceNe, Int.reduceLT, Int.reduceLE, Int.reduceNeg, sg_nil, s1p, x510, x511, x512, x513, x514, x515, x516, x517]))
        all_goals (try omega)
        all_goals exact hf
      · have ec : c_putIn z (p : Int) len = 0 := by unfold c_putIn; rw [if_neg (by omega), if_neg (by omega), if_neg gm]
        have hq := hq ec
        rw [Int.toNat_natCast] at hq
        refine wp_go b120_24 ?_; simp only [l120_24, sg_if_ne, sg_bipush, sg_iret0, nLg_n, nLg_i, nLg_r, tc_c, tc_l, tc_r, tc_m, tc_n, tc_o, tc_0, inR, true_and, and_true, ne_eq, not_true_eq_false, not_false_eq_true, true_imp_iff, false_imp_iff, Int.toNat_natCast, lit_a, Nat.reduceAdd, or_true, true_or, or_false, false_or, Int.reduceEq, Int.reduceNe, Int.reduceLT, Int.reduceLE, Int.reduceNeg, sg_nil, s1p, x510, x511, x512, x513, x514, x515, x516, x517]
        repeat' (first | with_reducible apply And.intro | intro _)
        all_goals (try omega)
        refine wp_go b120_30 ?_; simp only [l120_30, sg_aload_0, sg_getfp, sg_iconst, sg_iaload, sg_bipush, sg_ic_eq, sg_ic_ne, nLg_n, nLg_i, nLg_r, tc_c, tc_l, tc_r, tc_m, tc_n, tc_o, tc_0, inR, true_and, and_true, ne_eq, not_true_eq_false, not_false_eq_true, true_imp_iff, false_imp_iff, Int.toNat_natCast, lit_a, Nat.reduceAdd, or_true, true_or, or_false, false_or, Int.reduceEq, Int.reduceNe, Int.reduceLT, Int.reduceLE, Int.reduceNeg, sg_nil, s1p, x510, x511, x512, x513, x514, x515, x516, x517, hM, z0, Int.toNat_zero, Int.reduceToNat]
        repeat' (first | with_reducible apply And.intro | intro _)
        all_goals (try omega)
        refine wp_go b120_55 ?_; simp only [l120_55, sg_aload_0, sg_iv1_v, len4_0, len4_1, len4_2, len4_3, len4_4, nLg_n, nLg_i, nLg_r, tc_c, tc_l, tc_r, tc_m, tc_n, tc_o, tc_0, inR, true_and, and_true, ne_eq, not_true_eq_false, not_false_eq_true, true_imp_iff, false_imp_iff, Int.toNat_natCast, lit_a, Nat.reduceAdd, or_true, true_or, or_false, false_or, Int.reduceEq, Int.reduceNe, Int.reduceLT, Int.reduceLE, Int.reduceNeg, sg_nil, s1p, x510, x511, x512, x513, x514, x515, x516, x517]
        refine k_Mo_rec hM hI hC (fun μ1 f1 C1 => ?_)
        have M1 : μ1 511 = z := by rw [f1 511 (by omega) (by omega)]; exact hM
        refine wp_go b120_59 ?_; simp only [l120_59, sg_aload_0, sg_getfp, sg_iconst, sg_iaload, sg_istore_3, sg_iload_3, sg_iv2_v, len4_0, len4_1, len4_2, len4_3, len4_4, nLg_n, nLg_i, nLg_r, tc_c, tc_l, tc_r, tc_m, tc_n, tc_o, tc_0, inR, true_and, and_true, ne_eq, not_true_eq_false, not_false_eq_true, true_imp_iff, false_imp_iff, Int.toNat_natCast, lit_a, Nat.reduceAdd, or_true, true_or, or_false, false_or, Int.reduceEq, Int.reduceNe, Int.reduceLT, Int.reduceLE, Int.reduceNeg, sg_nil, s1p, x510, x511, x512, x513, x514, x515, x516, x517, M1, z0, Int.toNat_zero]
        repeat' (first | with_reducible apply And.intro | intro _)
        all_goals (try omega)
        refine k_Mo_clearSentence M1 (by omega) (fun μ2 f2 M2 => ?_)
        have loop : ∀ k x : Nat, x = p + k → x ≤ n → ∀ (μ3 : Mem), (∀ k, k ≠ 511 → μ3 k = μ2 k) → pinR z (μ3 511) x n len (bI (p = 0)) → IR (μ3 511) → wp σ1 (Call σ1 (d + 2)) 120 Q 146 [some (.inr (.inr 510)), some (.inl (p : Int)), some (.inl len), some (.inl (n : Int)), some (.inl ((x : Int) - 1))] [] μ3 := by
          intro k
          induction k with
          | zero =>
            intro x hx hxn μ3 f3 P3 I3
            have hxp : x = p := by omega
            subst hxp
            have hq := hq μ3 ⟨fun k hk => by rw [f3 k (by omega), f2 k (by omega), f1 k (by omega) (by omega)], P3, I3, CRm_1 (fun k h1 _ => by rw [f3 k h1, f2 k h1]) C1⟩
            refine wp_go b120_146 ?_; simp only [l120_146, sg_iload, ldI_4, sg_iload_1, sg_ic_lt, sg_aload_0, sg_iv2_v, len4_0, len4_1, len4_2, len4_3, len4_4, nLg_n, nLg_i, nLg_r, tc_c, tc_l, tc_r, tc_m, tc_n, tc_o, tc_0, inR, true_and, and_true, ne_eq, not_true_eq_false, not_false_eq_true, true_imp_iff, false_imp_iff, Int.toNat_natCast, lit_a, Nat.reduceAdd, or_true, true_or, or_false, false_or, Int.reduceEq, Int.reduceNe, Int.reduceLT, Int.reduceLE, Int.reduceNeg, sg_nil, s1p, x510, x511, x512, x513, x514, x515, x516, x517]
            repeat' (first | with_reducible apply And.intro | intro _)
            all_goals (try omega)
            refine wp_go b120_164 ?_; simp only [l120_164, sg_aload_0, sg_iload_1, sg_iconst, sg_iv3_i, len4_0, len4_1, len4_2, len4_3, len4_4, nLg_n, nLg_i, nLg_r, tc_c, tc_l, tc_r, tc_m, tc_n, tc_o, tc_0, inR, true_and, and_true, ne_eq, not_true_eq_false, not_false_eq_true, true_imp_iff, false_imp_iff, Int.toNat_natCast, lit_a, Nat.reduceAdd, or_true, true_or, or_false, false_or, Int.reduceEq, Int.reduceNe, Int.reduceLT, Int.reduceLE, Int.reduceNeg, sg_nil, s1p, x510, x511, x512, x513, x514, x515, x516, x517]
            refine k_Mo_its (s := x) (w := 0) rfl (by omega) (by omega) ?_
            have e : μ3 511 (4 + 3 * x + 0) = z 1 := P3.2.2.2.2.2.1
            rw [e]
            refine wp_go b120_170 ?_; simp only [l120_170, sg_iret0, nLg_n, nLg_i, nLg_r, tc_c, tc_l, tc_r, tc_m, tc_n, tc_o, tc_0, inR, true_and, and_true, ne_eq, not_true_eq_false, not_false_eq_true, true_imp_iff, false_imp_iff, Int.toNat_natCast, lit_a, Nat.reduceAdd, or_true, true_or, or_false, false_or, Int.reduceEq, Int.reduceNe, Int.reduceLT, Int.reduceLE, Int.reduceNeg, sg_nil, s1p, x510, x511, x512, x513, x514, x515, x516, x517]
            exact hq
          | succ k ih =>
            intro x hx hxn μ3 f3 P3 I3
            obtain ⟨y, rfl⟩ : ∃ y, x = y + 1 := ⟨x - 1, by omega⟩
            have e7 : ((y + 1 : Nat) : Int) - 1 = (y : Int) := by omega
            have e8 : (y : Int) + -1 = (y : Int) - 1 := by omega
            rw [e7]
            refine wp_go b120_146 ?_; simp only [l120_146, sg_iload, ldI_4, sg_iload_1, sg_ic_lt, sg_aload_0, sg_iv2_v, len4_0, len4_1, len4_2, len4_3, len4_4, nLg_n, nLg_i, nLg_r, tc_c, tc_l, tc_r, tc_m, tc_n, tc_o, tc_0, inR, true_and, and_true, ne_eq, not_true_eq_false, not_false_eq_true, true_imp_iff, false_imp_iff, Int.toNat_natCast, lit_a, Nat.reduceAdd, or_true, true_or, or_false, false_or, Int.reduceEq, Int.reduceNe, Int.reduceLT, Int.reduceLE, Int.reduceNeg, sg_nil, s1p, x510, x511, x512, x513, x514, x515, x516, x517]
            repeat' (first | with_reducible apply And.intro | intro _)
            all_goals (try omega)
            refine k_Mo_exchangeSentences rfl (by omega) (fun μ4 f4 M4 => ?_)
            have ih1 := ih y (by omega) (by omega) μ4 (fun k hk => (f4 k hk).trans (f3 k hk)) (by rw [M4]; exact pin_s (by omega) (by omega) P3) (by rw [M4]; exact IR_xs I3 (by omega))
            refine wp_go b120_158 ?_; simp only [l120_158, sg_iinc, ldI_4, okS_4, stL_4, sg_goto, nLg_n, nLg_i, nLg_r, tc_c, tc_l, tc_r, tc_m, tc_n, tc_o, tc_0, inR, true_and, and_true, ne_eq, not_true_eq_false, not_false_eq_true, true_imp_iff, false_imp_iff, Int.toNat_natCast, lit_a, Nat.reduceAdd, or_true, true_or, or_false, false_or, Int.reduceEq, Int.reduceNe, Int.reduceLT, Int.reduceLE, Int.reduceNeg, sg_nil, s1p, x510, x511, x512, x513, x514, x515, x516, x517, e8]
            repeat' (first | with_reducible apply And.intro | intro _)
            all_goals (try omega)
        have fin : ∀ b : Int, b = bI (p = 0) → wp σ1 (Call σ1 (d + 2)) 120 Q 120 [some (.inr (.inr 510)), some (.inl (p : Int)), some (.inl len), some (.inl (n : Int)), none] [.inl b, .inl ((4 + 3 * n + 2 : Nat) : Int), .inr (.inr 511)] (ms (ms μ2 511 (4 + 3 * n) (z 1)) 511 (4 + 3 * n + 1) len) := fun b hb => by
          have eb : b = 0 ∨ b = 1 := by rw [hb]; unfold bI; split <;> simp
          have e2 : ms (ms (ms μ2 511 (4 + 3 * n) (z 1)) 511 (4 + 3 * n + 1) len) 511 (4 + 3 * n + 2) b 511 0 = (n : Int) := by simp only [ms_at]; rw [if_neg (by omega), if_neg (by omega), if_neg (by omega), M2]; unfold clZ; rw [if_neg (by omega)]; exact z0
          have e3 : ms (ms (ms (ms μ2 511 (4 + 3 * n) (z 1)) 511 (4 + 3 * n + 1) len) 511 (4 + 3 * n + 2) b) 511 0 ((n + 1 : Nat) : Int) 511 1 = z 1 := by simp only [ms_at]; rw [if_neg (by omega), if_neg (by omega), if_neg (by omega), if_neg (by omega), M2]; unfold clZ; rw [if_neg (by omega)]
          have st := loop (n - p) n (by omega) (by omega) (ms (ms (ms (ms (ms μ2 511 (4 + 3 * n) (z 1)) 511 (4 + 3 * n + 1) len) 511 (4 + 3 * n + 2) b) 511 0 ((n + 1 : Nat) : Int)) 511 1 (z 1 + 1)) (fun k hk => by funext j; simp only [ms_at]; (repeat (first | rw [if_neg (by omega)] | rw [if_pos (by omega)]))) (by
            have lo : ∀ k, k ≠ 0 → k ≠ 1 → (k < 4 + 3 * n ∨ 7 + 3 * n ≤ k) → ms (ms (ms (ms (ms μ2 511 (4 + 3 * n) (z 1)) 511 (4 + 3 * n + 1) len) 511 (4 + 3 * n + 2) b) 511 0 ((n + 1 : Nat) : Int)) 511 1 (z 1 + 1) 511 k = clZ z n k := fun k k0 k1 k2 => by simp only [ms_at]; rw [if_neg (by omega), if_neg (by omega), if_neg (by omega), if_neg (by omega), if_neg (by omega), M2]
            have lz : ∀ k, k ≠ 0 → k ≠ 1 → (k < 4 + 3 * n ∨ (7 + 3 * n ≤ k ∧ (k < 76 + 5 * n ∨ 81 + 5 * n ≤ k))) → ms (ms (ms (ms (ms μ2 511 (4 + 3 * n) (z 1)) 511 (4 + 3 * n + 1) len) 511 (4 + 3 * n + 2) b) 511 0 ((n + 1 : Nat) : Int)) 511 1 (z 1 + 1) 511 k = z k := fun k k0 k1 k2 => by rw [lo k k0 k1 (by omega)]; unfold clZ; rw [if_neg (by omega)]
            refine ⟨by simp [ms_at], by simp [ms_at], fun k hk => lz k (by omega) (by omega) (by omega), fun i hi => ⟨lz _ (by omega) (by omega) (by omega), lz _ (by omega) (by omega) (by omega), lz _ (by omega) (by omega) (by omega), lz _ (by omega) (by omega) (by omega), fun j hj => lz _ (by omega) (by omega) (by omega)⟩, fun i h1 h2 => absurd h1 (by omega), ?_, ?_, ?_, ?_⟩
            · simp only [ms_at, true_and]; rw [if_neg (by omega), if_neg (by omega), if_neg (by omega), if_neg (by omega)]; exact if_pos trivial
            · simp only [ms_at, true_and]; rw [if_neg (by omega), if_neg (by omega), if_neg (by omega), if_pos (by omega)]
            · simp only [ms_at, true_and]; rw [if_neg (by omega), if_neg (by omega), if_pos (by omega), hb]
            · rw [lo _ (by omega) (by omega) (by omega)]; unfold clZ; rw [if_pos (by omega)]) (fun k hk => by
            have ic := IR_cl (s := n) hI k hk
            have i1 : inR (z 1) := by unfold inR; omega
            simp only [ms_at, true_and]
            by_cases k1 : k = 1
            · rw [if_pos k1]; unfold inR; omega
            · rw [if_neg k1]
              by_cases k0 : k = 0
              · rw [if_pos k0]; unfold inR; omega
              · rw [if_neg k0]
                by_cases k2 : k = 4 + 3 * n + 2
                · rw [if_pos k2]; unfold inR; omega
                · rw [if_neg k2]
                  by_cases k3 : k = 4 + 3 * n + 1
                  · rw [if_pos k3]; exact hlen
                  · rw [if_neg k3]
                    by_cases k4 : k = 4 + 3 * n
                    · rw [if_pos k4]; exact i1
                    · rw [if_neg k4, M2]; exact ic)
          refine wp_go b120_120 ?_; simp only [l120_120, sg_iastore, sg_aload_0, sg_getfp, sg_iconst, sg_dup2, sg_iaload, sg_iadd, sg_iload_3, sg_isub, sg_istore, okS_4, stL_4, nLg_n, nLg_i, nLg_r, tc_c, tc_l, tc_r, tc_m, tc_n, tc_o, tc_0, inR, true_and, and_true, ne_eq, not_true_eq_false, not_false_eq_true, true_imp_iff, false_imp_iff, Int.toNat_natCast, lit_a, Nat.reduceAdd, or_true, true_or, or_false, false_or, Int.reduceEq, Int.reduceNe, Int.reduceLT, Int.reduceLE, Int.reduceNeg, sg_nil, s1p, x510, x511, x512, x513, x514, x515, x516, x517, e2, e3, Int.toNat_zero, Int.reduceToNat]
          repeat' (first | with_reducible apply And.intro | intro _)
          all_goals (try omega)
        have e1 : μ2 511 1 = z 1 := by rw [M2]; unfold clZ; rw [if_neg (by omega)]
        by_cases p0 : p = 0
        · subst p0
          have fin := fin 1 (by unfold bI; rw [if_pos rfl])
          refine wp_go b120_71 ?_; simp only [l120_71, sg_aload_0, sg_getfp, sg_iconst, sg_iload_3, sg_imul, sg_iadd, sg_iaload, sg_iastore, sg_iload_2, sg_iload_1, sg_if_ne, sg_goto, nLg_n, nLg_i, nLg_r, tc_c, tc_l, tc_r, tc_m, tc_n, tc_o, tc_0, inR, true_and, and_true, ne_eq, not_true_eq_false, not_false_eq_true, true_imp_iff, false_imp_iff, Int.toNat_natCast, lit_a, Nat.reduceAdd, or_true, true_or, or_false, false_or, Int.reduceEq, Int.reduceNe, Int.reduceLT, Int.reduceLE, Int.reduceNeg, sg_nil, s1p, x510, x511, x512, x513, x514, x515, x516, x517, e1, Int.reduceToNat]
          repeat' (first | with_reducible apply And.intro | intro _)
          all_goals (try omega)
        · have fin := fin 0 (by unfold bI; rw [if_neg p0])
          refine wp_go b120_71 ?_; simp only [l120_71, sg_aload_0, sg_getfp, sg_iconst, sg_iload_3, sg_imul, sg_iadd, sg_iaload, sg_iastore, sg_iload_2, sg_iload_1, sg_if_ne, sg_goto, nLg_n, nLg_i, nLg_r, tc_c, tc_l, tc_r, tc_m, tc_n, tc_o, tc_0, inR, true_and, and_true, ne_eq, not_true_eq_false, not_false_eq_true, true_imp_iff, false_imp_iff, Int.toNat_natCast, lit_a, Nat.reduceAdd, or_true, true_or, or_false, false_or, Int.reduceEq, Int.reduceNe, Int.reduceLT, Int.reduceLE, Int.reduceNeg, sg_nil, s1p, x510, x511, x512, x513, x514, x515, x516, x517, e1, Int.reduceToNat]
          repeat' (first | with_reducible apply And.intro | intro _)
          all_goals (try omega)
          refine wp_go b120_119 ?_; simp only [l120_119, sg_iconst, nLg_n, nLg_i, nLg_r, tc_c, tc_l, tc_r, tc_m, tc_n, tc_o, tc_0, inR, true_and, and_true, ne_eq, not_true_eq_false, not_false_eq_true, true_imp_iff, false_imp_iff, Int.toNat_natCast, lit_a, Nat.reduceAdd, or_true, true_or, or_false, false_or, Int.reduceEq, Int.reduceNe, Int.reduceLT, Int.reduceLE, Int.reduceNeg, sg_nil, s1p, x510, x511, x512, x513, x514, x515, x516, x517]
          exact fin
    · have ec : c_putIn z (p : Int) len = -2 := by unfold c_putIn; rw [if_neg (by omega), if_pos (by omega)]
      rw [ec] at hf
      have hf := hf (by omega)
      refine wp_go b120_24 ?_; simp only [l120_24, sg_if_ne, sg_bipush, sg_iret0, nLg_n, nLg_i, nLg_r, tc_c, tc_l, tc_r, tc_m, tc_n, tc_o, tc_0, inR, true_and, and_true, ne_eq, not_true_eq_false, not_false_eq_true, true_imp_iff, false_imp_iff, Int.toNat_natCast, lit_a, Nat.reduceAdd, or_true, true_or, or_false, false_or, Int.reduceEq, Int.reduceNe, Int.reduceLT, Int.reduceLE, Int.reduceNeg, sg_nil, s1p, x510, x511, x512, x513, x514, x515, x516, x517]
      repeat' (first | with_reducible apply And.intro | (intro _) | ((first | refine wp_go b120_0 ?_ | refine wp_go b120_11 ?_ | refine wp_go b120_16 ?_ | refine wp_go b120_24 ?_ | refine wp_go b120_30 ?_ | refine wp_go b120_52 ?_ | refine wp_go b120_55 ?_ | refine wp_go b120_59 ?_ | refine wp_go b120_71 ?_ | refine wp_go b120_119 ?_ | refine wp_go b120_120 ?_ | refine wp_go b120_158 ?_ | refine wp_go b120_164 ?_ | refine wp_go b120_170 ?_); simp only [l120_0, l120_11, l120_16, l120_24, l120_30, l120_52, l120_55, l120_59, l120_71, l120_119, l120_120, l120_158, l120_164, l120_170, sg_iload_1, sg_iconst, sg_aload_0, sg_getfp, sg_iaload, len4_0, len4_1, len4_2, len4_3, len4_4, sg_is3_1, sg_if_ne, sg_iret0, sg_iload_2, sg_sipush, sg_bipush, sg_ic_eq, sg_ic_ne, sg_iv1_v, sg_istore_3, sg_iload_3, sg_iv2_v, sg_imul, sg_iadd, sg_iastore, sg_goto, sg_dup2, sg_isub, sg_istore, okS_4, stL_4, sg_iinc, ldI_4, sg_iv3_i, nLg_n, nLg_i, nLg_r, tc_c, tc_l, tc_r, tc_m, tc_n, tc_o, tc_0, inR, true_and, and_true, ne_eq, not_true_eq_false, not_false_eq_true, true_imp_iff, false_imp_iff, Int.toNat_natCast, lit_a, Nat.reduceAdd, or_true, true_or, or_false, false_or, Int.reduceEq, Int.reduceNe, Int.reduceLT, Int.reduceLE, Int.reduceNeg, sg_nil, s1p, x510, x511, x512, x513, x514, x515, x516, x517]))
      all_goals (try omega)
      all_goals exact hf
  · have ec : c_putIn z p len = -1 := by unfold c_putIn; rw [if_pos (by omega)]
    rw [ec] at hf
    have hf := hf (by omega)
    refine wp_go b120_11 ?_; simp only [l120_11, sg_if_ne, sg_iconst, sg_iret0, nLg_n, nLg_i, nLg_r, tc_c, tc_l, tc_r, tc_m, tc_n, tc_o, tc_0, inR, true_and, and_true, ne_eq, not_true_eq_false, not_false_eq_true, true_imp_iff, false_imp_iff, Int.toNat_natCast, lit_a, Nat.reduceAdd, or_true, true_or, or_false, false_or, Int.reduceEq, Int.reduceNe, Int.reduceLT, Int.reduceLE, Int.reduceNeg, sg_nil, s1p, x510, x511, x512, x513, x514, x515, x516, x517]
    repeat' (first | with_reducible apply And.intro | (intro _) | ((first | refine wp_go b120_0 ?_ | refine wp_go b120_11 ?_ | refine wp_go b120_16 ?_ | refine wp_go b120_24 ?_ | refine wp_go b120_30 ?_ | refine wp_go b120_52 ?_ | refine wp_go b120_55 ?_ | refine wp_go b120_59 ?_ | refine wp_go b120_71 ?_ | refine wp_go b120_119 ?_ | refine wp_go b120_120 ?_ | refine wp_go b120_158 ?_ | refine wp_go b120_164 ?_ | refine wp_go b120_170 ?_); simp only [l120_0, l120_11, l120_16, l120_24, l120_30, l120_52, l120_55, l120_59, l120_71, l120_119, l120_120, l120_158, l120_164, l120_170, sg_iload_1, sg_iconst, sg_aload_0, sg_getfp, sg_iaload, len4_0, len4_1, len4_2, len4_3, len4_4, sg_is3_1, sg_if_ne, sg_iret0, sg_iload_2, sg_sipush, sg_bipush, sg_ic_eq, sg_ic_ne, sg_iv1_v, sg_istore_3, sg_iload_3, sg_iv2_v, sg_imul, sg_iadd, sg_iastore, sg_goto, sg_dup2, sg_isub, sg_istore, okS_4, stL_4, sg_iinc, ldI_4, sg_iv3_i, nLg_n, nLg_i, nLg_r, tc_c, tc_l, tc_r, tc_m, tc_n, tc_o, tc_0, inR, true_and, and_true, ne_eq, not_true_eq_false, not_false_eq_true, true_imp_iff, false_imp_iff, Int.toNat_natCast, lit_a, Nat.reduceAdd, or_true, true_or, or_false, false_or, Int.reduceEq, Int.reduceNe, Int.reduceLT, Int.reduceLE, Int.reduceNeg, sg_nil, s1p, x510, x511, x512, x513, x514, x515, x516, x517]))
    all_goals (try omega)
    all_goals exact hf
def dinR (z w : Rw) (s i m : Nat) : Prop := (∀ k, k < 4 ∨ 196 ≤ k → w k = z k) ∧ (∀ x, x < s → SE w x z x) ∧ (∀ x, s ≤ x → x < i → SE w x z (x + 1)) ∧ ∀ x, i < x → x ≤ m → SE w x z x
theorem din_s {z w : Rw} {s i m : Nat} (hs : s ≤ i) (hi : i < m) (hm : m < 24) (H : dinR z w s i m) : dinR z (xsZ w i) s (i + 1) m := by
  obtain ⟨gh, ga, gb, gc⟩ := H
  have h1 : i + 1 < 24 := by omega
  refine ⟨fun k hk => (xs_o h1 hk).trans (gh k hk), fun x hx => SE_t (xs_n h1 (by omega) (by omega) (by omega)) (ga x hx), fun x x1 x2 => ?_, fun x x1 x2 => SE_t (xs_n h1 (by omega) (by omega) (by omega)) (gc x (by omega) x2)⟩
  rcases Nat.lt_or_ge x i with h | h
  · exact SE_t (xs_n h1 (by omega) (by omega) (by omega)) (gb x x1 h)
  · have : x = i := by omega
    subst this
    exact SE_t (xs_1 h1) (gc (x + 1) (by omega) (by omega))
-- Mo.cutOut: blocks [0, 5, 10, 23, 27, 33, 36, 53, 59, 79]
theorem k_Mo_cutOut {d : Nat} {Q : QT} {μ : Mem} {s : Int} {z : Rw} {a : Hs} (hM : μ 511 = z) (hz : IZ z) (hI : IR z) (hC : CRm a μ) (hs : inR s) (hf : c_cutOut z s < 0 → Q (.inl (c_cutOut z s)) μ)
    (hq : c_cutOut z s = 0 → ∀ μ', PG (fun w => delR z w s.toNat (zn z - 1)) (hsPush a z) μ μ' → Q (.inl (z (4 + 3 * s.toNat))) μ') : Call σ1 (d + 3) 121 [.inr (.inr 510), .inl s] μ Q := by
  refine e_121 ?_
  have q := hz.1
  obtain ⟨z0, n1, n24⟩ := zn_eq hz
  generalize hnn : zn z = n at *
  refine wp_go b121_0 ?_; simp only [l121_0, sg_aload_0, sg_iload_1, sg_iv2_i, len4_0, len4_1, len4_2, len4_3, len4_4, nLg_n, nLg_i, nLg_r, tc_c, tc_l, tc_r, tc_m, tc_n, tc_o, tc_0, inR, true_and, and_true, ne_eq, not_true_eq_false, not_false_eq_true, true_imp_iff, false_imp_iff, Int.toNat_natCast, lit_a, Nat.reduceAdd, or_true, true_or, or_false, false_or, Int.reduceEq, Int.reduceNe, Int.reduceLT, Int.reduceLE, Int.reduceNeg, sg_nil, s1p, x510, x511, x512, x513, x514, x515, x516, x517]
  refine k_Mo_isSentence hM hz hs (fun h1 h2 => ?_) (fun h0 => ?_)
  · obtain ⟨s, rfl⟩ := nat_of h1
    by_cases g1 : z 0 = 1
    · have ec : c_cutOut z (s : Int) = -5 := by unfold c_cutOut; rw [if_neg (by omega), if_pos g1]
      rw [ec] at hf
      have hf := hf (by omega)
      refine wp_go b121_5 ?_; simp only [l121_5, sg_if_ne, sg_iconst, sg_iret0, nLg_n, nLg_i, nLg_r, tc_c, tc_l, tc_r, tc_m, tc_n, tc_o, tc_0, inR, true_and, and_true, ne_eq, not_true_eq_false, not_false_eq_true, true_imp_iff, false_imp_iff, Int.toNat_natCast, lit_a, Nat.reduceAdd, or_true, true_or, or_false, false_or, Int.reduceEq, Int.reduceNe, Int.reduceLT, Int.reduceLE, Int.reduceNeg, sg_nil, s1p, x510, x511, x512, x513, x514, x515, x516, x517]
      repeat' (first | with_reducible apply And.intro | intro _)
      all_goals (try omega)
      refine wp_go b121_10 ?_; simp only [l121_10, sg_aload_0, sg_getfp, sg_iconst, sg_iaload, sg_ic_ne, sg_bipush, sg_iret0, nLg_n, nLg_i, nLg_r, tc_c, tc_l, tc_r, tc_m, tc_n, tc_o, tc_0, inR, true_and, and_true, ne_eq, not_true_eq_false, not_false_eq_true, true_imp_iff, false_imp_iff, Int.toNat_natCast, lit_a, Nat.reduceAdd, or_true, true_or, or_false, false_or, Int.reduceEq, Int.reduceNe, Int.reduceLT, Int.reduceLE, Int.reduceNeg, sg_nil, s1p, x510, x511, x512, x513, x514, x515, x516, x517, hM, g1, Int.toNat_zero]
      repeat' (first | with_reducible apply And.intro | (intro _) | ((first | refine wp_go b121_0 ?_ | refine wp_go b121_5 ?_ | refine wp_go b121_10 ?_ | refine wp_go b121_23 ?_ | refine wp_go b121_27 ?_ | refine wp_go b121_33 ?_ | refine wp_go b121_53 ?_ | refine wp_go b121_59 ?_ | refine wp_go b121_79 ?_); simp only [l121_0, l121_5, l121_10, l121_23, l121_27, l121_33, l121_53, l121_59, l121_79, sg_aload_0, sg_iload_1, sg_iv2_i, len4_0, len4_1, len4_2, len4_3, len4_4, sg_if_ne, sg_iconst, sg_iret0, sg_getfp, sg_iaload, sg_ic_ne, sg_bipush, sg_iv1_v, sg_iv3_i, sg_istore_2, sg_istore_3, sg_iinc, ldI_3, okS_3, stL_3, sg_goto, sg_dup2, sg_isub, sg_iastore, sg_iv2_v, sg_iload_2, nLg_n, nLg_i, nLg_r, tc_c, tc_l, tc_r, tc_m, tc_n, tc_o, tc_0, inR, true_and, and_true, ne_eq, not_true_eq_false, not_false_eq_true, true_imp_iff, false_imp_iff, Int.toNat_natCast, lit_a, Nat.reduceAdd, or_true, true_or, or_false, false_or, Int.reduceEq, Int.reduceNe, Int.reduceLT, Int.reduceLE, Int.reduceNeg, sg_nil, s1p, x510, x511, x512, x513, x514, x515, x516, x517]))
      all_goals (try omega)
      all_goals exact hf
    · have ec : c_cutOut z (s : Int) = 0 := by unfold c_cutOut; rw [if_neg (by omega), if_neg g1]
      have hq := hq ec
      rw [Int.toNat_natCast] at hq
      obtain ⟨m, rfl⟩ : ∃ m, n = m + 1 := ⟨n - 1, by omega⟩
      rw [show m + 1 - 1 = m by omega] at hq
      refine wp_go b121_5 ?_; simp only [l121_5, sg_if_ne, sg_iconst, sg_iret0, nLg_n, nLg_i, nLg_r, tc_c, tc_l, tc_r, tc_m, tc_n, tc_o, tc_0, inR, true_and, and_true, ne_eq, not_true_eq_false, not_false_eq_true, true_imp_iff, false_imp_iff, Int.toNat_natCast, lit_a, Nat.reduceAdd, or_true, true_or, or_false, false_or, Int.reduceEq, Int.reduceNe, Int.reduceLT, Int.reduceLE, Int.reduceNeg, sg_nil, s1p, x510, x511, x512, x513, x514, x515, x516, x517]
      repeat' (first | with_reducible apply And.intro | intro _)
      all_goals (try omega)
      refine wp_go b121_10 ?_; simp only [l121_10, sg_aload_0, sg_getfp, sg_iconst, sg_iaload, sg_ic_ne, sg_bipush, sg_iret0, nLg_n, nLg_i, nLg_r, tc_c, tc_l, tc_r, tc_m, tc_n, tc_o, tc_0, inR, true_and, and_true, ne_eq, not_true_eq_false, not_false_eq_true, true_imp_iff, false_imp_iff, Int.toNat_natCast, lit_a, Nat.reduceAdd, or_true, true_or, or_false, false_or, Int.reduceEq, Int.reduceNe, Int.reduceLT, Int.reduceLE, Int.reduceNeg, sg_nil, s1p, x510, x511, x512, x513, x514, x515, x516, x517, hM, z0, Int.toNat_zero]
      repeat' (first | with_reducible apply And.intro | intro _)
      all_goals (try omega)
      refine wp_go b121_23 ?_; simp only [l121_23, sg_aload_0, sg_iv1_v, len4_0, len4_1, len4_2, len4_3, len4_4, nLg_n, nLg_i, nLg_r, tc_c, tc_l, tc_r, tc_m, tc_n, tc_o, tc_0, inR, true_and, and_true, ne_eq, not_true_eq_false, not_false_eq_true, true_imp_iff, false_imp_iff, Int.toNat_natCast, lit_a, Nat.reduceAdd, or_true, true_or, or_false, false_or, Int.reduceEq, Int.reduceNe, Int.reduceLT, Int.reduceLE, Int.reduceNeg, sg_nil, s1p, x510, x511, x512, x513, x514, x515, x516, x517]
      refine k_Mo_rec hM hI hC (fun μ1 f1 C1 => ?_)
      have M1 : μ1 511 = z := by rw [f1 511 (by omega) (by omega)]; exact hM
      refine wp_go b121_27 ?_; simp only [l121_27, sg_aload_0, sg_iload_1, sg_iconst, sg_iv3_i, len4_0, len4_1, len4_2, len4_3, len4_4, nLg_n, nLg_i, nLg_r, tc_c, tc_l, tc_r, tc_m, tc_n, tc_o, tc_0, inR, true_and, and_true, ne_eq, not_true_eq_false, not_false_eq_true, true_imp_iff, false_imp_iff, Int.toNat_natCast, lit_a, Nat.reduceAdd, or_true, true_or, or_false, false_or, Int.reduceEq, Int.reduceNe, Int.reduceLT, Int.reduceLE, Int.reduceNeg, sg_nil, s1p, x510, x511, x512, x513, x514, x515, x516, x517]
      refine k_Mo_its (s := s) (w := 0) M1 (by omega) (by omega) ?_
      have loop : ∀ k i : Nat, i + k = m → s ≤ i → ∀ (μ2 : Mem), (∀ k, k ≠ 511 → μ2 k = μ1 k) → dinR z (μ2 511) s i m → IR (μ2 511) → wp σ1 (Call σ1 (d + 2)) 121 Q 36 [some (.inr (.inr 510)), some (.inl (s : Int)), some (.inl (z (4 + 3 * s))), some (.inl (i : Int))] [] μ2 := by
        intro k
        induction k with
        | zero =>
          intro i hi hsi μ2 f2 D2 I2
          have hin : i = m := by omega
          subst hin
          obtain ⟨gh, ga, gb, gc⟩ := D2
          have e0 : μ2 511 0 = ((i + 1 : Nat) : Int) := (gh 0 (by omega)).trans z0
          have e7 : ((i + 1 : Nat) : Int) - 1 = (i : Int) := by omega
          have e1 : ms μ2 511 0 (i : Int) 511 0 = (i : Int) := by simp [ms_at]
          refine wp_go b121_36 ?_; simp only [l121_36, sg_iload_3, sg_iconst, sg_iadd, sg_aload_0, sg_getfp, sg_iaload, sg_ic_ge, sg_iv2_v, len4_0, len4_1, len4_2, len4_3, len4_4, nLg_n, nLg_i, nLg_r, tc_c, tc_l, tc_r, tc_m, tc_n, tc_o, tc_0, inR, true_and, and_true, ne_eq, not_true_eq_false, not_false_eq_true, true_imp_iff, false_imp_iff, Int.toNat_natCast, lit_a, Nat.reduceAdd, or_true, true_or, or_false, false_or, Int.reduceEq, Int.reduceNe, Int.reduceLT, Int.reduceLE, Int.reduceNeg, sg_nil, s1p, x510, x511, x512, x513, x514, x515, x516, x517, e0, Int.toNat_zero]
          repeat' (first | with_reducible apply And.intro | intro _)
          all_goals (try omega)
          refine wp_go b121_59 ?_; simp only [l121_59, sg_aload_0, sg_getfp, sg_iconst, sg_dup2, sg_iaload, sg_isub, sg_iastore, sg_iv2_v, len4_0, len4_1, len4_2, len4_3, len4_4, nLg_n, nLg_i, nLg_r, tc_c, tc_l, tc_r, tc_m, tc_n, tc_o, tc_0, inR, true_and, and_true, ne_eq, not_true_eq_false, not_false_eq_true, true_imp_iff, false_imp_iff, Int.toNat_natCast, lit_a, Nat.reduceAdd, or_true, true_or, or_false, false_or, Int.reduceEq, Int.reduceNe, Int.reduceLT, Int.reduceLE, Int.reduceNeg, sg_nil, s1p, x510, x511, x512, x513, x514, x515, x516, x517, e0, e1, e7, Int.toNat_zero]
          repeat' (first | with_reducible apply And.intro | intro _)
          all_goals (try omega)
          refine k_Mo_clearSentence (z := uz (μ2 511) 0 (i : Int)) (by funext x; simp only [ms_at, true_and, uz_at]) (by omega) (fun μ3 f3 M3 => ?_)
          have lz : ∀ k, k ≠ 0 → (k < 4 + 3 * i ∨ 7 + 3 * i ≤ k) → (k < 76 + 5 * i ∨ 81 + 5 * i ≤ k) → k ≠ 6 → ms μ3 511 6 1 511 k = μ2 511 k := fun k k0 k1 k2 k3 => by
            simp only [ms_at, true_and]; rw [if_neg k3, M3]; unfold clZ; rw [if_neg (by omega)]; exact uz_o _ _ k0
          have hq := hq (ms μ3 511 6 1) ⟨fun k hk => by rw [← f1 k (by omega) (by omega), ← f2 k (by omega)]; have := f3 k (by omega); rw [show ms μ3 511 6 1 k = μ3 k from by funext j; simp only [ms_at]; (repeat (first | rw [if_neg (by omega)] | rw [if_pos (by omega)])), this]; funext j; simp only [ms_at]; (repeat (first | rw [if_neg (by omega)] | rw [if_pos (by omega)])), by
            refine ⟨?_, fun k hk => (lz k (by omega) (by omega) (by omega) (by omega)).trans (gh k (by omega)), by simp [ms_at], fun x hx => ?_⟩
            · simp only [ms_at, true_and]; rw [if_neg (by omega), M3]; unfold clZ; rw [if_neg (by omega)]; exact uz_s _ _ _
            · have hse : SE (μ2 511) x z (if x < s then x else x + 1) := by
                by_cases hxs : x < s
                · rw [if_pos hxs]; exact ga x hxs
                · rw [if_neg hxs]; exact gb x (by omega) hx
              obtain ⟨c1, c2, c3, c4, c5⟩ := hse
              exact ⟨(lz _ (by omega) (by omega) (by omega) (by omega)).trans c1, (lz _ (by omega) (by omega) (by omega) (by omega)).trans c2, fun hx0 => (lz _ (by omega) (by omega) (by omega) (by omega)).trans c3, (lz _ (by omega) (by omega) (by omega) (by omega)).trans c4, fun j hj => (lz _ (by omega) (by omega) (by omega) (by omega)).trans (c5 j hj)⟩, by
            intro k hk
            have ic := IR_cl (s := i) (IR_uz (k := 0) (v := (i : Int)) I2 (by unfold inR; omega)) k hk
            simp only [ms_at, true_and]
            by_cases k6 : k = 6
            · rw [if_pos k6]; unfold inR; omega
            · rw [if_neg k6, M3]; exact ic, CRm_1 (fun k h1 _ => by rw [show ms μ3 511 6 1 k = μ3 k from by funext j; simp only [ms_at]; (repeat (first | rw [if_neg (by omega)] | rw [if_pos (by omega)])), f3 k h1, ← f2 k h1]; funext j; simp only [ms_at]; (repeat (first | rw [if_neg (by omega)] | rw [if_pos (by omega)]))) C1⟩
          refine wp_go b121_79 ?_; simp only [l121_79, sg_aload_0, sg_getfp, sg_bipush, sg_iconst, sg_iastore, sg_iload_2, sg_iret0, nLg_n, nLg_i, nLg_r, tc_c, tc_l, tc_r, tc_m, tc_n, tc_o, tc_0, inR, true_and, and_true, ne_eq, not_true_eq_false, not_false_eq_true, true_imp_iff, false_imp_iff, Int.toNat_natCast, lit_a, Nat.reduceAdd, or_true, true_or, or_false, false_or, Int.reduceEq, Int.reduceNe, Int.reduceLT, Int.reduceLE, Int.reduceNeg, sg_nil, s1p, x510, x511, x512, x513, x514, x515, x516, x517, Int.reduceToNat]
          repeat' (first | with_reducible apply And.intro | intro _)
          all_goals (try omega)
        | succ k ih =>
          intro i hi hsi μ2 f2 D2 I2
          have e0 : μ2 511 0 = ((m + 1 : Nat) : Int) := (D2.1 0 (by omega)).trans z0
          refine wp_go b121_36 ?_; simp only [l121_36, sg_iload_3, sg_iconst, sg_iadd, sg_aload_0, sg_getfp, sg_iaload, sg_ic_ge, sg_iv2_v, len4_0, len4_1, len4_2, len4_3, len4_4, nLg_n, nLg_i, nLg_r, tc_c, tc_l, tc_r, tc_m, tc_n, tc_o, tc_0, inR, true_and, and_true, ne_eq, not_true_eq_false, not_false_eq_true, true_imp_iff, false_imp_iff, Int.toNat_natCast, lit_a, Nat.reduceAdd, or_true, true_or, or_false, false_or, Int.reduceEq, Int.reduceNe, Int.reduceLT, Int.reduceLE, Int.reduceNeg, sg_nil, s1p, x510, x511, x512, x513, x514, x515, x516, x517, e0, Int.toNat_zero]
          repeat' (first | with_reducible apply And.intro | intro _)
          all_goals (try omega)
          refine k_Mo_exchangeSentences rfl (by omega) (fun μ3 f3 M3 => ?_)
          have ih1 := ih (i + 1) (by omega) (by omega) μ3 (fun k hk => (f3 k hk).trans (f2 k hk)) (by rw [M3]; exact din_s hsi (by omega) (by omega) D2) (by rw [M3]; exact IR_xs I2 (by omega))
          refine wp_go b121_53 ?_; simp only [l121_53, sg_iinc, ldI_3, okS_3, stL_3, sg_goto, nLg_n, nLg_i, nLg_r, tc_c, tc_l, tc_r, tc_m, tc_n, tc_o, tc_0, inR, true_and, and_true, ne_eq, not_true_eq_false, not_false_eq_true, true_imp_iff, false_imp_iff, Int.toNat_natCast, lit_a, Nat.reduceAdd, or_true, true_or, or_false, false_or, Int.reduceEq, Int.reduceNe, Int.reduceLT, Int.reduceLE, Int.reduceNeg, sg_nil, s1p, x510, x511, x512, x513, x514, x515, x516, x517]
          repeat' (first | with_reducible apply And.intro | intro _)
          all_goals (try omega)
      have st := loop (m - s) s (by omega) (by omega) μ1 (fun _ _ => rfl) (by rw [M1]; exact ⟨fun _ _ => rfl, fun _ _ => ⟨rfl, rfl, rfl, rfl, fun _ _ => rfl⟩, fun x h1 h2 => absurd h1 (by omega), fun _ _ _ => ⟨rfl, rfl, rfl, rfl, fun _ _ => rfl⟩⟩) (by rw [M1]; exact hI)
      refine wp_go b121_33 ?_; simp only [l121_33, sg_istore_2, sg_iload_1, sg_istore_3, nLg_n, nLg_i, nLg_r, tc_c, tc_l, tc_r, tc_m, tc_n, tc_o, tc_0, inR, true_and, and_true, ne_eq, not_true_eq_false, not_false_eq_true, true_imp_iff, false_imp_iff, Int.toNat_natCast, lit_a, Nat.reduceAdd, or_true, true_or, or_false, false_or, Int.reduceEq, Int.reduceNe, Int.reduceLT, Int.reduceLE, Int.reduceNeg, sg_nil, s1p, x510, x511, x512, x513, x514, x515, x516, x517]
      exact st
  · have ec : c_cutOut z s = -1 := by unfold c_cutOut; rw [if_pos (by omega)]
    rw [ec] at hf
    have hf := hf (by omega)
    refine wp_go b121_5 ?_; simp only [l121_5, sg_if_ne, sg_iconst, sg_iret0, nLg_n, nLg_i, nLg_r, tc_c, tc_l, tc_r, tc_m, tc_n, tc_o, tc_0, inR, true_and, and_true, ne_eq, not_true_eq_false, not_false_eq_true, true_imp_iff, false_imp_iff, Int.toNat_natCast, lit_a, Nat.reduceAdd, or_true, true_or, or_false, false_or, Int.reduceEq, Int.reduceNe, Int.reduceLT, Int.reduceLE, Int.reduceNeg, sg_nil, s1p, x510, x511, x512, x513, x514, x515, x516, x517]
    repeat' (first | with_reducible apply And.intro | (intro _) | ((first | refine wp_go b121_0 ?_ | refine wp_go b121_5 ?_ | refine wp_go b121_10 ?_ | refine wp_go b121_23 ?_ | refine wp_go b121_27 ?_ | refine wp_go b121_33 ?_ | refine wp_go b121_53 ?_ | refine wp_go b121_59 ?_ | refine wp_go b121_79 ?_); simp only [l121_0, l121_5, l121_10, l121_23, l121_27, l121_33, l121_53, l121_59, l121_79, sg_aload_0, sg_iload_1, sg_iv2_i, len4_0, len4_1, len4_2, len4_3, len4_4, sg_if_ne, sg_iconst, sg_iret0, sg_getfp, sg_iaload, sg_ic_ne, sg_bipush, sg_iv1_v, sg_iv3_i, sg_istore_2, sg_istore_3, sg_iinc, ldI_3, okS_3, stL_3, sg_goto, sg_dup2, sg_isub, sg_iastore, sg_iv2_v, sg_iload_2, nLg_n, nLg_i, nLg_r, tc_c, tc_l, tc_r, tc_m, tc_n, tc_o, tc_0, inR, true_and, and_true, ne_eq, not_true_eq_false, not_false_eq_true, true_imp_iff, false_imp_iff, Int.toNat_natCast, lit_a, Nat.reduceAdd, or_true, true_or, or_false, false_or, Int.reduceEq, Int.reduceNe, Int.reduceLT, Int.reduceLE, Int.reduceNeg, sg_nil, s1p, x510, x511, x512, x513, x514, x515, x516, x517]))
    all_goals (try omega)
    all_goals exact hf
