-- Sta.removeSentence: blocks [0, 15, 34, 40]
theorem k_Sta_removeSentence {σ : Sg} {d : Nat} {Q : QT} {μ : Mem} {S m s : Nat} (hS : iSta σ S) (hn : μ (S + 1) 3 = ((m + 1 : Nat) : Int)) (hn2 : m < 24) (hp : s ≤ m)
    (hq : ∀ μ' : Mem, (∀ k, (k < S + 1 ∨ S + 6 < k) → μ' k = μ k) → μ' (S + 1) 3 = (m : Int) →
      (∀ k x, S + 2 ≤ k → k ≤ S + 5 → (k ≠ S + 4 ∨ x ≠ 0) → x < m → μ' k x = if x < s then μ k x else μ k (x + 1)) → μ' (S + 4) 0 = 1 →
      (∀ x j, j < 4 → x < m → μ' (S + 6) (4 * x + j) = if x < s then μ (S + 6) (4 * x + j) else μ (S + 6) (4 * (x + 1) + j)) → Q (.inl 0) μ') : Call σ (d + 2) 36 [.inr (.inr S), .inl (s : Int)] μ Q := by
  refine e_36 ?_
  obtain ⟨t0, t1, t2, t3, t4, t5, t6, t7, t8, t9, t10, t11, t12, u0, u1, u2, u3, u4, u5, u6, u7, u8, u9, u10, u11⟩ := staF hS
  have loop : ∀ k i : Nat, i + k = m → s ≤ i → ∀ μ1 : Mem, (∀ k, (k < S + 1 ∨ S + 6 < k) → μ1 k = μ k) → μ1 (S + 1) 3 = (m : Int) → (∀ k x, S + 2 ≤ k → k ≤ S + 5 → μ1 k x = if s ≤ x ∧ x < i then μ k (x + 1) else μ k x) → (∀ x j, j < 4 → μ1 (S + 6) (4 * x + j) = if s ≤ x ∧ x < i then μ (S + 6) (4 * (x + 1) + j) else μ (S + 6) (4 * x + j)) →
      wp σ (Call σ (d + 1)) 36 Q 15 [some (.inr (.inr S)), some (.inl (s : Int)), some (.inl (i : Int))] [] μ1 := by
    intro k
    induction k with
    | zero =>
      intro i hi hsi μ1 f1 g1 c1 r1
      have him : i = m := by omega
      subst him
      refine wp_go b36_15 ?_; simp only [l36_15, sg_iload_2, sg_aload_0, sg_getfp, sg_getf0, sg_ic_ge, sg_iconst, sg_iadd, sg_iv3_v, len4_0, len4_1, len4_2, len4_3, len4_4, nLg_n, nLg_i, nLg_r, tc_c, tc_l, tc_r, tc_m, tc_n, tc_o, tc_0, inR, true_and, and_true, ne_eq, not_true_eq_false, not_false_eq_true, true_imp_iff, false_imp_iff, Int.toNat_natCast, lit_a, Nat.reduceAdd, or_true, true_or, or_false, false_or, Int.reduceEq, Int.reduceNe, Int.reduceLT, Int.reduceLE, Int.reduceNeg, sg_nil, t0, t1, t2, t3, t4, t5, t6, t7, t8, t9, t10, t11, t12, u0, u1, u2, u3, u4, u5, u6, u7, u8, u9, u10, u11, g1]
      repeat' (first | with_reducible apply And.intro | (intro _) | ((first | refine wp_go b36_0 ?_ | refine wp_go b36_34 ?_ | refine wp_go b36_40 ?_); simp only [l36_0, l36_34, l36_40, sg_aload_0, sg_getfp, sg_dup_i, sg_dup_r, sg_getf0, sg_iconst, sg_isub, sg_putf0, sg_iload_1, sg_istore_2, sg_iinc, ldI_2, okS_2, stL_2, sg_goto, sg_iastore, sg_ret, nLg_n, nLg_i, nLg_r, tc_c, tc_l, tc_r, tc_m, tc_n, tc_o, tc_0, inR, true_and, and_true, ne_eq, not_true_eq_false, not_false_eq_true, true_imp_iff, false_imp_iff, Int.toNat_natCast, lit_a, Nat.reduceAdd, or_true, true_or, or_false, false_or, Int.reduceEq, Int.reduceNe, Int.reduceLT, Int.reduceLE, Int.reduceNeg, sg_nil, t0, t1, t2, t3, t4, t5, t6, t7, t8, t9, t10, t11, t12, u0, u1, u2, u3, u4, u5, u6, u7, u8, u9, u10, u11, ms_at, false_and, and_false, if_false, if_true, and_self, Nat.reduceEqDiff, ne_a, ne_b, Nat.add_left_cancel_iff, Int.toNat_zero]))
      all_goals (try omega)
      refine hq _ (fun k hk => ?_) ?_ (fun k x h1 h2 h3 hx => ?_) ?_ (fun x j hj hx => ?_)
      · funext j
        simp only [ms_at]
        (repeat (first | rw [if_neg (by omega)] | rw [if_pos (by omega)]))
        rw [f1 k (by omega)]
      · simp only [ms_at]
        (repeat (first | rw [if_neg (by omega)] | rw [if_pos (by omega)]))
        exact g1
      · simp only [ms_at]
        rw [if_neg (by omega), c1 k x h1 h2]
        by_cases h : x < s
        · rw [if_pos h, if_neg (by omega)]
        · rw [if_neg h, if_pos (by omega)]
      · simp [ms_at]
      · simp only [ms_at]
        rw [if_neg (by omega), r1 x j hj]
        by_cases h : x < s
        · rw [if_pos h, if_neg (by omega)]
        · rw [if_neg h, if_pos (by omega)]
    | succ k ih =>
      intro i hi hsi μ1 f1 g1 c1 r1
      refine wp_go b36_15 ?_; simp only [l36_15, sg_iload_2, sg_aload_0, sg_getfp, sg_getf0, sg_ic_ge, sg_iconst, sg_iadd, sg_iv3_v, len4_0, len4_1, len4_2, len4_3, len4_4, nLg_n, nLg_i, nLg_r, tc_c, tc_l, tc_r, tc_m, tc_n, tc_o, tc_0, inR, true_and, and_true, ne_eq, not_true_eq_false, not_false_eq_true, true_imp_iff, false_imp_iff, Int.toNat_natCast, lit_a, Nat.reduceAdd, or_true, true_or, or_false, false_or, Int.reduceEq, Int.reduceNe, Int.reduceLT, Int.reduceLE, Int.reduceNeg, sg_nil, t0, t1, t2, t3, t4, t5, t6, t7, t8, t9, t10, t11, t12, u0, u1, u2, u3, u4, u5, u6, u7, u8, u9, u10, u11, g1]
      repeat' (first | with_reducible apply And.intro | intro _)
      all_goals (try omega)
      refine k_Sta_moveSentence hS (by omega) (by omega) (fun μ2 f2 c2 r2 => ?_)
      have ih1 := ih (i + 1) (by omega) (by omega) μ2 (fun k hk => (f2 k (by omega)).trans (f1 k hk)) (by rw [f2 (S + 1) (by omega)]; exact g1) (fun k x h1 h2 => ?_) (fun x j hj => ?_)
      · refine wp_go b36_34 ?_; simp only [l36_34, sg_iinc, ldI_2, okS_2, stL_2, sg_goto, nLg_n, nLg_i, nLg_r, tc_c, tc_l, tc_r, tc_m, tc_n, tc_o, tc_0, inR, true_and, and_true, ne_eq, not_true_eq_false, not_false_eq_true, true_imp_iff, false_imp_iff, Int.toNat_natCast, lit_a, Nat.reduceAdd, or_true, true_or, or_false, false_or, Int.reduceEq, Int.reduceNe, Int.reduceLT, Int.reduceLE, Int.reduceNeg, sg_nil]
        repeat' (first | with_reducible apply And.intro | (intro _) | ((first | refine wp_go b36_0 ?_ | refine wp_go b36_34 ?_ | refine wp_go b36_40 ?_); simp only [l36_0, l36_34, l36_40, sg_aload_0, sg_getfp, sg_dup_i, sg_dup_r, sg_getf0, sg_iconst, sg_isub, sg_putf0, sg_iload_1, sg_istore_2, sg_iinc, ldI_2, okS_2, stL_2, sg_goto, sg_iastore, sg_ret, nLg_n, nLg_i, nLg_r, tc_c, tc_l, tc_r, tc_m, tc_n, tc_o, tc_0, inR, true_and, and_true, ne_eq, not_true_eq_false, not_false_eq_true, true_imp_iff, false_imp_iff, Int.toNat_natCast, lit_a, Nat.reduceAdd, or_true, true_or, or_false, false_or, Int.reduceEq, Int.reduceNe, Int.reduceLT, Int.reduceLE, Int.reduceNeg, sg_nil]))
        all_goals (try omega)
        all_goals exact ih1
      · rw [c2 k x h1 h2]
        by_cases hxi : x = i
        · subst hxi
          rw [if_pos rfl, c1 k (x + 1) h1 h2]
          (repeat (first | rw [if_neg (by omega)] | rw [if_pos (by omega)]))
        · rw [if_neg hxi, c1 k x h1 h2]
          by_cases h : s ≤ x ∧ x < i
          · rw [if_pos h, if_pos (by omega)]
          · rw [if_neg h, if_neg (by omega)]
      · rw [r2 x j hj]
        by_cases hxi : x = i
        · subst hxi
          rw [if_pos rfl, r1 (x + 1) j hj]
          (repeat (first | rw [if_neg (by omega)] | rw [if_pos (by omega)]))
        · rw [if_neg hxi, r1 x j hj]
          by_cases h : s ≤ x ∧ x < i
          · rw [if_pos h, if_pos (by omega)]
          · rw [if_neg h, if_neg (by omega)]
  refine wp_go b36_0 ?_; simp only [l36_0, sg_aload_0, sg_getfp, sg_dup_i, sg_dup_r, sg_getf0, sg_iconst, sg_isub, sg_putf0, sg_iload_1, sg_istore_2, nLg_n, nLg_i, nLg_r, tc_c, tc_l, tc_r, tc_m, tc_n, tc_o, tc_0, inR, true_and, and_true, ne_eq, not_true_eq_false, not_false_eq_true, true_imp_iff, false_imp_iff, Int.toNat_natCast, lit_a, Nat.reduceAdd, or_true, true_or, or_false, false_or, Int.reduceEq, Int.reduceNe, Int.reduceLT, Int.reduceLE, Int.reduceNeg, sg_nil, t0, t1, t2, t3, t4, t5, t6, t7, t8, t9, t10, t11, t12, u0, u1, u2, u3, u4, u5, u6, u7, u8, u9, u10, u11, hn]
  repeat' (first | with_reducible apply And.intro | (intro _) | ((first | refine wp_go b36_0 ?_ | refine wp_go b36_34 ?_ | refine wp_go b36_40 ?_); simp only [l36_0, l36_34, l36_40, sg_aload_0, sg_getfp, sg_dup_i, sg_dup_r, sg_getf0, sg_iconst, sg_isub, sg_putf0, sg_iload_1, sg_istore_2, sg_iinc, ldI_2, okS_2, stL_2, sg_goto, sg_iastore, sg_ret, nLg_n, nLg_i, nLg_r, tc_c, tc_l, tc_r, tc_m, tc_n, tc_o, tc_0, inR, true_and, and_true, ne_eq, not_true_eq_false, not_false_eq_true, true_imp_iff, false_imp_iff, Int.toNat_natCast, lit_a, Nat.reduceAdd, or_true, true_or, or_false, false_or, Int.reduceEq, Int.reduceNe, Int.reduceLT, Int.reduceLE, Int.reduceNeg, sg_nil]))
  all_goals (try omega)
  refine loop (m - s) s (by omega) (Nat.le_refl s) _ (fun k hk => ?_) ?_ (fun k x _ _ => ?_) (fun x j _ => ?_)
  · funext j; simp only [ms_at]; (repeat (first | rw [if_neg (by omega)] | rw [if_pos (by omega)]))
  · simp [ms_at]
  · simp only [ms_at]; (repeat (first | rw [if_neg (by omega)] | rw [if_pos (by omega)]))
  · simp only [ms_at]; (repeat (first | rw [if_neg (by omega)] | rw [if_pos (by omega)]))
-- Sta.copyFrom: blocks [0, 11, 127, 171, 177]
theorem k_Sta_copyFrom {σ : Sg} {d : Nat} {Q : QT} {μ : Mem} {S o : Nat} {z : Rw} (hS : iSta σ S) (hO : iSta σ o) (hd : S + 55 ≤ o ∨ o + 55 ≤ S) (hz : IZ z) (hR : RC z μ o)
    (hq : ∀ μ' : Mem, (∀ k, (k < S ∨ S + 55 ≤ k) → μ' k = μ k) → RC z μ' S → Q (.inl 0) μ') : Call σ (d + 3) 38 [.inr (.inr S), .inr (.inr o)] μ Q := by
  refine e_38 ?_
  obtain ⟨t0, t1, t2, t3, t4, t5, t6, t7, t8, t9, t10, t11, t12, u0, u1, u2, u3, u4, u5, u6, u7, u8, u9, u10, u11⟩ := staF hS
  obtain ⟨v0, v1, v2, v3, v4, v5, v6, v7, v8, v9, v10, v11, v12, w0, w1, w2, w3, w4, w5, w6, w7, w8, w9, w10, w11⟩ := staF hO
  have q := hz.1
  obtain ⟨n, hn⟩ := nat_of (show 0 ≤ z 0 by omega)
  obtain ⟨nl, hnl⟩ := nat_of (show 0 ≤ z 3 by omega)
  refine wp_go b38_0 ?_; simp only [l38_0, sg_aload_0, sg_getfp, sg_aload_1, sg_iv2_v, len4_0, len4_1, len4_2, len4_3, len4_4, nLg_n, nLg_i, nLg_r, tc_c, tc_l, tc_r, tc_m, tc_n, tc_o, tc_0, inR, true_and, and_true, ne_eq, not_true_eq_false, not_false_eq_true, true_imp_iff, false_imp_iff, Int.toNat_natCast, lit_a, Nat.reduceAdd, or_true, true_or, or_false, false_or, Int.reduceEq, Int.reduceNe, Int.reduceLT, Int.reduceLE, Int.reduceNeg, sg_nil, t0, t1, t2, t3, t4, t5, t6, t7, t8, t9, t10, t11, t12, u0, u1, u2, u3, u4, u5, u6, u7, u8, u9, u10, u11, v0, v1, v2, v3, v4, v5, v6, v7, v8, v9, v10, v11, v12, w0, w1, w2, w3, w4, w5, w6, w7, w8, w9, w10, w11]
  refine k_Sen_copyFrom hS.2.1 hO.2.1 (by omega) (n := n) (by have := hR.1.1; omega) (by omega) (fun μ1 f1 n1 c1 => ?_)
  have R1 : RC z μ1 o := RC_f (by omega) (fun k h1 h2 => f1 k (by omega)) hR
  obtain ⟨⟨d0, d1, d2, d3⟩, ds, dn, dl⟩ := id R1
  have loop : ∀ (μ2 : Mem), (∀ k, (k < S ∨ S + 55 ≤ k) → μ2 k = μ1 k) → μ2 S 11 = (nl : Int) → ∀ k i : Nat, i + k = nl → ∀ μ3 : Mem, (∀ k, k ≠ S + 11 → (k < S + 13 ∨ S + 55 ≤ k) → μ3 k = μ2 k) → (∀ l, l < i → μ3 (S + 11) l = z (214 + 3 * l) ∧ (z (214 + 3 * l) = 1 → HR (fw z l) μ3 (S + 13 + 7 * l))) →
      (∀ μ' : Mem, (∀ k, k ≠ S + 11 → (k < S + 13 ∨ S + 55 ≤ k) → μ' k = μ2 k) → (∀ l, l < nl → μ' (S + 11) l = z (214 + 3 * l) ∧ (z (214 + 3 * l) = 1 → HR (fw z l) μ' (S + 13 + 7 * l))) → Q (.inl 0) μ') →
      wp σ (Call σ (d + 2)) 38 Q 127 [some (.inr (.inr S)), some (.inr (.inr o)), some (.inl (i : Int))] [] μ3 := by
    intro μ2 f2 e2 k
    induction k with
    | zero =>
      intro i hi μ3 f3 c3 hq3
      have him : i = nl := by omega
      subst him
      have hq4 := hq3 μ3 f3 c3
      refine wp_go b38_127 ?_; simp only [l38_127, sg_iload_2, sg_aload_0, sg_getf0, sg_ic_ge, sg_getfp, sg_aload_1, sg_baload, sg_bastore, sg_if_eq, sg_aaload, sg_iv2_v, len4_0, len4_1, len4_2, len4_3, len4_4, nLg_n, nLg_i, nLg_r, tc_c, tc_l, tc_r, tc_m, tc_n, tc_o, tc_0, inR, true_and, and_true, ne_eq, not_true_eq_false, not_false_eq_true, true_imp_iff, false_imp_iff, Int.toNat_natCast, lit_a, Nat.reduceAdd, or_true, true_or, or_false, false_or, Int.reduceEq, Int.reduceNe, Int.reduceLT, Int.reduceLE, Int.reduceNeg, sg_nil, t0, t1, t2, t3, t4, t5, t6, t7, t8, t9, t10, t11, t12, u0, u1, u2, u3, u4, u5, u6, u7, u8, u9, u10, u11, f3 S (by omega) (by omega), e2]
      repeat' (first | with_reducible apply And.intro | (intro _) | ((first | refine wp_go b38_0 ?_ | refine wp_go b38_11 ?_ | refine wp_go b38_171 ?_ | refine wp_go b38_177 ?_); simp only [l38_0, l38_11, l38_171, l38_177, sg_aload_0, sg_getfp, sg_aload_1, sg_iv2_v, len4_0, len4_1, len4_2, len4_3, len4_4, sg_getf0, sg_putf0, sg_iconst, sg_bipush, sg_acopy, sg_istore_2, sg_iinc, ldI_2, okS_2, stL_2, sg_goto, sg_ret, nLg_n, nLg_i, nLg_r, tc_c, tc_l, tc_r, tc_m, tc_n, tc_o, tc_0, inR, true_and, and_true, ne_eq, not_true_eq_false, not_false_eq_true, true_imp_iff, false_imp_iff, Int.toNat_natCast, lit_a, Nat.reduceAdd, or_true, true_or, or_false, false_or, Int.reduceEq, Int.reduceNe, Int.reduceLT, Int.reduceLE, Int.reduceNeg, sg_nil]))
      all_goals (try omega)
      all_goals exact hq4
    | succ k ih =>
      intro i hi μ3 f3 c3 hq3
      have z01 := (hz.2.2.2.2 i (by omega)).2.2.1
      obtain ⟨-, -, o11, oh⟩ := dl i (by omega)
      have e11 : μ3 (o + 11) i = z (214 + 3 * i) := by rw [f3 (o + 11) (by omega) (by omega), f2 (o + 11) (by omega)]; exact o11
      have p1 : σ.2 (S + 12) i = true := hS.2.2.2.2.2 i (by omega)
      have p2 : σ.2 (o + 12) i = true := hO.2.2.2.2.2 i (by omega)
      have hh : (shp σ (S + 13 + 7 * i)).1 = 1 := (hS.2.2.2.1 i (by omega)).1
      by_cases hf : z (214 + 3 * i) = 1
      · rw [hf] at e11
        refine wp_go b38_127 ?_; simp only [l38_127, sg_iload_2, sg_aload_0, sg_getf0, sg_ic_ge, sg_getfp, sg_aload_1, sg_baload, sg_bastore, sg_if_eq, sg_aaload, sg_iv2_v, len4_0, len4_1, len4_2, len4_3, len4_4, nLg_n, nLg_i, nLg_r, tc_c, tc_l, tc_r, tc_m, tc_n, tc_o, tc_0, inR, true_and, and_true, ne_eq, not_true_eq_false, not_false_eq_true, true_imp_iff, false_imp_iff, Int.toNat_natCast, lit_a, Nat.reduceAdd, or_true, true_or, or_false, false_or, Int.reduceEq, Int.reduceNe, Int.reduceLT, Int.reduceLE, Int.reduceNeg, sg_nil, t0, t1, t2, t3, t4, t5, t6, t7, t8, t9, t10, t11, t12, u0, u1, u2, u3, u4, u5, u6, u7, u8, u9, u10, u11, v0, v1, v2, v3, v4, v5, v6, v7, v8, v9, v10, v11, v12, w0, w1, w2, w3, w4, w5, w6, w7, w8, w9, w10, w11, f3 S (by omega) (by omega), e2, e11, p1, p2, hh, ms_at, false_and, and_false, if_false, if_true, and_self, Nat.reduceEqDiff, ne_a, ne_b, Nat.add_left_cancel_iff]
        repeat' (first | with_reducible apply And.intro | intro _)
        all_goals (try omega)
        have oh3 : HR (fw z i) μ3 (o + 13 + 7 * i) := HR_f (fun k h1 h2 => by rw [f3 k (by omega) (by omega), f2 k (by omega)]) (oh hf)
        have oh4 : HR (fw z i) (ms μ3 (S + 11) i 1) (o + 13 + 7 * i) := HR_f (fun k h1 h2 => by funext j; simp only [ms_at]; (repeat (first | rw [if_neg (by omega)] | rw [if_pos (by omega)]))) oh3
        have W := (hz.2.2.2.2 i (by omega)).2.2.2 hf
        refine k_Hea_copyFrom (hS.2.2.2.1 i (by omega)) (hO.2.2.2.1 i (by omega)) (by omega) oh4 (by have := W.1; omega) (by have := W.1; omega) (fun μ4 f4 h4 => ?_)
        have ih1 := ih (i + 1) (by omega) μ4 (fun k h1 h2 => by rw [f4 k (by omega), ← f3 k h1 h2]; funext j; simp only [ms_at]; (repeat (first | rw [if_neg (by omega)] | rw [if_pos (by omega)]))) (fun l hl => ?_) hq3
        · refine wp_go b38_171 ?_; simp only [l38_171, sg_iinc, ldI_2, okS_2, stL_2, sg_goto, nLg_n, nLg_i, nLg_r, tc_c, tc_l, tc_r, tc_m, tc_n, tc_o, tc_0, inR, true_and, and_true, ne_eq, not_true_eq_false, not_false_eq_true, true_imp_iff, false_imp_iff, Int.toNat_natCast, lit_a, Nat.reduceAdd, or_true, true_or, or_false, false_or, Int.reduceEq, Int.reduceNe, Int.reduceLT, Int.reduceLE, Int.reduceNeg, sg_nil]
          repeat' (first | with_reducible apply And.intro | (intro _) | ((first | refine wp_go b38_0 ?_ | refine wp_go b38_11 ?_ | refine wp_go b38_171 ?_ | refine wp_go b38_177 ?_); simp only [l38_0, l38_11, l38_171, l38_177, sg_aload_0, sg_getfp, sg_aload_1, sg_iv2_v, len4_0, len4_1, len4_2, len4_3, len4_4, sg_getf0, sg_putf0, sg_iconst, sg_bipush, sg_acopy, sg_istore_2, sg_iinc, ldI_2, okS_2, stL_2, sg_goto, sg_ret, nLg_n, nLg_i, nLg_r, tc_c, tc_l, tc_r, tc_m, tc_n, tc_o, tc_0, inR, true_and, and_true, ne_eq, not_true_eq_false, not_false_eq_true, true_imp_iff, false_imp_iff, Int.toNat_natCast, lit_a, Nat.reduceAdd, or_true, true_or, or_false, false_or, Int.reduceEq, Int.reduceNe, Int.reduceLT, Int.reduceLE, Int.reduceNeg, sg_nil]))
          all_goals (try omega)
          all_goals exact ih1
        · rcases Nat.lt_or_ge l i with h | h
          · obtain ⟨x1, x2⟩ := c3 l h
            refine ⟨by rw [f4 (S + 11) (by omega)]; simp only [ms_at]; (repeat (first | rw [if_neg (by omega)] | rw [if_pos (by omega)])); exact x1, fun hf2 => HR_f (fun k h1 h2 => ?_) (x2 hf2)⟩
            rw [f4 k (by omega)]
            funext j; simp only [ms_at]; (repeat (first | rw [if_neg (by omega)] | rw [if_pos (by omega)]))
          · have hli : l = i := by omega
            subst hli
            exact ⟨by rw [f4 (S + 11) (by omega), hf]; simp [ms_at], fun _ => h4⟩
      · have hf0 : z (214 + 3 * i) = 0 := by omega
        rw [hf0] at e11
        have ih1 := ih (i + 1) (by omega) (ms μ3 (S + 11) i 0) (fun k h1 h2 => by rw [← f3 k h1 h2]; funext j; simp only [ms_at]; (repeat (first | rw [if_neg (by omega)] | rw [if_pos (by omega)]))) (fun l hl => ?_) hq3
        · refine wp_go b38_127 ?_; simp only [l38_127, sg_iload_2, sg_aload_0, sg_getf0, sg_ic_ge, sg_getfp, sg_aload_1, sg_baload, sg_bastore, sg_if_eq, sg_aaload, sg_iv2_v, len4_0, len4_1, len4_2, len4_3, len4_4, nLg_n, nLg_i, nLg_r, tc_c, tc_l, tc_r, tc_m, tc_n, tc_o, tc_0, inR, true_and, and_true, ne_eq, not_true_eq_false, not_false_eq_true, true_imp_iff, false_imp_iff, Int.toNat_natCast, lit_a, Nat.reduceAdd, or_true, true_or, or_false, false_or, Int.reduceEq, Int.reduceNe, Int.reduceLT, Int.reduceLE, Int.reduceNeg, sg_nil, t0, t1, t2, t3, t4, t5, t6, t7, t8, t9, t10, t11, t12, u0, u1, u2, u3, u4, u5, u6, u7, u8, u9, u10, u11, v0, v1, v2, v3, v4, v5, v6, v7, v8, v9, v10, v11, v12, w0, w1, w2, w3, w4, w5, w6, w7, w8, w9, w10, w11, f3 S (by omega) (by omega), e2, e11, p1, p2, ms_at, false_and, and_false, if_false, if_true, and_self, Nat.reduceEqDiff, ne_a, ne_b, Nat.add_left_cancel_iff]
          repeat' (first | with_reducible apply And.intro | (intro _) | ((first | refine wp_go b38_0 ?_ | refine wp_go b38_11 ?_ | refine wp_go b38_171 ?_ | refine wp_go b38_177 ?_); simp only [l38_0, l38_11, l38_171, l38_177, sg_aload_0, sg_getfp, sg_aload_1, sg_iv2_v, len4_0, len4_1, len4_2, len4_3, len4_4, sg_getf0, sg_putf0, sg_iconst, sg_bipush, sg_acopy, sg_istore_2, sg_iinc, ldI_2, okS_2, stL_2, sg_goto, sg_ret, nLg_n, nLg_i, nLg_r, tc_c, tc_l, tc_r, tc_m, tc_n, tc_o, tc_0, inR, true_and, and_true, ne_eq, not_true_eq_false, not_false_eq_true, true_imp_iff, false_imp_iff, Int.toNat_natCast, lit_a, Nat.reduceAdd, or_true, true_or, or_false, false_or, Int.reduceEq, Int.reduceNe, Int.reduceLT, Int.reduceLE, Int.reduceNeg, sg_nil]))
          all_goals (try omega)
          all_goals exact ih1
        · rcases Nat.lt_or_ge l i with h | h
          · obtain ⟨x1, x2⟩ := c3 l h
            refine ⟨by simp only [ms_at]; (repeat (first | rw [if_neg (by omega)] | rw [if_pos (by omega)])); exact x1, fun hf2 => HR_f (fun k h1 h2 => ?_) (x2 hf2)⟩
            funext j; simp only [ms_at]; (repeat (first | rw [if_neg (by omega)] | rw [if_pos (by omega)]))
          · have hli : l = i := by omega
            subst hli
            exact ⟨by simp [ms_at, hf0], fun h => absurd h hf⟩
  refine wp_go b38_11 ?_; simp only [l38_11, sg_aload_0, sg_aload_1, sg_getf0, sg_putf0, sg_getfp, sg_iconst, sg_bipush, len4_0, len4_1, len4_2, len4_3, len4_4, sg_acopy, sg_istore_2, nLg_n, nLg_i, nLg_r, tc_c, tc_l, tc_r, tc_m, tc_n, tc_o, tc_0, inR, true_and, and_true, ne_eq, not_true_eq_false, not_false_eq_true, true_imp_iff, false_imp_iff, Int.toNat_natCast, lit_a, Nat.reduceAdd, or_true, true_or, or_false, false_or, Int.reduceEq, Int.reduceNe, Int.reduceLT, Int.reduceLE, Int.reduceNeg, sg_nil, t0, t1, t2, t3, t4, t5, t6, t7, t8, t9, t10, t11, t12, u0, u1, u2, u3, u4, u5, u6, u7, u8, u9, u10, u11, v0, v1, v2, v3, v4, v5, v6, v7, v8, v9, v10, v11, v12, w0, w1, w2, w3, w4, w5, w6, w7, w8, w9, w10, w11, Int.toNat_zero]
  repeat' (first | with_reducible apply And.intro | (intro _) | ((first | refine wp_go b38_0 ?_ | refine wp_go b38_11 ?_ | refine wp_go b38_171 ?_ | refine wp_go b38_177 ?_); simp only [l38_0, l38_11, l38_171, l38_177, sg_aload_0, sg_getfp, sg_aload_1, sg_iv2_v, len4_0, len4_1, len4_2, len4_3, len4_4, sg_getf0, sg_putf0, sg_iconst, sg_bipush, sg_acopy, sg_istore_2, sg_iinc, ldI_2, okS_2, stL_2, sg_goto, sg_ret, nLg_n, nLg_i, nLg_r, tc_c, tc_l, tc_r, tc_m, tc_n, tc_o, tc_0, inR, true_and, and_true, ne_eq, not_true_eq_false, not_false_eq_true, true_imp_iff, false_imp_iff, Int.toNat_natCast, lit_a, Nat.reduceAdd, or_true, true_or, or_false, false_or, Int.reduceEq, Int.reduceNe, Int.reduceLT, Int.reduceLE, Int.reduceNeg, sg_nil]))
  all_goals (try omega)
  refine loop _ (fun k hk => ?_) ?_ nl 0 (by omega) _ (fun _ _ _ => rfl) (fun l hl => absurd hl (by omega)) (fun μ' g1 g2 => ?_)
  · funext j; simp only [ms_at, mcp_at]; (repeat (first | rw [if_neg (by omega)] | rw [if_pos (by omega)]))
  · simp only [ms_at, mcp_at, true_and, and_true, if_true]
    (repeat (first | rw [if_neg (by omega)] | rw [if_pos (by omega)]))
    rw [d3, hnl]
  · refine hq μ' (fun k hk => ?_) ⟨⟨?_, ?_, ?_, ?_⟩, fun i hi => ⟨?_, ?_, ?_, ?_, fun j hj => ?_⟩, fun i hi => ⟨?_, ?_⟩, fun l hl => ⟨?_, ?_, ?_⟩⟩
    · rw [g1 k (by omega) (by omega)]
      funext j
      simp only [ms_at, mcp_at]
      (repeat (first | rw [if_neg (by omega)] | rw [if_pos (by omega)]))
      rw [f1 k (by omega)]
    · rw [g1 (S + 1) (by omega) (by omega)]
      simp only [ms_at, mcp_at, true_and, and_true, if_true]
      (repeat (first | rw [if_neg (by omega)] | rw [if_pos (by omega)]))
      rw [n1, hn]
    · rw [g1 S (by omega) (by omega)]
      simp only [ms_at, mcp_at, true_and, and_true, if_true]
      (repeat (first | rw [if_neg (by omega)] | rw [if_pos (by omega)]))
      exact d1
    · rw [g1 S (by omega) (by omega)]
      simp only [ms_at, mcp_at, true_and, and_true, if_true]
      (repeat (first | rw [if_neg (by omega)] | rw [if_pos (by omega)]))
      exact d2
    · rw [g1 S (by omega) (by omega)]
      simp only [ms_at, mcp_at, true_and, and_true, if_true]
      (repeat (first | rw [if_neg (by omega)] | rw [if_pos (by omega)]))
      exact d3
    · rw [g1 (S + 2) (by omega) (by omega)]
      simp only [ms_at, mcp_at, true_and, and_true, if_true]
      (repeat (first | rw [if_neg (by omega)] | rw [if_pos (by omega)]))
      exact (c1 i (by omega)).1.trans (hR.2.1 i hi).1
    · rw [g1 (S + 3) (by omega) (by omega)]
      simp only [ms_at, mcp_at, true_and, and_true, if_true]
      (repeat (first | rw [if_neg (by omega)] | rw [if_pos (by omega)]))
      exact (c1 i (by omega)).2.1.trans (hR.2.1 i hi).2.1
    · rw [g1 (S + 4) (by omega) (by omega)]
      simp only [ms_at, mcp_at, true_and, and_true, if_true]
      (repeat (first | rw [if_neg (by omega)] | rw [if_pos (by omega)]))
      exact (c1 i (by omega)).2.2.trans (hR.2.1 i hi).2.2.1
    · rw [g1 (S + 5) (by omega) (by omega)]
      simp only [ms_at, mcp_at, true_and, and_true, if_true, Nat.zero_add, Nat.sub_zero]
      (repeat (first | rw [if_neg (by omega)] | rw [if_pos (by omega)]))
      exact (ds i hi).2.2.2.1
    · have r := (hz.2.1 i hi).2.2.2.1
      rw [g1 (S + 6) (by omega) (by omega)]
      simp only [ms_at, mcp_at, true_and, and_true, if_true, Nat.zero_add, Nat.sub_zero]
      (repeat (first | rw [if_neg (by omega)] | rw [if_pos (by omega)]))
      exact (ds i hi).2.2.2.2 j hj
    · rw [g1 (S + 7) (by omega) (by omega)]
      simp only [ms_at, mcp_at, true_and, and_true, if_true, Nat.zero_add, Nat.sub_zero]
      (repeat (first | rw [if_neg (by omega)] | rw [if_pos (by omega)]))
      exact (dn i hi).1
    · rw [g1 (S + 8) (by omega) (by omega)]
      simp only [ms_at, mcp_at, true_and, and_true, if_true, Nat.zero_add, Nat.sub_zero]
      (repeat (first | rw [if_neg (by omega)] | rw [if_pos (by omega)]))
      exact (dn i hi).2
    · rw [g1 (S + 9) (by omega) (by omega)]
      simp only [ms_at, mcp_at, true_and, and_true, if_true, Nat.zero_add, Nat.sub_zero]
      (repeat (first | rw [if_neg (by omega)] | rw [if_pos (by omega)]))
      exact (dl l hl).1
    · rw [g1 (S + 10) (by omega) (by omega)]
      simp only [ms_at, mcp_at, true_and, and_true, if_true, Nat.zero_add, Nat.sub_zero]
      (repeat (first | rw [if_neg (by omega)] | rw [if_pos (by omega)]))
      exact (dl l hl).2.1
    · exact g2 l (by omega)

