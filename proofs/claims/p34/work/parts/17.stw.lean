def bookZ (z : Rw) (i : Nat) (t : Int) : Rw := fun k => if k = 76 + 5 * i then z k + 1 else if k = 77 + 5 * i + (z (76 + 5 * i)).toNat then t else z k
theorem bookZ_s (z : Rw) (i : Nat) (t : Int) : bookZ z i t (76 + 5 * i) = z (76 + 5 * i) + 1 := by unfold bookZ; rw [if_pos rfl]
theorem bookZ_n (z : Rw) (i r : Nat) (t : Int) (h : z (76 + 5 * i) = (r : Int)) : bookZ z i t (77 + 5 * i + r) = t := by unfold bookZ; rw [h, Int.toNat_natCast, if_neg (by omega), if_pos rfl]
theorem bookZ_o (z : Rw) (i k : Nat) (t : Int) (h1 : k ≠ 76 + 5 * i) (h2 : k ≠ 77 + 5 * i + (z (76 + 5 * i)).toNat) : bookZ z i t k = z k := by unfold bookZ; rw [if_neg h1, if_neg h2]
-- Sta.appendToRow: blocks [0]
theorem k_Sta_appendToRow {σ : Sg} {d : Nat} {Q : QT} {μ : Mem} {S i : Nat} {t : Int} {z : Rw} (hS : iSta σ S) (hR : RC z μ S) (hz : IZ z) (hi : (i : Int) < z 0) (h4 : z (76 + 5 * i) < 4)
    (hq : ∀ μ' : Mem, (∀ k, k ≠ S + 5 → k ≠ S + 6 → μ' k = μ k) → RC (bookZ z i t) μ' S → Q (.inl 0) μ') : Call σ (d + 1) 32 [.inr (.inr S), .inl (i : Int), .inl t] μ Q := by
  refine e_32 ?_
  obtain ⟨t0, t1, t2, t3, t4, t5, t6, t7, t8, t9, t10, t11, t12, u0, u1, u2, u3, u4, u5, u6, u7, u8, u9, u10, u11⟩ := staF hS
  have q := hz.1
  have e := (hR.2.1 i hi).2.2.2.1
  have r := (hz.2.1 i hi).2.2.2.1
  obtain ⟨n, hn⟩ := nat_of r.1
  refine wp_go b32_0 ?_; simp only [l32_0, sg_aload_0, sg_getfp, sg_iload_1, sg_iconst, sg_imul, sg_iaload, sg_iadd, sg_iload_2, sg_iastore, sg_dup2, sg_ret, nLg_n, nLg_i, nLg_r, tc_c, tc_l, tc_r, tc_m, tc_n, tc_o, tc_0, inR, true_and, and_true, ne_eq, not_true_eq_false, not_false_eq_true, true_imp_iff, false_imp_iff, Int.toNat_natCast, lit_a, Nat.reduceAdd, or_true, true_or, or_false, false_or, Int.reduceEq, Int.reduceNe, Int.reduceLT, Int.reduceLE, Int.reduceNeg, sg_nil, t0, t1, t2, t3, t4, t5, t6, t7, t8, t9, t10, t11, t12, u0, u1, u2, u3, u4, u5, u6, u7, u8, u9, u10, u11, e, hn, ms_at, false_and, and_false, if_false, if_true, and_self, Nat.reduceEqDiff, ne_a, ne_b, Nat.add_left_cancel_iff]
  repeat' (first | with_reducible apply And.intro | (intro _) | ((first | refine wp_go b32_0 ?_); simp only [l32_0, sg_aload_0, sg_getfp, sg_iload_1, sg_iconst, sg_imul, sg_iaload, sg_iadd, sg_iload_2, sg_iastore, sg_dup2, sg_ret, nLg_n, nLg_i, nLg_r, tc_c, tc_l, tc_r, tc_m, tc_n, tc_o, tc_0, inR, true_and, and_true, ne_eq, not_true_eq_false, not_false_eq_true, true_imp_iff, false_imp_iff, Int.toNat_natCast, lit_a, Nat.reduceAdd, or_true, true_or, or_false, false_or, Int.reduceEq, Int.reduceNe, Int.reduceLT, Int.reduceLE, Int.reduceNeg, sg_nil]))
  all_goals (try omega)
  refine hq _ (fun k h5 h6 => by funext j; simp only [ms_at, h5, h6, false_and, if_false]) ?_
  have bo : ∀ k, k ≠ 76 + 5 * i → k ≠ 77 + 5 * i + n → bookZ z i t k = z k := fun k h1 h2 => bookZ_o z i k t h1 (by rw [hn]; exact h2)
  have b2 : bookZ z i t 2 = z 2 := bo 2 (by omega) (by omega)
  have b3 : bookZ z i t 3 = z 3 := bo 3 (by omega) (by omega)
  have b0 : bookZ z i t 0 = z 0 := bo 0 (by omega) (by omega)
  obtain ⟨⟨c0, c1, c2, c3⟩, hs, hn2, hl⟩ := hR
  unfold RC
  rw [b0, b2, b3]
  refine ⟨⟨?_, ?_, ?_, ?_⟩, fun i' hi' => ⟨?_, ?_, ?_, ?_, fun j hj => ?_⟩, fun i' hi' => ⟨?_, ?_⟩, fun l hl' => ⟨?_, ?_, ?_, fun hf => ?_⟩⟩
  · simp [ms_at, c0]
  · rw [bo 1 (by omega) (by omega)]; simp [ms_at, c1]
  · simp [ms_at, c2]
  · simp [ms_at, c3]
  · rw [bo _ (by omega) (by omega)]; simp [ms_at, (hs i' hi').1]
  · rw [bo _ (by omega) (by omega)]; simp [ms_at, (hs i' hi').2.1]
  · rw [bo _ (by omega) (by omega)]; simp [ms_at, (hs i' hi').2.2.1]
  · by_cases hii : i' = i
    · subst hii
      rw [bookZ_s, hn]
      simp [ms_at]
    · rw [bo _ (by omega) (by omega)]
      simp only [ms_at, true_and, and_true, if_true]
      (repeat (first | rw [if_neg (by omega)] | rw [if_pos (by omega)]))
      exact (hs i' hi').2.2.2.1
  · by_cases hii : i' = i
    · subst hii
      rw [bookZ_s, hn] at hj
      by_cases hjn : j = n
      · subst hjn
        rw [bookZ_n z i' j t hn]
        simp only [ms_at, true_and, and_true, if_true]
        (repeat (first | rw [if_neg (by omega)] | rw [if_pos (by omega)]))
      · rw [bo _ (by omega) (by omega)]
        simp only [ms_at, true_and, and_true, if_true]
        (repeat (first | rw [if_neg (by omega)] | rw [if_pos (by omega)]))
        exact (hs i' hi').2.2.2.2 j (by omega)
    · rw [bo _ (by omega) (by omega)] at hj
      have r' := (hz.2.1 i' hi').2.2.2.1
      rw [bo _ (by omega) (by omega)]
      simp only [ms_at, true_and, and_true, if_true]
      (repeat (first | rw [if_neg (by omega)] | rw [if_pos (by omega)]))
      exact (hs i' hi').2.2.2.2 j hj
  · rw [bo _ (by omega) (by omega)]; simp [ms_at, (hn2 i' hi').1]
  · rw [bo _ (by omega) (by omega)]; simp [ms_at, (hn2 i' hi').2]
  · rw [bo _ (by omega) (by omega)]; simp [ms_at, (hl l hl').1]
  · rw [bo _ (by omega) (by omega)]; simp [ms_at, (hl l hl').2.1]
  · rw [bo _ (by omega) (by omega)]; simp [ms_at, (hl l hl').2.2.1]
  · rw [bo _ (by omega) (by omega)] at hf
    have e2 : fw (bookZ z i t) l = fw z l := by funext k; exact bo _ (by omega) (by omega)
    rw [e2]
    exact HR_f (fun k hk1 hk2 => by funext j; simp only [ms_at, true_and, and_true, if_true]; (repeat (first | rw [if_neg (by omega)] | rw [if_pos (by omega)]))) ((hl l hl').2.2.2 hf)
-- Sta.moveSentence: blocks [0]
theorem k_Sta_moveSentence {σ : Sg} {d : Nat} {Q : QT} {μ : Mem} {S a b : Nat} (hS : iSta σ S) (ha : a < 24) (hb : b < 24)
    (hq : ∀ μ' : Mem, (∀ k, (k < S + 2 ∨ S + 6 < k) → μ' k = μ k) → (∀ k i, S + 2 ≤ k → k ≤ S + 5 → μ' k i = if i = b then μ k a else μ k i) → (∀ i j, j < 4 → μ' (S + 6) (4 * i + j) = if i = b then μ (S + 6) (4 * a + j) else μ (S + 6) (4 * i + j)) → Q (.inl 0) μ') : Call σ (d + 1) 37 [.inr (.inr S), .inl (a : Int), .inl (b : Int)] μ Q := by
  refine e_37 ?_
  obtain ⟨t0, t1, t2, t3, t4, t5, t6, t7, t8, t9, t10, t11, t12, u0, u1, u2, u3, u4, u5, u6, u7, u8, u9, u10, u11⟩ := staF hS
  refine wp_go b37_0 ?_; simp only [l37_0, sg_aload_0, sg_getfp, sg_iload_2, sg_iload_1, sg_iaload, sg_iastore, sg_iconst, sg_imul, len4_0, len4_1, len4_2, len4_3, len4_4, sg_acopy, sg_ret, nLg_n, nLg_i, nLg_r, tc_c, tc_l, tc_r, tc_m, tc_n, tc_o, tc_0, inR, true_and, and_true, ne_eq, not_true_eq_false, not_false_eq_true, true_imp_iff, false_imp_iff, Int.toNat_natCast, lit_a, Nat.reduceAdd, or_true, true_or, or_false, false_or, Int.reduceEq, Int.reduceNe, Int.reduceLT, Int.reduceLE, Int.reduceNeg, sg_nil, t0, t1, t2, t3, t4, t5, t6, t7, t8, t9, t10, t11, t12, u0, u1, u2, u3, u4, u5, u6, u7, u8, u9, u10, u11, ms_at, false_and, and_false, if_false, if_true, and_self, Nat.reduceEqDiff, ne_a, ne_b, Nat.add_left_cancel_iff, Int.toNat_zero]
  repeat' (first | with_reducible apply And.intro | (intro _) | ((first | refine wp_go b37_0 ?_); simp only [l37_0, sg_aload_0, sg_getfp, sg_iload_2, sg_iload_1, sg_iaload, sg_iastore, sg_iconst, sg_imul, len4_0, len4_1, len4_2, len4_3, len4_4, sg_acopy, sg_ret, nLg_n, nLg_i, nLg_r, tc_c, tc_l, tc_r, tc_m, tc_n, tc_o, tc_0, inR, true_and, and_true, ne_eq, not_true_eq_false, not_false_eq_true, true_imp_iff, false_imp_iff, Int.toNat_natCast, lit_a, Nat.reduceAdd, or_true, true_or, or_false, false_or, Int.reduceEq, Int.reduceNe, Int.reduceLT, Int.reduceLE, Int.reduceNeg, sg_nil]))
  all_goals (try omega)
  refine hq _ (fun k hk => ?_) (fun k i h1 h2 => ?_) (fun i j hj => ?_)
  · funext j
    simp only [ms_at, mcp_at, true_and, and_true, if_true]
    (repeat (first | rw [if_neg (by omega)] | rw [if_pos (by omega)]))
  · rcases (show k = S + 2 ∨ k = S + 3 ∨ k = S + 4 ∨ k = S + 5 by omega) with rfl | rfl | rfl | rfl <;> simp [ms_at, mcp_at]
  · by_cases hi : i = b
    · subst hi
      simp only [ms_at, mcp_at, true_and, and_true, if_true]
      (repeat (first | rw [if_neg (by omega)] | rw [if_pos (by omega)]))
      congr 1; omega
    · simp only [ms_at, mcp_at, true_and, and_true, if_true, hi, if_false]
      (repeat (first | rw [if_neg (by omega)] | rw [if_pos (by omega)]))
-- Sta.insertSentence: blocks [0, 8, 21, 27, 79, 80, 83]
theorem k_Sta_insertSentence {σ : Sg} {d : Nat} {Q : QT} {μ : Mem} {S n p : Nat} {len : Int} (hS : iSta σ S) (hn : μ (S + 1) 3 = (n : Int)) (hn2 : n < 24) (hp : p ≤ n)
    (hq : ∀ μ' : Mem, (∀ k, (k < S ∨ S + 6 < k) → μ' k = μ k) → (∀ j, j ≠ 9 → μ' S j = μ S j) → μ' S 9 = μ S 9 + 1 → μ' (S + 1) 3 = ((n + 1 : Nat) : Int) →
      (∀ k i, S + 2 ≤ k → k ≤ S + 5 → i < p → μ' k i = μ k i) → (∀ k i, S + 2 ≤ k → k ≤ S + 5 → p ≤ i → i < n → μ' k (i + 1) = μ k i) →
      μ' (S + 2) p = μ S 9 → μ' (S + 3) p = len → μ' (S + 4) p = bI (p = 0) → μ' (S + 5) p = 0 →
      (∀ i j, j < 4 → i < p → μ' (S + 6) (4 * i + j) = μ (S + 6) (4 * i + j)) → (∀ i j, j < 4 → p ≤ i → i < n → μ' (S + 6) (4 * (i + 1) + j) = μ (S + 6) (4 * i + j)) → Q (.inl 0) μ') : Call σ (d + 2) 35 [.inr (.inr S), .inl (p : Int), .inl len] μ Q := by
  refine e_35 ?_
  obtain ⟨t0, t1, t2, t3, t4, t5, t6, t7, t8, t9, t10, t11, t12, u0, u1, u2, u3, u4, u5, u6, u7, u8, u9, u10, u11⟩ := staF hS
  have loop : ∀ k b : Nat, b = p + k → b ≤ n → ∀ μ1 : Mem, (∀ k, (k < S + 2 ∨ S + 6 < k) → μ1 k = μ k) → (∀ k i, S + 2 ≤ k → k ≤ S + 5 → μ1 k i = if b < i ∧ i ≤ n then μ k (i - 1) else μ k i) → (∀ i j, j < 4 → μ1 (S + 6) (4 * i + j) = if b < i ∧ i ≤ n then μ (S + 6) (4 * (i - 1) + j) else μ (S + 6) (4 * i + j)) →
      wp σ (Call σ (d + 1)) 35 Q 8 [some (.inr (.inr S)), some (.inl (p : Int)), some (.inl len), some (.inl (b : Int))] [] μ1 := by
    intro k
    induction k with
    | zero =>
      intro b hb hbn μ1 f1 c1 r1
      have hbp : b = p := by omega
      subst hbp
      have e1 : μ1 (S + 1) = μ (S + 1) := f1 (S + 1) (by omega)
      have e0 : μ1 S = μ S := f1 S (by omega)
      refine wp_go b35_8 ?_; simp only [l35_8, sg_iload_3, sg_iload_1, sg_ic_le, sg_aload_0, sg_iconst, sg_isub, sg_iv3_v, len4_0, len4_1, len4_2, len4_3, len4_4, nLg_n, nLg_i, nLg_r, tc_c, tc_l, tc_r, tc_m, tc_n, tc_o, tc_0, inR, true_and, and_true, ne_eq, not_true_eq_false, not_false_eq_true, true_imp_iff, false_imp_iff, Int.toNat_natCast, lit_a, Nat.reduceAdd, or_true, true_or, or_false, false_or, Int.reduceEq, Int.reduceNe, Int.reduceLT, Int.reduceLE, Int.reduceNeg, sg_nil, t0, t1, t2, t3, t4, t5, t6, t7, t8, t9, t10, t11, t12, u0, u1, u2, u3, u4, u5, u6, u7, u8, u9, u10, u11]
      repeat' (first | with_reducible apply And.intro | (intro _) | refine k_NS_asNumber (Or.inl rfl) ?_ | refine k_NS_asNumber (Or.inr rfl) ?_ | ((first | refine wp_go b35_0 ?_ | refine wp_go b35_21 ?_ | refine wp_go b35_27 ?_ | refine wp_go b35_79 ?_ | refine wp_go b35_80 ?_ | refine wp_go b35_83 ?_); simp only [l35_0, l35_21, l35_27, l35_79, l35_80, l35_83, sg_aload_0, sg_getfp, sg_getf0, sg_istore_3, sg_iinc, ldI_3, okS_3, stL_3, sg_goto, sg_dup_i, sg_dup_r, sg_iconst, sg_iadd, sg_putf0, sg_iload_1, sg_iastore, sg_iload_2, sg_if_ne, len4_0, len4_1, len4_2, len4_3, len4_4, sg_is1_2, sg_ret, nLg_n, nLg_i, nLg_r, tc_c, tc_l, tc_r, tc_m, tc_n, tc_o, tc_0, inR, true_and, and_true, ne_eq, not_true_eq_false, not_false_eq_true, true_imp_iff, false_imp_iff, Int.toNat_natCast, lit_a, Nat.reduceAdd, or_true, true_or, or_false, false_or, Int.reduceEq, Int.reduceNe, Int.reduceLT, Int.reduceLE, Int.reduceNeg, sg_nil, t0, t1, t2, t3, t4, t5, t6, t7, t8, t9, t10, t11, t12, u0, u1, u2, u3, u4, u5, u6, u7, u8, u9, u10, u11, e1, e0, hn, ms_at, false_and, and_false, if_false, if_true, and_self, Nat.reduceEqDiff, ne_a, ne_b, Nat.add_left_cancel_iff]))
      all_goals (try omega)
      all_goals
        refine hq _ (fun k hk => ?_) (fun j hj => ?_) ?_ ?_ (fun k i h1 h2 hi => ?_) (fun k i h1 h2 hi hi2 => ?_) ?_ ?_ ?_ ?_ (fun i j hj hi => ?_) (fun i j hj hi hi2 => ?_)
        · funext j
          simp only [ms_at]
          (repeat (first | rw [if_neg (by omega)] | rw [if_pos (by omega)]))
          rw [f1 k (by omega)]
        · simp only [ms_at, true_and, and_true, if_true]
          (repeat (first | rw [if_neg (by omega)] | rw [if_pos (by omega)]))
          rw [e0]
        · simp [ms_at]
        · simp [ms_at]
        · simp only [ms_at]
          (repeat (first | rw [if_neg (by omega)] | rw [if_pos (by omega)]))
          rw [c1 k i h1 h2]
          (repeat (first | rw [if_neg (by omega)] | rw [if_pos (by omega)]))
        · simp only [ms_at]
          (repeat (first | rw [if_neg (by omega)] | rw [if_pos (by omega)]))
          rw [c1 k (i + 1) h1 h2]
          (repeat (first | rw [if_neg (by omega)] | rw [if_pos (by omega)]))
          rfl
        · simp [ms_at]
        · simp [ms_at]
        · simp [ms_at, bI]; try omega
        · simp [ms_at]
        · simp only [ms_at]
          (repeat (first | rw [if_neg (by omega)] | rw [if_pos (by omega)]))
          rw [r1 i j hj]
          (repeat (first | rw [if_neg (by omega)] | rw [if_pos (by omega)]))
        · simp only [ms_at]
          (repeat (first | rw [if_neg (by omega)] | rw [if_pos (by omega)]))
          rw [r1 (i + 1) j hj]
          (repeat (first | rw [if_neg (by omega)] | rw [if_pos (by omega)]))
          rfl
    | succ k ih =>
      intro b hb hbn μ1 f1 c1 r1
      refine wp_go b35_8 ?_; simp only [l35_8, sg_iload_3, sg_iload_1, sg_ic_le, sg_aload_0, sg_iconst, sg_isub, sg_iv3_v, len4_0, len4_1, len4_2, len4_3, len4_4, nLg_n, nLg_i, nLg_r, tc_c, tc_l, tc_r, tc_m, tc_n, tc_o, tc_0, inR, true_and, and_true, ne_eq, not_true_eq_false, not_false_eq_true, true_imp_iff, false_imp_iff, Int.toNat_natCast, lit_a, Nat.reduceAdd, or_true, true_or, or_false, false_or, Int.reduceEq, Int.reduceNe, Int.reduceLT, Int.reduceLE, Int.reduceNeg, sg_nil, t0, t1, t2, t3, t4, t5, t6, t7, t8, t9, t10, t11, t12, u0, u1, u2, u3, u4, u5, u6, u7, u8, u9, u10, u11]
      repeat' (first | with_reducible apply And.intro | intro _)
      all_goals (try omega)
      rw [show (b : Int) - 1 = ((b - 1 : Nat) : Int) by omega]
      refine k_Sta_moveSentence hS (by omega) (by omega) (fun μ2 f2 c2 r2 => ?_)
      have ih1 := ih (b - 1) (by omega) (by omega) μ2 (fun k hk => (f2 k hk).trans (f1 k hk)) (fun k i h1 h2 => ?_) (fun i j hj => ?_)
      · refine wp_go b35_21 ?_; simp only [l35_21, sg_iinc, ldI_3, okS_3, stL_3, sg_goto, nLg_n, nLg_i, nLg_r, tc_c, tc_l, tc_r, tc_m, tc_n, tc_o, tc_0, inR, true_and, and_true, ne_eq, not_true_eq_false, not_false_eq_true, true_imp_iff, false_imp_iff, Int.toNat_natCast, lit_a, Nat.reduceAdd, or_true, true_or, or_false, false_or, Int.reduceEq, Int.reduceNe, Int.reduceLT, Int.reduceLE, Int.reduceNeg, sg_nil]
        repeat' (first | with_reducible apply And.intro | (intro _) | ((first | refine wp_go b35_0 ?_ | refine wp_go b35_21 ?_ | refine wp_go b35_27 ?_ | refine wp_go b35_79 ?_ | refine wp_go b35_80 ?_ | refine wp_go b35_83 ?_); simp only [l35_0, l35_21, l35_27, l35_79, l35_80, l35_83, sg_aload_0, sg_getfp, sg_getf0, sg_istore_3, sg_iinc, ldI_3, okS_3, stL_3, sg_goto, sg_dup_i, sg_dup_r, sg_iconst, sg_iadd, sg_putf0, sg_iload_1, sg_iastore, sg_iload_2, sg_if_ne, len4_0, len4_1, len4_2, len4_3, len4_4, sg_is1_2, sg_ret, nLg_n, nLg_i, nLg_r, tc_c, tc_l, tc_r, tc_m, tc_n, tc_o, tc_0, inR, true_and, and_true, ne_eq, not_true_eq_false, not_false_eq_true, true_imp_iff, false_imp_iff, Int.toNat_natCast, lit_a, Nat.reduceAdd, or_true, true_or, or_false, false_or, Int.reduceEq, Int.reduceNe, Int.reduceLT, Int.reduceLE, Int.reduceNeg, sg_nil]))
        all_goals (try omega)
        rw [show (b : Int) + -1 = ((b - 1 : Nat) : Int) by omega]
        exact ih1
      · rw [c2 k i h1 h2]
        by_cases hi : i = b
        · subst hi
          rw [if_pos rfl, c1 k (i - 1) h1 h2]
          (repeat (first | rw [if_neg (by omega)] | rw [if_pos (by omega)]))
        · rw [if_neg hi, c1 k i h1 h2]
          by_cases h : b < i ∧ i ≤ n
          · rw [if_pos h, if_pos (by omega)]
          · rw [if_neg h, if_neg (by omega)]
      · rw [r2 i j hj]
        by_cases hi : i = b
        · subst hi
          rw [if_pos rfl, r1 (i - 1) j hj]
          (repeat (first | rw [if_neg (by omega)] | rw [if_pos (by omega)]))
        · rw [if_neg hi, r1 i j hj]
          by_cases h : b < i ∧ i ≤ n
          · rw [if_pos h, if_pos (by omega)]
          · rw [if_neg h, if_neg (by omega)]
  refine wp_go b35_0 ?_; simp only [l35_0, sg_aload_0, sg_getfp, sg_getf0, sg_istore_3, nLg_n, nLg_i, nLg_r, tc_c, tc_l, tc_r, tc_m, tc_n, tc_o, tc_0, inR, true_and, and_true, ne_eq, not_true_eq_false, not_false_eq_true, true_imp_iff, false_imp_iff, Int.toNat_natCast, lit_a, Nat.reduceAdd, or_true, true_or, or_false, false_or, Int.reduceEq, Int.reduceNe, Int.reduceLT, Int.reduceLE, Int.reduceNeg, sg_nil, t0, t1, t2, t3, t4, t5, t6, t7, t8, t9, t10, t11, t12, u0, u1, u2, u3, u4, u5, u6, u7, u8, u9, u10, u11, hn]
  exact loop (n - p) n (by omega) (Nat.le_refl n) μ (fun _ _ => rfl) (fun k i _ _ => by (repeat (first | rw [if_neg (by omega)] | rw [if_pos (by omega)]))) (fun i j _ => by (repeat (first | rw [if_neg (by omega)] | rw [if_pos (by omega)])))

