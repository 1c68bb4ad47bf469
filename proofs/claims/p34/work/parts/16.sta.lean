theorem staF {σ : Sg} {S : Nat} (H : iSta σ S) : (shp σ S).1 = 5 ∧ (shp σ (S + 1)).1 = 4 ∧ shp σ (S + 2) = (100, 24) ∧ shp σ (S + 3) = (100, 24) ∧ shp σ (S + 4) = (100, 24) ∧ shp σ (S + 5) = (100, 24) ∧ shp σ (S + 6) = (100, 96) ∧ shp σ (S + 7) = (100, 8) ∧ shp σ (S + 8) = (100, 8) ∧ shp σ (S + 9) = (100, 6) ∧ shp σ (S + 10) = (100, 6) ∧ shp σ (S + 11) = (102, 6) ∧ shp σ (S + 12) = (103, 6) ∧
    σ.2 S 0 = true ∧ σ.2 S 1 = true ∧ σ.2 S 2 = true ∧ σ.2 S 3 = true ∧ σ.2 S 4 = true ∧ σ.2 S 5 = true ∧ σ.2 S 6 = true ∧ σ.2 S 7 = true ∧ σ.2 S 8 = true ∧ σ.2 (S + 1) 0 = true ∧ σ.2 (S + 1) 1 = true ∧ σ.2 (S + 1) 2 = true := by
  obtain ⟨a0, ⟨b0, b1, b2, b3, b4, b5, b6⟩, ⟨c1, c2, c3, c4, c5, c6, c7, c8⟩, -, hp, -⟩ := H
  exact ⟨a0, b0, b1, b2, b3, c1, c2, c3, c4, c5, c6, c7, c8, hp 0 (by omega), hp 1 (by omega), hp 2 (by omega), hp 3 (by omega), hp 4 (by omega), hp 5 (by omega), hp 6 (by omega), hp 7 (by omega), hp 8 (by omega), b4, b5, b6⟩
/-- an Int that is a place -/
theorem nat_of {x : Int} (h : 0 ≤ x) : ∃ n : Nat, x = (n : Int) := ⟨x.toNat, by omega⟩
-- Sta.hasSentence: blocks [0, 14]
theorem k_Sta_hasSentence {σ : Sg} {d : Nat} {Q : QT} {μ : Mem} {S : Nat} {s : Int} {z : Rw} (hS : iSta σ S) (hR : RC z μ S) (hz : IZ z) (hs : inR s) (h1 : 0 ≤ s → s < z 0 → Q (.inl 1) μ) (h0 : (s < 0 ∨ z 0 ≤ s) → Q (.inl 0) μ) : Call σ (d + 2) 27 [.inr (.inr S), .inl s] μ Q := by
  refine e_27 ?_
  obtain ⟨t0, t1, t2, t3, t4, t5, t6, t7, t8, t9, t10, t11, t12, u0, u1, u2, u3, u4, u5, u6, u7, u8, u9, u10, u11⟩ := staF hS
  have q := hz.1
  refine wp_go b27_0 ?_; simp only [l27_0, sg_iload_1, sg_iconst, sg_aload_0, sg_getfp, sg_getf0, sg_isub, len4_0, len4_1, len4_2, len4_3, len4_4, sg_is3_2, nLg_n, nLg_i, nLg_r, tc_c, tc_l, tc_r, tc_m, tc_n, tc_o, tc_0, inR, true_and, and_true, ne_eq, not_true_eq_false, not_false_eq_true, true_imp_iff, false_imp_iff, Int.toNat_natCast, lit_a, Nat.reduceAdd, or_true, true_or, or_false, false_or, Int.reduceEq, Int.reduceNe, Int.reduceLT, Int.reduceLE, Int.reduceNeg, sg_nil, t0, t1, t2, t3, t4, t5, t6, t7, t8, t9, t10, t11, t12, u0, u1, u2, u3, u4, u5, u6, u7, u8, u9, u10, u11, hR.1.1]
  refine k_NS_isWithin hs (by unfold inR; omega) (by unfold inR; omega) (fun _ _ => ?_) (fun _ => ?_)
  · have h1 := h1 (by omega) (by omega)
    refine wp_go b27_14 ?_; simp only [l27_14, sg_iret1, nLg_n, nLg_i, nLg_r, tc_c, tc_l, tc_r, tc_m, tc_n, tc_o, tc_0, inR, true_and, and_true, ne_eq, not_true_eq_false, not_false_eq_true, true_imp_iff, false_imp_iff, Int.toNat_natCast, lit_a, Nat.reduceAdd, or_true, true_or, or_false, false_or, Int.reduceEq, Int.reduceNe, Int.reduceLT, Int.reduceLE, Int.reduceNeg, sg_nil]
    exact h1
  · have h0 := h0 (by omega)
    refine wp_go b27_14 ?_; simp only [l27_14, sg_iret1, nLg_n, nLg_i, nLg_r, tc_c, tc_l, tc_r, tc_m, tc_n, tc_o, tc_0, inR, true_and, and_true, ne_eq, not_true_eq_false, not_false_eq_true, true_imp_iff, false_imp_iff, Int.toNat_natCast, lit_a, Nat.reduceAdd, or_true, true_or, or_false, false_or, Int.reduceEq, Int.reduceNe, Int.reduceLT, Int.reduceLE, Int.reduceNeg, sg_nil]
    exact h0
-- Sta.hasNotice: blocks [0, 11]
theorem k_Sta_hasNotice {σ : Sg} {d : Nat} {Q : QT} {μ : Mem} {S : Nat} {s : Int} {z : Rw} (hS : iSta σ S) (hR : RC z μ S) (hz : IZ z) (hs : inR s) (h1 : 0 ≤ s → s < z 2 → Q (.inl 1) μ) (h0 : (s < 0 ∨ z 2 ≤ s) → Q (.inl 0) μ) : Call σ (d + 2) 28 [.inr (.inr S), .inl s] μ Q := by
  refine e_28 ?_
  obtain ⟨t0, t1, t2, t3, t4, t5, t6, t7, t8, t9, t10, t11, t12, u0, u1, u2, u3, u4, u5, u6, u7, u8, u9, u10, u11⟩ := staF hS
  have q := hz.1
  refine wp_go b28_0 ?_; simp only [l28_0, sg_iload_1, sg_iconst, sg_aload_0, sg_getf0, sg_isub, len4_0, len4_1, len4_2, len4_3, len4_4, sg_is3_2, nLg_n, nLg_i, nLg_r, tc_c, tc_l, tc_r, tc_m, tc_n, tc_o, tc_0, inR, true_and, and_true, ne_eq, not_true_eq_false, not_false_eq_true, true_imp_iff, false_imp_iff, Int.toNat_natCast, lit_a, Nat.reduceAdd, or_true, true_or, or_false, false_or, Int.reduceEq, Int.reduceNe, Int.reduceLT, Int.reduceLE, Int.reduceNeg, sg_nil, t0, t1, t2, t3, t4, t5, t6, t7, t8, t9, t10, t11, t12, u0, u1, u2, u3, u4, u5, u6, u7, u8, u9, u10, u11, hR.1.2.2.1]
  refine k_NS_isWithin hs (by unfold inR; omega) (by unfold inR; omega) (fun _ _ => ?_) (fun _ => ?_)
  · have h1 := h1 (by omega) (by omega)
    refine wp_go b28_11 ?_; simp only [l28_11, sg_iret1, nLg_n, nLg_i, nLg_r, tc_c, tc_l, tc_r, tc_m, tc_n, tc_o, tc_0, inR, true_and, and_true, ne_eq, not_true_eq_false, not_false_eq_true, true_imp_iff, false_imp_iff, Int.toNat_natCast, lit_a, Nat.reduceAdd, or_true, true_or, or_false, false_or, Int.reduceEq, Int.reduceNe, Int.reduceLT, Int.reduceLE, Int.reduceNeg, sg_nil]
    exact h1
  · have h0 := h0 (by omega)
    refine wp_go b28_11 ?_; simp only [l28_11, sg_iret1, nLg_n, nLg_i, nLg_r, tc_c, tc_l, tc_r, tc_m, tc_n, tc_o, tc_0, inR, true_and, and_true, ne_eq, not_true_eq_false, not_false_eq_true, true_imp_iff, false_imp_iff, Int.toNat_natCast, lit_a, Nat.reduceAdd, or_true, true_or, or_false, false_or, Int.reduceEq, Int.reduceNe, Int.reduceLT, Int.reduceLE, Int.reduceNeg, sg_nil]
    exact h0
-- Sta.hasListener: blocks [0, 11]
theorem k_Sta_hasListener {σ : Sg} {d : Nat} {Q : QT} {μ : Mem} {S : Nat} {s : Int} {z : Rw} (hS : iSta σ S) (hR : RC z μ S) (hz : IZ z) (hs : inR s) (h1 : 0 ≤ s → s < z 3 → Q (.inl 1) μ) (h0 : (s < 0 ∨ z 3 ≤ s) → Q (.inl 0) μ) : Call σ (d + 2) 29 [.inr (.inr S), .inl s] μ Q := by
  refine e_29 ?_
  obtain ⟨t0, t1, t2, t3, t4, t5, t6, t7, t8, t9, t10, t11, t12, u0, u1, u2, u3, u4, u5, u6, u7, u8, u9, u10, u11⟩ := staF hS
  have q := hz.1
  refine wp_go b29_0 ?_; simp only [l29_0, sg_iload_1, sg_iconst, sg_aload_0, sg_getf0, sg_isub, len4_0, len4_1, len4_2, len4_3, len4_4, sg_is3_2, nLg_n, nLg_i, nLg_r, tc_c, tc_l, tc_r, tc_m, tc_n, tc_o, tc_0, inR, true_and, and_true, ne_eq, not_true_eq_false, not_false_eq_true, true_imp_iff, false_imp_iff, Int.toNat_natCast, lit_a, Nat.reduceAdd, or_true, true_or, or_false, false_or, Int.reduceEq, Int.reduceNe, Int.reduceLT, Int.reduceLE, Int.reduceNeg, sg_nil, t0, t1, t2, t3, t4, t5, t6, t7, t8, t9, t10, t11, t12, u0, u1, u2, u3, u4, u5, u6, u7, u8, u9, u10, u11, hR.1.2.2.2]
  refine k_NS_isWithin hs (by unfold inR; omega) (by unfold inR; omega) (fun _ _ => ?_) (fun _ => ?_)
  · have h1 := h1 (by omega) (by omega)
    refine wp_go b29_11 ?_; simp only [l29_11, sg_iret1, nLg_n, nLg_i, nLg_r, tc_c, tc_l, tc_r, tc_m, tc_n, tc_o, tc_0, inR, true_and, and_true, ne_eq, not_true_eq_false, not_false_eq_true, true_imp_iff, false_imp_iff, Int.toNat_natCast, lit_a, Nat.reduceAdd, or_true, true_or, or_false, false_or, Int.reduceEq, Int.reduceNe, Int.reduceLT, Int.reduceLE, Int.reduceNeg, sg_nil]
    exact h1
  · have h0 := h0 (by omega)
    refine wp_go b29_11 ?_; simp only [l29_11, sg_iret1, nLg_n, nLg_i, nLg_r, tc_c, tc_l, tc_r, tc_m, tc_n, tc_o, tc_0, inR, true_and, and_true, ne_eq, not_true_eq_false, not_false_eq_true, true_imp_iff, false_imp_iff, Int.toNat_natCast, lit_a, Nat.reduceAdd, or_true, true_or, or_false, false_or, Int.reduceEq, Int.reduceNe, Int.reduceLT, Int.reduceLE, Int.reduceNeg, sg_nil]
    exact h0
-- Sta.isRowFull: blocks [0, 14, 15]
theorem k_Sta_isRowFull {σ : Sg} {d : Nat} {Q : QT} {μ : Mem} {S i : Nat} {z : Rw} (hS : iSta σ S) (hR : RC z μ S) (hz : IZ z) (hi : (i : Int) < z 0) (h1 : 4 ≤ z (76 + 5 * i) → Q (.inl 1) μ) (h0 : z (76 + 5 * i) < 4 → Q (.inl 0) μ) : Call σ (d + 1) 30 [.inr (.inr S), .inl (i : Int)] μ Q := by
  refine e_30 ?_
  obtain ⟨t0, t1, t2, t3, t4, t5, t6, t7, t8, t9, t10, t11, t12, u0, u1, u2, u3, u4, u5, u6, u7, u8, u9, u10, u11⟩ := staF hS
  have q := hz.1
  have e := (hR.2.1 i hi).2.2.2.1
  have r := (hz.2.1 i hi).2.2.2.1
  refine wp_go b30_0 ?_; simp only [l30_0, sg_aload_0, sg_getfp, sg_iload_1, sg_iaload, sg_iconst, sg_ic_lt, sg_goto, nLg_n, nLg_i, nLg_r, tc_c, tc_l, tc_r, tc_m, tc_n, tc_o, tc_0, inR, true_and, and_true, ne_eq, not_true_eq_false, not_false_eq_true, true_imp_iff, false_imp_iff, Int.toNat_natCast, lit_a, Nat.reduceAdd, or_true, true_or, or_false, false_or, Int.reduceEq, Int.reduceNe, Int.reduceLT, Int.reduceLE, Int.reduceNeg, sg_nil, t0, t1, t2, t3, t4, t5, t6, t7, t8, t9, t10, t11, t12, u0, u1, u2, u3, u4, u5, u6, u7, u8, u9, u10, u11, e]
  repeat' (first | with_reducible apply And.intro | (intro _) | ((first | refine wp_go b30_0 ?_ | refine wp_go b30_14 ?_ | refine wp_go b30_15 ?_); simp only [l30_0, l30_14, l30_15, sg_aload_0, sg_getfp, sg_iload_1, sg_iaload, sg_iconst, sg_ic_lt, sg_goto, sg_iret1, nLg_n, nLg_i, nLg_r, tc_c, tc_l, tc_r, tc_m, tc_n, tc_o, tc_0, inR, true_and, and_true, ne_eq, not_true_eq_false, not_false_eq_true, true_imp_iff, false_imp_iff, Int.toNat_natCast, lit_a, Nat.reduceAdd, or_true, true_or, or_false, false_or, Int.reduceEq, Int.reduceNe, Int.reduceLT, Int.reduceLE, Int.reduceNeg, sg_nil]))
  all_goals (try omega)
  all_goals first | exact h1 (by omega) | exact h0 (by omega)
-- Sta.inRow: blocks [0]
theorem k_Sta_inRow {σ : Sg} {d : Nat} {Q : QT} {μ : Mem} {S i j : Nat} {z : Rw} (hS : iSta σ S) (hR : R0 z μ S) (hz : IZ z) (hi : (i : Int) < z 0) (hj : (j : Int) < z (76 + 5 * i)) (h : Q (.inl (z (77 + 5 * i + j))) μ) : Call σ (d + 1) 31 [.inr (.inr S), .inl (i : Int), .inl (j : Int)] μ Q := by
  refine e_31 ?_
  obtain ⟨t0, t1, t2, t3, t4, t5, t6, t7, t8, t9, t10, t11, t12, u0, u1, u2, u3, u4, u5, u6, u7, u8, u9, u10, u11⟩ := staF hS
  have q := hz.1
  have r := (hz.2.1 i hi).2.2.2.1
  have e := (hR.1 i hi).2.2.2.2 j hj
  rw [Nat.mul_comm 4 i] at e
  refine wp_go b31_0 ?_; simp only [l31_0, sg_aload_0, sg_getfp, sg_iload_1, sg_iconst, sg_imul, sg_iload_2, sg_iadd, sg_iaload, sg_iret0, nLg_n, nLg_i, nLg_r, tc_c, tc_l, tc_r, tc_m, tc_n, tc_o, tc_0, inR, true_and, and_true, ne_eq, not_true_eq_false, not_false_eq_true, true_imp_iff, false_imp_iff, Int.toNat_natCast, lit_a, Nat.reduceAdd, or_true, true_or, or_false, false_or, Int.reduceEq, Int.reduceNe, Int.reduceLT, Int.reduceLE, Int.reduceNeg, sg_nil, t0, t1, t2, t3, t4, t5, t6, t7, t8, t9, t10, t11, t12, u0, u1, u2, u3, u4, u5, u6, u7, u8, u9, u10, u11, e]
  repeat' (first | with_reducible apply And.intro | (intro _) | ((first | refine wp_go b31_0 ?_); simp only [l31_0, sg_aload_0, sg_getfp, sg_iload_1, sg_iconst, sg_imul, sg_iload_2, sg_iadd, sg_iaload, sg_iret0, nLg_n, nLg_i, nLg_r, tc_c, tc_l, tc_r, tc_m, tc_n, tc_o, tc_0, inR, true_and, and_true, ne_eq, not_true_eq_false, not_false_eq_true, true_imp_iff, false_imp_iff, Int.toNat_natCast, lit_a, Nat.reduceAdd, or_true, true_or, or_false, false_or, Int.reduceEq, Int.reduceNe, Int.reduceLT, Int.reduceLE, Int.reduceNeg, sg_nil]))
  all_goals (try omega)
  all_goals exact h
def exI (p : Nat → Bool) : Nat → Int
  | 0 => 0
  | n + 1 => if p n = true then 1 else exI p n
theorem exI_t {p : Nat → Bool} : ∀ {n i : Nat}, i < n → p i = true → exI p n = 1
  | n + 1, i, hi, hp => by
    unfold exI
    split
    · rfl
    · rename_i q
      exact exI_t (n := n) (i := i) (by
        rcases Nat.lt_or_ge i n with r | r
        · exact r
        · have : i = n := by omega
          subst this; exact absurd hp q) hp
theorem exI_f {p : Nat → Bool} : ∀ {n : Nat}, (∀ i, i < n → p i = false) → exI p n = 0
  | 0, _ => rfl
  | n + 1, h => by
    unfold exI
    rw [if_neg (by rw [h n (by omega)]; decide)]
    exact exI_f (fun i hi => h i (by omega))
theorem exI_01 {p : Nat → Bool} : ∀ n : Nat, exI p n = 0 ∨ exI p n = 1
  | 0 => Or.inl rfl
  | n + 1 => by
    unfold exI
    split
    · exact Or.inr rfl
    · exact exI_01 n
-- Sta.isInRow: blocks [0, 2, 18, 24, 30]
theorem k_Sta_isInRow {σ : Sg} {d : Nat} {Q : QT} {μ : Mem} {S i : Nat} {t : Int} {z : Rw} (hS : iSta σ S) (hR : RC z μ S) (hz : IZ z) (hi : (i : Int) < z 0) (ht : inR t) (h : Q (.inl (exI (fun j => decide (z (77 + 5 * i + j) = t)) (z (76 + 5 * i)).toNat)) μ) : Call σ (d + 2) 33 [.inr (.inr S), .inl (i : Int), .inl t] μ Q := by
  refine e_33 ?_
  obtain ⟨t0, t1, t2, t3, t4, t5, t6, t7, t8, t9, t10, t11, t12, u0, u1, u2, u3, u4, u5, u6, u7, u8, u9, u10, u11⟩ := staF hS
  have q := hz.1
  have e := (hR.2.1 i hi).2.2.2.1
  have r := (hz.2.1 i hi).2.2.2.1
  unfold inR at ht
  obtain ⟨n, hn⟩ := nat_of r.1
  rw [hn, Int.toNat_natCast] at h
  have loop : ∀ k j : Nat, j + k = n → (∀ j', j' < j → ¬ z (77 + 5 * i + j') = t) → wp σ (Call σ (d + 1)) 33 Q 2 [some (.inr (.inr S)), some (.inl (i : Int)), some (.inl t), some (.inl (j : Int))] [] μ := by
    intro k
    induction k with
    | zero =>
      intro j hj hm
      obtain rfl : j = n := by omega
      rw [exI_f (fun j hj => decide_eq_false (hm j hj))] at h
      refine wp_go b33_2 ?_; simp only [l33_2, sg_iload_3, sg_aload_0, sg_getfp, sg_iload_1, sg_iaload, sg_ic_ge, sg_iv3_i, len4_0, len4_1, len4_2, len4_3, len4_4, nLg_n, nLg_i, nLg_r, tc_c, tc_l, tc_r, tc_m, tc_n, tc_o, tc_0, inR, true_and, and_true, ne_eq, not_true_eq_false, not_false_eq_true, true_imp_iff, false_imp_iff, Int.toNat_natCast, lit_a, Nat.reduceAdd, or_true, true_or, or_false, false_or, Int.reduceEq, Int.reduceNe, Int.reduceLT, Int.reduceLE, Int.reduceNeg, sg_nil, t0, t1, t2, t3, t4, t5, t6, t7, t8, t9, t10, t11, t12, u0, u1, u2, u3, u4, u5, u6, u7, u8, u9, u10, u11, e, hn]
      repeat' (first | with_reducible apply And.intro | (intro _) | ((first | refine wp_go b33_0 ?_ | refine wp_go b33_18 ?_ | refine wp_go b33_24 ?_ | refine wp_go b33_30 ?_); simp only [l33_0, l33_18, l33_24, l33_30, sg_iconst, sg_istore_3, sg_iload_2, sg_ic_ne, sg_iret1, sg_iinc, ldI_3, okS_3, stL_3, sg_goto, nLg_n, nLg_i, nLg_r, tc_c, tc_l, tc_r, tc_m, tc_n, tc_o, tc_0, inR, true_and, and_true, ne_eq, not_true_eq_false, not_false_eq_true, true_imp_iff, false_imp_iff, Int.toNat_natCast, lit_a, Nat.reduceAdd, or_true, true_or, or_false, false_or, Int.reduceEq, Int.reduceNe, Int.reduceLT, Int.reduceLE, Int.reduceNeg, sg_nil]))
      all_goals (try omega)
      all_goals exact h
    | succ k ih =>
      intro j hj hm
      have w := (hz.2.1 i hi).2.2.2.2 j (by omega)
      refine wp_go b33_2 ?_; simp only [l33_2, sg_iload_3, sg_aload_0, sg_getfp, sg_iload_1, sg_iaload, sg_ic_ge, sg_iv3_i, len4_0, len4_1, len4_2, len4_3, len4_4, nLg_n, nLg_i, nLg_r, tc_c, tc_l, tc_r, tc_m, tc_n, tc_o, tc_0, inR, true_and, and_true, ne_eq, not_true_eq_false, not_false_eq_true, true_imp_iff, false_imp_iff, Int.toNat_natCast, lit_a, Nat.reduceAdd, or_true, true_or, or_false, false_or, Int.reduceEq, Int.reduceNe, Int.reduceLT, Int.reduceLE, Int.reduceNeg, sg_nil, t0, t1, t2, t3, t4, t5, t6, t7, t8, t9, t10, t11, t12, u0, u1, u2, u3, u4, u5, u6, u7, u8, u9, u10, u11, e, hn]
      repeat' (first | with_reducible apply And.intro | (intro _) | refine k_Sta_inRow hS hR.r0 hz hi (by omega) ?_ | ((first | refine wp_go b33_0 ?_ | refine wp_go b33_18 ?_ | refine wp_go b33_24 ?_ | refine wp_go b33_30 ?_); simp only [l33_0, l33_18, l33_24, l33_30, sg_iconst, sg_istore_3, sg_iload_2, sg_ic_ne, sg_iret1, sg_iinc, ldI_3, okS_3, stL_3, sg_goto, nLg_n, nLg_i, nLg_r, tc_c, tc_l, tc_r, tc_m, tc_n, tc_o, tc_0, inR, true_and, and_true, ne_eq, not_true_eq_false, not_false_eq_true, true_imp_iff, false_imp_iff, Int.toNat_natCast, lit_a, Nat.reduceAdd, or_true, true_or, or_false, false_or, Int.reduceEq, Int.reduceNe, Int.reduceLT, Int.reduceLE, Int.reduceNeg, sg_nil]))
      all_goals (try omega)
      all_goals first
        | exact ih (j + 1) (by omega) (fun j' hj' => by
            rcases Nat.lt_or_ge j' j with q | q
            · exact hm j' q
            · have : j' = j := by omega
              subst this; omega)
        | (rw [exI_t (i := j) (by omega) (decide_eq_true (by omega))] at h; exact h)
  refine wp_go b33_0 ?_; simp only [l33_0, sg_iconst, sg_istore_3, nLg_n, nLg_i, nLg_r, tc_c, tc_l, tc_r, tc_m, tc_n, tc_o, tc_0, inR, true_and, and_true, ne_eq, not_true_eq_false, not_false_eq_true, true_imp_iff, false_imp_iff, Int.toNat_natCast, lit_a, Nat.reduceAdd, or_true, true_or, or_false, false_or, Int.reduceEq, Int.reduceNe, Int.reduceLT, Int.reduceLE, Int.reduceNeg, sg_nil]
  exact loop n 0 (by omega) (fun j hj => absurd hj (by omega))
def brk (z : Rw) (t : Int) (i : Nat) : Int := exI (fun j => decide (z (77 + 5 * i + j) = t)) (z (76 + 5 * i)).toNat
-- Sta.countBreaksWith: blocks [0, 4, 22, 25, 33]
theorem k_Sta_countBreaksWith {σ : Sg} {d : Nat} {Q : QT} {μ : Mem} {S n : Nat} {t : Int} {z : Rw} (hS : iSta σ S) (hR : RC z μ S) (hz : IZ z) (hn : z 0 = (n : Int)) (ht : inR t) (h : Q (.inl (sm (brk z t) n)) μ) : Call σ (d + 3) 34 [.inr (.inr S), .inl t] μ Q := by
  refine e_34 ?_
  obtain ⟨t0, t1, t2, t3, t4, t5, t6, t7, t8, t9, t10, t11, t12, u0, u1, u2, u3, u4, u5, u6, u7, u8, u9, u10, u11⟩ := staF hS
  have q := hz.1
  have loop : ∀ k i : Nat, i + k = n → wp σ (Call σ (d + 2)) 34 Q 4 [some (.inr (.inr S)), some (.inl t), some (.inl (sm (brk z t) i)), some (.inl (i : Int))] [] μ := by
    intro k
    induction k with
    | zero =>
      intro i hi
      obtain rfl : i = n := by omega
      refine wp_go b34_4 ?_; simp only [l34_4, sg_iload_3, sg_aload_0, sg_getfp, sg_getf0, sg_ic_ge, sg_iload_2, sg_iload_1, sg_iv3_i, len4_0, len4_1, len4_2, len4_3, len4_4, nLg_n, nLg_i, nLg_r, tc_c, tc_l, tc_r, tc_m, tc_n, tc_o, tc_0, inR, true_and, and_true, ne_eq, not_true_eq_false, not_false_eq_true, true_imp_iff, false_imp_iff, Int.toNat_natCast, lit_a, Nat.reduceAdd, or_true, true_or, or_false, false_or, Int.reduceEq, Int.reduceNe, Int.reduceLT, Int.reduceLE, Int.reduceNeg, sg_nil, t0, t1, t2, t3, t4, t5, t6, t7, t8, t9, t10, t11, t12, u0, u1, u2, u3, u4, u5, u6, u7, u8, u9, u10, u11, hR.1.1, hn]
      repeat' (first | with_reducible apply And.intro | (intro _) | ((first | refine wp_go b34_0 ?_ | refine wp_go b34_22 ?_ | refine wp_go b34_25 ?_ | refine wp_go b34_33 ?_); simp only [l34_0, l34_22, l34_25, l34_33, sg_iconst, sg_istore_2, sg_istore_3, len4_0, len4_1, len4_2, len4_3, len4_4, sg_is1_2, sg_iadd, sg_iinc, ldI_3, okS_3, stL_3, sg_goto, sg_iload_2, sg_iret0, nLg_n, nLg_i, nLg_r, tc_c, tc_l, tc_r, tc_m, tc_n, tc_o, tc_0, inR, true_and, and_true, ne_eq, not_true_eq_false, not_false_eq_true, true_imp_iff, false_imp_iff, Int.toNat_natCast, lit_a, Nat.reduceAdd, or_true, true_or, or_false, false_or, Int.reduceEq, Int.reduceNe, Int.reduceLT, Int.reduceLE, Int.reduceNeg, sg_nil]))
      all_goals (try omega)
      all_goals exact h
    | succ k ih =>
      intro i hi
      refine wp_go b34_4 ?_; simp only [l34_4, sg_iload_3, sg_aload_0, sg_getfp, sg_getf0, sg_ic_ge, sg_iload_2, sg_iload_1, sg_iv3_i, len4_0, len4_1, len4_2, len4_3, len4_4, nLg_n, nLg_i, nLg_r, tc_c, tc_l, tc_r, tc_m, tc_n, tc_o, tc_0, inR, true_and, and_true, ne_eq, not_true_eq_false, not_false_eq_true, true_imp_iff, false_imp_iff, Int.toNat_natCast, lit_a, Nat.reduceAdd, or_true, true_or, or_false, false_or, Int.reduceEq, Int.reduceNe, Int.reduceLT, Int.reduceLE, Int.reduceNeg, sg_nil, t0, t1, t2, t3, t4, t5, t6, t7, t8, t9, t10, t11, t12, u0, u1, u2, u3, u4, u5, u6, u7, u8, u9, u10, u11, hR.1.1, hn]
      repeat' (first | with_reducible apply And.intro | (intro _) | refine k_Sta_isInRow hS hR hz (by omega) ht ?_ | refine k_NS_asNumber (exI_01 _) ?_ | ((first | refine wp_go b34_0 ?_ | refine wp_go b34_22 ?_ | refine wp_go b34_25 ?_ | refine wp_go b34_33 ?_); simp only [l34_0, l34_22, l34_25, l34_33, sg_iconst, sg_istore_2, sg_istore_3, len4_0, len4_1, len4_2, len4_3, len4_4, sg_is1_2, sg_iadd, sg_iinc, ldI_3, okS_3, stL_3, sg_goto, sg_iload_2, sg_iret0, nLg_n, nLg_i, nLg_r, tc_c, tc_l, tc_r, tc_m, tc_n, tc_o, tc_0, inR, true_and, and_true, ne_eq, not_true_eq_false, not_false_eq_true, true_imp_iff, false_imp_iff, Int.toNat_natCast, lit_a, Nat.reduceAdd, or_true, true_or, or_false, false_or, Int.reduceEq, Int.reduceNe, Int.reduceLT, Int.reduceLE, Int.reduceNeg, sg_nil]))
      all_goals (try omega)
      exact ih (i + 1) (by omega)
  refine wp_go b34_0 ?_; simp only [l34_0, sg_iconst, sg_istore_2, sg_istore_3, nLg_n, nLg_i, nLg_r, tc_c, tc_l, tc_r, tc_m, tc_n, tc_o, tc_0, inR, true_and, and_true, ne_eq, not_true_eq_false, not_false_eq_true, true_imp_iff, false_imp_iff, Int.toNat_natCast, lit_a, Nat.reduceAdd, or_true, true_or, or_false, false_or, Int.reduceEq, Int.reduceNe, Int.reduceLT, Int.reduceLE, Int.reduceNeg, sg_nil]
  exact loop n 0 (by omega)
-- Cho.begin: blocks [0]
theorem k_Cho_begin {σ : Sg} {d : Nat} {Q : QT} {μ : Mem} {c : Nat} {g b : Int} (hc : iCho σ c) (h : ∀ μ' : Mem, (∀ k, k ≠ c → μ' k = μ k) → μ' c 0 = g → μ' c 1 = b → μ' c 2 = 0 → μ' c 3 = 0 → μ' c 4 = 0 → μ' c 5 = 600 → Q (.inl 0) μ') : Call σ (d + 1) 1 [.inr (.inr c), .inl g, .inl b] μ Q := by
  refine e_1 ?_
  unfold iCho at hc
  refine wp_go b1_0 ?_; simp only [l1_0, sg_aload_0, sg_iload_1, sg_putf0, sg_iload_2, sg_iconst, sg_sipush, sg_ret, nLg_n, nLg_i, nLg_r, tc_c, tc_l, tc_r, tc_m, tc_n, tc_o, tc_0, inR, true_and, and_true, ne_eq, not_true_eq_false, not_false_eq_true, true_imp_iff, false_imp_iff, Int.toNat_natCast, lit_a, Nat.reduceAdd, or_true, true_or, or_false, false_or, Int.reduceEq, Int.reduceNe, Int.reduceLT, Int.reduceLE, Int.reduceNeg, sg_nil, hc]
  exact h _ (fun k hk => by funext j; simp only [ms_at, hk, false_and, if_false]) (by simp [ms_at]) (by simp [ms_at]) (by simp [ms_at]) (by simp [ms_at]) (by simp [ms_at]) (by simp [ms_at])
-- Cho.isFor: blocks [0, 21, 22, 39, 40, 55, 56]
theorem k_Cho_isFor {σ : Sg} {d : Nat} {Q : QT} {μ : Mem} {c S t : Nat} {g set : Int} {z : Rw} (hc : iCho σ c) (hS : iSta σ S) (hR : R0 z μ S) (hz : IZ z) (ht : (t : Int) < z 2) (h0 : μ c 0 = g) (h3 : μ c 3 = set)
    (k1 : bit (z (197 + 2 * t)) g = 1 → bit set t ≠ 1 → Q (.inl 1) μ) (k0 : ¬ (bit (z (197 + 2 * t)) g = 1 ∧ bit set t ≠ 1) → Q (.inl 0) μ) : Call σ (d + 1) 3 [.inr (.inr c), .inr (.inr S), .inl (t : Int)] μ Q := by
  refine e_3 ?_
  obtain ⟨t0, t1, t2, t3, t4, t5, t6, t7, t8, t9, t10, t11, t12, u0, u1, u2, u3, u4, u5, u6, u7, u8, u9, u10, u11⟩ := staF hS
  unfold iCho at hc
  have q := hz.1
  have e := (hR.2 t ht).2
  have b1 := bit_r (z (197 + 2 * t)) g
  have b2 := bit_r set t
  unfold inR at b1 b2
  unfold bit at b1 b2 k1 k0
  refine wp_go b3_0 ?_; simp only [l3_0, sg_aload_1, sg_getfp, sg_iload_2, sg_iaload, sg_aload_0, sg_getf0, sg_ishr, sg_iconst, sg_iand, sg_ic_ne, sg_goto, nLg_n, nLg_i, nLg_r, tc_c, tc_l, tc_r, tc_m, tc_n, tc_o, tc_0, inR, true_and, and_true, ne_eq, not_true_eq_false, not_false_eq_true, true_imp_iff, false_imp_iff, Int.toNat_natCast, lit_a, Nat.reduceAdd, or_true, true_or, or_false, false_or, Int.reduceEq, Int.reduceNe, Int.reduceLT, Int.reduceLE, Int.reduceNeg, sg_nil, t0, t1, t2, t3, t4, t5, t6, t7, t8, t9, t10, t11, t12, u0, u1, u2, u3, u4, u5, u6, u7, u8, u9, u10, u11, hc, e, h0, h3]
  repeat' (first | with_reducible apply And.intro | (intro _) | ((first | refine wp_go b3_0 ?_ | refine wp_go b3_21 ?_ | refine wp_go b3_22 ?_ | refine wp_go b3_39 ?_ | refine wp_go b3_40 ?_ | refine wp_go b3_55 ?_ | refine wp_go b3_56 ?_); simp only [l3_0, l3_21, l3_22, l3_39, l3_40, l3_55, l3_56, sg_aload_1, sg_getfp, sg_iload_2, sg_iaload, sg_aload_0, sg_getf0, sg_ishr, sg_iconst, sg_iand, sg_ic_ne, sg_goto, sg_istore_3, sg_istore, okS_4, stL_4, sg_iload_3, sg_if_eq, sg_iload, ldI_4, sg_if_ne, sg_iret1, nLg_n, nLg_i, nLg_r, tc_c, tc_l, tc_r, tc_m, tc_n, tc_o, tc_0, inR, true_and, and_true, ne_eq, not_true_eq_false, not_false_eq_true, true_imp_iff, false_imp_iff, Int.toNat_natCast, lit_a, Nat.reduceAdd, or_true, true_or, or_false, false_or, Int.reduceEq, Int.reduceNe, Int.reduceLT, Int.reduceLE, Int.reduceNeg, sg_nil, hc, h3]))
  all_goals (try omega)
  all_goals first
    | exact k1 (by assumption) (by assumption)
    | exact k0 (fun q => absurd q.1 (by assumption))
    | exact k0 (fun q => absurd (by assumption) q.2)
-- Cho.choose: blocks [0, 2, 18, 27, 33, 88, 101, 107]
theorem k_Cho_choose {σ : Sg} {d : Nat} {Q : QT} {μ : Mem} {c S s : Nat} {g b cnt set sec nb : Int} {z : Rw} (hc : iCho σ c) (hS : iSta σ S) (hR : R0 z μ S) (hz : IZ z) (hs : (s : Int) < z 0) (hcS : c < S ∨ S + 55 ≤ c)
    (h0 : μ c 0 = g) (h1 : μ c 1 = b) (h2 : μ c 2 = cnt) (h3 : μ c 3 = set) (h4 : μ c 4 = sec) (h5 : μ c 5 = nb) (hb : 0 ≤ b ∧ b ≤ 600) (hsec : 0 ≤ sec ∧ sec ≤ b) (hnb : 0 ≤ nb ∧ nb ≤ 600)
    (hq : ∀ (μ' : Mem) (nb' : Int), (∀ k, k ≠ c → μ' k = μ k) → μ' c 0 = g → μ' c 1 = b → μ' c 2 = cnt + bI (chs z g b (set, sec) s ≠ -6) → μ' c 3 = (nxt z (set, sec) (chs z g b (set, sec) s)).1 → μ' c 4 = (nxt z (set, sec) (chs z g b (set, sec) s)).2 → μ' c 5 = nb' → 0 ≤ nb' → nb' ≤ nb →
      (∀ b', b ≤ b' → b' < nb' → chs z g b' (set, sec) s = chs z g b (set, sec) s) → Q (.inl (chs z g b (set, sec) s)) μ') : Call σ (d + 2) 2 [.inr (.inr c), .inr (.inr S), .inl (s : Int)] μ Q := by
  refine e_2 ?_
  obtain ⟨t0, t1, t2, t3, t4, t5, t6, t7, t8, t9, t10, t11, t12, u0, u1, u2, u3, u4, u5, u6, u7, u8, u9, u10, u11⟩ := staF hS
  unfold iCho at hc
  have q := hz.1
  have e := (hR.1 s hs).2.2.2.1
  have r := (hz.2.1 s hs).2.2.2.1
  obtain ⟨n, hn⟩ := nat_of r.1
  have f0 : ∀ b', chs z g b' (set, sec) s = pickR (fun j => z (77 + 5 * s + j)) (okN z g b' set sec) n 0 := fun b' => by unfold chs; rw [hn]; rfl
  have loop : ∀ k j : Nat, j + k = n → ∀ (μ1 : Mem) (nb1 : Int) (o4 o5 : Option MV), (∀ k, k ≠ c → μ1 k = μ k) → μ1 c 0 = g → μ1 c 1 = b → μ1 c 2 = cnt → μ1 c 3 = set → μ1 c 4 = sec → μ1 c 5 = nb1 → 0 ≤ nb1 → nb1 ≤ nb →
      chs z g b (set, sec) s = pickR (fun j => z (77 + 5 * s + j)) (okN z g b set sec) k j → (∀ b', b ≤ b' → b' < nb1 → chs z g b' (set, sec) s = pickR (fun j => z (77 + 5 * s + j)) (okN z g b' set sec) k j) →
      wp σ (Call σ (d + 1)) 2 Q 2 [some (.inr (.inr c)), some (.inr (.inr S)), some (.inl (s : Int)), some (.inl (j : Int)), o4, o5] [] μ1 := by
    intro k
    induction k with
    | zero =>
      intro j hj μ1 nb1 o4 o5 mf m0 m1 m2 m3 m4 m5 n0 n1 cb cb'
      have hR1 : R0 z μ1 S := R0_f (fun k _ _ => mf k (by omega)) hR
      have e1 := (hR1.1 s hs).2.2.2.1
      have hq := hq μ1 nb1 mf m0 m1 (by rw [m2, cb]; simp [pickR, bI]) (by rw [m3, cb]; rfl) (by rw [m4, cb]; rfl) m5 n0 n1 (fun b' h1 h2 => by rw [cb' b' h1 h2, cb]; rfl)
      rw [cb] at hq
      refine wp_go b2_2 ?_; simp only [l2_2, sg_iload_3, sg_aload_1, sg_getfp, sg_iload_2, sg_iaload, sg_ic_ge, sg_iv3_i, len4_0, len4_1, len4_2, len4_3, len4_4, nLg_n, nLg_i, nLg_r, tc_c, tc_l, tc_r, tc_m, tc_n, tc_o, tc_0, inR, true_and, and_true, ne_eq, not_true_eq_false, not_false_eq_true, true_imp_iff, false_imp_iff, Int.toNat_natCast, lit_a, Nat.reduceAdd, or_true, true_or, or_false, false_or, Int.reduceEq, Int.reduceNe, Int.reduceLT, Int.reduceLE, Int.reduceNeg, sg_nil, t0, t1, t2, t3, t4, t5, t6, t7, t8, t9, t10, t11, t12, u0, u1, u2, u3, u4, u5, u6, u7, u8, u9, u10, u11, e1, hn]
      repeat' (first | with_reducible apply And.intro | (intro _) | ((first | refine wp_go b2_0 ?_ | refine wp_go b2_18 ?_ | refine wp_go b2_27 ?_ | refine wp_go b2_33 ?_ | refine wp_go b2_88 ?_ | refine wp_go b2_101 ?_ | refine wp_go b2_107 ?_); simp only [l2_0, l2_18, l2_27, l2_33, l2_88, l2_101, l2_107, sg_iconst, sg_istore_3, sg_istore, okS_4, stL_4, sg_aload_0, sg_aload_1, sg_iload, ldI_4, sg_iv3_i, len4_0, len4_1, len4_2, len4_3, len4_4, sg_if_ne, sg_goto, sg_getf0, sg_getfp, sg_iaload, sg_iadd, okS_5, stL_5, ldI_5, sg_ic_gt, sg_dup_i, sg_dup_r, sg_putf0, sg_ishl, sg_ior, sg_iret0, sg_min, sg_iinc, ldI_3, okS_3, stL_3, sg_bipush, nLg_n, nLg_i, nLg_r, tc_c, tc_l, tc_r, tc_m, tc_n, tc_o, tc_0, inR, true_and, and_true, ne_eq, not_true_eq_false, not_false_eq_true, true_imp_iff, false_imp_iff, Int.toNat_natCast, lit_a, Nat.reduceAdd, or_true, true_or, or_false, false_or, Int.reduceEq, Int.reduceNe, Int.reduceLT, Int.reduceLE, Int.reduceNeg, sg_nil]))
      all_goals (try omega)
      all_goals exact hq
    | succ k ih =>
      intro j hj μ1 nb1 o4 o5 mf m0 m1 m2 m3 m4 m5 n0 n1 cb cb'
      have hR1 : R0 z μ1 S := R0_f (fun k _ _ => mf k (by omega)) hR
      have e1 := (hR1.1 s hs).2.2.2.1
      have w := (hz.2.1 s hs).2.2.2.2 j (by omega)
      obtain ⟨m, hm⟩ := nat_of w.1
      have el := (hR1.2 m (by omega)).1
      have rl := (hz.2.2.2.1 m (by omega)).1
      have pk : ∀ b', pickR (fun j => z (77 + 5 * s + j)) (okN z g b' set sec) (k + 1) j = if okN z g b' set sec (m : Int) = true then (m : Int) else pickR (fun j => z (77 + 5 * s + j)) (okN z g b' set sec) k (j + 1) := fun b' => by
        show (if okN z g b' set sec (z (77 + 5 * s + j)) = true then z (77 + 5 * s + j) else _) = _
        rw [hm]
      have ok : ∀ b', okN z g b' set sec (m : Int) = decide (bit (z (197 + 2 * m)) g = 1 ∧ bit set m ≠ 1 ∧ sec + z (196 + 2 * m) ≤ b') := fun b' => rfl
      refine wp_go b2_2 ?_; simp only [l2_2, sg_iload_3, sg_aload_1, sg_getfp, sg_iload_2, sg_iaload, sg_ic_ge, sg_iv3_i, len4_0, len4_1, len4_2, len4_3, len4_4, nLg_n, nLg_i, nLg_r, tc_c, tc_l, tc_r, tc_m, tc_n, tc_o, tc_0, inR, true_and, and_true, ne_eq, not_true_eq_false, not_false_eq_true, true_imp_iff, false_imp_iff, Int.toNat_natCast, lit_a, Nat.reduceAdd, or_true, true_or, or_false, false_or, Int.reduceEq, Int.reduceNe, Int.reduceLT, Int.reduceLE, Int.reduceNeg, sg_nil, t0, t1, t2, t3, t4, t5, t6, t7, t8, t9, t10, t11, t12, u0, u1, u2, u3, u4, u5, u6, u7, u8, u9, u10, u11, e1, hn]
      repeat' (first | with_reducible apply And.intro | intro _)
      all_goals (try omega)
      refine k_Sta_inRow hS hR1 hz hs (by omega) ?_
      rw [hm]
      refine wp_go b2_18 ?_; simp only [l2_18, sg_istore, okS_4, stL_4, sg_aload_0, sg_aload_1, sg_iload, ldI_4, sg_iv3_i, len4_0, len4_1, len4_2, len4_3, len4_4, nLg_n, nLg_i, nLg_r, tc_c, tc_l, tc_r, tc_m, tc_n, tc_o, tc_0, inR, true_and, and_true, ne_eq, not_true_eq_false, not_false_eq_true, true_imp_iff, false_imp_iff, Int.toNat_natCast, lit_a, Nat.reduceAdd, or_true, true_or, or_false, false_or, Int.reduceEq, Int.reduceNe, Int.reduceLT, Int.reduceLE, Int.reduceNeg, sg_nil]
      repeat' (first | with_reducible apply And.intro | (intro _) | ((first | refine wp_go b2_0 ?_ | refine wp_go b2_18 ?_ | refine wp_go b2_27 ?_ | refine wp_go b2_33 ?_ | refine wp_go b2_88 ?_ | refine wp_go b2_101 ?_ | refine wp_go b2_107 ?_); simp only [l2_0, l2_18, l2_27, l2_33, l2_88, l2_101, l2_107, sg_iconst, sg_istore_3, sg_istore, okS_4, stL_4, sg_aload_0, sg_aload_1, sg_iload, ldI_4, sg_iv3_i, len4_0, len4_1, len4_2, len4_3, len4_4, sg_if_ne, sg_goto, sg_getf0, sg_getfp, sg_iaload, sg_iadd, okS_5, stL_5, ldI_5, sg_ic_gt, sg_dup_i, sg_dup_r, sg_putf0, sg_ishl, sg_ior, sg_iret0, sg_min, sg_iinc, ldI_3, okS_3, stL_3, sg_bipush, nLg_n, nLg_i, nLg_r, tc_c, tc_l, tc_r, tc_m, tc_n, tc_o, tc_0, inR, true_and, and_true, ne_eq, not_true_eq_false, not_false_eq_true, true_imp_iff, false_imp_iff, Int.toNat_natCast, lit_a, Nat.reduceAdd, or_true, true_or, or_false, false_or, Int.reduceEq, Int.reduceNe, Int.reduceLT, Int.reduceLE, Int.reduceNeg, sg_nil]))
      all_goals (try omega)
      refine k_Cho_isFor hc hS hR1 hz (by omega) m0 m3 (fun g1 g2 => ?_) (fun g1 => ?_)
      · refine wp_go b2_27 ?_; simp only [l2_27, sg_if_ne, sg_goto, nLg_n, nLg_i, nLg_r, tc_c, tc_l, tc_r, tc_m, tc_n, tc_o, tc_0, inR, true_and, and_true, ne_eq, not_true_eq_false, not_false_eq_true, true_imp_iff, false_imp_iff, Int.toNat_natCast, lit_a, Nat.reduceAdd, or_true, true_or, or_false, false_or, Int.reduceEq, Int.reduceNe, Int.reduceLT, Int.reduceLE, Int.reduceNeg, sg_nil]
        repeat' (first | with_reducible apply And.intro | intro _)
        all_goals (try omega)
        by_cases hle : sec + z (196 + 2 * m) ≤ b
        · have o1 : ∀ b', b ≤ b' → okN z g b' set sec (m : Int) = true := fun b' h => by rw [ok b']; exact decide_eq_true ⟨g1, g2, by omega⟩
          have cm : ∀ b', b ≤ b' → b' < nb1 → chs z g b' (set, sec) s = (m : Int) := fun b' h1 h2 => by rw [cb' b' h1 h2, pk b', if_pos (o1 b' h1)]
          have c0 : chs z g b (set, sec) s = (m : Int) := by rw [cb, pk b, if_pos (o1 b (Int.le_refl b))]
          have x0 : nxt z (set, sec) (m : Int) = (iOr set (iShl 1 m), sec + z (196 + 2 * m)) := by unfold nxt; rw [if_neg (by omega)]; rfl
          have hq := hq (ms (ms (ms μ1 c 2 (cnt + 1)) c 3 (iOr set (iShl 1 m))) c 4 (sec + z (196 + 2 * m))) nb1 (fun k hk => by rw [← mf k hk]; funext j; simp [ms_at, hk]) (by simp [ms_at, m0]) (by simp [ms_at, m1])
            (by rw [c0]; simp [ms_at, bI]) (by rw [c0, x0]; simp [ms_at]) (by rw [c0, x0]; simp [ms_at]) (by simp [ms_at, m5]) n0 n1 (fun b' h1 h2 => by rw [cm b' h1 h2, c0])
          rw [c0] at hq
          refine wp_go b2_33 ?_; simp only [l2_33, sg_aload_0, sg_getf0, sg_aload_1, sg_getfp, sg_iload, ldI_4, sg_iaload, sg_iadd, sg_istore, okS_5, stL_5, ldI_5, sg_ic_gt, sg_dup_i, sg_dup_r, sg_iconst, sg_putf0, sg_ishl, sg_ior, sg_iret0, nLg_n, nLg_i, nLg_r, tc_c, tc_l, tc_r, tc_m, tc_n, tc_o, tc_0, inR, true_and, and_true, ne_eq, not_true_eq_false, not_false_eq_true, true_imp_iff, false_imp_iff, Int.toNat_natCast, lit_a, Nat.reduceAdd, or_true, true_or, or_false, false_or, Int.reduceEq, Int.reduceNe, Int.reduceLT, Int.reduceLE, Int.reduceNeg, sg_nil, t0, t1, t2, t3, t4, t5, t6, t7, t8, t9, t10, t11, t12, u0, u1, u2, u3, u4, u5, u6, u7, u8, u9, u10, u11, hc, el, m1, m2, m3, m4, ms_at, false_and, and_false, if_false, if_true, and_self, Nat.reduceEqDiff]
          repeat' (first | with_reducible apply And.intro | (intro _) | ((first | refine wp_go b2_0 ?_ | refine wp_go b2_18 ?_ | refine wp_go b2_27 ?_ | refine wp_go b2_33 ?_ | refine wp_go b2_88 ?_ | refine wp_go b2_101 ?_ | refine wp_go b2_107 ?_); simp only [l2_0, l2_18, l2_27, l2_33, l2_88, l2_101, l2_107, sg_iconst, sg_istore_3, sg_istore, okS_4, stL_4, sg_aload_0, sg_aload_1, sg_iload, ldI_4, sg_iv3_i, len4_0, len4_1, len4_2, len4_3, len4_4, sg_if_ne, sg_goto, sg_getf0, sg_getfp, sg_iaload, sg_iadd, okS_5, stL_5, ldI_5, sg_ic_gt, sg_dup_i, sg_dup_r, sg_putf0, sg_ishl, sg_ior, sg_iret0, sg_min, sg_iinc, ldI_3, okS_3, stL_3, sg_bipush, nLg_n, nLg_i, nLg_r, tc_c, tc_l, tc_r, tc_m, tc_n, tc_o, tc_0, inR, true_and, and_true, ne_eq, not_true_eq_false, not_false_eq_true, true_imp_iff, false_imp_iff, Int.toNat_natCast, lit_a, Nat.reduceAdd, or_true, true_or, or_false, false_or, Int.reduceEq, Int.reduceNe, Int.reduceLT, Int.reduceLE, Int.reduceNeg, sg_nil]))
          all_goals (try omega)
          all_goals exact hq
        · have o1 : ∀ b', b' < sec + z (196 + 2 * m) → ¬ okN z g b' set sec (m : Int) = true := fun b' h => by rw [ok b', decide_eq_true_eq]; omega
          have ih1 := ih (j + 1) (by omega) (ms μ1 c 5 (if sec + z (196 + 2 * m) < nb1 then sec + z (196 + 2 * m) else nb1)) (if sec + z (196 + 2 * m) < nb1 then sec + z (196 + 2 * m) else nb1) (some (.inl (m : Int))) (some (.inl (sec + z (196 + 2 * m)))) (fun k hk => by rw [← mf k hk]; funext j; simp [ms_at, hk]) (by simp [ms_at, m0]) (by simp [ms_at, m1]) (by simp [ms_at, m2]) (by simp [ms_at, m3]) (by simp [ms_at, m4]) (by simp [ms_at]) (by split <;> omega) (by split <;> omega)
            (by rw [cb, pk b, if_neg (o1 b (by omega))]) (fun b' h1 h2 => by rw [cb' b' h1 (by split at h2 <;> omega), pk b', if_neg (o1 b' (by split at h2 <;> omega))])
          refine wp_go b2_33 ?_; simp only [l2_33, sg_aload_0, sg_getf0, sg_aload_1, sg_getfp, sg_iload, ldI_4, sg_iaload, sg_iadd, sg_istore, okS_5, stL_5, ldI_5, sg_ic_gt, sg_dup_i, sg_dup_r, sg_iconst, sg_putf0, sg_ishl, sg_ior, sg_iret0, nLg_n, nLg_i, nLg_r, tc_c, tc_l, tc_r, tc_m, tc_n, tc_o, tc_0, inR, true_and, and_true, ne_eq, not_true_eq_false, not_false_eq_true, true_imp_iff, false_imp_iff, Int.toNat_natCast, lit_a, Nat.reduceAdd, or_true, true_or, or_false, false_or, Int.reduceEq, Int.reduceNe, Int.reduceLT, Int.reduceLE, Int.reduceNeg, sg_nil, t0, t1, t2, t3, t4, t5, t6, t7, t8, t9, t10, t11, t12, u0, u1, u2, u3, u4, u5, u6, u7, u8, u9, u10, u11, hc, el, m1, m2, m3, m4, ms_at, false_and, and_false, if_false, if_true, and_self, Nat.reduceEqDiff]
          repeat' (first | with_reducible apply And.intro | (intro _) | ((first | refine wp_go b2_0 ?_ | refine wp_go b2_18 ?_ | refine wp_go b2_27 ?_ | refine wp_go b2_33 ?_ | refine wp_go b2_88 ?_ | refine wp_go b2_101 ?_ | refine wp_go b2_107 ?_); simp only [l2_0, l2_18, l2_27, l2_33, l2_88, l2_101, l2_107, sg_iconst, sg_istore_3, sg_istore, okS_4, stL_4, sg_aload_0, sg_aload_1, sg_iload, ldI_4, sg_iv3_i, len4_0, len4_1, len4_2, len4_3, len4_4, sg_if_ne, sg_goto, sg_getf0, sg_getfp, sg_iaload, sg_iadd, okS_5, stL_5, ldI_5, sg_ic_gt, sg_dup_i, sg_dup_r, sg_putf0, sg_ishl, sg_ior, sg_iret0, sg_min, sg_iinc, ldI_3, okS_3, stL_3, sg_bipush, nLg_n, nLg_i, nLg_r, tc_c, tc_l, tc_r, tc_m, tc_n, tc_o, tc_0, inR, true_and, and_true, ne_eq, not_true_eq_false, not_false_eq_true, true_imp_iff, false_imp_iff, Int.toNat_natCast, lit_a, Nat.reduceAdd, or_true, true_or, or_false, false_or, Int.reduceEq, Int.reduceNe, Int.reduceLT, Int.reduceLE, Int.reduceNeg, sg_nil, hc, m5, ms_at, false_and, and_false, if_false, if_true, and_self, Nat.reduceEqDiff]))
          all_goals (try omega)
          all_goals exact ih1
      · have o1 : ∀ b', ¬ okN z g b' set sec (m : Int) = true := fun b' => by rw [ok b', decide_eq_true_eq]; exact fun q => g1 ⟨q.1, q.2.1⟩
        have ih1 := ih (j + 1) (by omega) μ1 nb1 (some (.inl (m : Int))) o5 mf m0 m1 m2 m3 m4 m5 n0 n1 (by rw [cb, pk b, if_neg (o1 b)]) (fun b' h1 h2 => by rw [cb' b' h1 h2, pk b', if_neg (o1 b')])
        refine wp_go b2_27 ?_; simp only [l2_27, sg_if_ne, sg_goto, nLg_n, nLg_i, nLg_r, tc_c, tc_l, tc_r, tc_m, tc_n, tc_o, tc_0, inR, true_and, and_true, ne_eq, not_true_eq_false, not_false_eq_true, true_imp_iff, false_imp_iff, Int.toNat_natCast, lit_a, Nat.reduceAdd, or_true, true_or, or_false, false_or, Int.reduceEq, Int.reduceNe, Int.reduceLT, Int.reduceLE, Int.reduceNeg, sg_nil]
        repeat' (first | with_reducible apply And.intro | (intro _) | ((first | refine wp_go b2_0 ?_ | refine wp_go b2_18 ?_ | refine wp_go b2_27 ?_ | refine wp_go b2_33 ?_ | refine wp_go b2_88 ?_ | refine wp_go b2_101 ?_ | refine wp_go b2_107 ?_); simp only [l2_0, l2_18, l2_27, l2_33, l2_88, l2_101, l2_107, sg_iconst, sg_istore_3, sg_istore, okS_4, stL_4, sg_aload_0, sg_aload_1, sg_iload, ldI_4, sg_iv3_i, len4_0, len4_1, len4_2, len4_3, len4_4, sg_if_ne, sg_goto, sg_getf0, sg_getfp, sg_iaload, sg_iadd, okS_5, stL_5, ldI_5, sg_ic_gt, sg_dup_i, sg_dup_r, sg_putf0, sg_ishl, sg_ior, sg_iret0, sg_min, sg_iinc, ldI_3, okS_3, stL_3, sg_bipush, nLg_n, nLg_i, nLg_r, tc_c, tc_l, tc_r, tc_m, tc_n, tc_o, tc_0, inR, true_and, and_true, ne_eq, not_true_eq_false, not_false_eq_true, true_imp_iff, false_imp_iff, Int.toNat_natCast, lit_a, Nat.reduceAdd, or_true, true_or, or_false, false_or, Int.reduceEq, Int.reduceNe, Int.reduceLT, Int.reduceLE, Int.reduceNeg, sg_nil]))
        all_goals (try omega)
        all_goals exact ih1
  refine wp_go b2_0 ?_; simp only [l2_0, sg_iconst, sg_istore_3, nLg_n, nLg_i, nLg_r, tc_c, tc_l, tc_r, tc_m, tc_n, tc_o, tc_0, inR, true_and, and_true, ne_eq, not_true_eq_false, not_false_eq_true, true_imp_iff, false_imp_iff, Int.toNat_natCast, lit_a, Nat.reduceAdd, or_true, true_or, or_false, false_or, Int.reduceEq, Int.reduceNe, Int.reduceLT, Int.reduceLE, Int.reduceNeg, sg_nil]
  exact loop n 0 (by omega) μ nb none none (fun _ _ => rfl) h0 h1 h2 h3 h4 h5 hnb.1 (Int.le_refl nb) (f0 b) (fun b' _ _ => f0 b')

