-- Pad.characterAt: blocks [0]
theorem k_Pad_characterAt {σ : Sg} {d p : Nat} {Q : QT} {μ : Mem} {x : Int64} (hp : p < 8) (h : Q (.inl (by8 (U x) p : Nat)) μ) : Call σ (d + 1) 19 [.inr (.inl x), .inl (p : Int)] μ Q := by
  refine e_19 ?_
  have e : iI2c (lUshr x (((8 * p : Nat) : Int)) &&& Int64.ofNat 255).toInt32.toInt = ((by8 (U x) p : Nat) : Int) := by
    rw [byte_l, U_shr8 hp]
    exact i2c_s (by8_b _ _)
  rw [← e] at h
  have bb := by8_b (U x) p
  refine wp_go b19_0 ?_; simp only [l19_0, sg_lload_0, sg_bipush, sg_iload_2, sg_imul, sg_lushr, sg_ldc2, sg_land, sg_l2i, sg_i2c, sg_iret2, nLg_n, nLg_i, nLg_r, tc_c, tc_l, tc_r, tc_m, tc_n, tc_o, tc_0, inR, true_and, and_true, ne_eq, not_true_eq_false, not_false_eq_true, true_imp_iff, false_imp_iff, Int.toNat_natCast, lit_a, Nat.reduceAdd, or_true, true_or, or_false, false_or, Int.reduceEq, Int.reduceNe, Int.reduceLT, Int.reduceLE, Int.reduceNeg, sg_nil]
  repeat' (first | with_reducible apply And.intro | (intro _) | ((first | refine wp_go b19_0 ?_); simp only [l19_0, sg_lload_0, sg_bipush, sg_iload_2, sg_imul, sg_lushr, sg_ldc2, sg_land, sg_l2i, sg_i2c, sg_iret2, nLg_n, nLg_i, nLg_r, tc_c, tc_l, tc_r, tc_m, tc_n, tc_o, tc_0, inR, true_and, and_true, ne_eq, not_true_eq_false, not_false_eq_true, true_imp_iff, false_imp_iff, Int.toNat_natCast, lit_a, Nat.reduceAdd, or_true, true_or, or_false, false_or, Int.reduceEq, Int.reduceNe, Int.reduceLT, Int.reduceLE, Int.reduceNeg, sg_nil]))
  all_goals (try omega)
  all_goals exact h
-- Pad.isNotice: blocks [0, 16, 17]
theorem k_Pad_isNotice {σ : Sg} {d : Nat} {Q : QT} {μ : Mem} {v : Int} (hv : inR v) (h1 : 48 ≤ v → v ≤ 55 → Q (.inl 1) μ) (h0 : (v < 48 ∨ 55 < v) → Q (.inl 0) μ) : Call σ (d + 1) 17 [.inl v] μ Q := by
  refine e_17 ?_
  unfold inR at hv
  by_cases h : 48 ≤ v ∧ v ≤ 55
  · have h1 := h1 h.1 h.2
    repeat' (first | with_reducible apply And.intro | (intro _) | ((first | refine wp_go b17_0 ?_ | refine wp_go b17_16 ?_ | refine wp_go b17_17 ?_); simp only [l17_0, l17_16, l17_17, sg_iload_0, sg_bipush, sg_ic_lt, sg_ic_gt, sg_iconst, sg_goto, sg_iret1, nLg_n, nLg_i, nLg_r, tc_c, tc_l, tc_r, tc_m, tc_n, tc_o, tc_0, inR, true_and, and_true, ne_eq, not_true_eq_false, not_false_eq_true, true_imp_iff, false_imp_iff, Int.toNat_natCast, lit_a, Nat.reduceAdd, or_true, true_or, or_false, false_or, Int.reduceEq, Int.reduceNe, Int.reduceLT, Int.reduceLE, Int.reduceNeg, sg_nil]))
    all_goals (try omega)
    all_goals exact h1
  · have h0 := h0 (by omega)
    repeat' (first | with_reducible apply And.intro | (intro _) | ((first | refine wp_go b17_0 ?_ | refine wp_go b17_16 ?_ | refine wp_go b17_17 ?_); simp only [l17_0, l17_16, l17_17, sg_iload_0, sg_bipush, sg_ic_lt, sg_ic_gt, sg_iconst, sg_goto, sg_iret1, nLg_n, nLg_i, nLg_r, tc_c, tc_l, tc_r, tc_m, tc_n, tc_o, tc_0, inR, true_and, and_true, ne_eq, not_true_eq_false, not_false_eq_true, true_imp_iff, false_imp_iff, Int.toNat_natCast, lit_a, Nat.reduceAdd, or_true, true_or, or_false, false_or, Int.reduceEq, Int.reduceNe, Int.reduceLT, Int.reduceLE, Int.reduceNeg, sg_nil]))
    all_goals (try omega)
    all_goals exact h0
-- Pad.countCharacters: blocks [0, 4, 26, 33, 39, 48, 57, 58]
theorem k_Pad_countCharacters {σ : Sg} {d : Nat} {Q : QT} {μ : Mem} {x : Int64} (h : Q (.inl (ccF (U x))) μ) : Call σ (d + 2) 18 [.inr (.inl x)] μ Q := by
  refine e_18 ?_
  have hu := U_lt x
  have loop : ∀ k p : Nat, p + k = 8 → (∀ q, q < p → U x / 256 ^ q ≠ 0) → (∀ q, q < p → bd8 (U x) q = false) → wp σ (Call σ (d + 1)) 18 Q 4 [some (.inr (.inl x)), none, some (.inl (p : Int)), some (.inl (p : Int))] [] μ := by
    intro k
    induction k with
    | zero =>
      intro p hp h1 h2
      have hp8 : p = 8 := by omega
      subst hp8
      rw [ccF_e (Nat.le_refl 8) hu h1 h2 (Nat.div_eq_of_lt hu), if_neg (by omega)] at h
      refine wp_go b18_4 ?_; simp only [l18_4, sg_iload_3, sg_bipush, sg_ic_ge, sg_lload_0, sg_imul, sg_lushr, sg_lconst, sg_lcmp, sg_if_eq, len4_0, len4_1, len4_2, len4_3, len4_4, sg_is2_1, nLg_n, nLg_i, nLg_r, tc_c, tc_l, tc_r, tc_m, tc_n, tc_o, tc_0, inR, true_and, and_true, ne_eq, not_true_eq_false, not_false_eq_true, true_imp_iff, false_imp_iff, Int.toNat_natCast, lit_a, Nat.reduceAdd, or_true, true_or, or_false, false_or, Int.reduceEq, Int.reduceNe, Int.reduceLT, Int.reduceLE, Int.reduceNeg, sg_nil]
      repeat' (first | with_reducible apply And.intro | (intro _) | ((first | refine wp_go b18_0 ?_ | refine wp_go b18_26 ?_ | refine wp_go b18_33 ?_ | refine wp_go b18_39 ?_ | refine wp_go b18_48 ?_ | refine wp_go b18_57 ?_ | refine wp_go b18_58 ?_); simp only [l18_0, l18_26, l18_33, l18_39, l18_48, l18_57, l18_58, sg_iconst, sg_istore_2, sg_istore_3, sg_bipush, len4_0, len4_1, len4_2, len4_3, len4_4, sg_is3_2, sg_if_ne, sg_iret0, sg_iinc, ldI_2, okS_2, stL_2, ldI_3, okS_3, stL_3, sg_goto, sg_iload_2, nLg_n, nLg_i, nLg_r, tc_c, tc_l, tc_r, tc_m, tc_n, tc_o, tc_0, inR, true_and, and_true, ne_eq, not_true_eq_false, not_false_eq_true, true_imp_iff, false_imp_iff, Int.toNat_natCast, lit_a, Nat.reduceAdd, or_true, true_or, or_false, false_or, Int.reduceEq, Int.reduceNe, Int.reduceLT, Int.reduceLE, Int.reduceNeg, sg_nil]))
      all_goals (try omega)
      all_goals exact h
    | succ k ih =>
      intro p hp h1 h2
      have cb := lCmp_b (lUshr x ((8 * p : Nat) : Int)) (Int64.ofNat ((0 : Fin 2)).val)
      unfold inR at cb
      have eU : U (lUshr x (((8 * p : Nat) : Int))) = U x / 256 ^ p := U_shr8 (by omega)
      by_cases h0 : U x / 256 ^ p = 0
      · rw [ccF_e (by omega) hu h1 h2 h0] at h
        have c0 : (lCmp (lUshr x (((8 * p : Nat) : Int))) (Int64.ofNat ((0 : Fin 2)).val) = 0) = True := by rw [cmp_0, eU]; exact eq_true h0
        have h : Q (.inl (if (p : Int) = 0 then -2 else (p : Int))) μ := by
          rw [show (if (p : Int) = 0 then (-2 : Int) else (p : Int)) = (if p = 0 then -2 else (p : Int)) from by split <;> split <;> omega]; exact h
        refine wp_go b18_4 ?_; simp only [l18_4, sg_iload_3, sg_bipush, sg_ic_ge, sg_lload_0, sg_imul, sg_lushr, sg_lconst, sg_lcmp, sg_if_eq, len4_0, len4_1, len4_2, len4_3, len4_4, sg_is2_1, nLg_n, nLg_i, nLg_r, tc_c, tc_l, tc_r, tc_m, tc_n, tc_o, tc_0, inR, true_and, and_true, ne_eq, not_true_eq_false, not_false_eq_true, true_imp_iff, false_imp_iff, Int.toNat_natCast, lit_a, Nat.reduceAdd, or_true, true_or, or_false, false_or, Int.reduceEq, Int.reduceNe, Int.reduceLT, Int.reduceLE, Int.reduceNeg, sg_nil, c0]
        repeat' (first | with_reducible apply And.intro | intro _)
        all_goals (try omega)
        refine wp_go b18_48 ?_; simp only [l18_48, sg_iload_2, sg_if_ne, sg_bipush, sg_goto, nLg_n, nLg_i, nLg_r, tc_c, tc_l, tc_r, tc_m, tc_n, tc_o, tc_0, inR, true_and, and_true, ne_eq, not_true_eq_false, not_false_eq_true, true_imp_iff, false_imp_iff, Int.toNat_natCast, lit_a, Nat.reduceAdd, or_true, true_or, or_false, false_or, Int.reduceEq, Int.reduceNe, Int.reduceLT, Int.reduceLE, Int.reduceNeg, sg_nil]
        by_cases hp0 : (p : Int) = 0
        · rw [if_pos hp0] at h
          repeat' (first | with_reducible apply And.intro | (intro _) | ((first | refine wp_go b18_0 ?_ | refine wp_go b18_26 ?_ | refine wp_go b18_33 ?_ | refine wp_go b18_39 ?_ | refine wp_go b18_48 ?_ | refine wp_go b18_57 ?_ | refine wp_go b18_58 ?_); simp only [l18_0, l18_26, l18_33, l18_39, l18_48, l18_57, l18_58, sg_iconst, sg_istore_2, sg_istore_3, sg_bipush, len4_0, len4_1, len4_2, len4_3, len4_4, sg_is3_2, sg_if_ne, sg_iret0, sg_iinc, ldI_2, okS_2, stL_2, ldI_3, okS_3, stL_3, sg_goto, sg_iload_2, nLg_n, nLg_i, nLg_r, tc_c, tc_l, tc_r, tc_m, tc_n, tc_o, tc_0, inR, true_and, and_true, ne_eq, not_true_eq_false, not_false_eq_true, true_imp_iff, false_imp_iff, Int.toNat_natCast, lit_a, Nat.reduceAdd, or_true, true_or, or_false, false_or, Int.reduceEq, Int.reduceNe, Int.reduceLT, Int.reduceLE, Int.reduceNeg, sg_nil]))
          all_goals (try omega)
          all_goals exact h
        · rw [if_neg hp0] at h
          repeat' (first | with_reducible apply And.intro | (intro _) | ((first | refine wp_go b18_0 ?_ | refine wp_go b18_26 ?_ | refine wp_go b18_33 ?_ | refine wp_go b18_39 ?_ | refine wp_go b18_48 ?_ | refine wp_go b18_57 ?_ | refine wp_go b18_58 ?_); simp only [l18_0, l18_26, l18_33, l18_39, l18_48, l18_57, l18_58, sg_iconst, sg_istore_2, sg_istore_3, sg_bipush, len4_0, len4_1, len4_2, len4_3, len4_4, sg_is3_2, sg_if_ne, sg_iret0, sg_iinc, ldI_2, okS_2, stL_2, ldI_3, okS_3, stL_3, sg_goto, sg_iload_2, nLg_n, nLg_i, nLg_r, tc_c, tc_l, tc_r, tc_m, tc_n, tc_o, tc_0, inR, true_and, and_true, ne_eq, not_true_eq_false, not_false_eq_true, true_imp_iff, false_imp_iff, Int.toNat_natCast, lit_a, Nat.reduceAdd, or_true, true_or, or_false, false_or, Int.reduceEq, Int.reduceNe, Int.reduceLT, Int.reduceLE, Int.reduceNeg, sg_nil]))
          all_goals (try omega)
          all_goals exact h
      · have c0 : (lCmp (lUshr x (((8 * p : Nat) : Int))) (Int64.ofNat ((0 : Fin 2)).val) = 0) = False := by rw [cmp_0, eU]; exact eq_false h0
        have hall : ∀ q, q ≤ p → U x / 256 ^ q ≠ 0 := fun q hq => by
          rcases Nat.lt_or_ge q p with hh | hh
          · exact h1 q hh
          · rw [show q = p by omega]; exact h0
        have bb := by8_b (U x) p
        refine wp_go b18_4 ?_; simp only [l18_4, sg_iload_3, sg_bipush, sg_ic_ge, sg_lload_0, sg_imul, sg_lushr, sg_lconst, sg_lcmp, sg_if_eq, len4_0, len4_1, len4_2, len4_3, len4_4, sg_is2_1, nLg_n, nLg_i, nLg_r, tc_c, tc_l, tc_r, tc_m, tc_n, tc_o, tc_0, inR, true_and, and_true, ne_eq, not_true_eq_false, not_false_eq_true, true_imp_iff, false_imp_iff, Int.toNat_natCast, lit_a, Nat.reduceAdd, or_true, true_or, or_false, false_or, Int.reduceEq, Int.reduceNe, Int.reduceLT, Int.reduceLE, Int.reduceNeg, sg_nil, c0]
        repeat' (first | with_reducible apply And.intro | intro _)
        all_goals (try omega)
        refine k_Pad_characterAt (by omega) ?_
        refine wp_go b18_26 ?_; simp only [l18_26, sg_bipush, len4_0, len4_1, len4_2, len4_3, len4_4, sg_is3_2, nLg_n, nLg_i, nLg_r, tc_c, tc_l, tc_r, tc_m, tc_n, tc_o, tc_0, inR, true_and, and_true, ne_eq, not_true_eq_false, not_false_eq_true, true_imp_iff, false_imp_iff, Int.toNat_natCast, lit_a, Nat.reduceAdd, or_true, true_or, or_false, false_or, Int.reduceEq, Int.reduceNe, Int.reduceLT, Int.reduceLE, Int.reduceNeg, sg_nil]
        refine k_NS_isWithin (by unfold inR; omega) (by unfold inR; omega) (by unfold inR; omega) (fun g1 g2 => ?_) (fun g0 => ?_)
        · have hgood : bd8 (U x) p = false := decide_eq_false (by omega)
          have ih1 := ih (p + 1) (by omega) (fun q hq => hall q (by omega)) (fun q hq => by
            rcases Nat.lt_or_ge q p with hh | hh
            · exact h2 q hh
            · rw [show q = p by omega]; exact hgood)
          refine wp_go b18_33 ?_; simp only [l18_33, sg_if_ne, sg_bipush, sg_iret0, nLg_n, nLg_i, nLg_r, tc_c, tc_l, tc_r, tc_m, tc_n, tc_o, tc_0, inR, true_and, and_true, ne_eq, not_true_eq_false, not_false_eq_true, true_imp_iff, false_imp_iff, Int.toNat_natCast, lit_a, Nat.reduceAdd, or_true, true_or, or_false, false_or, Int.reduceEq, Int.reduceNe, Int.reduceLT, Int.reduceLE, Int.reduceNeg, sg_nil]
          repeat' (first | with_reducible apply And.intro | (intro _) | ((first | refine wp_go b18_0 ?_ | refine wp_go b18_26 ?_ | refine wp_go b18_33 ?_ | refine wp_go b18_39 ?_ | refine wp_go b18_48 ?_ | refine wp_go b18_57 ?_ | refine wp_go b18_58 ?_); simp only [l18_0, l18_26, l18_33, l18_39, l18_48, l18_57, l18_58, sg_iconst, sg_istore_2, sg_istore_3, sg_bipush, len4_0, len4_1, len4_2, len4_3, len4_4, sg_is3_2, sg_if_ne, sg_iret0, sg_iinc, ldI_2, okS_2, stL_2, ldI_3, okS_3, stL_3, sg_goto, sg_iload_2, nLg_n, nLg_i, nLg_r, tc_c, tc_l, tc_r, tc_m, tc_n, tc_o, tc_0, inR, true_and, and_true, ne_eq, not_true_eq_false, not_false_eq_true, true_imp_iff, false_imp_iff, Int.toNat_natCast, lit_a, Nat.reduceAdd, or_true, true_or, or_false, false_or, Int.reduceEq, Int.reduceNe, Int.reduceLT, Int.reduceLE, Int.reduceNeg, sg_nil]))
          all_goals (try omega)
          all_goals exact ih1
        · have hbad : bd8 (U x) p = true := decide_eq_true (by omega)
          rw [ccF_b hu hall hbad] at h
          refine wp_go b18_33 ?_; simp only [l18_33, sg_if_ne, sg_bipush, sg_iret0, nLg_n, nLg_i, nLg_r, tc_c, tc_l, tc_r, tc_m, tc_n, tc_o, tc_0, inR, true_and, and_true, ne_eq, not_true_eq_false, not_false_eq_true, true_imp_iff, false_imp_iff, Int.toNat_natCast, lit_a, Nat.reduceAdd, or_true, true_or, or_false, false_or, Int.reduceEq, Int.reduceNe, Int.reduceLT, Int.reduceLE, Int.reduceNeg, sg_nil]
          repeat' (first | with_reducible apply And.intro | (intro _) | ((first | refine wp_go b18_0 ?_ | refine wp_go b18_26 ?_ | refine wp_go b18_33 ?_ | refine wp_go b18_39 ?_ | refine wp_go b18_48 ?_ | refine wp_go b18_57 ?_ | refine wp_go b18_58 ?_); simp only [l18_0, l18_26, l18_33, l18_39, l18_48, l18_57, l18_58, sg_iconst, sg_istore_2, sg_istore_3, sg_bipush, len4_0, len4_1, len4_2, len4_3, len4_4, sg_is3_2, sg_if_ne, sg_iret0, sg_iinc, ldI_2, okS_2, stL_2, ldI_3, okS_3, stL_3, sg_goto, sg_iload_2, nLg_n, nLg_i, nLg_r, tc_c, tc_l, tc_r, tc_m, tc_n, tc_o, tc_0, inR, true_and, and_true, ne_eq, not_true_eq_false, not_false_eq_true, true_imp_iff, false_imp_iff, Int.toNat_natCast, lit_a, Nat.reduceAdd, or_true, true_or, or_false, false_or, Int.reduceEq, Int.reduceNe, Int.reduceLT, Int.reduceLE, Int.reduceNeg, sg_nil]))
          all_goals (try omega)
          all_goals exact h
  refine wp_go b18_0 ?_; simp only [l18_0, sg_iconst, sg_istore_2, sg_istore_3, nLg_n, nLg_i, nLg_r, tc_c, tc_l, tc_r, tc_m, tc_n, tc_o, tc_0, inR, true_and, and_true, ne_eq, not_true_eq_false, not_false_eq_true, true_imp_iff, false_imp_iff, Int.toNat_natCast, lit_a, Nat.reduceAdd, or_true, true_or, or_false, false_or, Int.reduceEq, Int.reduceNe, Int.reduceLT, Int.reduceLE, Int.reduceNeg, sg_nil]
  exact loop 8 0 (by omega) (fun q hq => absurd hq (by omega)) (fun q hq => absurd hq (by omega))
def hsApp (a : Hs) (u n : Nat) : Hs := (hsN a, hsH a, hsV a, hsL a, hsP a + n, fun i => if i < hsP a then hsC a i else (by8 u (hsP a + n - 1 - i) : Nat))
-- Pad.append: blocks [0, 5, 24, 41]
theorem k_Pad_append {d m n : Nat} {Q : QT} {μ : Mem} {x : Int64} (hm : μ 390 1 = (m : Int)) (hb : m + n ≤ 60) (hn : n ≤ 8)
    (hq : ∀ μ', (∀ k, k ≠ 390 → k ≠ 391 → μ' k = μ k) → μ' 390 1 = ((m + n : Nat) : Int) → (∀ i, i < m + n → μ' 391 i = if i < m then μ 391 i else ((by8 (U x) (m + n - 1 - i) : Nat) : Int)) → Q (.inl 0) μ') : Call σ1 (d + 2) 20 [.inr (.inr 390), .inr (.inl x), .inl (n : Int)] μ Q := by
  refine e_20 ?_
  have loop : ∀ k p : Nat, p + k = n → ∀ μ1 : Mem, (∀ k, k ≠ 390 → k ≠ 391 → μ1 k = μ k) → μ1 390 1 = ((m + p : Nat) : Int) → (∀ i, i < m + p → μ1 391 i = if i < m then μ 391 i else ((by8 (U x) (m + n - 1 - i) : Nat) : Int)) →
      wp σ1 (Call σ1 (d + 1)) 20 Q 5 [some (.inr (.inr 390)), some (.inr (.inl x)), none, some (.inl (n : Int)), some (.inl ((n : Int) - 1 - (p : Int)))] [] μ1 := by
    intro k
    induction k with
    | zero =>
      intro p hp μ1 f1 g1 g2
      have hpn : p = n := by omega
      subst hpn
      have hq := hq μ1 f1 g1 g2
      refine wp_go b20_5 ?_; simp only [l20_5, sg_iload, ldI_4, sg_if_lt, sg_aload_0, sg_getfp, sg_getf0, sg_lload_1, len4_0, len4_1, len4_2, len4_3, len4_4, sg_is2_1, nLg_n, nLg_i, nLg_r, tc_c, tc_l, tc_r, tc_m, tc_n, tc_o, tc_0, inR, true_and, and_true, ne_eq, not_true_eq_false, not_false_eq_true, true_imp_iff, false_imp_iff, Int.toNat_natCast, lit_a, Nat.reduceAdd, or_true, true_or, or_false, false_or, Int.reduceEq, Int.reduceNe, Int.reduceLT, Int.reduceLE, Int.reduceNeg, sg_nil]
      repeat' (first | with_reducible apply And.intro | (intro _) | ((first | refine wp_go b20_0 ?_ | refine wp_go b20_24 ?_ | refine wp_go b20_41 ?_); simp only [l20_0, l20_24, l20_41, sg_iload_3, sg_iconst, sg_isub, sg_istore, okS_4, stL_4, sg_castore, sg_aload_0, sg_dup_i, sg_dup_r, sg_getf0, sg_iadd, sg_putf0, sg_iinc, ldI_4, sg_goto, sg_ret, nLg_n, nLg_i, nLg_r, tc_c, tc_l, tc_r, tc_m, tc_n, tc_o, tc_0, inR, true_and, and_true, ne_eq, not_true_eq_false, not_false_eq_true, true_imp_iff, false_imp_iff, Int.toNat_natCast, lit_a, Nat.reduceAdd, or_true, true_or, or_false, false_or, Int.reduceEq, Int.reduceNe, Int.reduceLT, Int.reduceLE, Int.reduceNeg, sg_nil]))
      all_goals (try omega)
      all_goals exact hq
    | succ k ih =>
      intro p hp μ1 f1 g1 g2
      have ep : (n : Int) - 1 - (p : Int) = ((n - 1 - p : Nat) : Int) := by omega
      have bb := by8_b (U x) (n - 1 - p)
      have step : ∀ μ2 : Mem, (∀ k, k ≠ 390 → k ≠ 391 → μ2 k = μ1 k) → μ2 390 1 = ((m + p + 1 : Nat) : Int) → (∀ i, i ≠ m + p → μ2 391 i = μ1 391 i) → μ2 391 (m + p) = ((by8 (U x) (n - 1 - p) : Nat) : Int) → wp σ1 (Call σ1 (d + 1)) 20 Q 5 [some (.inr (.inr 390)), some (.inr (.inl x)), none, some (.inl (n : Int)), some (.inl ((n : Int) - 1 - ((p + 1 : Nat) : Int)))] [] μ2 := fun μ2 j1 j2 j3 j4 => by
        refine ih (p + 1) (by omega) μ2 (fun k a b => (j1 k a b).trans (f1 k a b)) j2 (fun i hi => ?_)
        by_cases h : i = m + p
        · rw [h, j4, if_neg (by omega), show m + n - 1 - (m + p) = n - 1 - p by omega]
        · rw [j3 i h, g2 i (by omega)]
      rw [ep]
      refine wp_go b20_5 ?_; simp only [l20_5, sg_iload, ldI_4, sg_if_lt, sg_aload_0, sg_getfp, sg_getf0, sg_lload_1, len4_0, len4_1, len4_2, len4_3, len4_4, sg_is2_1, nLg_n, nLg_i, nLg_r, tc_c, tc_l, tc_r, tc_m, tc_n, tc_o, tc_0, inR, true_and, and_true, ne_eq, not_true_eq_false, not_false_eq_true, true_imp_iff, false_imp_iff, Int.toNat_natCast, lit_a, Nat.reduceAdd, or_true, true_or, or_false, false_or, Int.reduceEq, Int.reduceNe, Int.reduceLT, Int.reduceLE, Int.reduceNeg, sg_nil, s1p, x0, x1, x2, x3, x4, x5, x6, x7, x8, x9, x10, x11, x12, x13, x56, x57, x388, x389, x390, x391, x392, x393, x394, x395, x396, x397, x398, x399, g1]
      repeat' (first | with_reducible apply And.intro | intro _)
      all_goals (try omega)
      refine k_Pad_characterAt (by omega) ?_
      rw [show (n : Int) - 1 - ((p + 1 : Nat) : Int) = ((n - 1 - p : Nat) : Int) + -1 by omega] at step
      refine wp_go b20_24 ?_; simp only [l20_24, sg_castore, sg_aload_0, sg_dup_i, sg_dup_r, sg_getf0, sg_iconst, sg_iadd, sg_putf0, sg_iinc, ldI_4, okS_4, stL_4, sg_goto, nLg_n, nLg_i, nLg_r, tc_c, tc_l, tc_r, tc_m, tc_n, tc_o, tc_0, inR, true_and, and_true, ne_eq, not_true_eq_false, not_false_eq_true, true_imp_iff, false_imp_iff, Int.toNat_natCast, lit_a, Nat.reduceAdd, or_true, true_or, or_false, false_or, Int.reduceEq, Int.reduceNe, Int.reduceLT, Int.reduceLE, Int.reduceNeg, sg_nil, s1p, x0, x1, x2, x3, x4, x5, x6, x7, x8, x9, x10, x11, x12, x13, x56, x57, x388, x389, x390, x391, x392, x393, x394, x395, x396, x397, x398, x399, g1, ms_at, false_and, and_false, if_false, if_true, and_self, Nat.reduceEqDiff, ne_a, ne_b, Nat.add_left_cancel_iff]
      repeat' (first | with_reducible apply And.intro | intro _)
      all_goals (try omega)
      all_goals
        refine step _ (fun k h1 h2 => ?_) ?_ (fun i hi => ?_) ?_
        · funext j; simp only [ms_at]; (repeat (first | rw [if_neg (by omega)] | rw [if_pos (by omega)]))
        · simp only [ms_at, true_and, and_true, if_true, Nat.reduceEqDiff, if_false, false_and] <;> omega
        · simp only [ms_at, true_and, and_true, if_true, Nat.reduceEqDiff, if_false, false_and] <;> (repeat (first | rw [if_neg (by omega)] | rw [if_pos (by omega)]))
        · simp only [ms_at, true_and, and_true, if_true, Nat.reduceEqDiff, if_false, false_and]
  refine wp_go b20_0 ?_; simp only [l20_0, sg_iload_3, sg_iconst, sg_isub, sg_istore, okS_4, stL_4, nLg_n, nLg_i, nLg_r, tc_c, tc_l, tc_r, tc_m, tc_n, tc_o, tc_0, inR, true_and, and_true, ne_eq, not_true_eq_false, not_false_eq_true, true_imp_iff, false_imp_iff, Int.toNat_natCast, lit_a, Nat.reduceAdd, or_true, true_or, or_false, false_or, Int.reduceEq, Int.reduceNe, Int.reduceLT, Int.reduceLE, Int.reduceNeg, sg_nil]
  repeat' (first | with_reducible apply And.intro | (intro _) | ((first | refine wp_go b20_0 ?_ | refine wp_go b20_24 ?_ | refine wp_go b20_41 ?_); simp only [l20_0, l20_24, l20_41, sg_iload_3, sg_iconst, sg_isub, sg_istore, okS_4, stL_4, sg_castore, sg_aload_0, sg_dup_i, sg_dup_r, sg_getf0, sg_iadd, sg_putf0, sg_iinc, ldI_4, sg_goto, sg_ret, nLg_n, nLg_i, nLg_r, tc_c, tc_l, tc_r, tc_m, tc_n, tc_o, tc_0, inR, true_and, and_true, ne_eq, not_true_eq_false, not_false_eq_true, true_imp_iff, false_imp_iff, Int.toNat_natCast, lit_a, Nat.reduceAdd, or_true, true_or, or_false, false_or, Int.reduceEq, Int.reduceNe, Int.reduceLT, Int.reduceLE, Int.reduceNeg, sg_nil]))
  all_goals (try omega)
  all_goals
    have := loop n 0 (by omega) μ (fun _ _ _ => rfl) (by rw [hm]; rfl) (fun i hi => by rw [if_pos (by omega)])
    rw [show (n : Int) - 1 - ((0 : Nat) : Int) = (n : Int) - 1 by omega] at this
    exact this
