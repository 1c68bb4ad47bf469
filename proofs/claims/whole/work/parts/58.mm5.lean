theorem U_8 {y : Int64} : U (lUshr y 8) = U y / 256 := U_shr (n := 8) (by decide) (by omega)
theorem CRm_pad {a a' : Hs} {μ μ' : Mem} (h : CRm a μ) (hf : ∀ k, k ≠ 510 → k ≠ 515 → k ≠ 517 → k ≠ 511 → μ' k = μ k) (g4 : μ' 510 4 = μ 510 4) (e1 : hsN a' = hsN a) (e2 : hsH a' = hsH a) (e3 : hsV a' = hsV a) (e4 : hsL a' = hsL a)
    (hp : μ' 510 6 = (hsP a' : Int) ∧ ∀ i : Nat, i < hsP a' → μ' 515 i = hsC a' i) : CRm a' μ' := by
  unfold CRm
  rw [e1, e2, e3, e4, g4, hf 512 (by omega) (by omega) (by omega) (by omega), hf 513 (by omega) (by omega) (by omega) (by omega), hf 514 (by omega) (by omega) (by omega) (by omega)]
  exact ⟨h.1, h.2.1, hp⟩
-- Mo.wipe: blocks [0]
theorem k_Mo_wipe {d : Nat} {Q : QT} {μ : Mem} {z : Rw} {a : Hs} (hM : μ 511 = z) (hI : IR z) (hC : CRm a μ) (hq : ∀ μ', PG (fun w => w = z) (hsWipe a) μ μ' → Q (.inl (hsP a : Int)) μ') : Call σ1 (d + 1) 160 [.inr (.inr 510)] μ Q := by
  refine e_160 ?_
  have c6 := hC.2.2.1
  have hq := hq (ms μ 510 6 0) ⟨fun k hk => by funext j; simp only [ms_at]; (repeat (first | rw [if_neg (by omega)] | rw [if_pos (by omega)])), by rw [← hM]; funext j; simp only [ms_at]; (repeat (first | rw [if_neg (by omega)] | rw [if_pos (by omega)])), by
    have e : ms μ 510 6 0 511 = z := by rw [← hM]; funext j; simp only [ms_at]; (repeat (first | rw [if_neg (by omega)] | rw [if_pos (by omega)]))
    rw [e]; exact hI, CRm_pad hC (fun k h1 h2 _ _ => by funext j; simp only [ms_at]; (repeat (first | rw [if_neg (by omega)] | rw [if_pos (by omega)]))) (by simp only [ms_at]; (repeat (first | rw [if_neg (by omega)] | rw [if_pos (by omega)]))) rfl rfl rfl rfl ⟨by simp [ms_at]; rfl, fun i hi => absurd hi (Nat.not_lt_zero i)⟩⟩
  refine wp_go b160_0 ?_; simp only [l160_0, sg_aload_0, sg_getf0, sg_istore_1, sg_iconst, sg_putf0, sg_iload_1, sg_iret0, nLg_n, nLg_i, nLg_r, tc_c, tc_l, tc_r, tc_m, tc_n, tc_o, tc_0, inR, true_and, and_true, ne_eq, not_true_eq_false, not_false_eq_true, true_imp_iff, false_imp_iff, Int.toNat_natCast, lit_a, Nat.reduceAdd, or_true, true_or, or_false, false_or, Int.reduceEq, Int.reduceNe, Int.reduceLT, Int.reduceLE, Int.reduceNeg, sg_nil, s1p, x510, x511, x512, x513, x514, x515, x516, x517, c6]
  repeat' (first | with_reducible apply And.intro | intro _)
  all_goals (try omega)
-- Mo.put: blocks [0, 8, 34, 49, 58, 61, 75, 80, 123]
theorem chr_e {x : Int64} {p : Nat} (hp : p < 8) : iI2c (lUshr x (((8 * p : Nat) : Int)) &&& Int64.ofNat 255).toInt32.toInt = ((by8 (U x) p : Nat) : Int) := by
  rw [byte_l, U_shr8 hp]
  exact i2c_s (by8_b _ _)
theorem put_app {d m n : Nat} {Q : QT} {μ : Mem} {x : Int64} {o4 o5 o6 : Option MV} (hm : μ 510 6 = (m : Int)) (hb : m + n ≤ 60) (hn : n ≤ 8) (l6 : nLg o6)
    (hq : ∀ μ', (∀ k, k ≠ 510 → k ≠ 515 → μ' k = μ k) → (∀ j, j ≠ 6 → μ' 510 j = μ 510 j) → μ' 510 6 = ((m + n : Nat) : Int) → (∀ i, i < m + n → μ' 515 i = if i < m then μ 515 i else ((by8 (U x) (m + n - 1 - i) : Nat) : Int)) → Q (.inl ((m + n : Nat) : Int)) μ') :
    ∀ k p : Nat, p + k = n → ∀ μ1 : Mem, (∀ k, k ≠ 510 → k ≠ 515 → μ1 k = μ k) → (∀ j, j ≠ 6 → μ1 510 j = μ 510 j) → μ1 510 6 = ((m + p : Nat) : Int) → (∀ i, i < m + p → μ1 515 i = if i < m then μ 515 i else ((by8 (U x) (m + n - 1 - i) : Nat) : Int)) →
      wp σ1 (Call σ1 d) 159 Q 80 [some (.inr (.inr 510)), some (.inr (.inl x)), none, some (.inl (n : Int)), o4, o5, o6, some (.inl ((n : Int) - 1 - (p : Int)))] [] μ1 := by
  intro k
  induction k with
  | zero =>
    intro p hp μ1 f1 f2 g1 g2
    have hpn : p = n := by omega
    subst hpn
    have hq := hq μ1 f1 f2 g1 g2
    refine wp_go b159_80 ?_
    simp only [l159_80, sg_iload, ldI_7, sg_if_lt, nLg_n, nLg_i, nLg_r, tc_c, tc_l, tc_r, tc_m, tc_n, tc_o, tc_0, inR, true_and, and_true, ne_eq, not_true_eq_false, not_false_eq_true, true_imp_iff, false_imp_iff, Int.toNat_natCast, lit_a, Nat.reduceAdd, or_true, true_or, or_false, false_or, Int.reduceEq, Int.reduceNe, Int.reduceLT, Int.reduceLE, Int.reduceNeg, sg_nil]
    repeat' (first | with_reducible apply And.intro | intro _)
    all_goals (try omega)
    refine wp_go b159_123 ?_; simp only [l159_123, sg_aload_0, sg_getf0, sg_iret0, nLg_n, nLg_i, nLg_r, tc_c, tc_l, tc_r, tc_m, tc_n, tc_o, tc_0, inR, true_and, and_true, ne_eq, not_true_eq_false, not_false_eq_true, true_imp_iff, false_imp_iff, Int.toNat_natCast, lit_a, Nat.reduceAdd, or_true, true_or, or_false, false_or, Int.reduceEq, Int.reduceNe, Int.reduceLT, Int.reduceLE, Int.reduceNeg, sg_nil, s1p, x510, x511, x512, x513, x514, x515, x516, x517, g1]
    exact hq
  | succ k ih =>
    intro p hp μ1 f1 f2 g1 g2
    have ep : (n : Int) - 1 - (p : Int) = ((n - 1 - p : Nat) : Int) := by omega
    have bb := by8_b (U x) (n - 1 - p)
    have eC : iI2c (lUshr x (((8 * (n - 1 - p) : Nat) : Int)) &&& Int64.ofNat 255).toInt32.toInt = ((by8 (U x) (n - 1 - p) : Nat) : Int) := chr_e (by omega)
    have step : ∀ μ2 : Mem, (∀ k, k ≠ 510 → k ≠ 515 → μ2 k = μ1 k) → (∀ j, j ≠ 6 → μ2 510 j = μ1 510 j) → μ2 510 6 = ((m + p + 1 : Nat) : Int) → (∀ i, i ≠ m + p → μ2 515 i = μ1 515 i) → μ2 515 (m + p) = ((by8 (U x) (n - 1 - p) : Nat) : Int) → wp σ1 (Call σ1 d) 159 Q 80 [some (.inr (.inr 510)), some (.inr (.inl x)), none, some (.inl (n : Int)), o4, o5, o6, some (.inl ((n : Int) - 1 - ((p + 1 : Nat) : Int)))] [] μ2 := fun μ2 j1 j5 j2 j3 j4 => by
      refine ih (p + 1) (by omega) μ2 (fun k a b => (j1 k a b).trans (f1 k a b)) (fun j hj => (j5 j hj).trans (f2 j hj)) j2 (fun i hi => ?_)
      by_cases h : i = m + p
      · rw [h, j4, if_neg (by omega), show m + n - 1 - (m + p) = n - 1 - p by omega]
      · rw [j3 i h, g2 i (by omega)]
    rw [ep]
    rw [show (n : Int) - 1 - ((p + 1 : Nat) : Int) = ((n - 1 - p : Nat) : Int) + -1 by omega] at step
    refine wp_go b159_80 ?_
    simp only [l159_80, sg_iload, ldI_7, sg_if_lt, nLg_n, nLg_i, nLg_r, tc_c, tc_l, tc_r, tc_m, tc_n, tc_o, tc_0, inR, true_and, and_true, ne_eq, not_true_eq_false, not_false_eq_true, true_imp_iff, false_imp_iff, Int.toNat_natCast, lit_a, Nat.reduceAdd, or_true, true_or, or_false, false_or, Int.reduceEq, Int.reduceNe, Int.reduceLT, Int.reduceLE, Int.reduceNeg, sg_nil]
    repeat' (first | with_reducible apply And.intro | intro _)
    all_goals (try omega)
    simp only [sg_aload_0, sg_getfp, sg_getf0, sg_lload_1, sg_bipush, sg_iload, ldI_7, s1p, x510, x511, x512, x513, x514, x515, x516, x517, g1, nLg_n, nLg_i, nLg_r, tc_c, tc_l, tc_r, tc_m, tc_n, tc_o, tc_0, inR, true_and, and_true, ne_eq, not_true_eq_false, not_false_eq_true, true_imp_iff, false_imp_iff, Int.toNat_natCast, lit_a, Nat.reduceAdd, or_true, true_or, or_false, false_or, Int.reduceEq, Int.reduceNe, Int.reduceLT, Int.reduceLE, Int.reduceNeg, sg_nil]
    simp only [sg_imul, sg_lushr, sg_ldc2, sg_land, nLg_n, nLg_i, nLg_r, tc_c, tc_l, tc_r, tc_m, tc_n, tc_o, tc_0, inR, true_and, and_true, ne_eq, not_true_eq_false, not_false_eq_true, true_imp_iff, false_imp_iff, Int.toNat_natCast, lit_a, Nat.reduceAdd, or_true, true_or, or_false, false_or, Int.reduceEq, Int.reduceNe, Int.reduceLT, Int.reduceLE, Int.reduceNeg, sg_nil]
    simp only [sg_l2i, sg_i2c]
    rw [eC]
    simp only [sg_castore, s1p, x510, x511, x512, x513, x514, x515, x516, x517, nLg_n, nLg_i, nLg_r, tc_c, tc_l, tc_r, tc_m, tc_n, tc_o, tc_0, inR, true_and, and_true, ne_eq, not_true_eq_false, not_false_eq_true, true_imp_iff, false_imp_iff, Int.toNat_natCast, lit_a, Nat.reduceAdd, or_true, true_or, or_false, false_or, Int.reduceEq, Int.reduceNe, Int.reduceLT, Int.reduceLE, Int.reduceNeg, sg_nil]
    repeat' (first | with_reducible apply And.intro | intro _)
    all_goals (try omega)
    simp only [sg_aload_0, sg_dup_r, sg_getf0, sg_iconst, sg_iadd, sg_putf0, sg_iinc, ldI_7, okS_7, stL_7, sg_goto, s1p, x510, x511, x512, x513, x514, x515, x516, x517, g1, ms_at, false_and, and_false, if_false, if_true, and_self, Nat.reduceEqDiff, ne_a, ne_b, Nat.add_left_cancel_iff, nLg_n, nLg_i, nLg_r, tc_c, tc_l, tc_r, tc_m, tc_n, tc_o, tc_0, inR, true_and, and_true, ne_eq, not_true_eq_false, not_false_eq_true, true_imp_iff, false_imp_iff, Int.toNat_natCast, lit_a, Nat.reduceAdd, or_true, true_or, or_false, false_or, Int.reduceEq, Int.reduceNe, Int.reduceLT, Int.reduceLE, Int.reduceNeg, sg_nil]
    repeat' (first | with_reducible apply And.intro | intro _)
    all_goals (try omega)
    all_goals
      refine step _ (fun k h1 h2 => ?_) (fun j hj => ?_) ?_ (fun i hi => ?_) ?_
      · funext j; simp only [ms_at]; (repeat (first | rw [if_neg (by omega)] | rw [if_pos (by omega)]))
      · simp only [ms_at]; (repeat (first | rw [if_neg (by omega)] | rw [if_pos (by omega)]))
      · simp only [ms_at, true_and, and_true, if_true, Nat.reduceEqDiff, if_false, false_and] <;> omega
      · simp only [ms_at, true_and, and_true, if_true, Nat.reduceEqDiff, if_false, false_and] <;> (repeat (first | rw [if_neg (by omega)] | rw [if_pos (by omega)]))
      · simp only [ms_at, true_and, and_true, if_true, Nat.reduceEqDiff, if_false, false_and]
theorem byte_p {x y : Int64} {p : Nat} (hy : U y = U x / 256 ^ p) : (y &&& Int64.ofNat 255).toInt32.toInt = ((by8 (U x) p : Nat) : Int) := by rw [byte_l, hy]; unfold by8; exact Eq.refl _
theorem byte_s {x y : Int64} {p : Nat} (hy : U y = U x / 256 ^ p) : U (lUshr y 8) = U x / 256 ^ (p + 1) := by rw [U_8, hy, Nat.div_div_eq_div_mul, ← Nat.pow_succ]
theorem put_good {d : Nat} {Q : QT} {μ : Mem} {x : Int64} {z : Rw} {a : Hs} (hM : μ 511 = z) (hI : IR z) (hC : CRm a μ) (h60 : hsP a ≤ 60) (hf : c_put a (U x) < 0 → Q (.inl (c_put a (U x))) μ)
    (hq : c_put a (U x) = 0 → ∀ μ', PG (fun w => w = z) (hsApp a (U x) (ccF (U x)).toNat) μ μ' → Q (.inl ((hsP a : Int) + ccF (U x))) μ') (n : Nat) (o4 o5 : Option MV) (hn : ccF (U x) = (n : Int)) : wp σ1 (Call σ1 (d + 1)) 159 Q 61 [some (.inr (.inr 510)), some (.inr (.inl x)), none, some (.inl (n : Int)), o4, o5, some (.inl 1), none] [] μ := by
  have hu := U_lt x
  have c6 := hC.2.2.1
  obtain ⟨n1, n2, n3⟩ := ccF_g hn
  rw [hn, Int.toNat_natCast] at hq
  by_cases h2 : 60 < (hsP a : Int) + ccF (U x)
  · have ec : c_put a (U x) = -4 := by unfold c_put; rw [if_neg (by omega), if_pos h2]
    rw [ec] at hf
    have hf := hf (by omega)
    rw [hn] at h2
    refine wp_go b159_61 ?_; simp only [l159_61, sg_aload_0, sg_getf0, sg_iload_3, sg_iadd, sg_bipush, sg_ic_le, sg_iret0, nLg_n, nLg_i, nLg_r, tc_c, tc_l, tc_r, tc_m, tc_n, tc_o, tc_0, inR, true_and, and_true, ne_eq, not_true_eq_false, not_false_eq_true, true_imp_iff, false_imp_iff, Int.toNat_natCast, lit_a, Nat.reduceAdd, or_true, true_or, or_false, false_or, Int.reduceEq, Int.reduceNe, Int.reduceLT, Int.reduceLE, Int.reduceNeg, sg_nil, s1p, x510, x511, x512, x513, x514, x515, x516, x517, c6]
    repeat' (first | with_reducible apply And.intro | (intro _) | ((first | refine wp_go b159_0 ?_ | refine wp_go b159_34 ?_ | refine wp_go b159_49 ?_ | refine wp_go b159_58 ?_ | refine wp_go b159_61 ?_ | refine wp_go b159_75 ?_ | refine wp_go b159_123 ?_); simp only [l159_0, l159_34, l159_49, l159_58, l159_61, l159_75, l159_123, sg_iconst, sg_istore_3, sg_lload_1, sg_lstore, okS2_4, stL_4, stL_5, Nat.reduceAdd, sg_istore, okS_6, stL_6, sg_lload, ldL_4, sg_bipush, sg_lushr, sg_iinc, ldI_3, okS_3, stL_3, sg_goto, sg_iload_3, sg_if_eq, sg_iload, ldI_6, sg_if_ne, sg_iret0, sg_aload_0, sg_getf0, sg_iadd, sg_ic_le, sg_isub, okS_7, stL_7, nLg_n, nLg_i, nLg_r, tc_c, tc_l, tc_r, tc_m, tc_n, tc_o, tc_0, inR, true_and, and_true, ne_eq, not_true_eq_false, not_false_eq_true, true_imp_iff, false_imp_iff, Int.toNat_natCast, lit_a, Nat.reduceAdd, or_true, true_or, or_false, false_or, Int.reduceEq, Int.reduceNe, Int.reduceLT, Int.reduceLE, Int.reduceNeg, sg_nil, s1p, x510, x511, x512, x513, x514, x515, x516, x517]))
    all_goals (try omega)
    all_goals exact hf
  · have ec : c_put a (U x) = 0 := by unfold c_put; rw [if_neg (by omega), if_neg h2]
    have hq := hq ec
    rw [hn] at h2
    have st := put_app (d := d + 1) (Q := Q) (μ := μ) (x := x) (o4 := o4) (o5 := o5) (o6 := some (.inl 1)) c6 (show hsP a + n ≤ 60 by omega) n2 trivial (fun μ' f1 f2 g1 g2 => by
      have M1 : μ' 511 = z := by rw [f1 511 (by omega) (by omega)]; exact hM
      have hq := hq μ' ⟨fun k hk => f1 k (by omega) (by omega), M1, by rw [M1]; exact hI, CRm_pad hC (fun k h1 h2 _ _ => f1 k h1 h2) (f2 4 (by omega)) rfl rfl rfl rfl ⟨g1, fun i hi => by
        have hi : i < hsP a + n := hi
        show μ' 515 i = (if i < hsP a then hsC a i else ((by8 (U x) (hsP a + n - 1 - i) : Nat) : Int))
        rw [g2 i hi]
        by_cases hh : i < hsP a
        · rw [if_pos hh, if_pos hh]; exact hC.2.2.2 i hh
        · rw [if_neg hh, if_neg hh]⟩⟩
      rw [show (hsP a : Int) + (n : Int) = ((hsP a + n : Nat) : Int) by omega] at hq
      exact hq) n 0 (by omega) μ (fun _ _ _ => rfl) (fun _ _ => rfl) (by rw [c6]; rfl) (fun i hi => by rw [if_pos (by omega)]; )
    rw [show (n : Int) - 1 - ((0 : Nat) : Int) = (n : Int) - 1 by omega] at st
    refine wp_go b159_61 ?_; simp only [l159_61, sg_aload_0, sg_getf0, sg_iload_3, sg_iadd, sg_bipush, sg_ic_le, sg_iret0, nLg_n, nLg_i, nLg_r, tc_c, tc_l, tc_r, tc_m, tc_n, tc_o, tc_0, inR, true_and, and_true, ne_eq, not_true_eq_false, not_false_eq_true, true_imp_iff, false_imp_iff, Int.toNat_natCast, lit_a, Nat.reduceAdd, or_true, true_or, or_false, false_or, Int.reduceEq, Int.reduceNe, Int.reduceLT, Int.reduceLE, Int.reduceNeg, sg_nil, s1p, x510, x511, x512, x513, x514, x515, x516, x517, c6]
    repeat' (first | with_reducible apply And.intro | intro _)
    all_goals (try omega)
    refine wp_go b159_75 ?_; simp only [l159_75, sg_iload_3, sg_iconst, sg_isub, sg_istore, okS_7, stL_7, nLg_n, nLg_i, nLg_r, tc_c, tc_l, tc_r, tc_m, tc_n, tc_o, tc_0, inR, true_and, and_true, ne_eq, not_true_eq_false, not_false_eq_true, true_imp_iff, false_imp_iff, Int.toNat_natCast, lit_a, Nat.reduceAdd, or_true, true_or, or_false, false_or, Int.reduceEq, Int.reduceNe, Int.reduceLT, Int.reduceLE, Int.reduceNeg, sg_nil, s1p, x510, x511, x512, x513, x514, x515, x516, x517]
    exact st

theorem put_ex {d : Nat} {Q : QT} {μ : Mem} {x : Int64} (bad : ccF (U x) = -2 → Q (.inl (-2)) μ) (good : ∀ (n : Nat) (o4 o5 : Option MV), ccF (U x) = (n : Int) → wp σ1 (Call σ1 (d + 1)) 159 Q 61 [some (.inr (.inr 510)), some (.inr (.inl x)), none, some (.inl (n : Int)), o4, o5, some (.inl 1), none] [] μ) (p : Nat) (hp : p ≤ 8) (y : Int64) (hy : U y = U x / 256 ^ p) (h1 : ∀ q, q < p → U x / 256 ^ q ≠ 0) (h2 : ∀ q, q < p → bd8 (U x) q = false) (h0 : U x / 256 ^ p = 0) : wp σ1 (Call σ1 (d + 1)) 159 Q 8 [some (.inr (.inr 510)), some (.inr (.inl x)), none, some (.inl (p : Int)), some (.inr (.inl y)), none, some (.inl 1), none] [] μ := by
  have hu := U_lt x
  have c0 : (lCmp y (Int64.ofNat ((0 : Fin 2)).val) = 0) = True := by rw [cmp_0, hy]; exact eq_true h0
  have cb := lCmp_b y (Int64.ofNat ((0 : Fin 2)).val)
  unfold inR at cb
  have ecc := ccF_e hp hu h1 h2 h0
  by_cases hp0 : p = 0
  · rw [if_pos hp0] at ecc
    have bad := bad ecc
    subst hp0
    refine wp_go b159_8 ?_; simp only [l159_8, sg_lload, ldL_4, sg_lconst, sg_lcmp, sg_if_eq, sg_iload, ldI_6, sg_ldc2, sg_land, sg_l2i, sg_bipush, len4_0, len4_1, len4_2, len4_3, len4_4, sg_is3_1, nLg_n, nLg_i, nLg_r, tc_c, tc_l, tc_r, tc_m, tc_n, tc_o, tc_0, inR, true_and, and_true, ne_eq, not_true_eq_false, not_false_eq_true, true_imp_iff, false_imp_iff, Int.toNat_natCast, lit_a, Nat.reduceAdd, or_true, true_or, or_false, false_or, Int.reduceEq, Int.reduceNe, Int.reduceLT, Int.reduceLE, Int.reduceNeg, sg_nil, s1p, x510, x511, x512, x513, x514, x515, x516, x517, c0]
    repeat' (first | with_reducible apply And.intro | intro _)
    all_goals (try omega)
    refine wp_go b159_49 ?_; simp only [l159_49, sg_iload_3, sg_if_eq, sg_iload, ldI_6, sg_if_ne, nLg_n, nLg_i, nLg_r, tc_c, tc_l, tc_r, tc_m, tc_n, tc_o, tc_0, inR, true_and, and_true, ne_eq, not_true_eq_false, not_false_eq_true, true_imp_iff, false_imp_iff, Int.toNat_natCast, lit_a, Nat.reduceAdd, or_true, true_or, or_false, false_or, Int.reduceEq, Int.reduceNe, Int.reduceLT, Int.reduceLE, Int.reduceNeg, sg_nil, s1p, x510, x511, x512, x513, x514, x515, x516, x517]
    repeat' (first | with_reducible apply And.intro | (intro _) | ((first | refine wp_go b159_0 ?_ | refine wp_go b159_34 ?_ | refine wp_go b159_49 ?_ | refine wp_go b159_58 ?_ | refine wp_go b159_61 ?_ | refine wp_go b159_75 ?_ | refine wp_go b159_123 ?_); simp only [l159_0, l159_34, l159_49, l159_58, l159_61, l159_75, l159_123, sg_iconst, sg_istore_3, sg_lload_1, sg_lstore, okS2_4, stL_4, stL_5, Nat.reduceAdd, sg_istore, okS_6, stL_6, sg_lload, ldL_4, sg_bipush, sg_lushr, sg_iinc, ldI_3, okS_3, stL_3, sg_goto, sg_iload_3, sg_if_eq, sg_iload, ldI_6, sg_if_ne, sg_iret0, sg_aload_0, sg_getf0, sg_iadd, sg_ic_le, sg_isub, okS_7, stL_7, nLg_n, nLg_i, nLg_r, tc_c, tc_l, tc_r, tc_m, tc_n, tc_o, tc_0, inR, true_and, and_true, ne_eq, not_true_eq_false, not_false_eq_true, true_imp_iff, false_imp_iff, Int.toNat_natCast, lit_a, Nat.reduceAdd, or_true, true_or, or_false, false_or, Int.reduceEq, Int.reduceNe, Int.reduceLT, Int.reduceLE, Int.reduceNeg, sg_nil, s1p, x510, x511, x512, x513, x514, x515, x516, x517]))
    all_goals (try omega)
    all_goals exact bad
  · rw [if_neg hp0] at ecc
    have good := good p (some (.inr (.inl y))) none ecc
    refine wp_go b159_8 ?_; simp only [l159_8, sg_lload, ldL_4, sg_lconst, sg_lcmp, sg_if_eq, sg_iload, ldI_6, sg_ldc2, sg_land, sg_l2i, sg_bipush, len4_0, len4_1, len4_2, len4_3, len4_4, sg_is3_1, nLg_n, nLg_i, nLg_r, tc_c, tc_l, tc_r, tc_m, tc_n, tc_o, tc_0, inR, true_and, and_true, ne_eq, not_true_eq_false, not_false_eq_true, true_imp_iff, false_imp_iff, Int.toNat_natCast, lit_a, Nat.reduceAdd, or_true, true_or, or_false, false_or, Int.reduceEq, Int.reduceNe, Int.reduceLT, Int.reduceLE, Int.reduceNeg, sg_nil, s1p, x510, x511, x512, x513, x514, x515, x516, x517, c0]
    repeat' (first | with_reducible apply And.intro | intro _)
    all_goals (try omega)
    refine wp_go b159_49 ?_; simp only [l159_49, sg_iload_3, sg_if_eq, sg_iload, ldI_6, sg_if_ne, nLg_n, nLg_i, nLg_r, tc_c, tc_l, tc_r, tc_m, tc_n, tc_o, tc_0, inR, true_and, and_true, ne_eq, not_true_eq_false, not_false_eq_true, true_imp_iff, false_imp_iff, Int.toNat_natCast, lit_a, Nat.reduceAdd, or_true, true_or, or_false, false_or, Int.reduceEq, Int.reduceNe, Int.reduceLT, Int.reduceLE, Int.reduceNeg, sg_nil, s1p, x510, x511, x512, x513, x514, x515, x516, x517]
    repeat' (first | with_reducible apply And.intro | intro _)
    all_goals (try omega)

theorem k_Mo_put {d : Nat} {Q : QT} {μ : Mem} {x : Int64} {z : Rw} {a : Hs} (hM : μ 511 = z) (hI : IR z) (hC : CRm a μ) (h60 : hsP a ≤ 60) (hf : c_put a (U x) < 0 → Q (.inl (c_put a (U x))) μ)
    (hq : c_put a (U x) = 0 → ∀ μ', PG (fun w => w = z) (hsApp a (U x) (ccF (U x)).toNat) μ μ' → Q (.inl ((hsP a : Int) + ccF (U x))) μ') : Call σ1 (d + 2) 159 [.inr (.inr 510), .inr (.inl x)] μ Q := by
  refine e_159 ?_
  have hu := U_lt x
  have c6 := hC.2.2.1
  -- behind the loop
  have bad : ccF (U x) = -2 → Q (.inl (-2)) μ := fun h => by
    have ec : c_put a (U x) = -2 := by unfold c_put; rw [if_pos h]
    rw [ec] at hf
    exact hf (by omega)
  have good := put_good (d := d) hM hI hC h60 hf hq
  have loop : ∀ k p : Nat, p + k = 8 → ∀ y : Int64, U y = U x / 256 ^ p → (∀ q, q < p → U x / 256 ^ q ≠ 0) → (∀ q, q < p → bd8 (U x) q = false) → wp σ1 (Call σ1 (d + 1)) 159 Q 8 [some (.inr (.inr 510)), some (.inr (.inl x)), none, some (.inl (p : Int)), some (.inr (.inl y)), none, some (.inl 1), none] [] μ := by
    have ex := put_ex (d := d) bad good
    intro k
    induction k with
    | zero =>
      intro p hp y hy h1 h2
      have hp8 : p = 8 := by omega
      subst hp8
      exact ex 8 (Nat.le_refl 8) y hy h1 h2 (Nat.div_eq_of_lt hu)
    | succ k ih =>
      intro p hp y hy h1 h2
      by_cases h0 : U x / 256 ^ p = 0
      · exact ex p (by omega) y hy h1 h2 h0
      · have c0 : (lCmp y (Int64.ofNat ((0 : Fin 2)).val) = 0) = False := by rw [cmp_0, hy]; exact eq_false h0
        have cb := lCmp_b y (Int64.ofNat ((0 : Fin 2)).val)
        unfold inR at cb
        have hall : ∀ q, q ≤ p → U x / 256 ^ q ≠ 0 := fun q hq => by
          rcases Nat.lt_or_ge q p with hh | hh
          · exact h1 q hh
          · rw [show q = p by omega]; exact h0
        have bb := by8_b (U x) p
        have eb : (y &&& Int64.ofNat 255).toInt32.toInt = ((by8 (U x) p : Nat) : Int) := byte_p hy
        have eU : U (lUshr y 8) = U x / 256 ^ (p + 1) := byte_s hy
        have good2 := ih (p + 1) (by omega) (lUshr y 8) eU (fun q hq => hall q (by omega))
        refine wp_go b159_8 ?_; simp only [l159_8, sg_lload, ldL_4, sg_lconst, sg_lcmp, sg_if_eq, sg_iload, ldI_6, sg_ldc2, sg_land, sg_l2i, sg_bipush, len4_0, len4_1, len4_2, len4_3, len4_4, sg_is3_1, nLg_n, nLg_i, nLg_r, tc_c, tc_l, tc_r, tc_m, tc_n, tc_o, tc_0, inR, true_and, and_true, ne_eq, not_true_eq_false, not_false_eq_true, true_imp_iff, false_imp_iff, Int.toNat_natCast, lit_a, Nat.reduceAdd, or_true, true_or, or_false, false_or, Int.reduceEq, Int.reduceNe, Int.reduceLT, Int.reduceLE, Int.reduceNeg, sg_nil, s1p, x510, x511, x512, x513, x514, x515, x516, x517, c0, eb]
        repeat' (first | with_reducible apply And.intro | intro _)
        all_goals (try omega)
        refine k_Mo_in (by unfold inR; omega) (by unfold inR; omega) (by unfold inR; omega) (fun g1 g2 => ?_) (fun g0 => ?_)
        · have hgood : bd8 (U x) p = false := decide_eq_false (by omega)
          have ih1 := good2 (fun q hq => by
            rcases Nat.lt_or_ge q p with hh | hh
            · exact h2 q hh
            · rw [show q = p by omega]; exact hgood)
          refine wp_go b159_34 ?_; simp only [l159_34, sg_istore, okS_6, stL_6, sg_lload, ldL_4, sg_bipush, sg_lushr, sg_lstore, okS2_4, stL_4, stL_5, Nat.reduceAdd, sg_iinc, ldI_3, okS_3, stL_3, sg_goto, nLg_n, nLg_i, nLg_r, tc_c, tc_l, tc_r, tc_m, tc_n, tc_o, tc_0, inR, true_and, and_true, ne_eq, not_true_eq_false, not_false_eq_true, true_imp_iff, false_imp_iff, Int.toNat_natCast, lit_a, Nat.reduceAdd, or_true, true_or, or_false, false_or, Int.reduceEq, Int.reduceNe, Int.reduceLT, Int.reduceLE, Int.reduceNeg, sg_nil, s1p, x510, x511, x512, x513, x514, x515, x516, x517]
          repeat' (first | with_reducible apply And.intro | intro _)
          all_goals (try omega)
        · have hbad : bd8 (U x) p = true := decide_eq_true (by omega)
          have bad := bad (ccF_b hu hall hbad)
          have cb := lCmp_b (lUshr y 8) (Int64.ofNat ((0 : Fin 2)).val)
          unfold inR at cb
          refine wp_go b159_34 ?_; simp only [l159_34, sg_istore, okS_6, stL_6, sg_lload, ldL_4, sg_bipush, sg_lushr, sg_lstore, okS2_4, stL_4, stL_5, Nat.reduceAdd, sg_iinc, ldI_3, okS_3, stL_3, sg_goto, nLg_n, nLg_i, nLg_r, tc_c, tc_l, tc_r, tc_m, tc_n, tc_o, tc_0, inR, true_and, and_true, ne_eq, not_true_eq_false, not_false_eq_true, true_imp_iff, false_imp_iff, Int.toNat_natCast, lit_a, Nat.reduceAdd, or_true, true_or, or_false, false_or, Int.reduceEq, Int.reduceNe, Int.reduceLT, Int.reduceLE, Int.reduceNeg, sg_nil, s1p, x510, x511, x512, x513, x514, x515, x516, x517]
          repeat' (first | with_reducible apply And.intro | intro _)
          all_goals (try omega)
          refine wp_go b159_8 ?_; simp only [l159_8, sg_lload, ldL_4, sg_lconst, sg_lcmp, sg_if_eq, sg_iload, ldI_6, sg_ldc2, sg_land, sg_l2i, sg_bipush, len4_0, len4_1, len4_2, len4_3, len4_4, sg_is3_1, nLg_n, nLg_i, nLg_r, tc_c, tc_l, tc_r, tc_m, tc_n, tc_o, tc_0, inR, true_and, and_true, ne_eq, not_true_eq_false, not_false_eq_true, true_imp_iff, false_imp_iff, Int.toNat_natCast, lit_a, Nat.reduceAdd, or_true, true_or, or_false, false_or, Int.reduceEq, Int.reduceNe, Int.reduceLT, Int.reduceLE, Int.reduceNeg, sg_nil, s1p, x510, x511, x512, x513, x514, x515, x516, x517]
          repeat' (first | with_reducible apply And.intro | (intro _) | ((first | refine wp_go b159_0 ?_ | refine wp_go b159_34 ?_ | refine wp_go b159_49 ?_ | refine wp_go b159_58 ?_ | refine wp_go b159_61 ?_ | refine wp_go b159_75 ?_ | refine wp_go b159_123 ?_); simp only [l159_0, l159_34, l159_49, l159_58, l159_61, l159_75, l159_123, sg_iconst, sg_istore_3, sg_lload_1, sg_lstore, okS2_4, stL_4, stL_5, Nat.reduceAdd, sg_istore, okS_6, stL_6, sg_lload, ldL_4, sg_bipush, sg_lushr, sg_iinc, ldI_3, okS_3, stL_3, sg_goto, sg_iload_3, sg_if_eq, sg_iload, ldI_6, sg_if_ne, sg_iret0, sg_aload_0, sg_getf0, sg_iadd, sg_ic_le, sg_isub, okS_7, stL_7, nLg_n, nLg_i, nLg_r, tc_c, tc_l, tc_r, tc_m, tc_n, tc_o, tc_0, inR, true_and, and_true, ne_eq, not_true_eq_false, not_false_eq_true, true_imp_iff, false_imp_iff, Int.toNat_natCast, lit_a, Nat.reduceAdd, or_true, true_or, or_false, false_or, Int.reduceEq, Int.reduceNe, Int.reduceLT, Int.reduceLE, Int.reduceNeg, sg_nil, s1p, x510, x511, x512, x513, x514, x515, x516, x517]))
          all_goals (try omega)
          all_goals exact bad
  have st := loop 8 0 (by omega) x (by rw [Nat.pow_zero, Nat.div_one]) (fun q hq => absurd hq (by omega)) (fun q hq => absurd hq (by omega))
  refine wp_go b159_0 ?_; simp only [l159_0, sg_iconst, sg_istore_3, sg_lload_1, sg_lstore, okS2_4, stL_4, stL_5, Nat.reduceAdd, sg_istore, okS_6, stL_6, nLg_n, nLg_i, nLg_r, tc_c, tc_l, tc_r, tc_m, tc_n, tc_o, tc_0, inR, true_and, and_true, ne_eq, not_true_eq_false, not_false_eq_true, true_imp_iff, false_imp_iff, Int.toNat_natCast, lit_a, Nat.reduceAdd, or_true, true_or, or_false, false_or, Int.reduceEq, Int.reduceNe, Int.reduceLT, Int.reduceLE, Int.reduceNeg, sg_nil, s1p, x510, x511, x512, x513, x514, x515, x516, x517]
  exact st
