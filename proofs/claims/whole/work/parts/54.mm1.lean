/-- the model's history, slots and pad -/
def CRm (a : Hs) (μ : Mem) : Prop :=
  (μ 510 4 = (hsN a : Int) ∧ hsN a ≤ 6 ∧ ∀ j k : Nat, j < hsN a → k < 956 → μ 512 (956 * j + k) = hsH a j k ∧ inR (hsH a j k)) ∧
  (∀ s : Nat, s < 2 → μ 514 s = hsV a s ∧ (hsV a s = 1 → ∀ k : Nat, k < 956 → μ 513 (956 * s + k) = hsL a s k ∧ inR (hsL a s k))) ∧
  (μ 510 6 = (hsP a : Int) ∧ ∀ i : Nat, i < hsP a → μ 515 i = hsC a i)
theorem CRm_f {a : Hs} {μ μ' : Mem} (f2 : μ' 512 = μ 512) (f3 : μ' 513 = μ 513) (f4 : μ' 514 = μ 514) (f5 : μ' 515 = μ 515) (g4 : μ' 510 4 = μ 510 4) (g6 : μ' 510 6 = μ 510 6) (h : CRm a μ) : CRm a μ' := by
  unfold CRm
  rw [f2, f3, f4, f5, g4, g6]
  exact h
theorem CRm_q {a : Hs} {μ μ' : Mem} (hq : QM μ μ') (h : CRm a μ) : CRm a μ' := CRm_f (hq.1 _ (by omega) (by omega) (by omega) (by omega)) (hq.1 _ (by omega) (by omega) (by omega) (by omega)) (hq.1 _ (by omega) (by omega) (by omega) (by omega)) (hq.1 _ (by omega) (by omega) (by omega) (by omega)) (hq.2 4 (by omega)) (hq.2 6 (by omega)) h
theorem CRm_1 {a : Hs} {μ μ' : Mem} (f : ∀ k, k ≠ 511 → k ≠ 516 → μ' k = μ k) (h : CRm a μ) : CRm a μ' := CRm_f (f _ (by omega) (by omega)) (f _ (by omega) (by omega)) (f _ (by omega) (by omega)) (f _ (by omega) (by omega)) (by rw [f 510 (by omega) (by omega)]) (by rw [f 510 (by omega) (by omega)]) h
theorem CRm_lo {a : Hs} {μ μ' : Mem} (f : ∀ k, 510 ≤ k → μ' k = μ k) (h : CRm a μ) : CRm a μ' := CRm_f (f _ (by omega)) (f _ (by omega)) (f _ (by omega)) (f _ (by omega)) (by rw [f 510 (by omega)]) (by rw [f 510 (by omega)]) h
/-- what a mutator of the model leaves -/
def PG (R : Rw → Prop) (a' : Hs) (μ μ' : Mem) : Prop := (∀ k, k < 510 → μ' k = μ k) ∧ R (μ' 511) ∧ IR (μ' 511) ∧ CRm a' μ'
theorem k_Mo_rec {d : Nat} {Q : QT} {μ : Mem} {z : Rw} {a : Hs} (hM : μ 511 = z) (hI : IR z) (hC : CRm a μ)
    (hq : ∀ μ', (∀ k, k ≠ 510 → k ≠ 512 → μ' k = μ k) → CRm (hsPush a z) μ' → Q (.inl 0) μ') : Call σ1 (d + 1) 106 [.inr (.inr 510)] μ Q := by
  obtain ⟨⟨c1, c2, c3⟩, c4, c5, c6⟩ := hC
  refine k_Mo_record hM c1 c2 hI (fun μ' f1 f2 f3 f4 => hq μ' f1 ⟨⟨f3, ?_, fun j k hj hk => ?_⟩, ?_, ?_, ?_⟩)
  · show hpn (hsN a) ≤ 6
    unfold hpn; split <;> omega
  · have hj : j < hpn (hsN a) := hj
    have e := f4 j k hj hk
    rw [e]
    show hpush (hsN a) (fun j k => μ 512 (956 * j + k)) z j k = hpush (hsN a) (hsH a) z j k ∧ inR (hpush (hsN a) (hsH a) z j k)
    unfold hpn at hj
    unfold hpush
    by_cases hn : hsN a < 6
    · rw [if_pos hn] at hj
      rw [if_pos hn, if_pos hn]
      by_cases hjn : j = hsN a
      · rw [if_pos hjn, if_pos hjn]; exact ⟨rfl, hI k hk⟩
      · rw [if_neg hjn, if_neg hjn]; exact c3 j k (by omega) hk
    · rw [if_neg hn] at hj
      rw [if_neg hn, if_neg hn]
      by_cases hjn : j = 5
      · rw [if_pos hjn, if_pos hjn]; exact ⟨rfl, hI k hk⟩
      · rw [if_neg hjn, if_neg hjn]; exact c3 (j + 1) k (by omega) hk
  · rw [f1 514 (by omega) (by omega), f1 513 (by omega) (by omega)]; exact c4
  · rw [f2 6 (by omega)]; exact c5
  · rw [f1 515 (by omega) (by omega)]; exact c6
theorem IR_uz {z : Rw} {k : Nat} {v : Int} (h : IR z) (hv : inR v) : IR (uz z k v) := fun x hx => by
  unfold uz
  split
  · exact hv
  · exact h x hx
-- Mo.change: blocks [0, 5, 10, 18, 24, 28, 34]
theorem k_Mo_change {d : Nat} {Q : QT} {μ : Mem} {s v : Int} {z : Rw} {a : Hs} (hM : μ 511 = z) (hz : IZ z) (hI : IR z) (hC : CRm a μ) (hs : inR s) (hv : inR v) (hf : c_change z s v < 0 → Q (.inl (c_change z s v)) μ)
    (hq : c_change z s v = 0 → ∀ μ', PG (fun w => w = uz z (5 + 3 * s.toNat) v) (hsPush a z) μ μ' → Q (.inl (z (5 + 3 * s.toNat))) μ') : Call σ1 (d + 2) 122 [.inr (.inr 510), .inl s, .inl v] μ Q := by
  refine e_122 ?_
  have q := hz.1
  refine wp_go b122_0 ?_; simp only [l122_0, sg_aload_0, sg_iload_1, sg_iv2_i, len4_0, len4_1, len4_2, len4_3, len4_4, nLg_n, nLg_i, nLg_r, tc_c, tc_l, tc_r, tc_m, tc_n, tc_o, tc_0, inR, true_and, and_true, ne_eq, not_true_eq_false, not_false_eq_true, true_imp_iff, false_imp_iff, Int.toNat_natCast, lit_a, Nat.reduceAdd, or_true, true_or, or_false, false_or, Int.reduceEq, Int.reduceNe, Int.reduceLT, Int.reduceLE, Int.reduceNeg, sg_nil, s1p, x510, x511, x512, x513, x514, x515, x516, x517]
  refine k_Mo_isSentence hM hz hs (fun h1 h2 => ?_) (fun h0 => ?_)
  · obtain ⟨n, rfl⟩ := nat_of h1
    refine wp_go b122_5 ?_; simp only [l122_5, sg_if_ne, sg_iconst, sg_iret0, nLg_n, nLg_i, nLg_r, tc_c, tc_l, tc_r, tc_m, tc_n, tc_o, tc_0, inR, true_and, and_true, ne_eq, not_true_eq_false, not_false_eq_true, true_imp_iff, false_imp_iff, Int.toNat_natCast, lit_a, Nat.reduceAdd, or_true, true_or, or_false, false_or, Int.reduceEq, Int.reduceNe, Int.reduceLT, Int.reduceLE, Int.reduceNeg, sg_nil, s1p, x510, x511, x512, x513, x514, x515, x516, x517]
    repeat' (first | with_reducible apply And.intro | intro _)
    all_goals (try omega)
    refine wp_go b122_10 ?_; simp only [l122_10, sg_iload_2, sg_iconst, sg_sipush, len4_0, len4_1, len4_2, len4_3, len4_4, sg_is3_1, nLg_n, nLg_i, nLg_r, tc_c, tc_l, tc_r, tc_m, tc_n, tc_o, tc_0, inR, true_and, and_true, ne_eq, not_true_eq_false, not_false_eq_true, true_imp_iff, false_imp_iff, Int.toNat_natCast, lit_a, Nat.reduceAdd, or_true, true_or, or_false, false_or, Int.reduceEq, Int.reduceNe, Int.reduceLT, Int.reduceLE, Int.reduceNeg, sg_nil, s1p, x510, x511, x512, x513, x514, x515, x516, x517]
    refine k_Mo_in hv (by unfold inR; omega) (by unfold inR; omega) (fun g1 g2 => ?_) (fun g0 => ?_)
    · have ec : c_change z (n : Int) v = 0 := by unfold c_change; rw [if_neg (by omega), if_neg (by omega)]
      have hq := hq ec
      rw [Int.toNat_natCast] at hq
      have e5 : 4 + 3 * n + 1 = 5 + 3 * n := by omega
      refine wp_go b122_18 ?_; simp only [l122_18, sg_if_ne, sg_bipush, sg_iret0, nLg_n, nLg_i, nLg_r, tc_c, tc_l, tc_r, tc_m, tc_n, tc_o, tc_0, inR, true_and, and_true, ne_eq, not_true_eq_false, not_false_eq_true, true_imp_iff, false_imp_iff, Int.toNat_natCast, lit_a, Nat.reduceAdd, or_true, true_or, or_false, false_or, Int.reduceEq, Int.reduceNe, Int.reduceLT, Int.reduceLE, Int.reduceNeg, sg_nil, s1p, x510, x511, x512, x513, x514, x515, x516, x517]
      repeat' (first | with_reducible apply And.intro | intro _)
      all_goals (try omega)
      refine wp_go b122_24 ?_; simp only [l122_24, sg_aload_0, sg_iv1_v, len4_0, len4_1, len4_2, len4_3, len4_4, nLg_n, nLg_i, nLg_r, tc_c, tc_l, tc_r, tc_m, tc_n, tc_o, tc_0, inR, true_and, and_true, ne_eq, not_true_eq_false, not_false_eq_true, true_imp_iff, false_imp_iff, Int.toNat_natCast, lit_a, Nat.reduceAdd, or_true, true_or, or_false, false_or, Int.reduceEq, Int.reduceNe, Int.reduceLT, Int.reduceLE, Int.reduceNeg, sg_nil, s1p, x510, x511, x512, x513, x514, x515, x516, x517]
      refine k_Mo_rec hM hI hC (fun μ1 f1 C1 => ?_)
      have M1 : μ1 511 = z := by rw [f1 511 (by omega) (by omega)]; exact hM
      have hq := hq (ms μ1 511 (5 + 3 * n) v) ⟨fun k hk => by rw [← f1 k (by omega) (by omega)]; funext j; simp only [ms_at]; (repeat (first | rw [if_neg (by omega)] | rw [if_pos (by omega)])), by funext j; simp only [ms_at, true_and, uz_at]; rw [M1], by
        have e : ms μ1 511 (5 + 3 * n) v 511 = uz z (5 + 3 * n) v := by funext j; simp only [ms_at, true_and, uz_at]; rw [M1]
        rw [e]; exact IR_uz hI hv, CRm_1 (fun k h1 _ => by funext j; simp only [ms_at]; (repeat (first | rw [if_neg (by omega)] | rw [if_pos (by omega)]))) C1⟩
      refine wp_go b122_28 ?_; simp only [l122_28, sg_aload_0, sg_iload_1, sg_iconst, sg_iv3_i, len4_0, len4_1, len4_2, len4_3, len4_4, nLg_n, nLg_i, nLg_r, tc_c, tc_l, tc_r, tc_m, tc_n, tc_o, tc_0, inR, true_and, and_true, ne_eq, not_true_eq_false, not_false_eq_true, true_imp_iff, false_imp_iff, Int.toNat_natCast, lit_a, Nat.reduceAdd, or_true, true_or, or_false, false_or, Int.reduceEq, Int.reduceNe, Int.reduceLT, Int.reduceLE, Int.reduceNeg, sg_nil, s1p, x510, x511, x512, x513, x514, x515, x516, x517]
      refine k_Mo_its (s := n) (w := 1) M1 (by omega) (by omega) ?_
      rw [e5]
      refine wp_go b122_34 ?_; simp only [l122_34, sg_istore_3, sg_aload_0, sg_getfp, sg_iconst, sg_iload_1, sg_imul, sg_iadd, sg_iload_2, sg_iastore, sg_iload_3, sg_iret0, nLg_n, nLg_i, nLg_r, tc_c, tc_l, tc_r, tc_m, tc_n, tc_o, tc_0, inR, true_and, and_true, ne_eq, not_true_eq_false, not_false_eq_true, true_imp_iff, false_imp_iff, Int.toNat_natCast, lit_a, Nat.reduceAdd, or_true, true_or, or_false, false_or, Int.reduceEq, Int.reduceNe, Int.reduceLT, Int.reduceLE, Int.reduceNeg, sg_nil, s1p, x510, x511, x512, x513, x514, x515, x516, x517, e5]
      repeat' (first | with_reducible apply And.intro | intro _)
      all_goals (try omega)
    · have ec : c_change z (n : Int) v = -2 := by unfold c_change; rw [if_neg (by omega), if_pos (by omega)]
      rw [ec] at hf
      have hf := hf (by omega)
      refine wp_go b122_18 ?_; simp only [l122_18, sg_if_ne, sg_bipush, sg_iret0, nLg_n, nLg_i, nLg_r, tc_c, tc_l, tc_r, tc_m, tc_n, tc_o, tc_0, inR, true_and, and_true, ne_eq, not_true_eq_false, not_false_eq_true, true_imp_iff, false_imp_iff, Int.toNat_natCast, lit_a, Nat.reduceAdd, or_true, true_or, or_false, false_or, Int.reduceEq, Int.reduceNe, Int.reduceLT, Int.reduceLE, Int.reduceNeg, sg_nil, s1p, x510, x511, x512, x513, x514, x515, x516, x517]
      repeat' (first | with_reducible apply And.intro | (intro _) | ((first | refine wp_go b122_0 ?_ | refine wp_go b122_5 ?_ | refine wp_go b122_10 ?_ | refine wp_go b122_18 ?_ | refine wp_go b122_24 ?_ | refine wp_go b122_28 ?_ | refine wp_go b122_34 ?_); simp only [l122_0, l122_5, l122_10, l122_18, l122_24, l122_28, l122_34, sg_aload_0, sg_iload_1, sg_iv2_i, len4_0, len4_1, len4_2, len4_3, len4_4, sg_if_ne, sg_iconst, sg_iret0, sg_iload_2, sg_sipush, sg_is3_1, sg_bipush, sg_iv1_v, sg_iv3_i, sg_istore_3, sg_getfp, sg_imul, sg_iadd, sg_iastore, sg_iload_3, nLg_n, nLg_i, nLg_r, tc_c, tc_l, tc_r, tc_m, tc_n, tc_o, tc_0, inR, true_and, and_true, ne_eq, not_true_eq_false, not_false_eq_true, true_imp_iff, false_imp_iff, Int.toNat_natCast, lit_a, Nat.reduceAdd, or_true, true_or, or_false, false_or, Int.reduceEq, Int.reduceNe, Int.reduceLT, Int.reduceLE, Int.reduceNeg, sg_nil, s1p, x510, x511, x512, x513, x514, x515, x516, x517]))
      all_goals (try omega)
      all_goals exact hf
  · have ec : c_change z s v = -1 := by unfold c_change; rw [if_pos (by omega)]
    rw [ec] at hf
    have hf := hf (by omega)
    refine wp_go b122_5 ?_; simp only [l122_5, sg_if_ne, sg_iconst, sg_iret0, nLg_n, nLg_i, nLg_r, tc_c, tc_l, tc_r, tc_m, tc_n, tc_o, tc_0, inR, true_and, and_true, ne_eq, not_true_eq_false, not_false_eq_true, true_imp_iff, false_imp_iff, Int.toNat_natCast, lit_a, Nat.reduceAdd, or_true, true_or, or_false, false_or, Int.reduceEq, Int.reduceNe, Int.reduceLT, Int.reduceLE, Int.reduceNeg, sg_nil, s1p, x510, x511, x512, x513, x514, x515, x516, x517]
    repeat' (first | with_reducible apply And.intro | (intro _) | ((first | refine wp_go b122_0 ?_ | refine wp_go b122_5 ?_ | refine wp_go b122_10 ?_ | refine wp_go b122_18 ?_ | refine wp_go b122_24 ?_ | refine wp_go b122_28 ?_ | refine wp_go b122_34 ?_); simp only [l122_0, l122_5, l122_10, l122_18, l122_24, l122_28, l122_34, sg_aload_0, sg_iload_1, sg_iv2_i, len4_0, len4_1, len4_2, len4_3, len4_4, sg_if_ne, sg_iconst, sg_iret0, sg_iload_2, sg_sipush, sg_is3_1, sg_bipush, sg_iv1_v, sg_iv3_i, sg_istore_3, sg_getfp, sg_imul, sg_iadd, sg_iastore, sg_iload_3, nLg_n, nLg_i, nLg_r, tc_c, tc_l, tc_r, tc_m, tc_n, tc_o, tc_0, inR, true_and, and_true, ne_eq, not_true_eq_false, not_false_eq_true, true_imp_iff, false_imp_iff, Int.toNat_natCast, lit_a, Nat.reduceAdd, or_true, true_or, or_false, false_or, Int.reduceEq, Int.reduceNe, Int.reduceLT, Int.reduceLE, Int.reduceNeg, sg_nil, s1p, x510, x511, x512, x513, x514, x515, x516, x517]))
    all_goals (try omega)
    all_goals exact hf
-- Mo.chapter: blocks [0, 5, 10, 20, 28, 29, 33, 36, 40, 59, 60, 65]
theorem k_Mo_chapter {d : Nat} {Q : QT} {μ : Mem} {s b : Int} {z : Rw} {a : Hs} (hM : μ 511 = z) (hz : IZ z) (hI : IR z) (hC : CRm a μ) (hs : inR s) (hb : b = 0 ∨ b = 1) (hf : c_chapter z s b < 0 → Q (.inl (c_chapter z s b)) μ)
    (hq : c_chapter z s b = 0 → ∀ μ', PG (fun w => w = uz z (6 + 3 * s.toNat) b) (hsPush a z) μ μ' → Q (.inl (sm (zb (uz z (6 + 3 * s.toNat) b)) (zn z))) μ') : Call σ1 (d + 3) 124 [.inr (.inr 510), .inl s, .inl b] μ Q := by
  refine e_124 ?_
  have q := hz.1
  have n0 := zn_eq hz
  refine wp_go b124_0 ?_; simp only [l124_0, sg_aload_0, sg_iload_1, sg_iv2_i, len4_0, len4_1, len4_2, len4_3, len4_4, nLg_n, nLg_i, nLg_r, tc_c, tc_l, tc_r, tc_m, tc_n, tc_o, tc_0, inR, true_and, and_true, ne_eq, not_true_eq_false, not_false_eq_true, true_imp_iff, false_imp_iff, Int.toNat_natCast, lit_a, Nat.reduceAdd, or_true, true_or, or_false, false_or, Int.reduceEq, Int.reduceNe, Int.reduceLT, Int.reduceLE, Int.reduceNeg, sg_nil, s1p, x510, x511, x512, x513, x514, x515, x516, x517]
  refine k_Mo_isSentence hM hz hs (fun h1 h2 => ?_) (fun h0 => ?_)
  · obtain ⟨n, rfl⟩ := nat_of h1
    have r := (hz.2.1 n h2).2.2.1
    have e5 : 4 + 3 * n + 2 = 6 + 3 * n := by omega
    by_cases g0 : n = 0
    · subst g0
      have ec : c_chapter z ((0 : Nat) : Int) b = -5 := by unfold c_chapter; rw [if_neg (by omega), if_pos (by omega)]
      rw [ec] at hf
      have hf := hf (by omega)
      refine wp_go b124_5 ?_; simp only [l124_5, sg_if_ne, sg_iconst, sg_iret0, nLg_n, nLg_i, nLg_r, tc_c, tc_l, tc_r, tc_m, tc_n, tc_o, tc_0, inR, true_and, and_true, ne_eq, not_true_eq_false, not_false_eq_true, true_imp_iff, false_imp_iff, Int.toNat_natCast, lit_a, Nat.reduceAdd, or_true, true_or, or_false, false_or, Int.reduceEq, Int.reduceNe, Int.reduceLT, Int.reduceLE, Int.reduceNeg, sg_nil, s1p, x510, x511, x512, x513, x514, x515, x516, x517]
      repeat' (first | with_reducible apply And.intro | (intro _) | refine k_Mo_its (s := 0) (w := 2) hM (by omega) (by omega) ?_ | ((first | refine wp_go b124_0 ?_ | refine wp_go b124_5 ?_ | refine wp_go b124_10 ?_ | refine wp_go b124_20 ?_ | refine wp_go b124_28 ?_ | refine wp_go b124_29 ?_ | refine wp_go b124_33 ?_ | refine wp_go b124_36 ?_ | refine wp_go b124_40 ?_ | refine wp_go b124_59 ?_ | refine wp_go b124_60 ?_ | refine wp_go b124_65 ?_); simp only [l124_0, l124_5, l124_10, l124_20, l124_28, l124_29, l124_33, l124_36, l124_40, l124_59, l124_60, l124_65, sg_aload_0, sg_iload_1, sg_iv2_i, len4_0, len4_1, len4_2, len4_3, len4_4, sg_if_ne, sg_iconst, sg_iret0, sg_if_eq, sg_iv3_i, sg_ic_ne, sg_goto, sg_iload_2, sg_bipush, sg_iv1_v, sg_getfp, sg_imul, sg_iadd, sg_iastore, sg_iv1_i, nLg_n, nLg_i, nLg_r, tc_c, tc_l, tc_r, tc_m, tc_n, tc_o, tc_0, inR, true_and, and_true, ne_eq, not_true_eq_false, not_false_eq_true, true_imp_iff, false_imp_iff, Int.toNat_natCast, lit_a, Nat.reduceAdd, or_true, true_or, or_false, false_or, Int.reduceEq, Int.reduceNe, Int.reduceLT, Int.reduceLE, Int.reduceNeg, sg_nil, s1p, x510, x511, x512, x513, x514, x515, x516, x517]))
      all_goals (try omega)
      all_goals exact hf
    · by_cases g1 : z (6 + 3 * n) = b
      · have ec : c_chapter z (n : Int) b = -5 := by unfold c_chapter; rw [if_neg (by omega), Int.toNat_natCast, if_pos (Or.inr g1)]
        rw [ec] at hf
        have hf := hf (by omega)
        refine wp_go b124_5 ?_; simp only [l124_5, sg_if_ne, sg_iconst, sg_iret0, nLg_n, nLg_i, nLg_r, tc_c, tc_l, tc_r, tc_m, tc_n, tc_o, tc_0, inR, true_and, and_true, ne_eq, not_true_eq_false, not_false_eq_true, true_imp_iff, false_imp_iff, Int.toNat_natCast, lit_a, Nat.reduceAdd, or_true, true_or, or_false, false_or, Int.reduceEq, Int.reduceNe, Int.reduceLT, Int.reduceLE, Int.reduceNeg, sg_nil, s1p, x510, x511, x512, x513, x514, x515, x516, x517]
        repeat' (first | with_reducible apply And.intro | intro _)
        all_goals (try omega)
        refine wp_go b124_10 ?_; simp only [l124_10, sg_iload_1, sg_if_eq, sg_aload_0, sg_iconst, sg_iv3_i, len4_0, len4_1, len4_2, len4_3, len4_4, nLg_n, nLg_i, nLg_r, tc_c, tc_l, tc_r, tc_m, tc_n, tc_o, tc_0, inR, true_and, and_true, ne_eq, not_true_eq_false, not_false_eq_true, true_imp_iff, false_imp_iff, Int.toNat_natCast, lit_a, Nat.reduceAdd, or_true, true_or, or_false, false_or, Int.reduceEq, Int.reduceNe, Int.reduceLT, Int.reduceLE, Int.reduceNeg, sg_nil, s1p, x510, x511, x512, x513, x514, x515, x516, x517]
        repeat' (first | with_reducible apply And.intro | intro _)
        all_goals (try omega)
        refine k_Mo_its (s := n) (w := 2) hM (by omega) (by omega) ?_
        rw [e5, g1]
        rcases hb with rfl | rfl
        · refine wp_go b124_20 ?_; simp only [l124_20, sg_iconst, sg_ic_ne, sg_goto, nLg_n, nLg_i, nLg_r, tc_c, tc_l, tc_r, tc_m, tc_n, tc_o, tc_0, inR, true_and, and_true, ne_eq, not_true_eq_false, not_false_eq_true, true_imp_iff, false_imp_iff, Int.toNat_natCast, lit_a, Nat.reduceAdd, or_true, true_or, or_false, false_or, Int.reduceEq, Int.reduceNe, Int.reduceLT, Int.reduceLE, Int.reduceNeg, sg_nil, s1p, x510, x511, x512, x513, x514, x515, x516, x517]
          repeat' (first | with_reducible apply And.intro | (intro _) | ((first | refine wp_go b124_0 ?_ | refine wp_go b124_5 ?_ | refine wp_go b124_10 ?_ | refine wp_go b124_20 ?_ | refine wp_go b124_28 ?_ | refine wp_go b124_29 ?_ | refine wp_go b124_33 ?_ | refine wp_go b124_36 ?_ | refine wp_go b124_40 ?_ | refine wp_go b124_59 ?_ | refine wp_go b124_60 ?_ | refine wp_go b124_65 ?_); simp only [l124_0, l124_5, l124_10, l124_20, l124_28, l124_29, l124_33, l124_36, l124_40, l124_59, l124_60, l124_65, sg_aload_0, sg_iload_1, sg_iv2_i, len4_0, len4_1, len4_2, len4_3, len4_4, sg_if_ne, sg_iconst, sg_iret0, sg_if_eq, sg_iv3_i, sg_ic_ne, sg_goto, sg_iload_2, sg_bipush, sg_iv1_v, sg_getfp, sg_imul, sg_iadd, sg_iastore, sg_iv1_i, nLg_n, nLg_i, nLg_r, tc_c, tc_l, tc_r, tc_m, tc_n, tc_o, tc_0, inR, true_and, and_true, ne_eq, not_true_eq_false, not_false_eq_true, true_imp_iff, false_imp_iff, Int.toNat_natCast, lit_a, Nat.reduceAdd, or_true, true_or, or_false, false_or, Int.reduceEq, Int.reduceNe, Int.reduceLT, Int.reduceLE, Int.reduceNeg, sg_nil, s1p, x510, x511, x512, x513, x514, x515, x516, x517]))
          all_goals (try omega)
          all_goals exact hf
        · refine wp_go b124_20 ?_; simp only [l124_20, sg_iconst, sg_ic_ne, sg_goto, nLg_n, nLg_i, nLg_r, tc_c, tc_l, tc_r, tc_m, tc_n, tc_o, tc_0, inR, true_and, and_true, ne_eq, not_true_eq_false, not_false_eq_true, true_imp_iff, false_imp_iff, Int.toNat_natCast, lit_a, Nat.reduceAdd, or_true, true_or, or_false, false_or, Int.reduceEq, Int.reduceNe, Int.reduceLT, Int.reduceLE, Int.reduceNeg, sg_nil, s1p, x510, x511, x512, x513, x514, x515, x516, x517]
          repeat' (first | with_reducible apply And.intro | (intro _) | ((first | refine wp_go b124_0 ?_ | refine wp_go b124_5 ?_ | refine wp_go b124_10 ?_ | refine wp_go b124_20 ?_ | refine wp_go b124_28 ?_ | refine wp_go b124_29 ?_ | refine wp_go b124_33 ?_ | refine wp_go b124_36 ?_ | refine wp_go b124_40 ?_ | refine wp_go b124_59 ?_ | refine wp_go b124_60 ?_ | refine wp_go b124_65 ?_); simp only [l124_0, l124_5, l124_10, l124_20, l124_28, l124_29, l124_33, l124_36, l124_40, l124_59, l124_60, l124_65, sg_aload_0, sg_iload_1, sg_iv2_i, len4_0, len4_1, len4_2, len4_3, len4_4, sg_if_ne, sg_iconst, sg_iret0, sg_if_eq, sg_iv3_i, sg_ic_ne, sg_goto, sg_iload_2, sg_bipush, sg_iv1_v, sg_getfp, sg_imul, sg_iadd, sg_iastore, sg_iv1_i, nLg_n, nLg_i, nLg_r, tc_c, tc_l, tc_r, tc_m, tc_n, tc_o, tc_0, inR, true_and, and_true, ne_eq, not_true_eq_false, not_false_eq_true, true_imp_iff, false_imp_iff, Int.toNat_natCast, lit_a, Nat.reduceAdd, or_true, true_or, or_false, false_or, Int.reduceEq, Int.reduceNe, Int.reduceLT, Int.reduceLE, Int.reduceNeg, sg_nil, s1p, x510, x511, x512, x513, x514, x515, x516, x517]))
          all_goals (try omega)
          all_goals exact hf
      · have ec : c_chapter z (n : Int) b = 0 := by unfold c_chapter; rw [if_neg (by omega), Int.toNat_natCast, if_neg (by omega)]
        have hq := hq ec
        rw [Int.toNat_natCast] at hq
        have cont : wp σ1 (Call σ1 (d + 2)) 124 Q 36 [some (.inr (.inr 510)), some (.inl (n : Int)), some (.inl b)] [] μ := by
          refine wp_go b124_36 ?_; simp only [l124_36, sg_aload_0, sg_iv1_v, len4_0, len4_1, len4_2, len4_3, len4_4, nLg_n, nLg_i, nLg_r, tc_c, tc_l, tc_r, tc_m, tc_n, tc_o, tc_0, inR, true_and, and_true, ne_eq, not_true_eq_false, not_false_eq_true, true_imp_iff, false_imp_iff, Int.toNat_natCast, lit_a, Nat.reduceAdd, or_true, true_or, or_false, false_or, Int.reduceEq, Int.reduceNe, Int.reduceLT, Int.reduceLE, Int.reduceNeg, sg_nil, s1p, x510, x511, x512, x513, x514, x515, x516, x517]
          refine k_Mo_rec hM hI hC (fun μ1 f1 C1 => ?_)
          have M1 : μ1 511 = z := by rw [f1 511 (by omega) (by omega)]; exact hM
          have e : ms μ1 511 (6 + 3 * n) b 511 = uz z (6 + 3 * n) b := by funext j; simp only [ms_at, true_and, uz_at]; rw [M1]
          have hq := hq (ms μ1 511 (6 + 3 * n) b) ⟨fun k hk => by rw [← f1 k (by omega) (by omega)]; funext j; simp only [ms_at]; (repeat (first | rw [if_neg (by omega)] | rw [if_pos (by omega)])), e, by rw [e]; exact IR_uz hI (by unfold inR; omega), CRm_1 (fun k h1 _ => by funext j; simp only [ms_at]; (repeat (first | rw [if_neg (by omega)] | rw [if_pos (by omega)]))) C1⟩
          have z0 : uz z (6 + 3 * n) b 0 = (zn z : Int) := (uz_o z b (by omega)).trans n0.1
          rcases hb with rfl | rfl
          · refine wp_go b124_40 ?_; simp only [l124_40, sg_aload_0, sg_getfp, sg_iconst, sg_iload_1, sg_imul, sg_iadd, sg_iload_2, sg_if_eq, sg_goto, nLg_n, nLg_i, nLg_r, tc_c, tc_l, tc_r, tc_m, tc_n, tc_o, tc_0, inR, true_and, and_true, ne_eq, not_true_eq_false, not_false_eq_true, true_imp_iff, false_imp_iff, Int.toNat_natCast, lit_a, Nat.reduceAdd, or_true, true_or, or_false, false_or, Int.reduceEq, Int.reduceNe, Int.reduceLT, Int.reduceLE, Int.reduceNeg, sg_nil, s1p, x510, x511, x512, x513, x514, x515, x516, x517, e5]
            repeat' (first | with_reducible apply And.intro | intro _)
            all_goals (try omega)
            refine wp_go b124_59 ?_; simp only [l124_59, sg_iconst, nLg_n, nLg_i, nLg_r, tc_c, tc_l, tc_r, tc_m, tc_n, tc_o, tc_0, inR, true_and, and_true, ne_eq, not_true_eq_false, not_false_eq_true, true_imp_iff, false_imp_iff, Int.toNat_natCast, lit_a, Nat.reduceAdd, or_true, true_or, or_false, false_or, Int.reduceEq, Int.reduceNe, Int.reduceLT, Int.reduceLE, Int.reduceNeg, sg_nil, s1p, x510, x511, x512, x513, x514, x515, x516, x517, e5]
            refine wp_go b124_60 ?_; simp only [l124_60, sg_iastore, sg_aload_0, sg_iv1_i, len4_0, len4_1, len4_2, len4_3, len4_4, nLg_n, nLg_i, nLg_r, tc_c, tc_l, tc_r, tc_m, tc_n, tc_o, tc_0, inR, true_and, and_true, ne_eq, not_true_eq_false, not_false_eq_true, true_imp_iff, false_imp_iff, Int.toNat_natCast, lit_a, Nat.reduceAdd, or_true, true_or, or_false, false_or, Int.reduceEq, Int.reduceNe, Int.reduceLT, Int.reduceLE, Int.reduceNeg, sg_nil, s1p, x510, x511, x512, x513, x514, x515, x516, x517, e5]
            repeat' (first | with_reducible apply And.intro | intro _)
            all_goals (try omega)
            refine k_Mo_chapters e z0 (by omega) ?_
            refine wp_go b124_65 ?_; simp only [l124_65, sg_iret0, nLg_n, nLg_i, nLg_r, tc_c, tc_l, tc_r, tc_m, tc_n, tc_o, tc_0, inR, true_and, and_true, ne_eq, not_true_eq_false, not_false_eq_true, true_imp_iff, false_imp_iff, Int.toNat_natCast, lit_a, Nat.reduceAdd, or_true, true_or, or_false, false_or, Int.reduceEq, Int.reduceNe, Int.reduceLT, Int.reduceLE, Int.reduceNeg, sg_nil, s1p, x510, x511, x512, x513, x514, x515, x516, x517]
            exact hq
          · refine wp_go b124_40 ?_; simp only [l124_40, sg_aload_0, sg_getfp, sg_iconst, sg_iload_1, sg_imul, sg_iadd, sg_iload_2, sg_if_eq, sg_goto, nLg_n, nLg_i, nLg_r, tc_c, tc_l, tc_r, tc_m, tc_n, tc_o, tc_0, inR, true_and, and_true, ne_eq, not_true_eq_false, not_false_eq_true, true_imp_iff, false_imp_iff, Int.toNat_natCast, lit_a, Nat.reduceAdd, or_true, true_or, or_false, false_or, Int.reduceEq, Int.reduceNe, Int.reduceLT, Int.reduceLE, Int.reduceNeg, sg_nil, s1p, x510, x511, x512, x513, x514, x515, x516, x517, e5]
            repeat' (first | with_reducible apply And.intro | intro _)
            all_goals (try omega)
            refine wp_go b124_60 ?_; simp only [l124_60, sg_iastore, sg_aload_0, sg_iv1_i, len4_0, len4_1, len4_2, len4_3, len4_4, nLg_n, nLg_i, nLg_r, tc_c, tc_l, tc_r, tc_m, tc_n, tc_o, tc_0, inR, true_and, and_true, ne_eq, not_true_eq_false, not_false_eq_true, true_imp_iff, false_imp_iff, Int.toNat_natCast, lit_a, Nat.reduceAdd, or_true, true_or, or_false, false_or, Int.reduceEq, Int.reduceNe, Int.reduceLT, Int.reduceLE, Int.reduceNeg, sg_nil, s1p, x510, x511, x512, x513, x514, x515, x516, x517, e5]
            repeat' (first | with_reducible apply And.intro | intro _)
            all_goals (try omega)
            refine k_Mo_chapters e z0 (by omega) ?_
            refine wp_go b124_65 ?_; simp only [l124_65, sg_iret0, nLg_n, nLg_i, nLg_r, tc_c, tc_l, tc_r, tc_m, tc_n, tc_o, tc_0, inR, true_and, and_true, ne_eq, not_true_eq_false, not_false_eq_true, true_imp_iff, false_imp_iff, Int.toNat_natCast, lit_a, Nat.reduceAdd, or_true, true_or, or_false, false_or, Int.reduceEq, Int.reduceNe, Int.reduceLT, Int.reduceLE, Int.reduceNeg, sg_nil, s1p, x510, x511, x512, x513, x514, x515, x516, x517]
            exact hq
        refine wp_go b124_5 ?_; simp only [l124_5, sg_if_ne, sg_iconst, sg_iret0, nLg_n, nLg_i, nLg_r, tc_c, tc_l, tc_r, tc_m, tc_n, tc_o, tc_0, inR, true_and, and_true, ne_eq, not_true_eq_false, not_false_eq_true, true_imp_iff, false_imp_iff, Int.toNat_natCast, lit_a, Nat.reduceAdd, or_true, true_or, or_false, false_or, Int.reduceEq, Int.reduceNe, Int.reduceLT, Int.reduceLE, Int.reduceNeg, sg_nil, s1p, x510, x511, x512, x513, x514, x515, x516, x517]
        repeat' (first | with_reducible apply And.intro | intro _)
        all_goals (try omega)
        refine wp_go b124_10 ?_; simp only [l124_10, sg_iload_1, sg_if_eq, sg_aload_0, sg_iconst, sg_iv3_i, len4_0, len4_1, len4_2, len4_3, len4_4, nLg_n, nLg_i, nLg_r, tc_c, tc_l, tc_r, tc_m, tc_n, tc_o, tc_0, inR, true_and, and_true, ne_eq, not_true_eq_false, not_false_eq_true, true_imp_iff, false_imp_iff, Int.toNat_natCast, lit_a, Nat.reduceAdd, or_true, true_or, or_false, false_or, Int.reduceEq, Int.reduceNe, Int.reduceLT, Int.reduceLE, Int.reduceNeg, sg_nil, s1p, x510, x511, x512, x513, x514, x515, x516, x517]
        repeat' (first | with_reducible apply And.intro | intro _)
        all_goals (try omega)
        refine k_Mo_its (s := n) (w := 2) hM (by omega) (by omega) ?_
        rw [e5]
        rcases hb with rfl | rfl
        · rw [show z (6 + 3 * n) = 1 by omega]
          refine wp_go b124_20 ?_; simp only [l124_20, sg_iconst, sg_ic_ne, sg_goto, nLg_n, nLg_i, nLg_r, tc_c, tc_l, tc_r, tc_m, tc_n, tc_o, tc_0, inR, true_and, and_true, ne_eq, not_true_eq_false, not_false_eq_true, true_imp_iff, false_imp_iff, Int.toNat_natCast, lit_a, Nat.reduceAdd, or_true, true_or, or_false, false_or, Int.reduceEq, Int.reduceNe, Int.reduceLT, Int.reduceLE, Int.reduceNeg, sg_nil, s1p, x510, x511, x512, x513, x514, x515, x516, x517]
          refine wp_go b124_29 ?_; simp only [l124_29, sg_iload_2, sg_ic_ne, nLg_n, nLg_i, nLg_r, tc_c, tc_l, tc_r, tc_m, tc_n, tc_o, tc_0, inR, true_and, and_true, ne_eq, not_true_eq_false, not_false_eq_true, true_imp_iff, false_imp_iff, Int.toNat_natCast, lit_a, Nat.reduceAdd, or_true, true_or, or_false, false_or, Int.reduceEq, Int.reduceNe, Int.reduceLT, Int.reduceLE, Int.reduceNeg, sg_nil, s1p, x510, x511, x512, x513, x514, x515, x516, x517]
          repeat' (first | with_reducible apply And.intro | intro _)
          all_goals (try omega)
        · rw [show z (6 + 3 * n) = 0 by omega]
          refine wp_go b124_20 ?_; simp only [l124_20, sg_iconst, sg_ic_ne, sg_goto, nLg_n, nLg_i, nLg_r, tc_c, tc_l, tc_r, tc_m, tc_n, tc_o, tc_0, inR, true_and, and_true, ne_eq, not_true_eq_false, not_false_eq_true, true_imp_iff, false_imp_iff, Int.toNat_natCast, lit_a, Nat.reduceAdd, or_true, true_or, or_false, false_or, Int.reduceEq, Int.reduceNe, Int.reduceLT, Int.reduceLE, Int.reduceNeg, sg_nil, s1p, x510, x511, x512, x513, x514, x515, x516, x517]
          repeat' (first | with_reducible apply And.intro | intro _)
          all_goals (try omega)
          refine wp_go b124_28 ?_; simp only [l124_28, sg_iconst, nLg_n, nLg_i, nLg_r, tc_c, tc_l, tc_r, tc_m, tc_n, tc_o, tc_0, inR, true_and, and_true, ne_eq, not_true_eq_false, not_false_eq_true, true_imp_iff, false_imp_iff, Int.toNat_natCast, lit_a, Nat.reduceAdd, or_true, true_or, or_false, false_or, Int.reduceEq, Int.reduceNe, Int.reduceLT, Int.reduceLE, Int.reduceNeg, sg_nil, s1p, x510, x511, x512, x513, x514, x515, x516, x517]
          refine wp_go b124_29 ?_; simp only [l124_29, sg_iload_2, sg_ic_ne, nLg_n, nLg_i, nLg_r, tc_c, tc_l, tc_r, tc_m, tc_n, tc_o, tc_0, inR, true_and, and_true, ne_eq, not_true_eq_false, not_false_eq_true, true_imp_iff, false_imp_iff, Int.toNat_natCast, lit_a, Nat.reduceAdd, or_true, true_or, or_false, false_or, Int.reduceEq, Int.reduceNe, Int.reduceLT, Int.reduceLE, Int.reduceNeg, sg_nil, s1p, x510, x511, x512, x513, x514, x515, x516, x517]
          repeat' (first | with_reducible apply And.intro | intro _)
          all_goals (try omega)
  · have ec : c_chapter z s b = -1 := by unfold c_chapter; rw [if_pos (by omega)]
    rw [ec] at hf
    have hf := hf (by omega)
    refine wp_go b124_5 ?_; simp only [l124_5, sg_if_ne, sg_iconst, sg_iret0, nLg_n, nLg_i, nLg_r, tc_c, tc_l, tc_r, tc_m, tc_n, tc_o, tc_0, inR, true_and, and_true, ne_eq, not_true_eq_false, not_false_eq_true, true_imp_iff, false_imp_iff, Int.toNat_natCast, lit_a, Nat.reduceAdd, or_true, true_or, or_false, false_or, Int.reduceEq, Int.reduceNe, Int.reduceLT, Int.reduceLE, Int.reduceNeg, sg_nil, s1p, x510, x511, x512, x513, x514, x515, x516, x517]
    repeat' (first | with_reducible apply And.intro | (intro _) | ((first | refine wp_go b124_0 ?_ | refine wp_go b124_5 ?_ | refine wp_go b124_10 ?_ | refine wp_go b124_20 ?_ | refine wp_go b124_28 ?_ | refine wp_go b124_29 ?_ | refine wp_go b124_33 ?_ | refine wp_go b124_36 ?_ | refine wp_go b124_40 ?_ | refine wp_go b124_59 ?_ | refine wp_go b124_60 ?_ | refine wp_go b124_65 ?_); simp only [l124_0, l124_5, l124_10, l124_20, l124_28, l124_29, l124_33, l124_36, l124_40, l124_59, l124_60, l124_65, sg_aload_0, sg_iload_1, sg_iv2_i, len4_0, len4_1, len4_2, len4_3, len4_4, sg_if_ne, sg_iconst, sg_iret0, sg_if_eq, sg_iv3_i, sg_ic_ne, sg_goto, sg_iload_2, sg_bipush, sg_iv1_v, sg_getfp, sg_imul, sg_iadd, sg_iastore, sg_iv1_i, nLg_n, nLg_i, nLg_r, tc_c, tc_l, tc_r, tc_m, tc_n, tc_o, tc_0, inR, true_and, and_true, ne_eq, not_true_eq_false, not_false_eq_true, true_imp_iff, false_imp_iff, Int.toNat_natCast, lit_a, Nat.reduceAdd, or_true, true_or, or_false, false_or, Int.reduceEq, Int.reduceNe, Int.reduceLT, Int.reduceLE, Int.reduceNeg, sg_nil, s1p, x510, x511, x512, x513, x514, x515, x516, x517]))
    all_goals (try omega)
    all_goals exact hf
