theorem CRr_pad {a a' : Hs} {μ μ' : Mem} (h : CRr a μ) (hf : ∀ k, k ≠ 390 → k ≠ 391 → μ' k = μ k) (e1 : hsN a' = hsN a) (e2 : hsH a' = hsH a) (e3 : hsV a' = hsV a) (e4 : hsL a' = hsL a)
    (hp : hsP a' ≤ 60 ∧ μ' 390 1 = (hsP a' : Int) ∧ ∀ i : Nat, i < hsP a' → 33 ≤ hsC a' i ∧ hsC a' i ≤ 126 ∧ μ' 391 i = hsC a' i) : CRr a' μ' := by
  unfold CRr
  rw [e1, e2, e3, e4]
  refine ⟨HisR_f (fun k _ _ => hf k (by omega) (by omega)) h.1, fun s hs => ?_, hp⟩
  obtain ⟨g1, g2, g3⟩ := h.2.1 s hs
  refine ⟨g1, by rw [hf 389 (by omega) (by omega)]; exact g2, fun h => ⟨(g3 h).1, ?_⟩⟩
  exact RC_f (by have := (g3 h).1.1; omega) (fun k _ _ => hf k (by omega) (by omega)) (g3 h).2
def c_put (a : Hs) (u : Nat) : Int := if ccF u = -2 then -2 else if 60 < (hsP a : Int) + ccF u then -4 else 0
-- NS.put: blocks [0, 4, 14, 31, 40]
theorem k_NS_put {d : Nat} {Q : QT} {μ : Mem} {x : Int64} {z : Rw} {a : Hs} (hz : IZ z) (hR : RC z μ 1) (hC : CRr a μ) (hf : c_put a (U x) < 0 → Q (.inl (c_put a (U x))) μ)
    (hq : c_put a (U x) = 0 → ∀ μ', MF z (hsApp a (U x) (ccF (U x)).toNat) μ μ' → Q (.inl ((hsP a : Int) + ccF (U x))) μ') : Call σ1 (d + 3) 74 [.inr (.inr 0), .inr (.inl x)] μ Q := by
  refine e_74 ?_
  obtain ⟨c1, c2, c3⟩ := hC.2.2
  by_cases h : ccF (U x) = -2
  · have ec : c_put a (U x) = -2 := by unfold c_put; rw [if_pos h]
    rw [ec] at hf
    have hf := hf (by omega)
    refine wp_go b74_0 ?_; simp only [l74_0, sg_lload_1, len4_0, len4_1, len4_2, len4_3, len4_4, sg_is1_1, nLg_n, nLg_i, nLg_r, tc_c, tc_l, tc_r, tc_m, tc_n, tc_o, tc_0, inR, true_and, and_true, ne_eq, not_true_eq_false, not_false_eq_true, true_imp_iff, false_imp_iff, Int.toNat_natCast, lit_a, Nat.reduceAdd, or_true, true_or, or_false, false_or, Int.reduceEq, Int.reduceNe, Int.reduceLT, Int.reduceLE, Int.reduceNeg, sg_nil]
    refine k_Pad_countCharacters ?_
    rw [h]
    refine wp_go b74_4 ?_; simp only [l74_4, sg_istore_3, sg_iload_3, sg_bipush, sg_ic_ne, sg_iret0, nLg_n, nLg_i, nLg_r, tc_c, tc_l, tc_r, tc_m, tc_n, tc_o, tc_0, inR, true_and, and_true, ne_eq, not_true_eq_false, not_false_eq_true, true_imp_iff, false_imp_iff, Int.toNat_natCast, lit_a, Nat.reduceAdd, or_true, true_or, or_false, false_or, Int.reduceEq, Int.reduceNe, Int.reduceLT, Int.reduceLE, Int.reduceNeg, sg_nil]
    repeat' (first | with_reducible apply And.intro | (intro _) | ((first | refine wp_go b74_0 ?_ | refine wp_go b74_4 ?_ | refine wp_go b74_14 ?_ | refine wp_go b74_31 ?_ | refine wp_go b74_40 ?_); simp only [l74_0, l74_4, l74_14, l74_31, l74_40, sg_lload_1, len4_0, len4_1, len4_2, len4_3, len4_4, sg_is1_1, sg_istore_3, sg_iload_3, sg_bipush, sg_ic_ne, sg_iret0, sg_aload_0, sg_getfp, sg_getf0, sg_iadd, sg_ic_le, sg_iv3_v, nLg_n, nLg_i, nLg_r, tc_c, tc_l, tc_r, tc_m, tc_n, tc_o, tc_0, inR, true_and, and_true, ne_eq, not_true_eq_false, not_false_eq_true, true_imp_iff, false_imp_iff, Int.toNat_natCast, lit_a, Nat.reduceAdd, or_true, true_or, or_false, false_or, Int.reduceEq, Int.reduceNe, Int.reduceLT, Int.reduceLE, Int.reduceNeg, sg_nil]))
    all_goals (try omega)
    all_goals exact hf
  · obtain ⟨n, hn⟩ := ccF_m h
    obtain ⟨n1, n2, n3⟩ := ccF_g hn
    rw [hn, Int.toNat_natCast] at hq
    by_cases h2 : 60 < (hsP a : Int) + ccF (U x)
    · have ec : c_put a (U x) = -4 := by unfold c_put; rw [if_neg h, if_pos h2]
      rw [ec] at hf
      have hf := hf (by omega)
      refine wp_go b74_0 ?_; simp only [l74_0, sg_lload_1, len4_0, len4_1, len4_2, len4_3, len4_4, sg_is1_1, nLg_n, nLg_i, nLg_r, tc_c, tc_l, tc_r, tc_m, tc_n, tc_o, tc_0, inR, true_and, and_true, ne_eq, not_true_eq_false, not_false_eq_true, true_imp_iff, false_imp_iff, Int.toNat_natCast, lit_a, Nat.reduceAdd, or_true, true_or, or_false, false_or, Int.reduceEq, Int.reduceNe, Int.reduceLT, Int.reduceLE, Int.reduceNeg, sg_nil]
      refine k_Pad_countCharacters ?_
      rw [hn]
      rw [hn] at h2
      refine wp_go b74_4 ?_; simp only [l74_4, sg_istore_3, sg_iload_3, sg_bipush, sg_ic_ne, sg_iret0, nLg_n, nLg_i, nLg_r, tc_c, tc_l, tc_r, tc_m, tc_n, tc_o, tc_0, inR, true_and, and_true, ne_eq, not_true_eq_false, not_false_eq_true, true_imp_iff, false_imp_iff, Int.toNat_natCast, lit_a, Nat.reduceAdd, or_true, true_or, or_false, false_or, Int.reduceEq, Int.reduceNe, Int.reduceLT, Int.reduceLE, Int.reduceNeg, sg_nil]
      repeat' (first | with_reducible apply And.intro | (intro _) | ((first | refine wp_go b74_0 ?_ | refine wp_go b74_4 ?_ | refine wp_go b74_14 ?_ | refine wp_go b74_31 ?_ | refine wp_go b74_40 ?_); simp only [l74_0, l74_4, l74_14, l74_31, l74_40, sg_lload_1, len4_0, len4_1, len4_2, len4_3, len4_4, sg_is1_1, sg_istore_3, sg_iload_3, sg_bipush, sg_ic_ne, sg_iret0, sg_aload_0, sg_getfp, sg_getf0, sg_iadd, sg_ic_le, sg_iv3_v, nLg_n, nLg_i, nLg_r, tc_c, tc_l, tc_r, tc_m, tc_n, tc_o, tc_0, inR, true_and, and_true, ne_eq, not_true_eq_false, not_false_eq_true, true_imp_iff, false_imp_iff, Int.toNat_natCast, lit_a, Nat.reduceAdd, or_true, true_or, or_false, false_or, Int.reduceEq, Int.reduceNe, Int.reduceLT, Int.reduceLE, Int.reduceNeg, sg_nil, s1p, x0, x1, x2, x3, x4, x5, x6, x7, x8, x9, x10, x11, x12, x13, x56, x57, x388, x389, x390, x391, x392, x393, x394, x395, x396, x397, x398, x399, c2]))
      all_goals (try omega)
      all_goals exact hf
    · have ec : c_put a (U x) = 0 := by unfold c_put; rw [if_neg h, if_neg h2]
      have hq := hq ec
      refine wp_go b74_0 ?_; simp only [l74_0, sg_lload_1, len4_0, len4_1, len4_2, len4_3, len4_4, sg_is1_1, nLg_n, nLg_i, nLg_r, tc_c, tc_l, tc_r, tc_m, tc_n, tc_o, tc_0, inR, true_and, and_true, ne_eq, not_true_eq_false, not_false_eq_true, true_imp_iff, false_imp_iff, Int.toNat_natCast, lit_a, Nat.reduceAdd, or_true, true_or, or_false, false_or, Int.reduceEq, Int.reduceNe, Int.reduceLT, Int.reduceLE, Int.reduceNeg, sg_nil]
      refine k_Pad_countCharacters ?_
      rw [hn]
      rw [hn] at h2
      refine wp_go b74_4 ?_; simp only [l74_4, sg_istore_3, sg_iload_3, sg_bipush, sg_ic_ne, sg_iret0, nLg_n, nLg_i, nLg_r, tc_c, tc_l, tc_r, tc_m, tc_n, tc_o, tc_0, inR, true_and, and_true, ne_eq, not_true_eq_false, not_false_eq_true, true_imp_iff, false_imp_iff, Int.toNat_natCast, lit_a, Nat.reduceAdd, or_true, true_or, or_false, false_or, Int.reduceEq, Int.reduceNe, Int.reduceLT, Int.reduceLE, Int.reduceNeg, sg_nil]
      repeat' (first | with_reducible apply And.intro | (intro _) | ((first | refine wp_go b74_0 ?_ | refine wp_go b74_4 ?_ | refine wp_go b74_14 ?_ | refine wp_go b74_31 ?_ | refine wp_go b74_40 ?_); simp only [l74_0, l74_4, l74_14, l74_31, l74_40, sg_lload_1, len4_0, len4_1, len4_2, len4_3, len4_4, sg_is1_1, sg_istore_3, sg_iload_3, sg_bipush, sg_ic_ne, sg_iret0, sg_aload_0, sg_getfp, sg_getf0, sg_iadd, sg_ic_le, sg_iv3_v, nLg_n, nLg_i, nLg_r, tc_c, tc_l, tc_r, tc_m, tc_n, tc_o, tc_0, inR, true_and, and_true, ne_eq, not_true_eq_false, not_false_eq_true, true_imp_iff, false_imp_iff, Int.toNat_natCast, lit_a, Nat.reduceAdd, or_true, true_or, or_false, false_or, Int.reduceEq, Int.reduceNe, Int.reduceLT, Int.reduceLE, Int.reduceNeg, sg_nil, s1p, x0, x1, x2, x3, x4, x5, x6, x7, x8, x9, x10, x11, x12, x13, x56, x57, x388, x389, x390, x391, x392, x393, x394, x395, x396, x397, x398, x399, c2]))
      all_goals (try omega)
      refine k_Pad_append c2 (by omega) n2 (fun μ' f1 g1 g2 => ?_)
      have hq := hq μ' ⟨fun k hk => f1 k (by omega) (by omega), RC_f (by have := hz.1; omega) (fun k _ _ => f1 k (by omega) (by omega)) hR, CRr_pad hC f1 rfl rfl rfl rfl ⟨by show hsP a + n ≤ 60; omega, g1, fun i hi => ?_⟩⟩
      · rw [show (hsP a : Int) + (n : Int) = ((hsP a + n : Nat) : Int) by omega] at hq
        refine wp_go b74_40 ?_; simp only [l74_40, sg_aload_0, sg_getfp, sg_getf0, sg_iret0, nLg_n, nLg_i, nLg_r, tc_c, tc_l, tc_r, tc_m, tc_n, tc_o, tc_0, inR, true_and, and_true, ne_eq, not_true_eq_false, not_false_eq_true, true_imp_iff, false_imp_iff, Int.toNat_natCast, lit_a, Nat.reduceAdd, or_true, true_or, or_false, false_or, Int.reduceEq, Int.reduceNe, Int.reduceLT, Int.reduceLE, Int.reduceNeg, sg_nil, s1p, x0, x1, x2, x3, x4, x5, x6, x7, x8, x9, x10, x11, x12, x13, x56, x57, x388, x389, x390, x391, x392, x393, x394, x395, x396, x397, x398, x399, g1]
        exact hq
      · have hi : i < hsP a + n := hi
        show 33 ≤ (if i < hsP a then hsC a i else ((by8 (U x) (hsP a + n - 1 - i) : Nat) : Int)) ∧ (if i < hsP a then hsC a i else ((by8 (U x) (hsP a + n - 1 - i) : Nat) : Int)) ≤ 126 ∧ μ' 391 i = (if i < hsP a then hsC a i else ((by8 (U x) (hsP a + n - 1 - i) : Nat) : Int))
        rw [g2 i hi]
        by_cases hh : i < hsP a
        · rw [if_pos hh, if_pos hh]; exact c3 i hh
        · rw [if_neg hh, if_neg hh]
          have := n3 (hsP a + n - 1 - i) (by omega)
          exact ⟨by omega, by omega, rfl⟩
def hsWipe (a : Hs) : Hs := (hsN a, hsH a, hsV a, hsL a, 0, hsC a)
theorem CRr_wipe {a : Hs} {μ : Mem} (h : CRr a μ) : CRr (hsWipe a) (ms μ 390 1 0) := CRr_pad h (fun k h1 h2 => by funext j; simp only [ms_at]; (repeat (first | rw [if_neg (by omega)] | rw [if_pos (by omega)]))) rfl rfl rfl rfl ⟨Nat.zero_le _, by simp [ms_at]; rfl, fun i hi => absurd hi (Nat.not_lt_zero i)⟩
-- NS.wipe: blocks [0]
theorem k_NS_wipe {d : Nat} {Q : QT} {μ : Mem} {z : Rw} {a : Hs} (hz : IZ z) (hR : RC z μ 1) (hC : CRr a μ) (hq : ∀ μ', MF z (hsWipe a) μ μ' → Q (.inl (hsP a : Int)) μ') : Call σ1 (d + 1) 75 [.inr (.inr 0)] μ Q := by
  refine e_75 ?_
  obtain ⟨c1, c2, c3⟩ := hC.2.2
  have hq := hq _ ⟨fun k hk => by funext j; simp only [ms_at]; (repeat (first | rw [if_neg (by omega)] | rw [if_pos (by omega)])), RC_f (by have := hz.1; omega) (fun k _ _ => by funext j; simp only [ms_at]; (repeat (first | rw [if_neg (by omega)] | rw [if_pos (by omega)]))) hR, CRr_wipe hC⟩
  refine wp_go b75_0 ?_; simp only [l75_0, sg_aload_0, sg_getfp, sg_getf0, sg_istore_1, sg_iconst, sg_putf0, sg_iload_1, sg_iret0, nLg_n, nLg_i, nLg_r, tc_c, tc_l, tc_r, tc_m, tc_n, tc_o, tc_0, inR, true_and, and_true, ne_eq, not_true_eq_false, not_false_eq_true, true_imp_iff, false_imp_iff, Int.toNat_natCast, lit_a, Nat.reduceAdd, or_true, true_or, or_false, false_or, Int.reduceEq, Int.reduceNe, Int.reduceLT, Int.reduceLE, Int.reduceNeg, sg_nil, s1p, x0, x1, x2, x3, x4, x5, x6, x7, x8, x9, x10, x11, x12, x13, x56, x57, x388, x389, x390, x391, x392, x393, x394, x395, x396, x397, x398, x399, c2]
  repeat' (first | with_reducible apply And.intro | (intro _) | ((first | refine wp_go b75_0 ?_); simp only [l75_0, sg_aload_0, sg_getfp, sg_getf0, sg_istore_1, sg_iconst, sg_putf0, sg_iload_1, sg_iret0, nLg_n, nLg_i, nLg_r, tc_c, tc_l, tc_r, tc_m, tc_n, tc_o, tc_0, inR, true_and, and_true, ne_eq, not_true_eq_false, not_false_eq_true, true_imp_iff, false_imp_iff, Int.toNat_natCast, lit_a, Nat.reduceAdd, or_true, true_or, or_false, false_or, Int.reduceEq, Int.reduceNe, Int.reduceLT, Int.reduceLE, Int.reduceNeg, sg_nil]))
  all_goals (try omega)
  all_goals exact hq
/-- the reading of the text: rows done, notices of the present row, whether it is over -/
def pst (f : Nat → Int) : Nat → Option (Nat × Nat × Bool)
  | 0 => some (0, 0, false)
  | n + 1 => match pst f n with
    | none => none
    | some (r, c, o) => if f n = 47 then (if (o = true ∨ 0 < c) ∧ r < 23 then some (r + 1, 0, false) else none) else if f n = 46 then (if o = false ∧ c = 0 then some (r, c, true) else none) else if o = true ∨ 4 ≤ c ∨ f n < 48 ∨ 55 < f n then none else some (r, c + 1, o)
def stD (f : Nat → Int) (n : Nat) (r c : Nat) (o : Bool) : Option (Nat × Nat × Bool) := if f n = 47 then (if (o = true ∨ 0 < c) ∧ r < 23 then some (r + 1, 0, false) else none) else if f n = 46 then (if o = false ∧ c = 0 then some (r, c, true) else none) else if o = true ∨ 4 ≤ c ∨ f n < 48 ∨ 55 < f n then none else some (r, c + 1, o)
theorem pst_s {f : Nat → Int} {n r c : Nat} {o : Bool} (h : pst f n = some (r, c, o)) : pst f (n + 1) = stD f n r c o := by
  show (match pst f n with | none => none | some (r, c, o) => stD f n r c o) = _
  rw [h]
theorem pst_n {f : Nat → Int} {n : Nat} (h : pst f n = none) : pst f (n + 1) = none := by
  show (match pst f n with | none => none | some (r, c, o) => stD f n r c o) = _
  rw [h]
theorem pst_b {f : Nat → Int} : ∀ {n r c : Nat} {o : Bool}, pst f n = some (r, c, o) → r ≤ 23 ∧ c ≤ 4 ∧ (o = true → c = 0)
  | 0, r, c, o, h => by
    have h : some (0, 0, false) = some (r, c, o) := h
    injection h with h; injection h with h1 h; injection h with h2 h3
    subst h1; subst h2; subst h3
    exact ⟨by omega, by omega, fun h => absurd h (by decide)⟩
  | n + 1, r, c, o, h => by
    cases e : pst f n with
    | none => rw [pst_n e] at h; exact absurd h (by simp)
    | some q =>
      obtain ⟨r', c', o'⟩ := q
      obtain ⟨i1, i2, i3⟩ := pst_b e
      rw [pst_s e] at h
      unfold stD at h
      split at h
      · split at h
        · injection h with h; injection h with h1 h; injection h with h2 h3
          subst h1; subst h2; subst h3
          exact ⟨by omega, by omega, fun h => rfl⟩
        · exact absurd h (by simp)
      · split at h
        · split at h
          · injection h with h; injection h with h1 h; injection h with h2 h3
            subst h1; subst h2; subst h3
            exact ⟨by omega, by omega, fun _ => by omega⟩
          · exact absurd h (by simp)
        · split at h
          · exact absurd h (by simp)
          · rename_i hh
            injection h with h; injection h with h1 h; injection h with h2 h3
            subst h1; subst h2; subst h3
            refine ⟨by omega, by omega, fun h => absurd (Or.inl h) hh⟩
/-- the place of the fault, or none -/
def fltF (f : Nat → Int) (n : Nat) : Int := fsI (fun i => (pst f (i + 1)).isNone) (match pst f n with | some (_, c, o) => if o = true ∨ 0 < c then -6 else (n : Int) | none => (n : Int)) n
theorem pst_lt {f : Nat → Int} {n i : Nat} (h : pst f n ≠ none) (hi : i ≤ n) : pst f i ≠ none := by
  induction n with
  | zero => have : i = 0 := by omega
            rw [this]; exact h
  | succ n ih =>
    rcases Nat.lt_or_ge i (n + 1) with hh | hh
    · exact ih (fun h0 => h (pst_n h0)) (by omega)
    · rw [show i = n + 1 by omega]; exact h
theorem fltF_e {f : Nat → Int} {n r c : Nat} {o : Bool} (h : pst f n = some (r, c, o)) : fltF f n = if o = true ∨ 0 < c then -6 else (n : Int) := by
  unfold fltF
  rw [h, fsI_n (fun j hj => by
    have := pst_lt (i := j + 1) (by rw [h]; simp) hj
    cases e : pst f (j + 1) with
    | none => exact absurd e this
    | some q => rfl)]
theorem fltF_f {f : Nat → Int} {n i : Nat} (hi : i < n) (h : pst f i ≠ none) (h2 : pst f (i + 1) = none) : fltF f n = (i : Int) := by
  unfold fltF
  refine fsI_s hi (by rw [h2]; rfl) (fun j hj => ?_)
  have := pst_lt (i := j + 1) h (by omega)
  cases e : pst f (j + 1) with
  | none => exact absurd e this
  | some q => rfl
-- Pad.findFault: blocks [0, 9, 47, 50, 57, 75, 80, 95, 98, 104, 113, 117]
theorem k_Pad_findFault {d : Nat} {Q : QT} {μ : Mem} {n : Nat} {f : Nat → Int} (hn : n ≤ 60) (h1 : μ 390 1 = (n : Int)) (h2 : ∀ i, i < n → 33 ≤ f i ∧ f i ≤ 126 ∧ μ 391 i = f i) (h : Q (.inl (fltF f n)) μ) : Call σ1 (d + 2) 21 [.inr (.inr 390)] μ Q := by
  refine e_21 ?_
  have loop : ∀ k i : Nat, i + k = n → ∀ (r c : Nat) (o : Bool) (o5 : Option MV), pst f i = some (r, c, o) → wp σ1 (Call σ1 (d + 1)) 21 Q 9 [some (.inr (.inr 390)), some (.inl (r : Int)), some (.inl (if o = true then 0 else 4 - (c : Int))), some (.inl (if o = true ∨ 0 < c then 1 else 0)), some (.inl (i : Int)), o5] [] μ := by
    intro k
    induction k with
    | zero =>
      intro i hi r c o o5 hp
      have hin : i = n := by omega
      subst hin
      obtain ⟨b1, b2, b3⟩ := pst_b hp
      rw [fltF_e hp] at h
      by_cases hb : o = true ∨ 0 < c
      · rw [if_pos hb] at h ⊢
        refine wp_go b21_9 ?_; simp only [l21_9, sg_iload, ldI_4, sg_aload_0, sg_getf0, sg_ic_ge, sg_getfp, sg_caload, sg_istore, okS_5, stL_5, ldI_5, sg_bipush, sg_ic_ne, sg_iinc, ldI_1, okS_1, stL_1, sg_iload_3, sg_if_eq, sg_iload_1, nLg_n, nLg_i, nLg_r, tc_c, tc_l, tc_r, tc_m, tc_n, tc_o, tc_0, inR, true_and, and_true, ne_eq, not_true_eq_false, not_false_eq_true, true_imp_iff, false_imp_iff, Int.toNat_natCast, lit_a, Nat.reduceAdd, or_true, true_or, or_false, false_or, Int.reduceEq, Int.reduceNe, Int.reduceLT, Int.reduceLE, Int.reduceNeg, sg_nil, s1p, x0, x1, x2, x3, x4, x5, x6, x7, x8, x9, x10, x11, x12, x13, x56, x57, x388, x389, x390, x391, x392, x393, x394, x395, x396, x397, x398, x399, h1]
        repeat' (first | with_reducible apply And.intro | (intro _) | ((first | refine wp_go b21_0 ?_ | refine wp_go b21_47 ?_ | refine wp_go b21_50 ?_ | refine wp_go b21_57 ?_ | refine wp_go b21_75 ?_ | refine wp_go b21_80 ?_ | refine wp_go b21_95 ?_ | refine wp_go b21_98 ?_ | refine wp_go b21_104 ?_ | refine wp_go b21_113 ?_ | refine wp_go b21_117 ?_); simp only [l21_0, l21_47, l21_50, l21_57, l21_75, l21_80, l21_95, l21_98, l21_104, l21_113, l21_117, sg_iconst, sg_istore_1, sg_istore_2, sg_istore_3, sg_istore, okS_4, stL_4, sg_iload, ldI_4, sg_iret0, sg_goto, ldI_5, sg_bipush, sg_ic_ne, sg_iload_3, sg_if_ne, len4_0, len4_1, len4_2, len4_3, len4_4, sg_is1_1, sg_if_eq, sg_iload_2, sg_if_le, sg_iinc, ldI_2, okS_2, stL_2, sg_aload_0, sg_getf0, nLg_n, nLg_i, nLg_r, tc_c, tc_l, tc_r, tc_m, tc_n, tc_o, tc_0, inR, true_and, and_true, ne_eq, not_true_eq_false, not_false_eq_true, true_imp_iff, false_imp_iff, Int.toNat_natCast, lit_a, Nat.reduceAdd, or_true, true_or, or_false, false_or, Int.reduceEq, Int.reduceNe, Int.reduceLT, Int.reduceLE, Int.reduceNeg, sg_nil, s1p, x0, x1, x2, x3, x4, x5, x6, x7, x8, x9, x10, x11, x12, x13, x56, x57, x388, x389, x390, x391, x392, x393, x394, x395, x396, x397, x398, x399, h1]))
        all_goals (try omega)
        all_goals exact h
      · rw [if_neg hb] at h ⊢
        refine wp_go b21_9 ?_; simp only [l21_9, sg_iload, ldI_4, sg_aload_0, sg_getf0, sg_ic_ge, sg_getfp, sg_caload, sg_istore, okS_5, stL_5, ldI_5, sg_bipush, sg_ic_ne, sg_iinc, ldI_1, okS_1, stL_1, sg_iload_3, sg_if_eq, sg_iload_1, nLg_n, nLg_i, nLg_r, tc_c, tc_l, tc_r, tc_m, tc_n, tc_o, tc_0, inR, true_and, and_true, ne_eq, not_true_eq_false, not_false_eq_true, true_imp_iff, false_imp_iff, Int.toNat_natCast, lit_a, Nat.reduceAdd, or_true, true_or, or_false, false_or, Int.reduceEq, Int.reduceNe, Int.reduceLT, Int.reduceLE, Int.reduceNeg, sg_nil, s1p, x0, x1, x2, x3, x4, x5, x6, x7, x8, x9, x10, x11, x12, x13, x56, x57, x388, x389, x390, x391, x392, x393, x394, x395, x396, x397, x398, x399, h1]
        repeat' (first | with_reducible apply And.intro | (intro _) | ((first | refine wp_go b21_0 ?_ | refine wp_go b21_47 ?_ | refine wp_go b21_50 ?_ | refine wp_go b21_57 ?_ | refine wp_go b21_75 ?_ | refine wp_go b21_80 ?_ | refine wp_go b21_95 ?_ | refine wp_go b21_98 ?_ | refine wp_go b21_104 ?_ | refine wp_go b21_113 ?_ | refine wp_go b21_117 ?_); simp only [l21_0, l21_47, l21_50, l21_57, l21_75, l21_80, l21_95, l21_98, l21_104, l21_113, l21_117, sg_iconst, sg_istore_1, sg_istore_2, sg_istore_3, sg_istore, okS_4, stL_4, sg_iload, ldI_4, sg_iret0, sg_goto, ldI_5, sg_bipush, sg_ic_ne, sg_iload_3, sg_if_ne, len4_0, len4_1, len4_2, len4_3, len4_4, sg_is1_1, sg_if_eq, sg_iload_2, sg_if_le, sg_iinc, ldI_2, okS_2, stL_2, sg_aload_0, sg_getf0, nLg_n, nLg_i, nLg_r, tc_c, tc_l, tc_r, tc_m, tc_n, tc_o, tc_0, inR, true_and, and_true, ne_eq, not_true_eq_false, not_false_eq_true, true_imp_iff, false_imp_iff, Int.toNat_natCast, lit_a, Nat.reduceAdd, or_true, true_or, or_false, false_or, Int.reduceEq, Int.reduceNe, Int.reduceLT, Int.reduceLE, Int.reduceNeg, sg_nil, s1p, x0, x1, x2, x3, x4, x5, x6, x7, x8, x9, x10, x11, x12, x13, x56, x57, x388, x389, x390, x391, x392, x393, x394, x395, x396, x397, x398, x399, h1]))
        all_goals (try omega)
        all_goals exact h
    | succ k ih =>
      intro i hi r c o o5 hp
      obtain ⟨b1, b2, b3⟩ := pst_b hp
      obtain ⟨c1, c2, c3⟩ := h2 i (by omega)
      have hs := pst_s hp
      have bad : pst f (i + 1) = none → Q (.inl (i : Int)) μ := fun hh => by
        rw [fltF_f (by omega) (by rw [hp]; simp) hh] at h; exact h
      unfold stD at hs
      by_cases g47 : f i = 47
      · rw [if_pos g47] at hs
        rw [g47] at c3
        by_cases hg : (o = true ∨ 0 < c) ∧ r < 23
        · rw [if_pos hg] at hs
          have ih1 := ih (i + 1) (by omega) (r + 1) 0 false (some (.inl 47)) hs
          rw [if_pos hg.1]
          refine wp_go b21_9 ?_; simp only [l21_9, sg_iload, ldI_4, sg_aload_0, sg_getf0, sg_ic_ge, sg_getfp, sg_caload, sg_istore, okS_5, stL_5, ldI_5, sg_bipush, sg_ic_ne, sg_iinc, ldI_1, okS_1, stL_1, sg_iload_3, sg_if_eq, sg_iload_1, nLg_n, nLg_i, nLg_r, tc_c, tc_l, tc_r, tc_m, tc_n, tc_o, tc_0, inR, true_and, and_true, ne_eq, not_true_eq_false, not_false_eq_true, true_imp_iff, false_imp_iff, Int.toNat_natCast, lit_a, Nat.reduceAdd, or_true, true_or, or_false, false_or, Int.reduceEq, Int.reduceNe, Int.reduceLT, Int.reduceLE, Int.reduceNeg, sg_nil, s1p, x0, x1, x2, x3, x4, x5, x6, x7, x8, x9, x10, x11, x12, x13, x56, x57, x388, x389, x390, x391, x392, x393, x394, x395, x396, x397, x398, x399, h1, c3]
          repeat' (first | with_reducible apply And.intro | (intro _) | ((first | refine wp_go b21_0 ?_ | refine wp_go b21_47 ?_ | refine wp_go b21_50 ?_ | refine wp_go b21_57 ?_ | refine wp_go b21_75 ?_ | refine wp_go b21_80 ?_ | refine wp_go b21_95 ?_ | refine wp_go b21_98 ?_ | refine wp_go b21_104 ?_ | refine wp_go b21_113 ?_ | refine wp_go b21_117 ?_); simp only [l21_0, l21_47, l21_50, l21_57, l21_75, l21_80, l21_95, l21_98, l21_104, l21_113, l21_117, sg_iconst, sg_istore_1, sg_istore_2, sg_istore_3, sg_istore, okS_4, stL_4, sg_iload, ldI_4, sg_iret0, sg_goto, ldI_5, sg_bipush, sg_ic_ne, sg_iload_3, sg_if_ne, len4_0, len4_1, len4_2, len4_3, len4_4, sg_is1_1, sg_if_eq, sg_iload_2, sg_if_le, sg_iinc, ldI_2, okS_2, stL_2, sg_aload_0, sg_getf0, nLg_n, nLg_i, nLg_r, tc_c, tc_l, tc_r, tc_m, tc_n, tc_o, tc_0, inR, true_and, and_true, ne_eq, not_true_eq_false, not_false_eq_true, true_imp_iff, false_imp_iff, Int.toNat_natCast, lit_a, Nat.reduceAdd, or_true, true_or, or_false, false_or, Int.reduceEq, Int.reduceNe, Int.reduceLT, Int.reduceLE, Int.reduceNeg, sg_nil, s1p, x0, x1, x2, x3, x4, x5, x6, x7, x8, x9, x10, x11, x12, x13, x56, x57, x388, x389, x390, x391, x392, x393, x394, x395, x396, x397, x398, x399, h1, c3]))
          all_goals (try omega)
          all_goals exact ih1
        · rw [if_neg hg] at hs
          have hb := bad hs
          by_cases hb2 : o = true ∨ 0 < c
          · rw [if_pos hb2]
            have : ¬ r < 23 := fun h => hg ⟨hb2, h⟩
            refine wp_go b21_9 ?_; simp only [l21_9, sg_iload, ldI_4, sg_aload_0, sg_getf0, sg_ic_ge, sg_getfp, sg_caload, sg_istore, okS_5, stL_5, ldI_5, sg_bipush, sg_ic_ne, sg_iinc, ldI_1, okS_1, stL_1, sg_iload_3, sg_if_eq, sg_iload_1, nLg_n, nLg_i, nLg_r, tc_c, tc_l, tc_r, tc_m, tc_n, tc_o, tc_0, inR, true_and, and_true, ne_eq, not_true_eq_false, not_false_eq_true, true_imp_iff, false_imp_iff, Int.toNat_natCast, lit_a, Nat.reduceAdd, or_true, true_or, or_false, false_or, Int.reduceEq, Int.reduceNe, Int.reduceLT, Int.reduceLE, Int.reduceNeg, sg_nil, s1p, x0, x1, x2, x3, x4, x5, x6, x7, x8, x9, x10, x11, x12, x13, x56, x57, x388, x389, x390, x391, x392, x393, x394, x395, x396, x397, x398, x399, h1, c3]
            repeat' (first | with_reducible apply And.intro | (intro _) | ((first | refine wp_go b21_0 ?_ | refine wp_go b21_47 ?_ | refine wp_go b21_50 ?_ | refine wp_go b21_57 ?_ | refine wp_go b21_75 ?_ | refine wp_go b21_80 ?_ | refine wp_go b21_95 ?_ | refine wp_go b21_98 ?_ | refine wp_go b21_104 ?_ | refine wp_go b21_113 ?_ | refine wp_go b21_117 ?_); simp only [l21_0, l21_47, l21_50, l21_57, l21_75, l21_80, l21_95, l21_98, l21_104, l21_113, l21_117, sg_iconst, sg_istore_1, sg_istore_2, sg_istore_3, sg_istore, okS_4, stL_4, sg_iload, ldI_4, sg_iret0, sg_goto, ldI_5, sg_bipush, sg_ic_ne, sg_iload_3, sg_if_ne, len4_0, len4_1, len4_2, len4_3, len4_4, sg_is1_1, sg_if_eq, sg_iload_2, sg_if_le, sg_iinc, ldI_2, okS_2, stL_2, sg_aload_0, sg_getf0, nLg_n, nLg_i, nLg_r, tc_c, tc_l, tc_r, tc_m, tc_n, tc_o, tc_0, inR, true_and, and_true, ne_eq, not_true_eq_false, not_false_eq_true, true_imp_iff, false_imp_iff, Int.toNat_natCast, lit_a, Nat.reduceAdd, or_true, true_or, or_false, false_or, Int.reduceEq, Int.reduceNe, Int.reduceLT, Int.reduceLE, Int.reduceNeg, sg_nil, s1p, x0, x1, x2, x3, x4, x5, x6, x7, x8, x9, x10, x11, x12, x13, x56, x57, x388, x389, x390, x391, x392, x393, x394, x395, x396, x397, x398, x399, h1, c3]))
            all_goals (try omega)
            all_goals exact hb
          · rw [if_neg hb2]
            refine wp_go b21_9 ?_; simp only [l21_9, sg_iload, ldI_4, sg_aload_0, sg_getf0, sg_ic_ge, sg_getfp, sg_caload, sg_istore, okS_5, stL_5, ldI_5, sg_bipush, sg_ic_ne, sg_iinc, ldI_1, okS_1, stL_1, sg_iload_3, sg_if_eq, sg_iload_1, nLg_n, nLg_i, nLg_r, tc_c, tc_l, tc_r, tc_m, tc_n, tc_o, tc_0, inR, true_and, and_true, ne_eq, not_true_eq_false, not_false_eq_true, true_imp_iff, false_imp_iff, Int.toNat_natCast, lit_a, Nat.reduceAdd, or_true, true_or, or_false, false_or, Int.reduceEq, Int.reduceNe, Int.reduceLT, Int.reduceLE, Int.reduceNeg, sg_nil, s1p, x0, x1, x2, x3, x4, x5, x6, x7, x8, x9, x10, x11, x12, x13, x56, x57, x388, x389, x390, x391, x392, x393, x394, x395, x396, x397, x398, x399, h1, c3]
            repeat' (first | with_reducible apply And.intro | (intro _) | ((first | refine wp_go b21_0 ?_ | refine wp_go b21_47 ?_ | refine wp_go b21_50 ?_ | refine wp_go b21_57 ?_ | refine wp_go b21_75 ?_ | refine wp_go b21_80 ?_ | refine wp_go b21_95 ?_ | refine wp_go b21_98 ?_ | refine wp_go b21_104 ?_ | refine wp_go b21_113 ?_ | refine wp_go b21_117 ?_); simp only [l21_0, l21_47, l21_50, l21_57, l21_75, l21_80, l21_95, l21_98, l21_104, l21_113, l21_117, sg_iconst, sg_istore_1, sg_istore_2, sg_istore_3, sg_istore, okS_4, stL_4, sg_iload, ldI_4, sg_iret0, sg_goto, ldI_5, sg_bipush, sg_ic_ne, sg_iload_3, sg_if_ne, len4_0, len4_1, len4_2, len4_3, len4_4, sg_is1_1, sg_if_eq, sg_iload_2, sg_if_le, sg_iinc, ldI_2, okS_2, stL_2, sg_aload_0, sg_getf0, nLg_n, nLg_i, nLg_r, tc_c, tc_l, tc_r, tc_m, tc_n, tc_o, tc_0, inR, true_and, and_true, ne_eq, not_true_eq_false, not_false_eq_true, true_imp_iff, false_imp_iff, Int.toNat_natCast, lit_a, Nat.reduceAdd, or_true, true_or, or_false, false_or, Int.reduceEq, Int.reduceNe, Int.reduceLT, Int.reduceLE, Int.reduceNeg, sg_nil, s1p, x0, x1, x2, x3, x4, x5, x6, x7, x8, x9, x10, x11, x12, x13, x56, x57, x388, x389, x390, x391, x392, x393, x394, x395, x396, x397, x398, x399, h1, c3]))
            all_goals (try omega)
            all_goals exact hb
      · rw [if_neg g47] at hs
        by_cases g46 : f i = 46
        · rw [if_pos g46] at hs
          rw [g46] at c3
          by_cases hg : o = false ∧ c = 0
          · rw [if_pos hg] at hs
            have ih1 := ih (i + 1) (by omega) r c true (some (.inl 46)) hs
            obtain ⟨rfl, rfl⟩ := hg
            rw [if_neg (show ¬ (false = true) by simp), if_neg (show ¬ (false = true ∨ 0 < 0) by simp)]
            rw [if_pos rfl, if_pos (Or.inl rfl)] at ih1
            refine wp_go b21_9 ?_; simp only [l21_9, sg_iload, ldI_4, sg_aload_0, sg_getf0, sg_ic_ge, sg_getfp, sg_caload, sg_istore, okS_5, stL_5, ldI_5, sg_bipush, sg_ic_ne, sg_iinc, ldI_1, okS_1, stL_1, sg_iload_3, sg_if_eq, sg_iload_1, nLg_n, nLg_i, nLg_r, tc_c, tc_l, tc_r, tc_m, tc_n, tc_o, tc_0, inR, true_and, and_true, ne_eq, not_true_eq_false, not_false_eq_true, true_imp_iff, false_imp_iff, Int.toNat_natCast, lit_a, Nat.reduceAdd, or_true, true_or, or_false, false_or, Int.reduceEq, Int.reduceNe, Int.reduceLT, Int.reduceLE, Int.reduceNeg, sg_nil, s1p, x0, x1, x2, x3, x4, x5, x6, x7, x8, x9, x10, x11, x12, x13, x56, x57, x388, x389, x390, x391, x392, x393, x394, x395, x396, x397, x398, x399, h1, c3]
            repeat' (first | with_reducible apply And.intro | (intro _) | ((first | refine wp_go b21_0 ?_ | refine wp_go b21_47 ?_ | refine wp_go b21_50 ?_ | refine wp_go b21_57 ?_ | refine wp_go b21_75 ?_ | refine wp_go b21_80 ?_ | refine wp_go b21_95 ?_ | refine wp_go b21_98 ?_ | refine wp_go b21_104 ?_ | refine wp_go b21_113 ?_ | refine wp_go b21_117 ?_); simp only [l21_0, l21_47, l21_50, l21_57, l21_75, l21_80, l21_95, l21_98, l21_104, l21_113, l21_117, sg_iconst, sg_istore_1, sg_istore_2, sg_istore_3, sg_istore, okS_4, stL_4, sg_iload, ldI_4, sg_iret0, sg_goto, ldI_5, sg_bipush, sg_ic_ne, sg_iload_3, sg_if_ne, len4_0, len4_1, len4_2, len4_3, len4_4, sg_is1_1, sg_if_eq, sg_iload_2, sg_if_le, sg_iinc, ldI_2, okS_2, stL_2, sg_aload_0, sg_getf0, nLg_n, nLg_i, nLg_r, tc_c, tc_l, tc_r, tc_m, tc_n, tc_o, tc_0, inR, true_and, and_true, ne_eq, not_true_eq_false, not_false_eq_true, true_imp_iff, false_imp_iff, Int.toNat_natCast, lit_a, Nat.reduceAdd, or_true, true_or, or_false, false_or, Int.reduceEq, Int.reduceNe, Int.reduceLT, Int.reduceLE, Int.reduceNeg, sg_nil, s1p, x0, x1, x2, x3, x4, x5, x6, x7, x8, x9, x10, x11, x12, x13, x56, x57, x388, x389, x390, x391, x392, x393, x394, x395, x396, x397, x398, x399, h1, c3]))
            all_goals (try omega)
            all_goals exact ih1
          · rw [if_neg hg] at hs
            have hb := bad hs
            have hb2 : o = true ∨ 0 < c := by
              cases o with
              | true => exact Or.inl rfl
              | false => exact Or.inr (Nat.pos_of_ne_zero (fun h => hg ⟨rfl, h⟩))
            rw [if_pos hb2]
            refine wp_go b21_9 ?_; simp only [l21_9, sg_iload, ldI_4, sg_aload_0, sg_getf0, sg_ic_ge, sg_getfp, sg_caload, sg_istore, okS_5, stL_5, ldI_5, sg_bipush, sg_ic_ne, sg_iinc, ldI_1, okS_1, stL_1, sg_iload_3, sg_if_eq, sg_iload_1, nLg_n, nLg_i, nLg_r, tc_c, tc_l, tc_r, tc_m, tc_n, tc_o, tc_0, inR, true_and, and_true, ne_eq, not_true_eq_false, not_false_eq_true, true_imp_iff, false_imp_iff, Int.toNat_natCast, lit_a, Nat.reduceAdd, or_true, true_or, or_false, false_or, Int.reduceEq, Int.reduceNe, Int.reduceLT, Int.reduceLE, Int.reduceNeg, sg_nil, s1p, x0, x1, x2, x3, x4, x5, x6, x7, x8, x9, x10, x11, x12, x13, x56, x57, x388, x389, x390, x391, x392, x393, x394, x395, x396, x397, x398, x399, h1, c3]
            repeat' (first | with_reducible apply And.intro | intro _)
            all_goals (try omega)
            refine wp_go b21_57 ?_; simp only [l21_57, sg_iload, ldI_5, sg_bipush, sg_ic_ne, sg_iload_3, sg_if_ne, sg_iconst, sg_istore_2, sg_istore_3, sg_goto, nLg_n, nLg_i, nLg_r, tc_c, tc_l, tc_r, tc_m, tc_n, tc_o, tc_0, inR, true_and, and_true, ne_eq, not_true_eq_false, not_false_eq_true, true_imp_iff, false_imp_iff, Int.toNat_natCast, lit_a, Nat.reduceAdd, or_true, true_or, or_false, false_or, Int.reduceEq, Int.reduceNe, Int.reduceLT, Int.reduceLE, Int.reduceNeg, sg_nil]
            repeat' (first | with_reducible apply And.intro | intro _)
            all_goals (try omega)
            refine wp_go b21_75 ?_; simp only [l21_75, sg_iload, ldI_5, len4_0, len4_1, len4_2, len4_3, len4_4, sg_is1_1, nLg_n, nLg_i, nLg_r, tc_c, tc_l, tc_r, tc_m, tc_n, tc_o, tc_0, inR, true_and, and_true, ne_eq, not_true_eq_false, not_false_eq_true, true_imp_iff, false_imp_iff, Int.toNat_natCast, lit_a, Nat.reduceAdd, or_true, true_or, or_false, false_or, Int.reduceEq, Int.reduceNe, Int.reduceLT, Int.reduceLE, Int.reduceNeg, sg_nil]
            refine k_Pad_isNotice (by unfold inR; omega) (fun _ _ => by omega) (fun _ => ?_)
            refine wp_go b21_80 ?_; simp only [l21_80, sg_if_eq, sg_iload_2, sg_if_le, sg_iinc, ldI_2, okS_2, stL_2, sg_iconst, sg_istore_3, sg_goto, nLg_n, nLg_i, nLg_r, tc_c, tc_l, tc_r, tc_m, tc_n, tc_o, tc_0, inR, true_and, and_true, ne_eq, not_true_eq_false, not_false_eq_true, true_imp_iff, false_imp_iff, Int.toNat_natCast, lit_a, Nat.reduceAdd, or_true, true_or, or_false, false_or, Int.reduceEq, Int.reduceNe, Int.reduceLT, Int.reduceLE, Int.reduceNeg, sg_nil]
            repeat' (first | with_reducible apply And.intro | intro _)
            all_goals (try omega)
            refine wp_go b21_95 ?_; simp only [l21_95, sg_iload, ldI_4, sg_iret0, nLg_n, nLg_i, nLg_r, tc_c, tc_l, tc_r, tc_m, tc_n, tc_o, tc_0, inR, true_and, and_true, ne_eq, not_true_eq_false, not_false_eq_true, true_imp_iff, false_imp_iff, Int.toNat_natCast, lit_a, Nat.reduceAdd, or_true, true_or, or_false, false_or, Int.reduceEq, Int.reduceNe, Int.reduceLT, Int.reduceLE, Int.reduceNeg, sg_nil]
            exact hb
        · rw [if_neg g46] at hs
          have go : wp σ1 (Call σ1 (d + 1)) 21 Q 75 [some (.inr (.inr 390)), some (.inl (r : Int)), some (.inl (if o = true then 0 else 4 - (c : Int))), some (.inl (if o = true ∨ 0 < c then 1 else 0)), some (.inl (i : Int)), some (.inl (f i))] [] μ := by
            by_cases hg : o = true ∨ 4 ≤ c ∨ f i < 48 ∨ 55 < f i
            · rw [if_pos hg] at hs
              have hb := bad hs
              refine wp_go b21_75 ?_; simp only [l21_75, sg_iload, ldI_5, len4_0, len4_1, len4_2, len4_3, len4_4, sg_is1_1, nLg_n, nLg_i, nLg_r, tc_c, tc_l, tc_r, tc_m, tc_n, tc_o, tc_0, inR, true_and, and_true, ne_eq, not_true_eq_false, not_false_eq_true, true_imp_iff, false_imp_iff, Int.toNat_natCast, lit_a, Nat.reduceAdd, or_true, true_or, or_false, false_or, Int.reduceEq, Int.reduceNe, Int.reduceLT, Int.reduceLE, Int.reduceNeg, sg_nil]
              refine k_Pad_isNotice (by unfold inR; omega) (fun _ _ => ?_) (fun _ => ?_)
              · have hr : (if o = true then 0 else 4 - (c : Int)) ≤ 0 := by
                  split
                  · omega
                  · rename_i ho
                    rcases hg with h | h | h | h
                    · exact absurd h ho
                    · omega
                    · omega
                    · omega
                have hr2 : -4 ≤ (if o = true then 0 else 4 - (c : Int)) := by split <;> omega
                refine wp_go b21_80 ?_; simp only [l21_80, sg_if_eq, sg_iload_2, sg_if_le, sg_iinc, ldI_2, okS_2, stL_2, sg_iconst, sg_istore_3, sg_goto, nLg_n, nLg_i, nLg_r, tc_c, tc_l, tc_r, tc_m, tc_n, tc_o, tc_0, inR, true_and, and_true, ne_eq, not_true_eq_false, not_false_eq_true, true_imp_iff, false_imp_iff, Int.toNat_natCast, lit_a, Nat.reduceAdd, or_true, true_or, or_false, false_or, Int.reduceEq, Int.reduceNe, Int.reduceLT, Int.reduceLE, Int.reduceNeg, sg_nil]
                repeat' (first | with_reducible apply And.intro | intro _)
                all_goals (try omega)
                refine wp_go b21_95 ?_; simp only [l21_95, sg_iload, ldI_4, sg_iret0, nLg_n, nLg_i, nLg_r, tc_c, tc_l, tc_r, tc_m, tc_n, tc_o, tc_0, inR, true_and, and_true, ne_eq, not_true_eq_false, not_false_eq_true, true_imp_iff, false_imp_iff, Int.toNat_natCast, lit_a, Nat.reduceAdd, or_true, true_or, or_false, false_or, Int.reduceEq, Int.reduceNe, Int.reduceLT, Int.reduceLE, Int.reduceNeg, sg_nil]
                exact hb
              · refine wp_go b21_80 ?_; simp only [l21_80, sg_if_eq, sg_iload_2, sg_if_le, sg_iinc, ldI_2, okS_2, stL_2, sg_iconst, sg_istore_3, sg_goto, nLg_n, nLg_i, nLg_r, tc_c, tc_l, tc_r, tc_m, tc_n, tc_o, tc_0, inR, true_and, and_true, ne_eq, not_true_eq_false, not_false_eq_true, true_imp_iff, false_imp_iff, Int.toNat_natCast, lit_a, Nat.reduceAdd, or_true, true_or, or_false, false_or, Int.reduceEq, Int.reduceNe, Int.reduceLT, Int.reduceLE, Int.reduceNeg, sg_nil]
                repeat' (first | with_reducible apply And.intro | intro _)
                all_goals (try omega)
                refine wp_go b21_95 ?_; simp only [l21_95, sg_iload, ldI_4, sg_iret0, nLg_n, nLg_i, nLg_r, tc_c, tc_l, tc_r, tc_m, tc_n, tc_o, tc_0, inR, true_and, and_true, ne_eq, not_true_eq_false, not_false_eq_true, true_imp_iff, false_imp_iff, Int.toNat_natCast, lit_a, Nat.reduceAdd, or_true, true_or, or_false, false_or, Int.reduceEq, Int.reduceNe, Int.reduceLT, Int.reduceLE, Int.reduceNeg, sg_nil]
                exact hb
            · rw [if_neg hg] at hs
              have ho : o = false := by
                cases o with
                | true => exact absurd (Or.inl rfl) hg
                | false => rfl
              subst ho
              have ih1 := ih (i + 1) (by omega) r (c + 1) false (some (.inl (f i))) hs
              rw [if_pos (Or.inr (Nat.succ_pos c)), if_neg (by simp), show (4 : Int) - ((c + 1 : Nat) : Int) = 4 - (c : Int) + -1 by omega] at ih1
              have hlt : ¬ (4 ≤ c ∨ f i < 48 ∨ 55 < f i) := fun h => hg (Or.inr h)
              rw [if_neg (show ¬ (false = true) by simp)]
              refine wp_go b21_75 ?_; simp only [l21_75, sg_iload, ldI_5, len4_0, len4_1, len4_2, len4_3, len4_4, sg_is1_1, nLg_n, nLg_i, nLg_r, tc_c, tc_l, tc_r, tc_m, tc_n, tc_o, tc_0, inR, true_and, and_true, ne_eq, not_true_eq_false, not_false_eq_true, true_imp_iff, false_imp_iff, Int.toNat_natCast, lit_a, Nat.reduceAdd, or_true, true_or, or_false, false_or, Int.reduceEq, Int.reduceNe, Int.reduceLT, Int.reduceLE, Int.reduceNeg, sg_nil]
              refine k_Pad_isNotice (by unfold inR; omega) (fun _ _ => ?_) (fun _ => by omega)
              refine wp_go b21_80 ?_; simp only [l21_80, sg_if_eq, sg_iload_2, sg_if_le, sg_iinc, ldI_2, okS_2, stL_2, sg_iconst, sg_istore_3, sg_goto, nLg_n, nLg_i, nLg_r, tc_c, tc_l, tc_r, tc_m, tc_n, tc_o, tc_0, inR, true_and, and_true, ne_eq, not_true_eq_false, not_false_eq_true, true_imp_iff, false_imp_iff, Int.toNat_natCast, lit_a, Nat.reduceAdd, or_true, true_or, or_false, false_or, Int.reduceEq, Int.reduceNe, Int.reduceLT, Int.reduceLE, Int.reduceNeg, sg_nil]
              repeat' (first | with_reducible apply And.intro | intro _)
              all_goals (try omega)
              repeat' (first | with_reducible apply And.intro | (intro _) | ((first | refine wp_go b21_0 ?_ | refine wp_go b21_47 ?_ | refine wp_go b21_50 ?_ | refine wp_go b21_57 ?_ | refine wp_go b21_75 ?_ | refine wp_go b21_80 ?_ | refine wp_go b21_95 ?_ | refine wp_go b21_98 ?_ | refine wp_go b21_104 ?_ | refine wp_go b21_113 ?_ | refine wp_go b21_117 ?_); simp only [l21_0, l21_47, l21_50, l21_57, l21_75, l21_80, l21_95, l21_98, l21_104, l21_113, l21_117, sg_iconst, sg_istore_1, sg_istore_2, sg_istore_3, sg_istore, okS_4, stL_4, sg_iload, ldI_4, sg_iret0, sg_goto, ldI_5, sg_bipush, sg_ic_ne, sg_iload_3, sg_if_ne, len4_0, len4_1, len4_2, len4_3, len4_4, sg_is1_1, sg_if_eq, sg_iload_2, sg_if_le, sg_iinc, ldI_2, okS_2, stL_2, sg_aload_0, sg_getf0, nLg_n, nLg_i, nLg_r, tc_c, tc_l, tc_r, tc_m, tc_n, tc_o, tc_0, inR, true_and, and_true, ne_eq, not_true_eq_false, not_false_eq_true, true_imp_iff, false_imp_iff, Int.toNat_natCast, lit_a, Nat.reduceAdd, or_true, true_or, or_false, false_or, Int.reduceEq, Int.reduceNe, Int.reduceLT, Int.reduceLE, Int.reduceNeg, sg_nil]))
              all_goals (try omega)
              all_goals exact ih1
          refine wp_go b21_9 ?_; simp only [l21_9, sg_iload, ldI_4, sg_aload_0, sg_getf0, sg_ic_ge, sg_getfp, sg_caload, sg_istore, okS_5, stL_5, ldI_5, sg_bipush, sg_ic_ne, sg_iinc, ldI_1, okS_1, stL_1, sg_iload_3, sg_if_eq, sg_iload_1, nLg_n, nLg_i, nLg_r, tc_c, tc_l, tc_r, tc_m, tc_n, tc_o, tc_0, inR, true_and, and_true, ne_eq, not_true_eq_false, not_false_eq_true, true_imp_iff, false_imp_iff, Int.toNat_natCast, lit_a, Nat.reduceAdd, or_true, true_or, or_false, false_or, Int.reduceEq, Int.reduceNe, Int.reduceLT, Int.reduceLE, Int.reduceNeg, sg_nil, s1p, x0, x1, x2, x3, x4, x5, x6, x7, x8, x9, x10, x11, x12, x13, x56, x57, x388, x389, x390, x391, x392, x393, x394, x395, x396, x397, x398, x399, h1, c3]
          repeat' (first | with_reducible apply And.intro | intro _)
          all_goals (try omega)
          refine wp_go b21_57 ?_; simp only [l21_57, sg_iload, ldI_5, sg_bipush, sg_ic_ne, sg_iload_3, sg_if_ne, sg_iconst, sg_istore_2, sg_istore_3, sg_goto, nLg_n, nLg_i, nLg_r, tc_c, tc_l, tc_r, tc_m, tc_n, tc_o, tc_0, inR, true_and, and_true, ne_eq, not_true_eq_false, not_false_eq_true, true_imp_iff, false_imp_iff, Int.toNat_natCast, lit_a, Nat.reduceAdd, or_true, true_or, or_false, false_or, Int.reduceEq, Int.reduceNe, Int.reduceLT, Int.reduceLE, Int.reduceNeg, sg_nil]
          repeat' (first | with_reducible apply And.intro | intro _)
          all_goals (try omega)
  refine wp_go b21_0 ?_; simp only [l21_0, sg_iconst, sg_istore_1, sg_istore_2, sg_istore_3, sg_istore, okS_4, stL_4, nLg_n, nLg_i, nLg_r, tc_c, tc_l, tc_r, tc_m, tc_n, tc_o, tc_0, inR, true_and, and_true, ne_eq, not_true_eq_false, not_false_eq_true, true_imp_iff, false_imp_iff, Int.toNat_natCast, lit_a, Nat.reduceAdd, or_true, true_or, or_false, false_or, Int.reduceEq, Int.reduceNe, Int.reduceLT, Int.reduceLE, Int.reduceNeg, sg_nil]
  exact loop n 0 (by omega) 0 0 false none rfl
-- NS.fault: blocks [0, 7]
theorem k_NS_fault {d : Nat} {Q : QT} {μ : Mem} {a : Hs} (hC : CRr a μ) (h : Q (.inl (fltF (hsC a) (hsP a))) μ) : Call σ1 (d + 3) 76 [.inr (.inr 0)] μ Q := by
  refine e_76 ?_
  obtain ⟨c1, c2, c3⟩ := hC.2.2
  refine wp_go b76_0 ?_; simp only [l76_0, sg_aload_0, sg_getfp, sg_iv1_i, len4_0, len4_1, len4_2, len4_3, len4_4, nLg_n, nLg_i, nLg_r, tc_c, tc_l, tc_r, tc_m, tc_n, tc_o, tc_0, inR, true_and, and_true, ne_eq, not_true_eq_false, not_false_eq_true, true_imp_iff, false_imp_iff, Int.toNat_natCast, lit_a, Nat.reduceAdd, or_true, true_or, or_false, false_or, Int.reduceEq, Int.reduceNe, Int.reduceLT, Int.reduceLE, Int.reduceNeg, sg_nil, s1p, x0, x1, x2, x3, x4, x5, x6, x7, x8, x9, x10, x11, x12, x13, x56, x57, x388, x389, x390, x391, x392, x393, x394, x395, x396, x397, x398, x399]
  refine k_Pad_findFault c1 c2 c3 ?_
  refine wp_go b76_7 ?_; simp only [l76_7, sg_iret0, nLg_n, nLg_i, nLg_r, tc_c, tc_l, tc_r, tc_m, tc_n, tc_o, tc_0, inR, true_and, and_true, ne_eq, not_true_eq_false, not_false_eq_true, true_imp_iff, false_imp_iff, Int.toNat_natCast, lit_a, Nat.reduceAdd, or_true, true_or, or_false, false_or, Int.reduceEq, Int.reduceNe, Int.reduceLT, Int.reduceLE, Int.reduceNeg, sg_nil]
  exact h
