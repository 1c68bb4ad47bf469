theorem HR_c {w w' : Rw} {μ : Mem} {h : Nat} (hw : w 0 ≤ 24) (e : ∀ k, k < 121 → w' k = w k) (H : HR w μ h) : HR w' μ h := by
  obtain ⟨h1, h2⟩ := H
  refine ⟨by rw [e 0 (by omega)]; exact h1, fun i hi => ?_⟩
  rw [e 0 (by omega)] at hi
  rw [e (5 * i + 3) (by omega), e (5 * i + 4) (by omega), e (5 * i + 5) (by omega), e (5 * i + 1) (by omega), e (5 * i + 2) (by omega)]
  exact h2 i hi
theorem WH_c {w w' : Rw} (e : ∀ k, k < 121 → w' k = w k) (H : WH w) : WH w' := by
  obtain ⟨h1, h2, h3, h4⟩ := H
  unfold WH
  rw [e 0 (by omega), e 5 (by omega)]
  refine ⟨h1, fun i hi => ?_, h3, fun k hk hk2 => by rw [e k hk2]; exact h4 k hk hk2⟩
  rw [e (5 * i + 3) (by omega), e (5 * i + 4) (by omega), e (5 * i + 5) (by omega), e (5 * i + 1) (by omega), e (5 * i + 2) (by omega)]
  exact h2 i hi
/-- an emptied break -/
def emZ (z : Rw) (s : Nat) : Rw := fun x => if 76 + 5 * s ≤ x ∧ x < 81 + 5 * s then 0 else z x
theorem emZ_o (z : Rw) (s : Nat) {k : Nat} (h : k < 76 + 5 * s ∨ 81 + 5 * s ≤ k) : emZ z s k = z k := by unfold emZ; rw [if_neg (by omega)]
theorem emZ_s (z : Rw) (s : Nat) : emZ z s (76 + 5 * s) = 0 := by unfold emZ; rw [if_pos (by omega)]
theorem IZ_em {z : Rw} {s : Nat} (hz : IZ z) (hs : (s : Int) < z 0) : IZ (emZ z s) := by
  have q := hz.1
  have bo : ∀ k, k < 76 + 5 * s ∨ 81 + 5 * s ≤ k → emZ z s k = z k := fun k h => emZ_o z s h
  obtain ⟨h1, h2, h3, h5, h6⟩ := hz
  unfold IZ
  rw [bo 0 (by omega), bo 1 (by omega), bo 2 (by omega), bo 3 (by omega), bo 6 (by omega)]
  refine ⟨h1, fun i hi => ?_, h3, fun i hi => ?_, fun l hl => ?_⟩
  · rw [bo (4 + 3 * i) (by omega), bo (5 + 3 * i) (by omega), bo (6 + 3 * i) (by omega)]
    obtain ⟨b1, b2, b3, b4, b5⟩ := h2 i hi
    by_cases h : i = s
    · subst h
      rw [emZ_s]
      exact ⟨b1, b2, b3, by omega, fun j hj => absurd hj (by omega)⟩
    · rw [bo (76 + 5 * i) (by omega)]
      exact ⟨b1, b2, b3, b4, fun j hj => by rw [bo _ (by omega)]; exact b5 j hj⟩
  · rw [bo (196 + 2 * i) (by omega), bo (197 + 2 * i) (by omega)]; exact h5 i hi
  · rw [bo (212 + 3 * l) (by omega), bo (213 + 3 * l) (by omega), bo (214 + 3 * l) (by omega), show fw (emZ z s) l = fw z l from by funext x; exact bo _ (by omega)]; exact h6 l hl
theorem RC_em {z : Rw} {μ : Mem} {s : Nat} (hz : IZ z) (hs : (s : Int) < z 0) (hR : RC z μ 1) : RC (emZ z s) (ms μ 6 s 0) 1 := by
  have q := hz.1
  obtain ⟨⟨c0, c1, c2, c3⟩, h2, h5, h6⟩ := hR
  have bo : ∀ k, k < 76 + 5 * s ∨ 81 + 5 * s ≤ k → emZ z s k = z k := fun k h => emZ_o z s h
  have mo : ∀ k, k ≠ 6 → ms μ 6 s 0 k = μ k := fun k h => by funext j; simp only [ms_at]; (repeat (first | rw [if_neg (by omega)] | rw [if_pos (by omega)]))
  unfold RC
  rw [bo 0 (by omega), bo 1 (by omega), bo 2 (by omega), bo 3 (by omega)]
  refine ⟨⟨by rw [mo _ (by omega)]; exact c0, by rw [mo _ (by omega)]; exact c1, by rw [mo _ (by omega)]; exact c2, by rw [mo _ (by omega)]; exact c3⟩, fun i hi => ?_, fun i hi => ?_, fun l hl => ?_⟩
  · rw [bo (4 + 3 * i) (by omega), bo (5 + 3 * i) (by omega), bo (6 + 3 * i) (by omega), mo (1 + 2) (by omega), mo (1 + 3) (by omega), mo (1 + 4) (by omega), mo (1 + 6) (by omega)]
    obtain ⟨b1, b2, b3, b4, b5⟩ := h2 i hi
    have r := (hz.2.1 i hi).2.2.2.1
    refine ⟨b1, b2, b3, ?_⟩
    simp only [ms_at, true_and]
    by_cases h : i = s
    · subst h
      rw [emZ_s, if_pos rfl]
      exact ⟨rfl, fun j hj => absurd hj (by omega)⟩
    · rw [if_neg h, bo (76 + 5 * i) (by omega)]
      exact ⟨b4, fun j hj => by rw [bo _ (by omega)]; exact b5 j hj⟩
  · rw [bo (196 + 2 * i) (by omega), bo (197 + 2 * i) (by omega), mo (1 + 7) (by omega), mo (1 + 8) (by omega)]; exact h5 i hi
  · rw [bo (212 + 3 * l) (by omega), bo (213 + 3 * l) (by omega), bo (214 + 3 * l) (by omega), show fw (emZ z s) l = fw z l from by funext x; exact bo _ (by omega), mo (1 + 9) (by omega), mo (1 + 10) (by omega), mo (1 + 11) (by omega)]
    obtain ⟨b1, b2, b3, b4⟩ := h6 l hl
    exact ⟨b1, b2, b3, fun h => HR_f (fun k _ _ => mo k (by omega)) (b4 h)⟩
def c_sen (z : Rw) (s : Int) : Int := if s < 0 ∨ z 0 ≤ s then -1 else 0
-- NS.empty: blocks [0, 8, 13, 24]
theorem k_NS_empty {d : Nat} {Q : QT} {μ : Mem} {s : Int} {z : Rw} {a : Hs} (hz : IZ z) (hR : RC z μ 1) (hC : CRr a μ) (hs : inR s) (hf : c_sen z s < 0 → Q (.inl (c_sen z s)) μ)
    (hq : c_sen z s = 0 → ∀ μ', MF (emZ z s.toNat) (hsPush a z) μ μ' → Q (.inl (z (76 + 5 * s.toNat))) μ') : Call σ1 (d + 5) 46 [.inr (.inr 0), .inl s] μ Q := by
  refine e_46 ?_
  have q := hz.1
  refine wp_go b46_0 ?_; simp only [l46_0, sg_aload_0, sg_getfp, sg_iload_1, sg_iv2_i, len4_0, len4_1, len4_2, len4_3, len4_4, nLg_n, nLg_i, nLg_r, tc_c, tc_l, tc_r, tc_m, tc_n, tc_o, tc_0, inR, true_and, and_true, ne_eq, not_true_eq_false, not_false_eq_true, true_imp_iff, false_imp_iff, Int.toNat_natCast, lit_a, Nat.reduceAdd, or_true, true_or, or_false, false_or, Int.reduceEq, Int.reduceNe, Int.reduceLT, Int.reduceLE, Int.reduceNeg, sg_nil, s1p, x0, x1, x2, x3, x4, x5, x6, x7, x8, x9, x10, x11, x12, x13, x56, x57, x388, x389, x390, x391, x392, x393, x394, x395, x396, x397, x398, x399]
  refine k_Sta_hasSentence st1 hR hz hs (fun h1 h2 => ?_) (fun h0 => ?_)
  · obtain ⟨n, rfl⟩ := nat_of h1
    have ec : c_sen z (n : Int) = 0 := by unfold c_sen; rw [if_neg (by omega)]
    have hq := hq ec
    rw [Int.toNat_natCast] at hq
    refine wp_go b46_8 ?_; simp only [l46_8, sg_if_ne, sg_iconst, sg_iret0, nLg_n, nLg_i, nLg_r, tc_c, tc_l, tc_r, tc_m, tc_n, tc_o, tc_0, inR, true_and, and_true, ne_eq, not_true_eq_false, not_false_eq_true, true_imp_iff, false_imp_iff, Int.toNat_natCast, lit_a, Nat.reduceAdd, or_true, true_or, or_false, false_or, Int.reduceEq, Int.reduceNe, Int.reduceLT, Int.reduceLE, Int.reduceNeg, sg_nil]
    repeat' (first | with_reducible apply And.intro | intro _)
    all_goals (try omega)
    refine wp_go b46_13 ?_; simp only [l46_13, sg_aload_0, sg_getfp, sg_iv2_v, len4_0, len4_1, len4_2, len4_3, len4_4, nLg_n, nLg_i, nLg_r, tc_c, tc_l, tc_r, tc_m, tc_n, tc_o, tc_0, inR, true_and, and_true, ne_eq, not_true_eq_false, not_false_eq_true, true_imp_iff, false_imp_iff, Int.toNat_natCast, lit_a, Nat.reduceAdd, or_true, true_or, or_false, false_or, Int.reduceEq, Int.reduceNe, Int.reduceLT, Int.reduceLE, Int.reduceNeg, sg_nil, s1p, x0, x1, x2, x3, x4, x5, x6, x7, x8, x9, x10, x11, x12, x13, x56, x57, x388, x389, x390, x391, x392, x393, x394, x395, x396, x397, x398, x399]
    refine k_His_keep hz hR hC (fun μ1 f1 C1 => ?_)
    have R1 := keep_R hz f1 hR
    have e : μ1 6 n = z (76 + 5 * n) := (R1.2.1 n h2).2.2.2.1
    have hq := hq _ ⟨fun k hk => by rw [← f1 k (by omega)]; funext j; simp only [ms_at]; (repeat (first | rw [if_neg (by omega)] | rw [if_pos (by omega)])), RC_em hz h2 R1, CRr_f (fun k hk => by funext j; simp only [ms_at]; (repeat (first | rw [if_neg (by omega)] | rw [if_pos (by omega)]))) C1⟩
    refine wp_go b46_24 ?_; simp only [l46_24, sg_aload_0, sg_getfp, sg_iload_1, sg_iaload, sg_istore_2, sg_iconst, sg_iastore, sg_iload_2, sg_iret0, nLg_n, nLg_i, nLg_r, tc_c, tc_l, tc_r, tc_m, tc_n, tc_o, tc_0, inR, true_and, and_true, ne_eq, not_true_eq_false, not_false_eq_true, true_imp_iff, false_imp_iff, Int.toNat_natCast, lit_a, Nat.reduceAdd, or_true, true_or, or_false, false_or, Int.reduceEq, Int.reduceNe, Int.reduceLT, Int.reduceLE, Int.reduceNeg, sg_nil, s1p, x0, x1, x2, x3, x4, x5, x6, x7, x8, x9, x10, x11, x12, x13, x56, x57, x388, x389, x390, x391, x392, x393, x394, x395, x396, x397, x398, x399, e]
    repeat' (first | with_reducible apply And.intro | (intro _) | ((first | refine wp_go b46_0 ?_ | refine wp_go b46_8 ?_ | refine wp_go b46_13 ?_ | refine wp_go b46_24 ?_); simp only [l46_0, l46_8, l46_13, l46_24, sg_aload_0, sg_getfp, sg_iload_1, sg_iv2_i, len4_0, len4_1, len4_2, len4_3, len4_4, sg_if_ne, sg_iconst, sg_iret0, sg_iv2_v, sg_iaload, sg_istore_2, sg_iastore, sg_iload_2, nLg_n, nLg_i, nLg_r, tc_c, tc_l, tc_r, tc_m, tc_n, tc_o, tc_0, inR, true_and, and_true, ne_eq, not_true_eq_false, not_false_eq_true, true_imp_iff, false_imp_iff, Int.toNat_natCast, lit_a, Nat.reduceAdd, or_true, true_or, or_false, false_or, Int.reduceEq, Int.reduceNe, Int.reduceLT, Int.reduceLE, Int.reduceNeg, sg_nil]))
    all_goals (try omega)
    all_goals exact hq
  · have ec : c_sen z s = -1 := by unfold c_sen; rw [if_pos (by omega)]
    rw [ec] at hf
    have hf := hf (by omega)
    refine wp_go b46_8 ?_; simp only [l46_8, sg_if_ne, sg_iconst, sg_iret0, nLg_n, nLg_i, nLg_r, tc_c, tc_l, tc_r, tc_m, tc_n, tc_o, tc_0, inR, true_and, and_true, ne_eq, not_true_eq_false, not_false_eq_true, true_imp_iff, false_imp_iff, Int.toNat_natCast, lit_a, Nat.reduceAdd, or_true, true_or, or_false, false_or, Int.reduceEq, Int.reduceNe, Int.reduceLT, Int.reduceLE, Int.reduceNeg, sg_nil]
    repeat' (first | with_reducible apply And.intro | (intro _) | ((first | refine wp_go b46_0 ?_ | refine wp_go b46_8 ?_ | refine wp_go b46_13 ?_ | refine wp_go b46_24 ?_); simp only [l46_0, l46_8, l46_13, l46_24, sg_aload_0, sg_getfp, sg_iload_1, sg_iv2_i, len4_0, len4_1, len4_2, len4_3, len4_4, sg_if_ne, sg_iconst, sg_iret0, sg_iv2_v, sg_iaload, sg_istore_2, sg_iastore, sg_iload_2, nLg_n, nLg_i, nLg_r, tc_c, tc_l, tc_r, tc_m, tc_n, tc_o, tc_0, inR, true_and, and_true, ne_eq, not_true_eq_false, not_false_eq_true, true_imp_iff, false_imp_iff, Int.toNat_natCast, lit_a, Nat.reduceAdd, or_true, true_or, or_false, false_or, Int.reduceEq, Int.reduceNe, Int.reduceLT, Int.reduceLE, Int.reduceNeg, sg_nil]))
    all_goals (try omega)
    all_goals exact hf
/-- a new listener -/
def lsZ (z : Rw) (g b : Int) : Rw := fun x => if x = 3 then z 3 + 1 else if x = 212 + 3 * (z 3).toNat then g else if x = 213 + 3 * (z 3).toNat then b else if x = 214 + 3 * (z 3).toNat then 0 else z x
theorem IZ_ls {z : Rw} {g b : Int} (hz : IZ z) (h2 : z 3 < 6) (hg : 0 ≤ g ∧ g ≤ 5) (hb : 0 ≤ b ∧ b ≤ 600) : IZ (lsZ z g b) := by
  have q := hz.1
  obtain ⟨n, hn⟩ := nat_of (show 0 ≤ z 3 by omega)
  have bo : ∀ k, k ≠ 3 → (k < 212 + 3 * n ∨ 215 + 3 * n ≤ k) → lsZ z g b k = z k := fun k h h3 => by unfold lsZ; rw [hn, Int.toNat_natCast]; (repeat (first | rw [if_neg (by omega)] | rw [if_pos (by omega)]))
  have e3 : lsZ z g b 3 = z 3 + 1 := rfl
  obtain ⟨h1, h2, h3, h5, h6⟩ := hz
  unfold IZ
  rw [bo 0 (by omega) (by omega), bo 1 (by omega) (by omega), e3, bo 2 (by omega) (by omega), bo 6 (by omega) (by omega)]
  refine ⟨by omega, fun i hi => ?_, h3, fun i hi => ?_, fun l hl => ?_⟩
  · rw [bo (4 + 3 * i) (by omega) (by omega), bo (5 + 3 * i) (by omega) (by omega), bo (6 + 3 * i) (by omega) (by omega), bo (76 + 5 * i) (by omega) (by omega)]
    obtain ⟨b1, b2, b3, b4, b5⟩ := h2 i hi
    refine ⟨b1, b2, b3, b4, fun j hj => ?_⟩
    rw [bo _ (by omega) (by omega)]
    exact b5 j hj
  · rw [bo (196 + 2 * i) (by omega) (by omega), bo (197 + 2 * i) (by omega) (by omega)]; exact h5 i hi
  · rw [show fw (lsZ z g b) l = fw z l from by funext x; exact bo _ (by omega) (by omega)]
    by_cases h : l = n
    · subst h
      unfold lsZ
      rw [hn, Int.toNat_natCast]
      (repeat (first | rw [if_neg (by omega)] | rw [if_pos (by omega)]))
      exact ⟨hg, hb, by omega, fun h => absurd h (by omega)⟩
    · rw [bo (212 + 3 * l) (by omega) (by omega), bo (213 + 3 * l) (by omega) (by omega), bo (214 + 3 * l) (by omega) (by omega)]
      exact h6 l (by omega)
theorem RC_ls {z : Rw} {μ μ' : Mem} {n : Nat} {g b : Int} (hz : IZ z) (hn : z 3 = (n : Int)) (h2 : z 3 < 6) (hR : RC z μ 1)
    (mo : ∀ k, k ≠ 1 → k ≠ 10 → k ≠ 11 → k ≠ 12 → μ' k = μ k) (m1 : ∀ j, j ≠ 11 → μ' 1 j = μ 1 j) (m2 : μ' 1 11 = (n : Int) + 1) (m8 : ∀ j, μ' 10 j = if j = n then g else μ 10 j) (m9 : ∀ j, μ' 11 j = if j = n then b else μ 11 j) (m12 : ∀ j, μ' 12 j = if j = n then 0 else μ 12 j) : RC (lsZ z g b) μ' 1 := by
  have q := hz.1
  have bo : ∀ k, k ≠ 3 → (k < 212 + 3 * n ∨ 215 + 3 * n ≤ k) → lsZ z g b k = z k := fun k h h3 => by unfold lsZ; rw [hn, Int.toNat_natCast]; (repeat (first | rw [if_neg (by omega)] | rw [if_pos (by omega)]))
  have e3 : lsZ z g b 3 = z 3 + 1 := rfl
  have mo : ∀ k, (k ≠ 1 ∧ k ≠ 10 ∧ k ≠ 11 ∧ k ≠ 12) → μ' k = μ k := fun k h => mo k h.1 h.2.1 h.2.2.1 h.2.2.2
  obtain ⟨⟨c0, c1, c2, c3⟩, h2, h5, h6⟩ := hR
  unfold RC
  rw [bo 0 (by omega) (by omega), bo 1 (by omega) (by omega), e3, bo 2 (by omega) (by omega)]
  refine ⟨⟨by rw [mo _ (by omega)]; exact c0, by rw [m1 _ (by omega)]; exact c1, by rw [m1 _ (by omega)]; exact c2, by rw [m2]; omega⟩, fun i hi => ?_, fun i hi => ?_, fun l hl => ?_⟩
  · rw [bo (4 + 3 * i) (by omega) (by omega), bo (5 + 3 * i) (by omega) (by omega), bo (6 + 3 * i) (by omega) (by omega), bo (76 + 5 * i) (by omega) (by omega), mo (1 + 2) (by omega), mo (1 + 3) (by omega), mo (1 + 4) (by omega), mo (1 + 5) (by omega), mo (1 + 6) (by omega)]
    obtain ⟨b1, b2, b3, b4, b5⟩ := h2 i hi
    have r := (hz.2.1 i hi).2.2.2.1
    exact ⟨b1, b2, b3, b4, fun j hj => by rw [bo _ (by omega) (by omega)]; exact b5 j hj⟩
  · rw [bo (196 + 2 * i) (by omega) (by omega), bo (197 + 2 * i) (by omega) (by omega), mo (1 + 7) (by omega), mo (1 + 8) (by omega)]; exact h5 i hi
  · rw [show 1 + 9 = 10 from rfl, show 1 + 10 = 11 from rfl, show 1 + 11 = 12 from rfl, m8, m9, m12]
    rw [show fw (lsZ z g b) l = fw z l from by funext x; exact bo _ (by omega) (by omega)]
    by_cases h : l = n
    · subst h
      unfold lsZ
      rw [hn, Int.toNat_natCast]
      (repeat (first | rw [if_neg (by omega)] | rw [if_pos (by omega)]))
      exact ⟨rfl, rfl, rfl, fun h => absurd h (by omega)⟩
    · rw [bo (212 + 3 * l) (by omega) (by omega), bo (213 + 3 * l) (by omega) (by omega), bo (214 + 3 * l) (by omega) (by omega), if_neg h, if_neg h, if_neg h]
      obtain ⟨b1, b2, b3, b4⟩ := h6 l (by omega)
      exact ⟨b1, b2, b3, fun h => HR_f (fun k _ _ => mo k (by omega)) (b4 h)⟩
def c_listener (z : Rw) (g b : Int) : Int := if (g < 0 ∨ 5 < g) ∨ (b < 0 ∨ 600 < b) then -2 else if 6 ≤ z 3 then -4 else 0
-- NS.listener: blocks [0, 6, 17, 20, 23, 38, 49]
theorem k_NS_listener {d : Nat} {Q : QT} {μ : Mem} {v g : Int} {z : Rw} {a : Hs} (hz : IZ z) (hR : RC z μ 1) (hC : CRr a μ) (hv : inR v) (hg : inR g) (hf : c_listener z v g < 0 → Q (.inl (c_listener z v g)) μ)
    (hq : c_listener z v g = 0 → ∀ μ', MF (lsZ z v g) (hsPush a z) μ μ' → Q (.inl (z 3)) μ') : Call σ1 (d + 5) 47 [.inr (.inr 0), .inl v, .inl g] μ Q := by
  refine e_47 ?_
  have q := hz.1
  have bad2 : ((v < 0 ∨ 5 < v) ∨ (g < 0 ∨ 600 < g)) → Q (.inl (-2)) μ := fun h => by
    have ec : c_listener z v g = -2 := by unfold c_listener; rw [if_pos h]
    rw [ec] at hf
    exact hf (by omega)
  refine wp_go b47_0 ?_; simp only [l47_0, sg_iload_1, sg_iconst, len4_0, len4_1, len4_2, len4_3, len4_4, sg_is3_1, nLg_n, nLg_i, nLg_r, tc_c, tc_l, tc_r, tc_m, tc_n, tc_o, tc_0, inR, true_and, and_true, ne_eq, not_true_eq_false, not_false_eq_true, true_imp_iff, false_imp_iff, Int.toNat_natCast, lit_a, Nat.reduceAdd, or_true, true_or, or_false, false_or, Int.reduceEq, Int.reduceNe, Int.reduceLT, Int.reduceLE, Int.reduceNeg, sg_nil]
  refine k_NS_isWithin hv (by unfold inR; omega) (by unfold inR; omega) (fun g1 g2 => ?_) (fun g0 => ?_)
  · refine wp_go b47_6 ?_; simp only [l47_6, sg_if_eq, sg_iload_2, sg_iconst, sg_sipush, len4_0, len4_1, len4_2, len4_3, len4_4, sg_is3_1, nLg_n, nLg_i, nLg_r, tc_c, tc_l, tc_r, tc_m, tc_n, tc_o, tc_0, inR, true_and, and_true, ne_eq, not_true_eq_false, not_false_eq_true, true_imp_iff, false_imp_iff, Int.toNat_natCast, lit_a, Nat.reduceAdd, or_true, true_or, or_false, false_or, Int.reduceEq, Int.reduceNe, Int.reduceLT, Int.reduceLE, Int.reduceNeg, sg_nil]
    repeat' (first | with_reducible apply And.intro | intro _)
    all_goals (try omega)
    refine k_NS_isWithin hg (by unfold inR; omega) (by unfold inR; omega) (fun g3 g4 => ?_) (fun g0 => ?_)
    · have e10 : μ 1 11 = z 3 := hR.1.2.2.2
      obtain ⟨n, hn⟩ := nat_of (show 0 ≤ z 3 by omega)
      refine wp_go b47_17 ?_; simp only [l47_17, sg_if_ne, nLg_n, nLg_i, nLg_r, tc_c, tc_l, tc_r, tc_m, tc_n, tc_o, tc_0, inR, true_and, and_true, ne_eq, not_true_eq_false, not_false_eq_true, true_imp_iff, false_imp_iff, Int.toNat_natCast, lit_a, Nat.reduceAdd, or_true, true_or, or_false, false_or, Int.reduceEq, Int.reduceNe, Int.reduceLT, Int.reduceLE, Int.reduceNeg, sg_nil]
      repeat' (first | with_reducible apply And.intro | intro _)
      all_goals (try omega)
      refine wp_go b47_23 ?_; simp only [l47_23, sg_aload_0, sg_getfp, sg_getf0, sg_bipush, sg_ic_lt, sg_iret0, nLg_n, nLg_i, nLg_r, tc_c, tc_l, tc_r, tc_m, tc_n, tc_o, tc_0, inR, true_and, and_true, ne_eq, not_true_eq_false, not_false_eq_true, true_imp_iff, false_imp_iff, Int.toNat_natCast, lit_a, Nat.reduceAdd, or_true, true_or, or_false, false_or, Int.reduceEq, Int.reduceNe, Int.reduceLT, Int.reduceLE, Int.reduceNeg, sg_nil, s1p, x0, x1, x2, x3, x4, x5, x6, x7, x8, x9, x10, x11, x12, x13, x56, x57, x388, x389, x390, x391, x392, x393, x394, x395, x396, x397, x398, x399, e10]
      by_cases h8 : 6 ≤ z 3
      · have ec : c_listener z v g = -4 := by unfold c_listener; rw [if_neg (by omega), if_pos h8]
        rw [ec] at hf
        have hf := hf (by omega)
        repeat' (first | with_reducible apply And.intro | intro _)
        all_goals (try omega)
      · have ec : c_listener z v g = 0 := by unfold c_listener; rw [if_neg (by omega), if_neg h8]
        have hq := hq ec
        repeat' (first | with_reducible apply And.intro | intro _)
        all_goals (try omega)
        refine wp_go b47_38 ?_; simp only [l47_38, sg_aload_0, sg_getfp, sg_iv2_v, len4_0, len4_1, len4_2, len4_3, len4_4, nLg_n, nLg_i, nLg_r, tc_c, tc_l, tc_r, tc_m, tc_n, tc_o, tc_0, inR, true_and, and_true, ne_eq, not_true_eq_false, not_false_eq_true, true_imp_iff, false_imp_iff, Int.toNat_natCast, lit_a, Nat.reduceAdd, or_true, true_or, or_false, false_or, Int.reduceEq, Int.reduceNe, Int.reduceLT, Int.reduceLE, Int.reduceNeg, sg_nil, s1p, x0, x1, x2, x3, x4, x5, x6, x7, x8, x9, x10, x11, x12, x13, x56, x57, x388, x389, x390, x391, x392, x393, x394, x395, x396, x397, x398, x399]
        refine k_His_keep hz hR hC (fun μ1 f1 C1 => ?_)
        have R1 := keep_R hz f1 hR
        have w10 : μ1 1 11 = (n : Int) := R1.1.2.2.2.trans hn
        have hq : ∀ μ', (∀ k, k ≠ 1 → k ≠ 10 → k ≠ 11 → k ≠ 12 → μ' k = μ1 k) → (∀ j, j ≠ 11 → μ' 1 j = μ1 1 j) → μ' 1 11 = (n : Int) + 1 → (∀ j, μ' 10 j = if j = n then v else μ1 10 j) → (∀ j, μ' 11 j = if j = n then g else μ1 11 j) → (∀ j, μ' 12 j = if j = n then 0 else μ1 12 j) → Q (.inl (z 3)) μ' := fun μ' m0 m1 m2 m8 m9 m12 =>
          hq μ' ⟨fun k hk => by rw [m0 k (by omega) (by omega) (by omega) (by omega), f1 k (by omega)], RC_ls hz hn (by omega) R1 m0 m1 m2 m8 m9 m12, CRr_f (fun k hk => m0 k (by omega) (by omega) (by omega) (by omega)) C1⟩
        rw [hn] at hq
        refine wp_go b47_49 ?_; simp only [l47_49, sg_aload_0, sg_getfp, sg_getf0, sg_istore_3, sg_iload_3, sg_iload_1, sg_iastore, sg_iload_2, sg_iconst, sg_bastore, sg_dup_i, sg_dup_r, sg_iadd, sg_putf0, sg_iret0, nLg_n, nLg_i, nLg_r, tc_c, tc_l, tc_r, tc_m, tc_n, tc_o, tc_0, inR, true_and, and_true, ne_eq, not_true_eq_false, not_false_eq_true, true_imp_iff, false_imp_iff, Int.toNat_natCast, lit_a, Nat.reduceAdd, or_true, true_or, or_false, false_or, Int.reduceEq, Int.reduceNe, Int.reduceLT, Int.reduceLE, Int.reduceNeg, sg_nil, s1p, x0, x1, x2, x3, x4, x5, x6, x7, x8, x9, x10, x11, x12, x13, x56, x57, x388, x389, x390, x391, x392, x393, x394, x395, x396, x397, x398, x399, w10, ms_at, false_and, and_false, if_false, if_true, and_self, Nat.reduceEqDiff, ne_a, ne_b, Nat.add_left_cancel_iff]
        repeat' (first | with_reducible apply And.intro | (intro _) | ((first | refine wp_go b47_0 ?_ | refine wp_go b47_6 ?_ | refine wp_go b47_17 ?_ | refine wp_go b47_20 ?_ | refine wp_go b47_23 ?_ | refine wp_go b47_38 ?_ | refine wp_go b47_49 ?_); simp only [l47_0, l47_6, l47_17, l47_20, l47_23, l47_38, l47_49, sg_iload_1, sg_iconst, len4_0, len4_1, len4_2, len4_3, len4_4, sg_is3_1, sg_if_eq, sg_iload_2, sg_sipush, sg_if_ne, sg_bipush, sg_iret0, sg_aload_0, sg_getfp, sg_getf0, sg_ic_lt, sg_iv2_v, sg_istore_3, sg_iload_3, sg_iastore, sg_bastore, sg_dup_i, sg_dup_r, sg_iadd, sg_putf0, nLg_n, nLg_i, nLg_r, tc_c, tc_l, tc_r, tc_m, tc_n, tc_o, tc_0, inR, true_and, and_true, ne_eq, not_true_eq_false, not_false_eq_true, true_imp_iff, false_imp_iff, Int.toNat_natCast, lit_a, Nat.reduceAdd, or_true, true_or, or_false, false_or, Int.reduceEq, Int.reduceNe, Int.reduceLT, Int.reduceLE, Int.reduceNeg, sg_nil]))
        all_goals (try omega)
        all_goals
          refine hq _ (fun k h1 h2 h3 h4 => ?_) (fun j hj => ?_) ?_ (fun j => ?_) (fun j => ?_) (fun j => ?_)
          · funext j; simp only [ms_at]; (repeat (first | rw [if_neg (by omega)] | rw [if_pos (by omega)]))
          · simp only [ms_at, true_and, and_true, if_true, Nat.reduceEqDiff, if_false, false_and]; (repeat (first | rw [if_neg (by omega)] | rw [if_pos (by omega)]))
          · simp [ms_at, w10]
          · simp [ms_at]
          · simp [ms_at]
          · simp [ms_at]
    · have hf := bad2 (by omega)
      refine wp_go b47_17 ?_; simp only [l47_17, sg_if_ne, nLg_n, nLg_i, nLg_r, tc_c, tc_l, tc_r, tc_m, tc_n, tc_o, tc_0, inR, true_and, and_true, ne_eq, not_true_eq_false, not_false_eq_true, true_imp_iff, false_imp_iff, Int.toNat_natCast, lit_a, Nat.reduceAdd, or_true, true_or, or_false, false_or, Int.reduceEq, Int.reduceNe, Int.reduceLT, Int.reduceLE, Int.reduceNeg, sg_nil]
      repeat' (first | with_reducible apply And.intro | (intro _) | ((first | refine wp_go b47_0 ?_ | refine wp_go b47_6 ?_ | refine wp_go b47_17 ?_ | refine wp_go b47_20 ?_ | refine wp_go b47_23 ?_ | refine wp_go b47_38 ?_ | refine wp_go b47_49 ?_); simp only [l47_0, l47_6, l47_17, l47_20, l47_23, l47_38, l47_49, sg_iload_1, sg_iconst, len4_0, len4_1, len4_2, len4_3, len4_4, sg_is3_1, sg_if_eq, sg_iload_2, sg_sipush, sg_if_ne, sg_bipush, sg_iret0, sg_aload_0, sg_getfp, sg_getf0, sg_ic_lt, sg_iv2_v, sg_istore_3, sg_iload_3, sg_iastore, sg_bastore, sg_dup_i, sg_dup_r, sg_iadd, sg_putf0, nLg_n, nLg_i, nLg_r, tc_c, tc_l, tc_r, tc_m, tc_n, tc_o, tc_0, inR, true_and, and_true, ne_eq, not_true_eq_false, not_false_eq_true, true_imp_iff, false_imp_iff, Int.toNat_natCast, lit_a, Nat.reduceAdd, or_true, true_or, or_false, false_or, Int.reduceEq, Int.reduceNe, Int.reduceLT, Int.reduceLE, Int.reduceNeg, sg_nil]))
      all_goals (try omega)
      all_goals exact hf
  · have hf := bad2 (by omega)
    refine wp_go b47_6 ?_; simp only [l47_6, sg_if_eq, sg_iload_2, sg_iconst, sg_sipush, len4_0, len4_1, len4_2, len4_3, len4_4, sg_is3_1, nLg_n, nLg_i, nLg_r, tc_c, tc_l, tc_r, tc_m, tc_n, tc_o, tc_0, inR, true_and, and_true, ne_eq, not_true_eq_false, not_false_eq_true, true_imp_iff, false_imp_iff, Int.toNat_natCast, lit_a, Nat.reduceAdd, or_true, true_or, or_false, false_or, Int.reduceEq, Int.reduceNe, Int.reduceLT, Int.reduceLE, Int.reduceNeg, sg_nil]
    repeat' (first | with_reducible apply And.intro | (intro _) | ((first | refine wp_go b47_0 ?_ | refine wp_go b47_6 ?_ | refine wp_go b47_17 ?_ | refine wp_go b47_20 ?_ | refine wp_go b47_23 ?_ | refine wp_go b47_38 ?_ | refine wp_go b47_49 ?_); simp only [l47_0, l47_6, l47_17, l47_20, l47_23, l47_38, l47_49, sg_iload_1, sg_iconst, len4_0, len4_1, len4_2, len4_3, len4_4, sg_is3_1, sg_if_eq, sg_iload_2, sg_sipush, sg_if_ne, sg_bipush, sg_iret0, sg_aload_0, sg_getfp, sg_getf0, sg_ic_lt, sg_iv2_v, sg_istore_3, sg_iload_3, sg_iastore, sg_bastore, sg_dup_i, sg_dup_r, sg_iadd, sg_putf0, nLg_n, nLg_i, nLg_r, tc_c, tc_l, tc_r, tc_m, tc_n, tc_o, tc_0, inR, true_and, and_true, ne_eq, not_true_eq_false, not_false_eq_true, true_imp_iff, false_imp_iff, Int.toNat_natCast, lit_a, Nat.reduceAdd, or_true, true_or, or_false, false_or, Int.reduceEq, Int.reduceNe, Int.reduceLT, Int.reduceLE, Int.reduceNeg, sg_nil]))
    all_goals (try omega)
    all_goals exact hf

