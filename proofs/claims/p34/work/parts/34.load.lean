/-- a file laid or thrown away -/
def ldZ (z : Rw) (l : Nat) (b : Int) : Rw := fun x => if x = 214 + 3 * l then 1 - b else if 230 + 121 * l ≤ x ∧ x < 351 + 121 * l then (if b = 1 then 0 else hrL z l (x - (230 + 121 * l))) else z x
theorem ldZ_o (z : Rw) (l : Nat) (b : Int) {k : Nat} (h1 : k ≠ 214 + 3 * l) (h2 : k < 230 + 121 * l ∨ 351 + 121 * l ≤ k) : ldZ z l b k = z k := by unfold ldZ; rw [if_neg h1, if_neg (by omega)]
theorem ldZ_f (z : Rw) (l : Nat) (h : l < 6) {k : Nat} (hk : k < 121) : fw (ldZ z l 0) l k = hrL z l k := by
  show ldZ z l 0 (230 + 121 * l + k) = _
  unfold ldZ
  rw [if_neg (by omega), if_pos (by omega), if_neg (by omega), show 230 + 121 * l + k - (230 + 121 * l) = k by omega]
theorem ldZ_g (z : Rw) (l : Nat) (h : l < 6) (b : Int) {i k : Nat} (hi : i ≠ l) (h2 : i < 6) (hk : k < 121) : fw (ldZ z l b) i k = fw z i k := ldZ_o z l b (by omega) (by omega)
theorem IZ_ld {z : Rw} {l : Nat} {b : Int} (hz : IZ z) (hl : (l : Int) < z 3) (hb : b = 0 ∨ b = 1) : IZ (ldZ z l b) := by
  have q := hz.1
  have hW := hr_W (g := z (212 + 3 * l)) (b := z (213 + 3 * l)) hz
  have bo : ∀ k, k ≠ 214 + 3 * l → k < 230 → ldZ z l b k = z k := fun k h h2 => ldZ_o z l b h (by omega)
  obtain ⟨h1, h2, h3, h5, h6⟩ := hz
  unfold IZ
  rw [bo 0 (by omega) (by omega), bo 1 (by omega) (by omega), bo 2 (by omega) (by omega), bo 3 (by omega) (by omega), bo 6 (by omega) (by omega)]
  refine ⟨h1, fun i hi => ?_, h3, fun i hi => ?_, fun i hi => ?_⟩
  · rw [bo (4 + 3 * i) (by omega) (by omega), bo (5 + 3 * i) (by omega) (by omega), bo (6 + 3 * i) (by omega) (by omega), bo (76 + 5 * i) (by omega) (by omega)]
    obtain ⟨b1, b2, b3, b4, b5⟩ := h2 i hi
    exact ⟨b1, b2, b3, b4, fun j hj => by rw [bo _ (by omega) (by omega)]; exact b5 j hj⟩
  · rw [bo (196 + 2 * i) (by omega) (by omega), bo (197 + 2 * i) (by omega) (by omega)]; exact h5 i hi
  · rw [bo (212 + 3 * i) (by omega) (by omega), bo (213 + 3 * i) (by omega) (by omega)]
    obtain ⟨b1, b2, b3, b4⟩ := h6 i hi
    by_cases h : i = l
    · subst h
      have e : ldZ z i b (214 + 3 * i) = 1 - b := by unfold ldZ; rw [if_pos rfl]
      rw [e]
      refine ⟨b1, b2, by omega, fun h => ?_⟩
      have hb0 : b = 0 := by omega
      rw [hb0]
      exact WH_c (fun k hk => ldZ_f z i (by omega) hk) hW
    · rw [bo (214 + 3 * i) (by omega) (by omega)]
      exact ⟨b1, b2, b3, fun hh => WH_c (fun k hk => ldZ_g z l (by omega) b h (by omega) hk) (b4 hh)⟩
theorem RC_ld {z : Rw} {μ μ' : Mem} {l : Nat} {b : Int} (hz : IZ z) (hl : (l : Int) < z 3) (hb : b = 0 ∨ b = 1) (hR : RC z μ 1)
    (mo : ∀ k, k ≠ 12 → (k < 14 + 7 * l ∨ 21 + 7 * l ≤ k) → k < 56 → μ' k = μ k) (m12 : ∀ j, μ' 12 j = if j = l then 1 - b else μ 12 j) (mf : b = 0 → HR (hrL z l) μ' (14 + 7 * l)) : RC (ldZ z l b) μ' 1 := by
  have q := hz.1
  have bo : ∀ k, k ≠ 214 + 3 * l → k < 230 → ldZ z l b k = z k := fun k h h2 => ldZ_o z l b h (by omega)
  have mo' : ∀ k, k < 12 → μ' k = μ k := fun k h => mo k (by omega) (by omega) (by omega)
  obtain ⟨⟨c0, c1, c2, c3⟩, h2, h5, h6⟩ := hR
  unfold RC
  rw [bo 0 (by omega) (by omega), bo 1 (by omega) (by omega), bo 2 (by omega) (by omega), bo 3 (by omega) (by omega)]
  refine ⟨⟨by rw [mo' _ (by omega)]; exact c0, by rw [mo' _ (by omega)]; exact c1, by rw [mo' _ (by omega)]; exact c2, by rw [mo' _ (by omega)]; exact c3⟩, fun i hi => ?_, fun i hi => ?_, fun i hi => ?_⟩
  · rw [bo (4 + 3 * i) (by omega) (by omega), bo (5 + 3 * i) (by omega) (by omega), bo (6 + 3 * i) (by omega) (by omega), bo (76 + 5 * i) (by omega) (by omega), mo' (1 + 2) (by omega), mo' (1 + 3) (by omega), mo' (1 + 4) (by omega), mo' (1 + 5) (by omega), mo' (1 + 6) (by omega)]
    obtain ⟨b1, b2, b3, b4, b5⟩ := h2 i hi
    have r := (hz.2.1 i hi).2.2.2.1
    exact ⟨b1, b2, b3, b4, fun j hj => by rw [bo _ (by omega) (by omega)]; exact b5 j hj⟩
  · rw [bo (196 + 2 * i) (by omega) (by omega), bo (197 + 2 * i) (by omega) (by omega), mo' (1 + 7) (by omega), mo' (1 + 8) (by omega)]; exact h5 i hi
  · rw [bo (212 + 3 * i) (by omega) (by omega), bo (213 + 3 * i) (by omega) (by omega), mo' (1 + 9) (by omega), mo' (1 + 10) (by omega), show 1 + 11 = 12 from rfl, m12]
    obtain ⟨b1, b2, b3, b4⟩ := h6 i hi
    by_cases h : i = l
    · subst h
      have e : ldZ z i b (214 + 3 * i) = 1 - b := by unfold ldZ; rw [if_pos rfl]
      rw [e, if_pos rfl]
      refine ⟨b1, b2, rfl, fun h => ?_⟩
      have hb0 : b = 0 := by omega
      subst hb0
      exact HR_c (by show z 0 ≤ 24; omega) (fun k hk => ldZ_f z i (by omega) hk) (mf rfl)
    · rw [bo (214 + 3 * i) (by omega) (by omega), if_neg h]
      refine ⟨b1, b2, b3, fun hh => ?_⟩
      have hW := (hz.2.2.2.2 i hi).2.2.2 hh
      exact HR_c hW.1.2 (fun k hk => ldZ_g z l (by omega) b h (by omega) hk) (HR_f (fun k h1 h2 => mo k (by omega) (by omega) (by omega)) (b4 hh))
-- NS.hearingOf: blocks [0, 22, 31]
theorem k_NS_hearingF {d : Nat} {Q : QT} {μ : Mem} {l : Nat} (l6 : l < 6) (e12 : μ 12 l = 1) (hq : Q (.inr (.inr (14 + 7 * l))) μ) : Call σ1 (d + 4) 63 [.inr (.inr 0), .inl (l : Int)] μ Q := by
  refine e_63 ?_
  refine wp_go b63_0 ?_; simp only [l63_0, sg_aload_0, sg_getfp, sg_iload_1, sg_baload, sg_if_eq, sg_aaload, sg_aret, nLg_n, nLg_i, nLg_r, tc_c, tc_l, tc_r, tc_m, tc_n, tc_o, tc_0, inR, true_and, and_true, ne_eq, not_true_eq_false, not_false_eq_true, true_imp_iff, false_imp_iff, Int.toNat_natCast, lit_a, Nat.reduceAdd, or_true, true_or, or_false, false_or, Int.reduceEq, Int.reduceNe, Int.reduceLT, Int.reduceLE, Int.reduceNeg, sg_nil, s1p, x0, x1, x2, x3, x4, x5, x6, x7, x8, x9, x10, x11, x12, x13, x56, x57, x388, x389, x390, x391, x392, x393, x394, x395, x396, x397, x398, x399, e12]
  repeat' (first | with_reducible apply And.intro | (intro _) | ((first | refine wp_go b63_0 ?_ | refine wp_go b63_22 ?_ | refine wp_go b63_31 ?_); simp only [l63_0, l63_22, l63_31, sg_aload_0, sg_getfp, sg_iload_1, sg_baload, sg_if_eq, sg_aaload, sg_aret, sg_iv3_v, len4_0, len4_1, len4_2, len4_3, len4_4, nLg_n, nLg_i, nLg_r, tc_c, tc_l, tc_r, tc_m, tc_n, tc_o, tc_0, inR, true_and, and_true, ne_eq, not_true_eq_false, not_false_eq_true, true_imp_iff, false_imp_iff, Int.toNat_natCast, lit_a, Nat.reduceAdd, or_true, true_or, or_false, false_or, Int.reduceEq, Int.reduceNe, Int.reduceLT, Int.reduceLE, Int.reduceNeg, sg_nil]))
  all_goals (try omega)
  all_goals exact hq
theorem k_NS_hearingN {d : Nat} {Q : QT} {μ : Mem} {l : Nat} {z : Rw} (hz : IZ z) (hR : R0 z μ 1) (hn0 : μ 2 3 = z 0) (hl : (l : Int) < z 3) (hg : μ 10 l = z (212 + 3 * l)) (hb : μ 11 l = z (213 + 3 * l)) (e12 : μ 12 l = 0)
    (hq : ∀ μ' : Mem, (∀ k, (k < 392 ∨ 400 ≤ k) → μ' k = μ k) → HR (hrL z l) μ' 393 → Q (.inr (.inr 393)) μ') : Call σ1 (d + 4) 63 [.inr (.inr 0), .inl (l : Int)] μ Q := by
  refine e_63 ?_
  have l6 := l6 hz hl
  refine wp_go b63_0 ?_; simp only [l63_0, sg_aload_0, sg_getfp, sg_iload_1, sg_baload, sg_if_eq, sg_aaload, sg_aret, nLg_n, nLg_i, nLg_r, tc_c, tc_l, tc_r, tc_m, tc_n, tc_o, tc_0, inR, true_and, and_true, ne_eq, not_true_eq_false, not_false_eq_true, true_imp_iff, false_imp_iff, Int.toNat_natCast, lit_a, Nat.reduceAdd, or_true, true_or, or_false, false_or, Int.reduceEq, Int.reduceNe, Int.reduceLT, Int.reduceLE, Int.reduceNeg, sg_nil, s1p, x0, x1, x2, x3, x4, x5, x6, x7, x8, x9, x10, x11, x12, x13, x56, x57, x388, x389, x390, x391, x392, x393, x394, x395, x396, x397, x398, x399, e12]
  repeat' (first | with_reducible apply And.intro | intro _)
  all_goals (try omega)
  refine wp_go b63_22 ?_; simp only [l63_22, sg_aload_0, sg_iload_1, sg_getfp, sg_iv3_v, len4_0, len4_1, len4_2, len4_3, len4_4, nLg_n, nLg_i, nLg_r, tc_c, tc_l, tc_r, tc_m, tc_n, tc_o, tc_0, inR, true_and, and_true, ne_eq, not_true_eq_false, not_false_eq_true, true_imp_iff, false_imp_iff, Int.toNat_natCast, lit_a, Nat.reduceAdd, or_true, true_or, or_false, false_or, Int.reduceEq, Int.reduceNe, Int.reduceLT, Int.reduceLE, Int.reduceNeg, sg_nil, s1p, x0, x1, x2, x3, x4, x5, x6, x7, x8, x9, x10, x11, x12, x13, x56, x57, x388, x389, x390, x391, x392, x393, x394, x395, x396, x397, x398, x399]
  refine k_NS_hearNow hz hR hn0 hl hg hb he393 (by omega) (fun μ' f h => ?_)
  have hq := hq μ' (fun k hk => f k (by omega) (by omega)) h
  refine wp_go b63_31 ?_; simp only [l63_31, sg_aload_0, sg_getfp, sg_aret, nLg_n, nLg_i, nLg_r, tc_c, tc_l, tc_r, tc_m, tc_n, tc_o, tc_0, inR, true_and, and_true, ne_eq, not_true_eq_false, not_false_eq_true, true_imp_iff, false_imp_iff, Int.toNat_natCast, lit_a, Nat.reduceAdd, or_true, true_or, or_false, false_or, Int.reduceEq, Int.reduceNe, Int.reduceLT, Int.reduceLE, Int.reduceNeg, sg_nil, s1p, x0, x1, x2, x3, x4, x5, x6, x7, x8, x9, x10, x11, x12, x13, x56, x57, x388, x389, x390, x391, x392, x393, x394, x395, x396, x397, x398, x399]
  exact hq
def c_load (z : Rw) (l b : Int) : Int := if l < 0 ∨ z 3 ≤ l then -1 else if b = 1 ∧ z (214 + 3 * l.toNat) = 0 then -5 else 0
-- NS.load: blocks [0, 8, 13, 32, 43, 59, 60, 79, 84, 87]
theorem k_NS_load {d : Nat} {Q : QT} {μ : Mem} {l b : Int} {z : Rw} {a : Hs} (hz : IZ z) (hR : RC z μ 1) (hC : CRr a μ) (hl : inR l) (hb : b = 0 ∨ b = 1) (hf : c_load z l b < 0 → Q (.inl (c_load z l b)) μ)
    (hq : c_load z l b = 0 → ∀ μ', MF (ldZ z l.toNat b) (hsPush a z) μ μ' → Q (.inl (bt (hrL z l.toNat) (zn z))) μ') : Call σ1 (d + 5) 48 [.inr (.inr 0), .inl l, .inl b] μ Q := by
  refine e_48 ?_
  have q := hz.1
  refine wp_go b48_0 ?_; simp only [l48_0, sg_aload_0, sg_getfp, sg_iload_1, sg_iv2_i, len4_0, len4_1, len4_2, len4_3, len4_4, nLg_n, nLg_i, nLg_r, tc_c, tc_l, tc_r, tc_m, tc_n, tc_o, tc_0, inR, true_and, and_true, ne_eq, not_true_eq_false, not_false_eq_true, true_imp_iff, false_imp_iff, Int.toNat_natCast, lit_a, Nat.reduceAdd, or_true, true_or, or_false, false_or, Int.reduceEq, Int.reduceNe, Int.reduceLT, Int.reduceLE, Int.reduceNeg, sg_nil, s1p, x0, x1, x2, x3, x4, x5, x6, x7, x8, x9, x10, x11, x12, x13, x56, x57, x388, x389, x390, x391, x392, x393, x394, x395, x396, x397, x398, x399]
  refine k_Sta_hasListener st1 hR hz hl (fun h1 h2 => ?_) (fun h0 => ?_)
  · obtain ⟨n, rfl⟩ := nat_of h1
    have l6 := l6 hz h2
    rw [Int.toNat_natCast] at hq
    obtain ⟨e10, e11, e12, -⟩ := hR.2.2.2 n h2
    have e12 : μ 12 n = z (214 + 3 * n) := e12
    have z01 := (hz.2.2.2.2 n h2).2.2.1
    have hW := hr_W (g := z (212 + 3 * n)) (b := z (213 + 3 * n)) hz
    have e0 := zn_eq hz
    by_cases hg : b = 1 ∧ z (214 + 3 * n) = 0
    · have ec : c_load z (n : Int) b = -5 := by unfold c_load; rw [if_neg (by omega), Int.toNat_natCast, if_pos hg]
      rw [ec] at hf
      have hf := hf (by omega)
      rw [hg.2] at e12
      refine wp_go b48_8 ?_; simp only [l48_8, sg_if_ne, sg_iconst, sg_iret0, nLg_n, nLg_i, nLg_r, tc_c, tc_l, tc_r, tc_m, tc_n, tc_o, tc_0, inR, true_and, and_true, ne_eq, not_true_eq_false, not_false_eq_true, true_imp_iff, false_imp_iff, Int.toNat_natCast, lit_a, Nat.reduceAdd, or_true, true_or, or_false, false_or, Int.reduceEq, Int.reduceNe, Int.reduceLT, Int.reduceLE, Int.reduceNeg, sg_nil]
      repeat' (first | with_reducible apply And.intro | intro _)
      all_goals (try omega)
      refine wp_go b48_13 ?_; simp only [l48_13, sg_iload_2, sg_if_eq, sg_aload_0, sg_getfp, sg_iload_1, sg_baload, sg_if_ne, sg_bipush, sg_iret0, nLg_n, nLg_i, nLg_r, tc_c, tc_l, tc_r, tc_m, tc_n, tc_o, tc_0, inR, true_and, and_true, ne_eq, not_true_eq_false, not_false_eq_true, true_imp_iff, false_imp_iff, Int.toNat_natCast, lit_a, Nat.reduceAdd, or_true, true_or, or_false, false_or, Int.reduceEq, Int.reduceNe, Int.reduceLT, Int.reduceLE, Int.reduceNeg, sg_nil, s1p, x0, x1, x2, x3, x4, x5, x6, x7, x8, x9, x10, x11, x12, x13, x56, x57, x388, x389, x390, x391, x392, x393, x394, x395, x396, x397, x398, x399, e12]
      repeat' (first | with_reducible apply And.intro | (intro _) | ((first | refine wp_go b48_0 ?_ | refine wp_go b48_8 ?_ | refine wp_go b48_13 ?_ | refine wp_go b48_32 ?_ | refine wp_go b48_43 ?_ | refine wp_go b48_59 ?_ | refine wp_go b48_60 ?_ | refine wp_go b48_79 ?_ | refine wp_go b48_84 ?_ | refine wp_go b48_87 ?_); simp only [l48_0, l48_8, l48_13, l48_32, l48_43, l48_59, l48_60, l48_79, l48_84, l48_87, sg_aload_0, sg_getfp, sg_iload_1, sg_iv2_i, len4_0, len4_1, len4_2, len4_3, len4_4, sg_if_ne, sg_iconst, sg_iret0, sg_iload_2, sg_if_eq, sg_baload, sg_bipush, sg_iv2_v, sg_goto, sg_bastore, sg_aaload, sg_iv3_v, sg_iv2_r, sg_iv1_i, nLg_n, nLg_i, nLg_r, tc_c, tc_l, tc_r, tc_m, tc_n, tc_o, tc_0, inR, true_and, and_true, ne_eq, not_true_eq_false, not_false_eq_true, true_imp_iff, false_imp_iff, Int.toNat_natCast, lit_a, Nat.reduceAdd, or_true, true_or, or_false, false_or, Int.reduceEq, Int.reduceNe, Int.reduceLT, Int.reduceLE, Int.reduceNeg, sg_nil]))
      all_goals (try omega)
      all_goals exact hf
    · have ec : c_load z (n : Int) b = 0 := by unfold c_load; rw [if_neg (by omega), Int.toNat_natCast, if_neg hg]
      have hq := hq ec
      have go : wp σ1 (Call σ1 (d + 4)) 48 Q 32 [some (.inr (.inr 0)), some (.inl (n : Int)), some (.inl b)] [] μ := by
        refine wp_go b48_32 ?_; simp only [l48_32, sg_aload_0, sg_getfp, sg_iv2_v, len4_0, len4_1, len4_2, len4_3, len4_4, nLg_n, nLg_i, nLg_r, tc_c, tc_l, tc_r, tc_m, tc_n, tc_o, tc_0, inR, true_and, and_true, ne_eq, not_true_eq_false, not_false_eq_true, true_imp_iff, false_imp_iff, Int.toNat_natCast, lit_a, Nat.reduceAdd, or_true, true_or, or_false, false_or, Int.reduceEq, Int.reduceNe, Int.reduceLT, Int.reduceLE, Int.reduceNeg, sg_nil, s1p, x0, x1, x2, x3, x4, x5, x6, x7, x8, x9, x10, x11, x12, x13, x56, x57, x388, x389, x390, x391, x392, x393, x394, x395, x396, x397, x398, x399]
        refine k_His_keep hz hR hC (fun μ1 f1 C1 => ?_)
        have R1 := keep_R hz f1 hR
        obtain ⟨w10, w11, w12, -⟩ := R1.2.2.2 n h2
        have w10 : μ1 10 n = z (212 + 3 * n) := w10
        have w11 : μ1 11 n = z (213 + 3 * n) := w11
        have fin : ∀ (μ3 : Mem) (h : Nat), iHea σ1 h → HR (hrL z n) μ3 h → MF (ldZ z n b) (hsPush a z) μ μ3 → wp σ1 (Call σ1 (d + 4)) 48 Q 84 [some (.inr (.inr 0)), some (.inl (n : Int)), some (.inl b)] [.inr (.inr h)] μ3 := fun μ3 h hH H m => by
          have hq := hq μ3 m
          refine wp_go b48_84 ?_; simp only [l48_84, sg_iv1_i, len4_0, len4_1, len4_2, len4_3, len4_4, nLg_n, nLg_i, nLg_r, tc_c, tc_l, tc_r, tc_m, tc_n, tc_o, tc_0, inR, true_and, and_true, ne_eq, not_true_eq_false, not_false_eq_true, true_imp_iff, false_imp_iff, Int.toNat_natCast, lit_a, Nat.reduceAdd, or_true, true_or, or_false, false_or, Int.reduceEq, Int.reduceNe, Int.reduceLT, Int.reduceLE, Int.reduceNeg, sg_nil, hH.1]
          refine k_Hea_total hH H (by show z 0 ≤ 24; omega) e0.1 ?_
          refine wp_go b48_87 ?_; simp only [l48_87, sg_iret0, nLg_n, nLg_i, nLg_r, tc_c, tc_l, tc_r, tc_m, tc_n, tc_o, tc_0, inR, true_and, and_true, ne_eq, not_true_eq_false, not_false_eq_true, true_imp_iff, false_imp_iff, Int.toNat_natCast, lit_a, Nat.reduceAdd, or_true, true_or, or_false, false_or, Int.reduceEq, Int.reduceNe, Int.reduceLT, Int.reduceLE, Int.reduceNeg, sg_nil]
          exact hq
        have mo1 : ∀ v k, k ≠ 12 → ms μ1 12 n v k = μ1 k := fun v k h => by funext j; simp only [ms_at]; (repeat (first | rw [if_neg (by omega)] | rw [if_pos (by omega)]))
        have m12 : ∀ v j, ms μ1 12 n v 12 j = if j = n then v else μ1 12 j := fun v j => by simp [ms_at]
        rcases hb with rfl | rfl
        · have go2 : Call σ1 (d + 4) 64 [.inr (.inr 0), .inl (n : Int), .inr (.inr (14 + 7 * n))] (ms μ1 12 n 1) (fun _ μ' => wp σ1 (Call σ1 (d + 4)) 48 Q 79 [some (.inr (.inr 0)), some (.inl (n : Int)), some (.inl 0)] [] μ') := by
            refine k_NS_hearNow hz (R0_f (fun k _ _ => mo1 _ k (by omega)) R1.r0) (by rw [mo1 _ 2 (by omega)]; exact R1.1.1) h2 (by rw [mo1 _ 10 (by omega)]; exact w10) (by rw [mo1 _ 11 (by omega)]; exact w11) (heF n l6) (by omega) (fun μ3 f3 H3 => ?_)
            have e3 : μ3 12 n = 1 := by rw [f3 12 (by omega) (by omega), m12, if_pos rfl]
            have R3 : RC (ldZ z n 0) μ3 1 := RC_ld hz h2 (Or.inl rfl) R1 (fun k h1 h2 h3 => by rw [f3 k (by omega) (by omega), mo1 _ k h1]) (fun j => by rw [f3 12 (by omega) (by omega), m12]; rfl) (fun _ => H3)
            refine wp_go b48_79 ?_; simp only [l48_79, sg_aload_0, sg_iload_1, sg_iv2_r, len4_0, len4_1, len4_2, len4_3, len4_4, nLg_n, nLg_i, nLg_r, tc_c, tc_l, tc_r, tc_m, tc_n, tc_o, tc_0, inR, true_and, and_true, ne_eq, not_true_eq_false, not_false_eq_true, true_imp_iff, false_imp_iff, Int.toNat_natCast, lit_a, Nat.reduceAdd, or_true, true_or, or_false, false_or, Int.reduceEq, Int.reduceNe, Int.reduceLT, Int.reduceLE, Int.reduceNeg, sg_nil, s1p, x0, x1, x2, x3, x4, x5, x6, x7, x8, x9, x10, x11, x12, x13, x56, x57, x388, x389, x390, x391, x392, x393, x394, x395, x396, x397, x398, x399]
            refine k_NS_hearingF l6 e3 ?_
            exact fin μ3 _ (heF n l6) H3 ⟨fun k hk => by rw [f3 k (by omega) (by omega), mo1 _ k (by omega), f1 k (by omega)], R3, CRr_f (fun k hk => by rw [f3 k (by omega) (by omega), mo1 _ k (by omega)]) C1⟩
          refine wp_go b48_43 ?_; simp only [l48_43, sg_aload_0, sg_getfp, sg_iload_1, sg_iload_2, sg_if_ne, sg_iconst, sg_goto, nLg_n, nLg_i, nLg_r, tc_c, tc_l, tc_r, tc_m, tc_n, tc_o, tc_0, inR, true_and, and_true, ne_eq, not_true_eq_false, not_false_eq_true, true_imp_iff, false_imp_iff, Int.toNat_natCast, lit_a, Nat.reduceAdd, or_true, true_or, or_false, false_or, Int.reduceEq, Int.reduceNe, Int.reduceLT, Int.reduceLE, Int.reduceNeg, sg_nil, s1p, x0, x1, x2, x3, x4, x5, x6, x7, x8, x9, x10, x11, x12, x13, x56, x57, x388, x389, x390, x391, x392, x393, x394, x395, x396, x397, x398, x399]
          repeat' (first | with_reducible apply And.intro | (intro _) | ((first | refine wp_go b48_0 ?_ | refine wp_go b48_8 ?_ | refine wp_go b48_13 ?_ | refine wp_go b48_32 ?_ | refine wp_go b48_43 ?_ | refine wp_go b48_59 ?_ | refine wp_go b48_60 ?_ | refine wp_go b48_79 ?_ | refine wp_go b48_84 ?_ | refine wp_go b48_87 ?_); simp only [l48_0, l48_8, l48_13, l48_32, l48_43, l48_59, l48_60, l48_79, l48_84, l48_87, sg_aload_0, sg_getfp, sg_iload_1, sg_iv2_i, len4_0, len4_1, len4_2, len4_3, len4_4, sg_if_ne, sg_iconst, sg_iret0, sg_iload_2, sg_if_eq, sg_baload, sg_bipush, sg_iv2_v, sg_goto, sg_bastore, sg_aaload, sg_iv3_v, sg_iv2_r, sg_iv1_i, nLg_n, nLg_i, nLg_r, tc_c, tc_l, tc_r, tc_m, tc_n, tc_o, tc_0, inR, true_and, and_true, ne_eq, not_true_eq_false, not_false_eq_true, true_imp_iff, false_imp_iff, Int.toNat_natCast, lit_a, Nat.reduceAdd, or_true, true_or, or_false, false_or, Int.reduceEq, Int.reduceNe, Int.reduceLT, Int.reduceLE, Int.reduceNeg, sg_nil, s1p, x0, x1, x2, x3, x4, x5, x6, x7, x8, x9, x10, x11, x12, x13, x56, x57, x388, x389, x390, x391, x392, x393, x394, x395, x396, x397, x398, x399]))
          all_goals (try omega)
          all_goals exact go2
        · have go2 : wp σ1 (Call σ1 (d + 4)) 48 Q 79 [some (.inr (.inr 0)), some (.inl (n : Int)), some (.inl 1)] [] (ms μ1 12 n 0) := by
            refine wp_go b48_79 ?_; simp only [l48_79, sg_aload_0, sg_iload_1, sg_iv2_r, len4_0, len4_1, len4_2, len4_3, len4_4, nLg_n, nLg_i, nLg_r, tc_c, tc_l, tc_r, tc_m, tc_n, tc_o, tc_0, inR, true_and, and_true, ne_eq, not_true_eq_false, not_false_eq_true, true_imp_iff, false_imp_iff, Int.toNat_natCast, lit_a, Nat.reduceAdd, or_true, true_or, or_false, false_or, Int.reduceEq, Int.reduceNe, Int.reduceLT, Int.reduceLE, Int.reduceNeg, sg_nil, s1p, x0, x1, x2, x3, x4, x5, x6, x7, x8, x9, x10, x11, x12, x13, x56, x57, x388, x389, x390, x391, x392, x393, x394, x395, x396, x397, x398, x399]
            refine k_NS_hearingN hz (R0_f (fun k _ _ => mo1 _ k (by omega)) R1.r0) (by rw [mo1 _ 2 (by omega)]; exact R1.1.1) h2 (by rw [mo1 _ 10 (by omega)]; exact w10) (by rw [mo1 _ 11 (by omega)]; exact w11) (by rw [m12, if_pos rfl]) (fun μ3 f3 H3 => ?_)
            have R3 : RC (ldZ z n 1) μ3 1 := RC_ld hz h2 (Or.inr rfl) R1 (fun k h1 h2 h3 => by rw [f3 k (by omega), mo1 _ k h1]) (fun j => by rw [f3 12 (by omega), m12]; rfl) (fun h => absurd h (by omega))
            exact fin μ3 _ he393 H3 ⟨fun k hk => by rw [f3 k (by omega), mo1 _ k (by omega), f1 k (by omega)], R3, CRr_f (fun k hk => by rw [f3 k (by omega), mo1 _ k (by omega)]) C1⟩
          refine wp_go b48_43 ?_; simp only [l48_43, sg_aload_0, sg_getfp, sg_iload_1, sg_iload_2, sg_if_ne, sg_iconst, sg_goto, nLg_n, nLg_i, nLg_r, tc_c, tc_l, tc_r, tc_m, tc_n, tc_o, tc_0, inR, true_and, and_true, ne_eq, not_true_eq_false, not_false_eq_true, true_imp_iff, false_imp_iff, Int.toNat_natCast, lit_a, Nat.reduceAdd, or_true, true_or, or_false, false_or, Int.reduceEq, Int.reduceNe, Int.reduceLT, Int.reduceLE, Int.reduceNeg, sg_nil, s1p, x0, x1, x2, x3, x4, x5, x6, x7, x8, x9, x10, x11, x12, x13, x56, x57, x388, x389, x390, x391, x392, x393, x394, x395, x396, x397, x398, x399]
          refine wp_go b48_59 ?_; simp only [l48_59, sg_iconst, nLg_n, nLg_i, nLg_r, tc_c, tc_l, tc_r, tc_m, tc_n, tc_o, tc_0, inR, true_and, and_true, ne_eq, not_true_eq_false, not_false_eq_true, true_imp_iff, false_imp_iff, Int.toNat_natCast, lit_a, Nat.reduceAdd, or_true, true_or, or_false, false_or, Int.reduceEq, Int.reduceNe, Int.reduceLT, Int.reduceLE, Int.reduceNeg, sg_nil]
          refine wp_go b48_60 ?_; simp only [l48_60, sg_bastore, sg_iload_2, sg_if_ne, sg_aload_0, sg_iload_1, sg_getfp, sg_aaload, sg_iv3_v, len4_0, len4_1, len4_2, len4_3, len4_4, nLg_n, nLg_i, nLg_r, tc_c, tc_l, tc_r, tc_m, tc_n, tc_o, tc_0, inR, true_and, and_true, ne_eq, not_true_eq_false, not_false_eq_true, true_imp_iff, false_imp_iff, Int.toNat_natCast, lit_a, Nat.reduceAdd, or_true, true_or, or_false, false_or, Int.reduceEq, Int.reduceNe, Int.reduceLT, Int.reduceLE, Int.reduceNeg, sg_nil, s1p, x0, x1, x2, x3, x4, x5, x6, x7, x8, x9, x10, x11, x12, x13, x56, x57, x388, x389, x390, x391, x392, x393, x394, x395, x396, x397, x398, x399]
          repeat' (first | with_reducible apply And.intro | intro _)
          all_goals (try omega)
      refine wp_go b48_8 ?_; simp only [l48_8, sg_if_ne, sg_iconst, sg_iret0, nLg_n, nLg_i, nLg_r, tc_c, tc_l, tc_r, tc_m, tc_n, tc_o, tc_0, inR, true_and, and_true, ne_eq, not_true_eq_false, not_false_eq_true, true_imp_iff, false_imp_iff, Int.toNat_natCast, lit_a, Nat.reduceAdd, or_true, true_or, or_false, false_or, Int.reduceEq, Int.reduceNe, Int.reduceLT, Int.reduceLE, Int.reduceNeg, sg_nil]
      repeat' (first | with_reducible apply And.intro | intro _)
      all_goals (try omega)
      rcases hb with rfl | rfl
      · refine wp_go b48_13 ?_; simp only [l48_13, sg_iload_2, sg_if_eq, sg_aload_0, sg_getfp, sg_iload_1, sg_baload, sg_if_ne, sg_bipush, sg_iret0, nLg_n, nLg_i, nLg_r, tc_c, tc_l, tc_r, tc_m, tc_n, tc_o, tc_0, inR, true_and, and_true, ne_eq, not_true_eq_false, not_false_eq_true, true_imp_iff, false_imp_iff, Int.toNat_natCast, lit_a, Nat.reduceAdd, or_true, true_or, or_false, false_or, Int.reduceEq, Int.reduceNe, Int.reduceLT, Int.reduceLE, Int.reduceNeg, sg_nil, s1p, x0, x1, x2, x3, x4, x5, x6, x7, x8, x9, x10, x11, x12, x13, x56, x57, x388, x389, x390, x391, x392, x393, x394, x395, x396, x397, x398, x399, e12]
        exact go
      · have e12 : μ 12 n = 1 := by omega
        refine wp_go b48_13 ?_; simp only [l48_13, sg_iload_2, sg_if_eq, sg_aload_0, sg_getfp, sg_iload_1, sg_baload, sg_if_ne, sg_bipush, sg_iret0, nLg_n, nLg_i, nLg_r, tc_c, tc_l, tc_r, tc_m, tc_n, tc_o, tc_0, inR, true_and, and_true, ne_eq, not_true_eq_false, not_false_eq_true, true_imp_iff, false_imp_iff, Int.toNat_natCast, lit_a, Nat.reduceAdd, or_true, true_or, or_false, false_or, Int.reduceEq, Int.reduceNe, Int.reduceLT, Int.reduceLE, Int.reduceNeg, sg_nil, s1p, x0, x1, x2, x3, x4, x5, x6, x7, x8, x9, x10, x11, x12, x13, x56, x57, x388, x389, x390, x391, x392, x393, x394, x395, x396, x397, x398, x399, e12]
        repeat' (first | with_reducible apply And.intro | intro _)
        all_goals (try omega)
  · have ec : c_load z l b = -1 := by unfold c_load; rw [if_pos (by omega)]
    rw [ec] at hf
    have hf := hf (by omega)
    refine wp_go b48_8 ?_; simp only [l48_8, sg_if_ne, sg_iconst, sg_iret0, nLg_n, nLg_i, nLg_r, tc_c, tc_l, tc_r, tc_m, tc_n, tc_o, tc_0, inR, true_and, and_true, ne_eq, not_true_eq_false, not_false_eq_true, true_imp_iff, false_imp_iff, Int.toNat_natCast, lit_a, Nat.reduceAdd, or_true, true_or, or_false, false_or, Int.reduceEq, Int.reduceNe, Int.reduceLT, Int.reduceLE, Int.reduceNeg, sg_nil]
    repeat' (first | with_reducible apply And.intro | (intro _) | ((first | refine wp_go b48_0 ?_ | refine wp_go b48_8 ?_ | refine wp_go b48_13 ?_ | refine wp_go b48_32 ?_ | refine wp_go b48_43 ?_ | refine wp_go b48_59 ?_ | refine wp_go b48_60 ?_ | refine wp_go b48_79 ?_ | refine wp_go b48_84 ?_ | refine wp_go b48_87 ?_); simp only [l48_0, l48_8, l48_13, l48_32, l48_43, l48_59, l48_60, l48_79, l48_84, l48_87, sg_aload_0, sg_getfp, sg_iload_1, sg_iv2_i, len4_0, len4_1, len4_2, len4_3, len4_4, sg_if_ne, sg_iconst, sg_iret0, sg_iload_2, sg_if_eq, sg_baload, sg_bipush, sg_iv2_v, sg_goto, sg_bastore, sg_aaload, sg_iv3_v, sg_iv2_r, sg_iv1_i, nLg_n, nLg_i, nLg_r, tc_c, tc_l, tc_r, tc_m, tc_n, tc_o, tc_0, inR, true_and, and_true, ne_eq, not_true_eq_false, not_false_eq_true, true_imp_iff, false_imp_iff, Int.toNat_natCast, lit_a, Nat.reduceAdd, or_true, true_or, or_false, false_or, Int.reduceEq, Int.reduceNe, Int.reduceLT, Int.reduceLE, Int.reduceNeg, sg_nil]))
    all_goals (try omega)
    all_goals exact hf

