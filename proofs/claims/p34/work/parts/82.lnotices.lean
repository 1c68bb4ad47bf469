/-! THE LAW'S notices -/
theorem exI_i {p : Nat → Bool} (n : Nat) : exI p n = 0 ∨ exI p n = 1 := exI_01 n
-- the law's notices: blocks [0, 12, 18, 30, 37, 50, 55, 63, 85, 89, 90, 98, 109, 110, 119, 122, 129, 138, 147, 163, 167, 171, 172, 180, 191, 192, 201, 207, 218, 223, 225, 231]
theorem nt_hears {y : Nat → Int} {L d na V W t : Nat} {len : Nat → Nat} {Q : QT} {μ : Mem} {z : Rw} {g b : Int} {l4 l5 l6 : Int} (hz : IZ z) (ht : (t : Int) < z 2) (hVW : VW na len V W) (hN : NV z g b V W (zn z) μ)
    (fin : wp2 y L 2 (Call2 y L (d + 1)) 6 Q (2, na, len) 98 [some (.inr (.inr 0)), some (.inr (.inr V)), some (.inr (.inr W)), some (.inl (t : Int)), some (.inl l4), some (.inl l5), some (.inl l6), some (.inl (z 0)), some (.inl (exI (fun s => decide (ch z g b s = (t : Int))) (zn z))), some (.inl (zn z : Int))] [] μ) :
    ∀ j s : Nat, s + j = zn z → wp2 y L 2 (Call2 y L (d + 1)) 6 Q (2, na, len) 63 [some (.inr (.inr 0)), some (.inr (.inr V)), some (.inr (.inr W)), some (.inl (t : Int)), some (.inl l4), some (.inl l5), some (.inl l6), some (.inl (z 0)), some (.inl (exI (fun s => decide (ch z g b s = (t : Int))) s)), some (.inl (s : Int))] [] μ := by
  obtain ⟨hV1, hW1, hVl, hWl, hne⟩ := hVW
  have ez := zn_eq hz
  have q0 := hz.1
  intro j
  induction j with
  | zero =>
    intro s hj
    obtain rfl : s = zn z := by omega
    refine wp2_go w6_63 ?_; simp only [v6_63, tg_iload, ldI_9, ldI_7, tg_ic_ge, ldI_8, tg_if_ne, tg_aload_1, tg_iconst, tg_imul, tg_iaload, tg_iload_3, tg_ic_ne, nLg_n, nLg_i, nLg_r, tc_c, tc_l, tc_r, tc_m, tc_n, tc_o, tc_0, inR, true_and, and_true, ne_eq, not_true_eq_false, not_false_eq_true, true_imp_iff, false_imp_iff, lit_a, Nat.reduceAdd, or_true, true_or, or_false, false_or, Int.reduceEq, Int.reduceNe, Int.reduceLT, Int.reduceLE, Int.reduceNeg, Int.toNat_natCast, tg_nil, eq_self, lc0n, lc1n, lc2n, lc3n, lc4n, lc5n, lc6n, lc1i, lc2i, lc3i, lc4i, lc5i, lc6i, lc1r, lc2r, lc3r, lc4r, lc5r, lc6r, Nat.add_zero, hVl]
    repeat' (first | with_reducible apply And.intro | intro _)
    all_goals (try omega)
    all_goals exact fin
  | succ j ih =>
    intro s hj
    obtain ⟨N1, -, -, -⟩ := hN s (by omega)
    have c1 := ch_in (g := g) (b := b) hz (s := s) (by omega)
    have ih := ih (s + 1) (by omega)
    have x1 := exI_i (p := fun s => decide (ch z g b s = (t : Int))) s
    rw [exI_s] at ih
    have p85 : (decide (ch z g b s = (t : Int)) = true ∨ exI (fun s => decide (ch z g b s = (t : Int))) s = 1) → wp2 y L 2 (Call2 y L (d + 1)) 6 Q (2, na, len) 85 [some (.inr (.inr 0)), some (.inr (.inr V)), some (.inr (.inr W)), some (.inl (t : Int)), some (.inl l4), some (.inl l5), some (.inl l6), some (.inl (z 0)), some (.inl (exI (fun s => decide (ch z g b s = (t : Int))) s)), some (.inl (s : Int))] [] μ := by
      intro hc
      refine wp2_go w6_85 ?_; simp only [v6_85, tg_iconst, tg_goto, nLg_n, nLg_i, nLg_r, tc_c, tc_l, tc_r, tc_m, tc_n, tc_o, tc_0, inR, true_and, and_true, ne_eq, not_true_eq_false, not_false_eq_true, true_imp_iff, false_imp_iff, lit_a, Nat.reduceAdd, or_true, true_or, or_false, false_or, Int.reduceEq, Int.reduceNe, Int.reduceLT, Int.reduceLE, Int.reduceNeg, Int.toNat_natCast, tg_nil, eq_self, lc0n, lc1n, lc2n, lc3n, lc4n, lc5n, lc6n, lc1i, lc2i, lc3i, lc4i, lc5i, lc6i, lc1r, lc2r, lc3r, lc4r, lc5r, lc6r, Nat.add_zero]
      refine wp2_go w6_90 ?_; simp only [v6_90, tg_istore, okS_8, stL_8, tg_iinc, ldI_9, okS_9, stL_9, tg_goto, nLg_n, nLg_i, nLg_r, tc_c, tc_l, tc_r, tc_m, tc_n, tc_o, tc_0, inR, true_and, and_true, ne_eq, not_true_eq_false, not_false_eq_true, true_imp_iff, false_imp_iff, lit_a, Nat.reduceAdd, or_true, true_or, or_false, false_or, Int.reduceEq, Int.reduceNe, Int.reduceLT, Int.reduceLE, Int.reduceNeg, Int.toNat_natCast, tg_nil, eq_self, lc0n, lc1n, lc2n, lc3n, lc4n, lc5n, lc6n, lc1i, lc2i, lc3i, lc4i, lc5i, lc6i, lc1r, lc2r, lc3r, lc4r, lc5r, lc6r, Nat.add_zero]
      repeat' (first | with_reducible apply And.intro | intro _)
      all_goals (try omega)
      rcases hc with hc | hc
      · rw [if_pos hc] at ih
        exact ih
      · rw [hc] at ih
        rw [ite_self] at ih
        exact ih
    generalize hx : exI (fun s => decide (ch z g b s = (t : Int))) s = x at *
    refine wp2_go w6_63 ?_; simp only [v6_63, tg_iload, ldI_9, ldI_7, tg_ic_ge, ldI_8, tg_if_ne, tg_aload_1, tg_iconst, tg_imul, tg_iaload, tg_iload_3, tg_ic_ne, nLg_n, nLg_i, nLg_r, tc_c, tc_l, tc_r, tc_m, tc_n, tc_o, tc_0, inR, true_and, and_true, ne_eq, not_true_eq_false, not_false_eq_true, true_imp_iff, false_imp_iff, lit_a, Nat.reduceAdd, or_true, true_or, or_false, false_or, Int.reduceEq, Int.reduceNe, Int.reduceLT, Int.reduceLE, Int.reduceNeg, Int.toNat_natCast, tg_nil, eq_self, lc0n, lc1n, lc2n, lc3n, lc4n, lc5n, lc6n, lc1i, lc2i, lc3i, lc4i, lc5i, lc6i, lc1r, lc2r, lc3r, lc4r, lc5r, lc6r, Nat.add_zero, hVl, N1]
    repeat' (first | with_reducible apply And.intro | intro _)
    all_goals (try omega)
    · rename_i h1 h2 h3
      exact p85 (Or.inl (decide_eq_true h3))
    · rename_i h1 h2 h3
      refine wp2_go w6_89 ?_; simp only [v6_89, tg_iconst, nLg_n, nLg_i, nLg_r, tc_c, tc_l, tc_r, tc_m, tc_n, tc_o, tc_0, inR, true_and, and_true, ne_eq, not_true_eq_false, not_false_eq_true, true_imp_iff, false_imp_iff, lit_a, Nat.reduceAdd, or_true, true_or, or_false, false_or, Int.reduceEq, Int.reduceNe, Int.reduceLT, Int.reduceLE, Int.reduceNeg, Int.toNat_natCast, tg_nil, eq_self, lc0n, lc1n, lc2n, lc3n, lc4n, lc5n, lc6n, lc1i, lc2i, lc3i, lc4i, lc5i, lc6i, lc1r, lc2r, lc3r, lc4r, lc5r, lc6r, Nat.add_zero]
      refine wp2_go w6_90 ?_; simp only [v6_90, tg_istore, okS_8, stL_8, tg_iinc, ldI_9, okS_9, stL_9, tg_goto, nLg_n, nLg_i, nLg_r, tc_c, tc_l, tc_r, tc_m, tc_n, tc_o, tc_0, inR, true_and, and_true, ne_eq, not_true_eq_false, not_false_eq_true, true_imp_iff, false_imp_iff, lit_a, Nat.reduceAdd, or_true, true_or, or_false, false_or, Int.reduceEq, Int.reduceNe, Int.reduceLT, Int.reduceLE, Int.reduceNeg, Int.toNat_natCast, tg_nil, eq_self, lc0n, lc1n, lc2n, lc3n, lc4n, lc5n, lc6n, lc1i, lc2i, lc3i, lc4i, lc5i, lc6i, lc1r, lc2r, lc3r, lc4r, lc5r, lc6r, Nat.add_zero]
      repeat' (first | with_reducible apply And.intro | intro _)
      all_goals (try omega)
      rw [if_neg (by rw [decide_eq_true_eq]; exact h3)] at ih
      obtain rfl : x = 0 := by omega
      exact ih
    · exact p85 (Or.inr (by omega))
theorem Fq_q {z : Rw} {V W : Nat} {μ0 μ μ' : Mem} (h : Fq z V W μ0 μ) (h2 : Fz z μ μ') : Fq z V W μ0 μ' := ⟨h2.1, fun k a b c => (h2.2 k a).trans (h.2 k a b c)⟩
theorem nt_brk {y : Nat → Int} {L d na V W t s : Nat} {len : Nat → Nat} {Q : QT} {μ0 : Mem} {z : Rw} {l4 l5 : Int} {X9 : Option MV} (hz : IZ z) (hs : (s : Int) < z 0) (ht : (t : Int) < z 2)
    (fin : ∀ (μ : Mem) (X8 : Option MV), nLg X8 → Fq z V W μ0 μ → wp2 y L 2 (Call2 y L (d + 1)) 6 Q (2, na, len) 180 [some (.inr (.inr 0)), some (.inr (.inr V)), some (.inr (.inr W)), some (.inl (t : Int)), some (.inl l4), some (.inl l5), some (.inl (s : Int)), some (.inl (brk z (t : Int) s)), X8, X9] [] μ) :
    ∀ j i : Nat, ((i + j : Nat) : Int) = z (76 + 5 * s) → ∀ (μ : Mem), Fq z V W μ0 μ → wp2 y L 2 (Call2 y L (d + 1)) 6 Q (2, na, len) 138 [some (.inr (.inr 0)), some (.inr (.inr V)), some (.inr (.inr W)), some (.inl (t : Int)), some (.inl l4), some (.inl l5), some (.inl (s : Int)), some (.inl (exI (fun j => decide (z (77 + 5 * s + j) = (t : Int))) i)), some (.inl (i : Int)), X9] [] μ := by
  have q0 := hz.1
  have hr4 := (hz.2.1 s hs).2.2.2.1
  have hrow := (hz.2.1 s hs).2.2.2.2
  intro j
  induction j with
  | zero =>
    intro i hi μ hF
    have eb : exI (fun j => decide (z (77 + 5 * s + j) = (t : Int))) i = brk z (t : Int) s := by
      unfold brk
      rw [← hi, Int.toNat_natCast]
      rfl
    rw [eb]
    refine wp2_go w6_138 ?_; simp only [v6_138, tg_iload, ldI_8, tg_aload_0, ldI_6, tg_iconst, tg_iv3, nLg_n, nLg_i, nLg_r, tc_c, tc_l, tc_r, tc_m, tc_n, tc_o, tc_0, inR, true_and, and_true, ne_eq, not_true_eq_false, not_false_eq_true, true_imp_iff, false_imp_iff, lit_a, Nat.reduceAdd, or_true, true_or, or_false, false_or, Int.reduceEq, Int.reduceNe, Int.reduceLT, Int.reduceLE, Int.reduceNeg, Int.toNat_natCast, tg_nil, eq_self, lc0n, lc1n, lc2n, lc3n, lc4n, lc5n, lc6n, lc1i, lc2i, lc3i, lc4i, lc5i, lc6i, lc1r, lc2r, lc3r, lc4r, lc5r, lc6r, Nat.add_zero]
    refine q_sen5 (Fz_r hF.1) hs (fun μ' hF2 => ?_)
    refine wp2_go w6_147 ?_; simp only [v6_147, tg_ic_ge, tg_iload, ldI_7, tg_if_ne, tg_aload_0, ldI_6, ldI_8, tg_iv3, nLg_n, nLg_i, nLg_r, tc_c, tc_l, tc_r, tc_m, tc_n, tc_o, tc_0, inR, true_and, and_true, ne_eq, not_true_eq_false, not_false_eq_true, true_imp_iff, false_imp_iff, lit_a, Nat.reduceAdd, or_true, true_or, or_false, false_or, Int.reduceEq, Int.reduceNe, Int.reduceLT, Int.reduceLE, Int.reduceNeg, Int.toNat_natCast, tg_nil, eq_self, lc0n, lc1n, lc2n, lc3n, lc4n, lc5n, lc6n, lc1i, lc2i, lc3i, lc4i, lc5i, lc6i, lc1r, lc2r, lc3r, lc4r, lc5r, lc6r, Nat.add_zero]
    repeat' (first | with_reducible apply And.intro | intro _)
    all_goals (try omega)
    all_goals exact fin _ (some (.inl (i : Int))) trivial (Fq_q hF hF2)
  | succ j ih =>
    intro i hi μ hF
    have ih := ih (i + 1) (by omega)
    have x1 := exI_i (p := fun j => decide (z (77 + 5 * s + j) = (t : Int))) i
    have rr := hrow i (by omega)
    rw [exI_s] at ih
    have p167 : ∀ μ : Mem, Fq z V W μ0 μ → (decide (z (77 + 5 * s + i) = (t : Int)) = true ∨ exI (fun j => decide (z (77 + 5 * s + j) = (t : Int))) i = 1) → wp2 y L 2 (Call2 y L (d + 1)) 6 Q (2, na, len) 167 [some (.inr (.inr 0)), some (.inr (.inr V)), some (.inr (.inr W)), some (.inl (t : Int)), some (.inl l4), some (.inl l5), some (.inl (s : Int)), some (.inl (exI (fun j => decide (z (77 + 5 * s + j) = (t : Int))) i)), some (.inl (i : Int)), X9] [] μ := by
      intro μ hF hc
      refine wp2_go w6_167 ?_; simp only [v6_167, tg_iconst, tg_goto, nLg_n, nLg_i, nLg_r, tc_c, tc_l, tc_r, tc_m, tc_n, tc_o, tc_0, inR, true_and, and_true, ne_eq, not_true_eq_false, not_false_eq_true, true_imp_iff, false_imp_iff, lit_a, Nat.reduceAdd, or_true, true_or, or_false, false_or, Int.reduceEq, Int.reduceNe, Int.reduceLT, Int.reduceLE, Int.reduceNeg, Int.toNat_natCast, tg_nil, eq_self, lc0n, lc1n, lc2n, lc3n, lc4n, lc5n, lc6n, lc1i, lc2i, lc3i, lc4i, lc5i, lc6i, lc1r, lc2r, lc3r, lc4r, lc5r, lc6r, Nat.add_zero]
      refine wp2_go w6_172 ?_; simp only [v6_172, tg_istore, okS_7, stL_7, tg_iinc, ldI_8, okS_8, stL_8, tg_goto, nLg_n, nLg_i, nLg_r, tc_c, tc_l, tc_r, tc_m, tc_n, tc_o, tc_0, inR, true_and, and_true, ne_eq, not_true_eq_false, not_false_eq_true, true_imp_iff, false_imp_iff, lit_a, Nat.reduceAdd, or_true, true_or, or_false, false_or, Int.reduceEq, Int.reduceNe, Int.reduceLT, Int.reduceLE, Int.reduceNeg, Int.toNat_natCast, tg_nil, eq_self, lc0n, lc1n, lc2n, lc3n, lc4n, lc5n, lc6n, lc1i, lc2i, lc3i, lc4i, lc5i, lc6i, lc1r, lc2r, lc3r, lc4r, lc5r, lc6r, Nat.add_zero]
      repeat' (first | with_reducible apply And.intro | intro _)
      all_goals (try omega)
      have ih := ih μ hF
      rcases hc with hc | hc
      · rw [if_pos hc] at ih
        exact ih
      · rw [hc] at ih
        rw [ite_self] at ih
        exact ih
    generalize hx : exI (fun j => decide (z (77 + 5 * s + j) = (t : Int))) i = x at *
    refine wp2_go w6_138 ?_; simp only [v6_138, tg_iload, ldI_8, tg_aload_0, ldI_6, tg_iconst, tg_iv3, nLg_n, nLg_i, nLg_r, tc_c, tc_l, tc_r, tc_m, tc_n, tc_o, tc_0, inR, true_and, and_true, ne_eq, not_true_eq_false, not_false_eq_true, true_imp_iff, false_imp_iff, lit_a, Nat.reduceAdd, or_true, true_or, or_false, false_or, Int.reduceEq, Int.reduceNe, Int.reduceLT, Int.reduceLE, Int.reduceNeg, Int.toNat_natCast, tg_nil, eq_self, lc0n, lc1n, lc2n, lc3n, lc4n, lc5n, lc6n, lc1i, lc2i, lc3i, lc4i, lc5i, lc6i, lc1r, lc2r, lc3r, lc4r, lc5r, lc6r, Nat.add_zero]
    refine q_sen5 (Fz_r hF.1) hs (fun μ' hF2 => ?_)
    have hF := Fq_q hF hF2
    refine wp2_go w6_147 ?_; simp only [v6_147, tg_ic_ge, tg_iload, ldI_7, tg_if_ne, tg_aload_0, ldI_6, ldI_8, tg_iv3, nLg_n, nLg_i, nLg_r, tc_c, tc_l, tc_r, tc_m, tc_n, tc_o, tc_0, inR, true_and, and_true, ne_eq, not_true_eq_false, not_false_eq_true, true_imp_iff, false_imp_iff, lit_a, Nat.reduceAdd, or_true, true_or, or_false, false_or, Int.reduceEq, Int.reduceNe, Int.reduceLT, Int.reduceLE, Int.reduceNeg, Int.toNat_natCast, tg_nil, eq_self, lc0n, lc1n, lc2n, lc3n, lc4n, lc5n, lc6n, lc1i, lc2i, lc3i, lc4i, lc5i, lc6i, lc1r, lc2r, lc3r, lc4r, lc5r, lc6r, Nat.add_zero]
    repeat' (first | with_reducible apply And.intro | intro _)
    all_goals (try omega)
    · refine q_bkd (Fz_r hF.1) hs (by omega) (fun μ' hF2 => ?_)
      have hF := Fq_q hF hF2
      refine wp2_go w6_163 ?_; simp only [v6_163, tg_iload_3, tg_ic_ne, nLg_n, nLg_i, nLg_r, tc_c, tc_l, tc_r, tc_m, tc_n, tc_o, tc_0, inR, true_and, and_true, ne_eq, not_true_eq_false, not_false_eq_true, true_imp_iff, false_imp_iff, lit_a, Nat.reduceAdd, or_true, true_or, or_false, false_or, Int.reduceEq, Int.reduceNe, Int.reduceLT, Int.reduceLE, Int.reduceNeg, Int.toNat_natCast, tg_nil, eq_self, lc0n, lc1n, lc2n, lc3n, lc4n, lc5n, lc6n, lc1i, lc2i, lc3i, lc4i, lc5i, lc6i, lc1r, lc2r, lc3r, lc4r, lc5r, lc6r, Nat.add_zero]
      repeat' (first | with_reducible apply And.intro | intro _)
      all_goals (try omega)
      · rename_i h3
        exact p167 _ hF (Or.inl (decide_eq_true h3))
      · rename_i h3
        refine wp2_go w6_171 ?_; simp only [v6_171, tg_iconst, nLg_n, nLg_i, nLg_r, tc_c, tc_l, tc_r, tc_m, tc_n, tc_o, tc_0, inR, true_and, and_true, ne_eq, not_true_eq_false, not_false_eq_true, true_imp_iff, false_imp_iff, lit_a, Nat.reduceAdd, or_true, true_or, or_false, false_or, Int.reduceEq, Int.reduceNe, Int.reduceLT, Int.reduceLE, Int.reduceNeg, Int.toNat_natCast, tg_nil, eq_self, lc0n, lc1n, lc2n, lc3n, lc4n, lc5n, lc6n, lc1i, lc2i, lc3i, lc4i, lc5i, lc6i, lc1r, lc2r, lc3r, lc4r, lc5r, lc6r, Nat.add_zero]
        refine wp2_go w6_172 ?_; simp only [v6_172, tg_istore, okS_7, stL_7, tg_iinc, ldI_8, okS_8, stL_8, tg_goto, nLg_n, nLg_i, nLg_r, tc_c, tc_l, tc_r, tc_m, tc_n, tc_o, tc_0, inR, true_and, and_true, ne_eq, not_true_eq_false, not_false_eq_true, true_imp_iff, false_imp_iff, lit_a, Nat.reduceAdd, or_true, true_or, or_false, false_or, Int.reduceEq, Int.reduceNe, Int.reduceLT, Int.reduceLE, Int.reduceNeg, Int.toNat_natCast, tg_nil, eq_self, lc0n, lc1n, lc2n, lc3n, lc4n, lc5n, lc6n, lc1i, lc2i, lc3i, lc4i, lc5i, lc6i, lc1r, lc2r, lc3r, lc4r, lc5r, lc6r, Nat.add_zero]
        repeat' (first | with_reducible apply And.intro | intro _)
        all_goals (try omega)
        have ih := ih _ hF
        rw [if_neg (by rw [decide_eq_true_eq]; exact h3)] at ih
        obtain rfl : x = 0 := by omega
        exact ih
    · exact p167 _ hF (Or.inr (by omega))
theorem nt_breaks {y : Nat → Int} {L d na V W t : Nat} {len : Nat → Nat} {Q : QT} {μ0 : Mem} {z : Rw} {l4 : Int} (hz : IZ z) (ht : (t : Int) < z 2)
    (fin : ∀ (μ : Mem) (X7 X8 X9 : Option MV), nLg X7 → nLg X8 → nLg X9 → Fq z V W μ0 μ → wp2 y L 2 (Call2 y L (d + 1)) 6 Q (2, na, len) 201 [some (.inr (.inr 0)), some (.inr (.inr V)), some (.inr (.inr W)), some (.inl (t : Int)), some (.inl l4), some (.inl (sm (brk z (t : Int)) (zn z))), some (.inl (zn z : Int)), X7, X8, X9] [] μ) :
    ∀ j s : Nat, s + j = zn z → ∀ (X7 X8 X9 : Option MV) (μ : Mem), nLg X7 → nLg X8 → nLg X9 → Fq z V W μ0 μ → wp2 y L 2 (Call2 y L (d + 1)) 6 Q (2, na, len) 122 [some (.inr (.inr 0)), some (.inr (.inr V)), some (.inr (.inr W)), some (.inl (t : Int)), some (.inl l4), some (.inl (sm (brk z (t : Int)) s)), some (.inl (s : Int)), X7, X8, X9] [] μ := by
  have q0 := hz.1
  have ez := zn_eq hz
  intro j
  induction j with
  | zero =>
    intro s hj X7 X8 X9 μ n7 n8 n9 hF
    obtain rfl : s = zn z := by omega
    refine wp2_go w6_122 ?_; simp only [v6_122, tg_iload, ldI_6, tg_aload_0, tg_iconst, tg_iv2, nLg_n, nLg_i, nLg_r, tc_c, tc_l, tc_r, tc_m, tc_n, tc_o, tc_0, inR, true_and, and_true, ne_eq, not_true_eq_false, not_false_eq_true, true_imp_iff, false_imp_iff, lit_a, Nat.reduceAdd, or_true, true_or, or_false, false_or, Int.reduceEq, Int.reduceNe, Int.reduceLT, Int.reduceLE, Int.reduceNeg, Int.toNat_natCast, tg_nil, eq_self, lc0n, lc1n, lc2n, lc3n, lc4n, lc5n, lc6n, lc1i, lc2i, lc3i, lc4i, lc5i, lc6i, lc1r, lc2r, lc3r, lc4r, lc5r, lc6r, Nat.add_zero]
    refine q_cnt0 (Fz_r hF.1) (fun μ' hF2 => ?_)
    refine wp2_go w6_129 ?_; simp only [v6_129, tg_ic_ge, tg_iconst, tg_istore, okS_7, stL_7, okS_8, stL_8, nLg_n, nLg_i, nLg_r, tc_c, tc_l, tc_r, tc_m, tc_n, tc_o, tc_0, inR, true_and, and_true, ne_eq, not_true_eq_false, not_false_eq_true, true_imp_iff, false_imp_iff, lit_a, Nat.reduceAdd, or_true, true_or, or_false, false_or, Int.reduceEq, Int.reduceNe, Int.reduceLT, Int.reduceLE, Int.reduceNeg, Int.toNat_natCast, tg_nil, eq_self, lc0n, lc1n, lc2n, lc3n, lc4n, lc5n, lc6n, lc1i, lc2i, lc3i, lc4i, lc5i, lc6i, lc1r, lc2r, lc3r, lc4r, lc5r, lc6r, Nat.add_zero]
    repeat' (first | with_reducible apply And.intro | intro _)
    all_goals (try omega)
    all_goals exact fin _ _ _ _ n7 n8 n9 (Fq_q hF hF2)
  | succ j ih =>
    intro s hj X7 X8 X9 μ n7 n8 n9 hF
    have hs : (s : Int) < z 0 := by omega
    have hr4 := (hz.2.1 s hs).2.2.2.1
    obtain ⟨r, er⟩ := nat_of hr4.1
    refine wp2_go w6_122 ?_; simp only [v6_122, tg_iload, ldI_6, tg_aload_0, tg_iconst, tg_iv2, nLg_n, nLg_i, nLg_r, tc_c, tc_l, tc_r, tc_m, tc_n, tc_o, tc_0, inR, true_and, and_true, ne_eq, not_true_eq_false, not_false_eq_true, true_imp_iff, false_imp_iff, lit_a, Nat.reduceAdd, or_true, true_or, or_false, false_or, Int.reduceEq, Int.reduceNe, Int.reduceLT, Int.reduceLE, Int.reduceNeg, Int.toNat_natCast, tg_nil, eq_self, lc0n, lc1n, lc2n, lc3n, lc4n, lc5n, lc6n, lc1i, lc2i, lc3i, lc4i, lc5i, lc6i, lc1r, lc2r, lc3r, lc4r, lc5r, lc6r, Nat.add_zero]
    refine q_cnt0 (Fz_r hF.1) (fun μ' hF2 => ?_)
    have hF := Fq_q hF hF2
    refine wp2_go w6_129 ?_; simp only [v6_129, tg_ic_ge, tg_iconst, tg_istore, okS_7, stL_7, okS_8, stL_8, nLg_n, nLg_i, nLg_r, tc_c, tc_l, tc_r, tc_m, tc_n, tc_o, tc_0, inR, true_and, and_true, ne_eq, not_true_eq_false, not_false_eq_true, true_imp_iff, false_imp_iff, lit_a, Nat.reduceAdd, or_true, true_or, or_false, false_or, Int.reduceEq, Int.reduceNe, Int.reduceLT, Int.reduceLE, Int.reduceNeg, Int.toNat_natCast, tg_nil, eq_self, lc0n, lc1n, lc2n, lc3n, lc4n, lc5n, lc6n, lc1i, lc2i, lc3i, lc4i, lc5i, lc6i, lc1r, lc2r, lc3r, lc4r, lc5r, lc6r, Nat.add_zero]
    repeat' (first | with_reducible apply And.intro | intro _)
    all_goals (try omega)
    refine nt_brk hz hs ht (fun μ X8 n8 hF => ?_) r 0 (by omega) _ hF
    have x1 := exI_i (p := fun j => decide (z (77 + 5 * s + j) = (t : Int))) (z (76 + 5 * s)).toNat
    have x1 : brk z (t : Int) s = 0 ∨ brk z (t : Int) s = 1 := x1
    have ih := ih (s + 1) (by omega) (some (.inl (brk z (t : Int) s))) X8 X9 μ trivial n8 n9 hF
    rw [sm_s] at ih
    refine wp2_go w6_180 ?_; simp only [v6_180, tg_iload, ldI_5, ldI_7, tg_if_eq, tg_iconst, tg_goto, nLg_n, nLg_i, nLg_r, tc_c, tc_l, tc_r, tc_m, tc_n, tc_o, tc_0, inR, true_and, and_true, ne_eq, not_true_eq_false, not_false_eq_true, true_imp_iff, false_imp_iff, lit_a, Nat.reduceAdd, or_true, true_or, or_false, false_or, Int.reduceEq, Int.reduceNe, Int.reduceLT, Int.reduceLE, Int.reduceNeg, Int.toNat_natCast, tg_nil, eq_self, lc0n, lc1n, lc2n, lc3n, lc4n, lc5n, lc6n, lc1i, lc2i, lc3i, lc4i, lc5i, lc6i, lc1r, lc2r, lc3r, lc4r, lc5r, lc6r, Nat.add_zero]
    repeat' (first | with_reducible apply And.intro | intro _)
    all_goals (try omega)
    · rename_i h1
      rw [h1] at ih
      rw [h1]
      refine wp2_go w6_191 ?_; simp only [v6_191, tg_iconst, nLg_n, nLg_i, nLg_r, tc_c, tc_l, tc_r, tc_m, tc_n, tc_o, tc_0, inR, true_and, and_true, ne_eq, not_true_eq_false, not_false_eq_true, true_imp_iff, false_imp_iff, lit_a, Nat.reduceAdd, or_true, true_or, or_false, false_or, Int.reduceEq, Int.reduceNe, Int.reduceLT, Int.reduceLE, Int.reduceNeg, Int.toNat_natCast, tg_nil, eq_self, lc0n, lc1n, lc2n, lc3n, lc4n, lc5n, lc6n, lc1i, lc2i, lc3i, lc4i, lc5i, lc6i, lc1r, lc2r, lc3r, lc4r, lc5r, lc6r, Nat.add_zero]
      refine wp2_go w6_192 ?_; simp only [v6_192, tg_iadd, tg_istore, okS_5, stL_5, tg_iinc, ldI_6, okS_6, stL_6, tg_goto, nLg_n, nLg_i, nLg_r, tc_c, tc_l, tc_r, tc_m, tc_n, tc_o, tc_0, inR, true_and, and_true, ne_eq, not_true_eq_false, not_false_eq_true, true_imp_iff, false_imp_iff, lit_a, Nat.reduceAdd, or_true, true_or, or_false, false_or, Int.reduceEq, Int.reduceNe, Int.reduceLT, Int.reduceLE, Int.reduceNeg, Int.toNat_natCast, tg_nil, eq_self, lc0n, lc1n, lc2n, lc3n, lc4n, lc5n, lc6n, lc1i, lc2i, lc3i, lc4i, lc5i, lc6i, lc1r, lc2r, lc3r, lc4r, lc5r, lc6r, Nat.add_zero]
      repeat' (first | with_reducible apply And.intro | intro _)
      all_goals (try omega)
      all_goals exact ih
    · obtain h1 : brk z (t : Int) s = 1 := by omega
      rw [h1] at ih
      rw [h1]
      refine wp2_go w6_192 ?_; simp only [v6_192, tg_iadd, tg_istore, okS_5, stL_5, tg_iinc, ldI_6, okS_6, stL_6, tg_goto, nLg_n, nLg_i, nLg_r, tc_c, tc_l, tc_r, tc_m, tc_n, tc_o, tc_0, inR, true_and, and_true, ne_eq, not_true_eq_false, not_false_eq_true, true_imp_iff, false_imp_iff, lit_a, Nat.reduceAdd, or_true, true_or, or_false, false_or, Int.reduceEq, Int.reduceNe, Int.reduceLT, Int.reduceLE, Int.reduceNeg, Int.toNat_natCast, tg_nil, eq_self, lc0n, lc1n, lc2n, lc3n, lc4n, lc5n, lc6n, lc1i, lc2i, lc3i, lc4i, lc5i, lc6i, lc1r, lc2r, lc3r, lc4r, lc5r, lc6r, Nat.add_zero]
      repeat' (first | with_reducible apply And.intro | intro _)
      all_goals (try omega)
      all_goals exact ih
theorem nt_hearers {y : Nat → Int} {L d na V W t : Nat} {len : Nat → Nat} {Q : QT} {μ0 : Mem} {z : Rw} (hz : IZ z) (ht : (t : Int) < z 2) (hVW : VW na len V W)
    (fin : ∀ (μ : Mem) (X7 X8 X9 : Option MV), nLg X7 → nLg X8 → nLg X9 → Fq z V W μ0 μ → wp2 y L 2 (Call2 y L (d + 1)) 6 Q (2, na, len) 119 [some (.inr (.inr 0)), some (.inr (.inr V)), some (.inr (.inr W)), some (.inl (t : Int)), some (.inl (sm (hrs z (zn z) (t : Int)) (znl z))), some (.inl 0), some (.inl (znl z : Int)), X7, X8, X9] [] μ) :
    ∀ j l : Nat, l + j = znl z → ∀ (X7 X8 X9 : Option MV) (μ : Mem), nLg X7 → nLg X8 → nLg X9 → Fq z V W μ0 μ → wp2 y L 2 (Call2 y L (d + 1)) 6 Q (2, na, len) 30 [some (.inr (.inr 0)), some (.inr (.inr V)), some (.inr (.inr W)), some (.inl (t : Int)), some (.inl (sm (hrs z (zn z) (t : Int)) l)), some (.inl 0), some (.inl (l : Int)), X7, X8, X9] [] μ := by
  have q0 := hz.1
  have ez := zn_eq hz
  have el := znl_eq hz
  intro j
  induction j with
  | zero =>
    intro l hj X7 X8 X9 μ n7 n8 n9 hF
    obtain rfl : l = znl z := by omega
    refine wp2_go w6_30 ?_; simp only [v6_30, tg_iload, ldI_6, tg_aload_0, tg_iconst, tg_iv2, nLg_n, nLg_i, nLg_r, tc_c, tc_l, tc_r, tc_m, tc_n, tc_o, tc_0, inR, true_and, and_true, ne_eq, not_true_eq_false, not_false_eq_true, true_imp_iff, false_imp_iff, lit_a, Nat.reduceAdd, or_true, true_or, or_false, false_or, Int.reduceEq, Int.reduceNe, Int.reduceLT, Int.reduceLE, Int.reduceNeg, Int.toNat_natCast, tg_nil, eq_self, lc0n, lc1n, lc2n, lc3n, lc4n, lc5n, lc6n, lc1i, lc2i, lc3i, lc4i, lc5i, lc6i, lc1r, lc2r, lc3r, lc4r, lc5r, lc6r, Nat.add_zero]
    refine q_cnt4 (Fz_r hF.1) (fun μ' hF2 => ?_)
    refine wp2_go w6_37 ?_; simp only [v6_37, tg_ic_ge, tg_aload_0, tg_iload, ldI_6, tg_iconst, tg_iv3, nLg_n, nLg_i, nLg_r, tc_c, tc_l, tc_r, tc_m, tc_n, tc_o, tc_0, inR, true_and, and_true, ne_eq, not_true_eq_false, not_false_eq_true, true_imp_iff, false_imp_iff, lit_a, Nat.reduceAdd, or_true, true_or, or_false, false_or, Int.reduceEq, Int.reduceNe, Int.reduceLT, Int.reduceLE, Int.reduceNeg, Int.toNat_natCast, tg_nil, eq_self, lc0n, lc1n, lc2n, lc3n, lc4n, lc5n, lc6n, lc1i, lc2i, lc3i, lc4i, lc5i, lc6i, lc1r, lc2r, lc3r, lc4r, lc5r, lc6r, Nat.add_zero]
    repeat' (first | with_reducible apply And.intro | intro _)
    all_goals (try omega)
    all_goals exact fin _ _ _ _ n7 n8 n9 (Fq_q hF hF2)
  | succ j ih =>
    intro l hj X7 X8 X9 μ n7 n8 n9 hF
    have hl : (l : Int) < z 3 := by omega
    have hb := bLi_b hz hl
    refine wp2_go w6_30 ?_; simp only [v6_30, tg_iload, ldI_6, tg_aload_0, tg_iconst, tg_iv2, nLg_n, nLg_i, nLg_r, tc_c, tc_l, tc_r, tc_m, tc_n, tc_o, tc_0, inR, true_and, and_true, ne_eq, not_true_eq_false, not_false_eq_true, true_imp_iff, false_imp_iff, lit_a, Nat.reduceAdd, or_true, true_or, or_false, false_or, Int.reduceEq, Int.reduceNe, Int.reduceLT, Int.reduceLE, Int.reduceNeg, Int.toNat_natCast, tg_nil, eq_self, lc0n, lc1n, lc2n, lc3n, lc4n, lc5n, lc6n, lc1i, lc2i, lc3i, lc4i, lc5i, lc6i, lc1r, lc2r, lc3r, lc4r, lc5r, lc6r, Nat.add_zero]
    refine q_cnt4 (Fz_r hF.1) (fun μ' hF2 => ?_)
    have hF := Fq_q hF hF2
    refine wp2_go w6_37 ?_; simp only [v6_37, tg_ic_ge, tg_aload_0, tg_iload, ldI_6, tg_iconst, tg_iv3, nLg_n, nLg_i, nLg_r, tc_c, tc_l, tc_r, tc_m, tc_n, tc_o, tc_0, inR, true_and, and_true, ne_eq, not_true_eq_false, not_false_eq_true, true_imp_iff, false_imp_iff, lit_a, Nat.reduceAdd, or_true, true_or, or_false, false_or, Int.reduceEq, Int.reduceNe, Int.reduceLT, Int.reduceLE, Int.reduceNeg, Int.toNat_natCast, tg_nil, eq_self, lc0n, lc1n, lc2n, lc3n, lc4n, lc5n, lc6n, lc1i, lc2i, lc3i, lc4i, lc5i, lc6i, lc1r, lc2r, lc3r, lc4r, lc5r, lc6r, Nat.add_zero]
    repeat' (first | with_reducible apply And.intro | intro _)
    all_goals (try omega)
    refine q_of1 (Fz_r hF.1) hl (fun μ' hF2 => ?_)
    have hF := Fq_q hF hF2
    refine wp2_go w6_50 ?_; simp only [v6_50, tg_aload_1, tg_aload_2, tg_is5, mc_3, nLg_n, nLg_i, nLg_r, tc_c, tc_l, tc_r, tc_m, tc_n, tc_o, tc_0, inR, true_and, and_true, ne_eq, not_true_eq_false, not_false_eq_true, true_imp_iff, false_imp_iff, lit_a, Nat.reduceAdd, or_true, true_or, or_false, false_or, Int.reduceEq, Int.reduceNe, Int.reduceLT, Int.reduceLE, Int.reduceNeg, Int.toNat_natCast, tg_nil, eq_self, lc0n, lc1n, lc2n, lc3n, lc4n, lc5n, lc6n, lc1i, lc2i, lc3i, lc4i, lc5i, lc6i, lc1r, lc2r, lc3r, lc4r, lc5r, lc6r, Nat.add_zero]
    repeat' (first | with_reducible apply And.intro | intro _)
    all_goals (try omega)
    refine c_now hF.1 hl (by omega) hVW (fun μ' hS' hk' hN => ?_)
    have hF : Fq z V W μ0 μ' := ⟨hS', fun k h1 h2 h3 => (hk' k h1 h2 h3).trans (hF.2 k h1 h2 h3)⟩
    refine wp2_go w6_55 ?_; simp only [v6_55, tg_istore, okS_7, stL_7, tg_iconst, okS_8, stL_8, okS_9, stL_9, nLg_n, nLg_i, nLg_r, tc_c, tc_l, tc_r, tc_m, tc_n, tc_o, tc_0, inR, true_and, and_true, ne_eq, not_true_eq_false, not_false_eq_true, true_imp_iff, false_imp_iff, lit_a, Nat.reduceAdd, or_true, true_or, or_false, false_or, Int.reduceEq, Int.reduceNe, Int.reduceLT, Int.reduceLE, Int.reduceNeg, Int.toNat_natCast, tg_nil, eq_self, lc0n, lc1n, lc2n, lc3n, lc4n, lc5n, lc6n, lc1i, lc2i, lc3i, lc4i, lc5i, lc6i, lc1r, lc2r, lc3r, lc4r, lc5r, lc6r, Nat.add_zero]
    repeat' (first | with_reducible apply And.intro | intro _)
    all_goals (try omega)
    refine nt_hears hz ht hVW hN ?_ (zn z) 0 (by omega)
    have x1 := exI_i (p := fun s => decide (ch z (gL z l) (bLi z l) s = (t : Int))) (zn z)
    have ih := ih (l + 1) (by omega) (some (.inl (z 0))) (some (.inl (exI (fun s => decide (ch z (gL z l) (bLi z l) s = (t : Int))) (zn z)))) (some (.inl (zn z : Int))) μ' trivial trivial trivial hF
    rw [sm_s, hrs_bit hz (by omega)] at ih
    generalize hx : exI (fun s => decide (ch z (gL z l) (bLi z l) s = (t : Int))) (zn z) = x at *
    refine wp2_go w6_98 ?_; simp only [v6_98, tg_iload, ldI_4, ldI_8, tg_if_eq, tg_iconst, tg_goto, nLg_n, nLg_i, nLg_r, tc_c, tc_l, tc_r, tc_m, tc_n, tc_o, tc_0, inR, true_and, and_true, ne_eq, not_true_eq_false, not_false_eq_true, true_imp_iff, false_imp_iff, lit_a, Nat.reduceAdd, or_true, true_or, or_false, false_or, Int.reduceEq, Int.reduceNe, Int.reduceLT, Int.reduceLE, Int.reduceNeg, Int.toNat_natCast, tg_nil, eq_self, lc0n, lc1n, lc2n, lc3n, lc4n, lc5n, lc6n, lc1i, lc2i, lc3i, lc4i, lc5i, lc6i, lc1r, lc2r, lc3r, lc4r, lc5r, lc6r, Nat.add_zero]
    repeat' (first | with_reducible apply And.intro | intro _)
    all_goals (try omega)
    · obtain rfl : x = 0 := by omega
      refine wp2_go w6_109 ?_; simp only [v6_109, tg_iconst, nLg_n, nLg_i, nLg_r, tc_c, tc_l, tc_r, tc_m, tc_n, tc_o, tc_0, inR, true_and, and_true, ne_eq, not_true_eq_false, not_false_eq_true, true_imp_iff, false_imp_iff, lit_a, Nat.reduceAdd, or_true, true_or, or_false, false_or, Int.reduceEq, Int.reduceNe, Int.reduceLT, Int.reduceLE, Int.reduceNeg, Int.toNat_natCast, tg_nil, eq_self, lc0n, lc1n, lc2n, lc3n, lc4n, lc5n, lc6n, lc1i, lc2i, lc3i, lc4i, lc5i, lc6i, lc1r, lc2r, lc3r, lc4r, lc5r, lc6r, Nat.add_zero]
      refine wp2_go w6_110 ?_; simp only [v6_110, tg_iadd, tg_istore, okS_4, stL_4, tg_iinc, ldI_6, okS_6, stL_6, tg_goto, nLg_n, nLg_i, nLg_r, tc_c, tc_l, tc_r, tc_m, tc_n, tc_o, tc_0, inR, true_and, and_true, ne_eq, not_true_eq_false, not_false_eq_true, true_imp_iff, false_imp_iff, lit_a, Nat.reduceAdd, or_true, true_or, or_false, false_or, Int.reduceEq, Int.reduceNe, Int.reduceLT, Int.reduceLE, Int.reduceNeg, Int.toNat_natCast, tg_nil, eq_self, lc0n, lc1n, lc2n, lc3n, lc4n, lc5n, lc6n, lc1i, lc2i, lc3i, lc4i, lc5i, lc6i, lc1r, lc2r, lc3r, lc4r, lc5r, lc6r, Nat.add_zero]
      repeat' (first | with_reducible apply And.intro | intro _)
      all_goals (try omega)
      all_goals exact ih
    · obtain rfl : x = 1 := by omega
      refine wp2_go w6_110 ?_; simp only [v6_110, tg_iadd, tg_istore, okS_4, stL_4, tg_iinc, ldI_6, okS_6, stL_6, tg_goto, nLg_n, nLg_i, nLg_r, tc_c, tc_l, tc_r, tc_m, tc_n, tc_o, tc_0, inR, true_and, and_true, ne_eq, not_true_eq_false, not_false_eq_true, true_imp_iff, false_imp_iff, lit_a, Nat.reduceAdd, or_true, true_or, or_false, false_or, Int.reduceEq, Int.reduceNe, Int.reduceLT, Int.reduceLE, Int.reduceNeg, Int.toNat_natCast, tg_nil, eq_self, lc0n, lc1n, lc2n, lc3n, lc4n, lc5n, lc6n, lc1i, lc2i, lc3i, lc4i, lc5i, lc6i, lc1r, lc2r, lc3r, lc4r, lc5r, lc6r, Nat.add_zero]
      repeat' (first | with_reducible apply And.intro | intro _)
      all_goals (try omega)
      all_goals exact ih
theorem nt_tail {y : Nat → Int} {L d na V W : Nat} {len : Nat → Nat} {Q : QT} {μ0 : Mem} {z : Rw} (hz : IZ z) (hVW : VW na len V W)
    (h : ∀ μ', Fq z V W μ0 μ' → Q (.inl 1) μ') : ∀ j t : Nat, ((t + j : Nat) : Int) = z 2 → ∀ (X4 X5 X6 X7 X8 X9 : Option MV) (μ : Mem), nLg X4 → nLg X5 → nLg X6 → nLg X7 → nLg X8 → nLg X9 → Fq z V W μ0 μ → wp2 y L 2 (Call2 y L (d + 1)) 6 Q (2, na, len) 12 [some (.inr (.inr 0)), some (.inr (.inr V)), some (.inr (.inr W)), some (.inl (t : Int)), X4, X5, X6, X7, X8, X9] [] μ := by
  have q0 := hz.1
  have ez := zn_eq hz
  have el := znl_eq hz
  intro j
  induction j with
  | zero =>
    intro t hj X4 X5 X6 X7 X8 X9 μ n4 n5 n6 n7 n8 n9 hF
    refine wp2_go w6_12 ?_; simp only [v6_12, tg_iload_3, tg_aload_0, tg_iconst, tg_iv2, nLg_n, nLg_i, nLg_r, tc_c, tc_l, tc_r, tc_m, tc_n, tc_o, tc_0, inR, true_and, and_true, ne_eq, not_true_eq_false, not_false_eq_true, true_imp_iff, false_imp_iff, lit_a, Nat.reduceAdd, or_true, true_or, or_false, false_or, Int.reduceEq, Int.reduceNe, Int.reduceLT, Int.reduceLE, Int.reduceNeg, Int.toNat_natCast, tg_nil, eq_self, lc0n, lc1n, lc2n, lc3n, lc4n, lc5n, lc6n, lc1i, lc2i, lc3i, lc4i, lc5i, lc6i, lc1r, lc2r, lc3r, lc4r, lc5r, lc6r, Nat.add_zero]
    refine q_cnt3 (Fz_r hF.1) (fun μ' hF2 => ?_)
    refine wp2_go w6_18 ?_; simp only [v6_18, tg_ic_ge, tg_iconst, tg_istore, okS_4, stL_4, okS_5, stL_5, okS_6, stL_6, nLg_n, nLg_i, nLg_r, tc_c, tc_l, tc_r, tc_m, tc_n, tc_o, tc_0, inR, true_and, and_true, ne_eq, not_true_eq_false, not_false_eq_true, true_imp_iff, false_imp_iff, lit_a, Nat.reduceAdd, or_true, true_or, or_false, false_or, Int.reduceEq, Int.reduceNe, Int.reduceLT, Int.reduceLE, Int.reduceNeg, Int.toNat_natCast, tg_nil, eq_self, lc0n, lc1n, lc2n, lc3n, lc4n, lc5n, lc6n, lc1i, lc2i, lc3i, lc4i, lc5i, lc6i, lc1r, lc2r, lc3r, lc4r, lc5r, lc6r, Nat.add_zero]
    repeat' (first | with_reducible apply And.intro | intro _)
    all_goals (try omega)
    refine wp2_go w6_231 ?_; simp only [v6_231, tg_iconst, tg_iret1, nLg_n, nLg_i, nLg_r, tc_c, tc_l, tc_r, tc_m, tc_n, tc_o, tc_0, inR, true_and, and_true, ne_eq, not_true_eq_false, not_false_eq_true, true_imp_iff, false_imp_iff, lit_a, Nat.reduceAdd, or_true, true_or, or_false, false_or, Int.reduceEq, Int.reduceNe, Int.reduceLT, Int.reduceLE, Int.reduceNeg, Int.toNat_natCast, tg_nil, eq_self, lc0n, lc1n, lc2n, lc3n, lc4n, lc5n, lc6n, lc1i, lc2i, lc3i, lc4i, lc5i, lc6i, lc1r, lc2r, lc3r, lc4r, lc5r, lc6r, Nat.add_zero]
    exact h _ (Fq_q hF hF2)
  | succ j ih =>
    intro t hj X4 X5 X6 X7 X8 X9 μ n4 n5 n6 n7 n8 n9 hF
    have ht : (t : Int) < z 2 := by omega
    refine wp2_go w6_12 ?_; simp only [v6_12, tg_iload_3, tg_aload_0, tg_iconst, tg_iv2, nLg_n, nLg_i, nLg_r, tc_c, tc_l, tc_r, tc_m, tc_n, tc_o, tc_0, inR, true_and, and_true, ne_eq, not_true_eq_false, not_false_eq_true, true_imp_iff, false_imp_iff, lit_a, Nat.reduceAdd, or_true, true_or, or_false, false_or, Int.reduceEq, Int.reduceNe, Int.reduceLT, Int.reduceLE, Int.reduceNeg, Int.toNat_natCast, tg_nil, eq_self, lc0n, lc1n, lc2n, lc3n, lc4n, lc5n, lc6n, lc1i, lc2i, lc3i, lc4i, lc5i, lc6i, lc1r, lc2r, lc3r, lc4r, lc5r, lc6r, Nat.add_zero]
    refine q_cnt3 (Fz_r hF.1) (fun μ' hF2 => ?_)
    have hF := Fq_q hF hF2
    refine wp2_go w6_18 ?_; simp only [v6_18, tg_ic_ge, tg_iconst, tg_istore, okS_4, stL_4, okS_5, stL_5, okS_6, stL_6, nLg_n, nLg_i, nLg_r, tc_c, tc_l, tc_r, tc_m, tc_n, tc_o, tc_0, inR, true_and, and_true, ne_eq, not_true_eq_false, not_false_eq_true, true_imp_iff, false_imp_iff, lit_a, Nat.reduceAdd, or_true, true_or, or_false, false_or, Int.reduceEq, Int.reduceNe, Int.reduceLT, Int.reduceLE, Int.reduceNeg, Int.toNat_natCast, tg_nil, eq_self, lc0n, lc1n, lc2n, lc3n, lc4n, lc5n, lc6n, lc1i, lc2i, lc3i, lc4i, lc5i, lc6i, lc1r, lc2r, lc3r, lc4r, lc5r, lc6r, Nat.add_zero]
    repeat' (first | with_reducible apply And.intro | intro _)
    all_goals (try omega)
    refine nt_hearers hz ht hVW (fun μ X7 X8 X9 n7 n8 n9 hF => ?_) (znl z) 0 (by omega) X7 X8 X9 _ n7 n8 n9 hF
    refine wp2_go w6_119 ?_; simp only [v6_119, tg_iconst, tg_istore, okS_6, stL_6, nLg_n, nLg_i, nLg_r, tc_c, tc_l, tc_r, tc_m, tc_n, tc_o, tc_0, inR, true_and, and_true, ne_eq, not_true_eq_false, not_false_eq_true, true_imp_iff, false_imp_iff, lit_a, Nat.reduceAdd, or_true, true_or, or_false, false_or, Int.reduceEq, Int.reduceNe, Int.reduceLT, Int.reduceLE, Int.reduceNeg, Int.toNat_natCast, tg_nil, eq_self, lc0n, lc1n, lc2n, lc3n, lc4n, lc5n, lc6n, lc1i, lc2i, lc3i, lc4i, lc5i, lc6i, lc1r, lc2r, lc3r, lc4r, lc5r, lc6r, Nat.add_zero]
    refine nt_breaks hz ht (fun μ X7 X8 X9 n7 n8 n9 hF => ?_) (zn z) 0 (by omega) X7 X8 X9 _ n7 n8 n9 hF
    refine wp2_go w6_201 ?_; simp only [v6_201, tg_aload_0, tg_iload_3, tg_iconst, tg_iv3, nLg_n, nLg_i, nLg_r, tc_c, tc_l, tc_r, tc_m, tc_n, tc_o, tc_0, inR, true_and, and_true, ne_eq, not_true_eq_false, not_false_eq_true, true_imp_iff, false_imp_iff, lit_a, Nat.reduceAdd, or_true, true_or, or_false, false_or, Int.reduceEq, Int.reduceNe, Int.reduceLT, Int.reduceLE, Int.reduceNeg, Int.toNat_natCast, tg_nil, eq_self, lc0n, lc1n, lc2n, lc3n, lc4n, lc5n, lc6n, lc1i, lc2i, lc3i, lc4i, lc5i, lc6i, lc1r, lc2r, lc3r, lc4r, lc5r, lc6r, Nat.add_zero]
    refine q_ofN2 (Fz_r hF.1) ht (fun μ' hF2 => ?_)
    have hF := Fq_q hF hF2
    refine wp2_go w6_207 ?_; simp only [v6_207, tg_iload, ldI_5, tg_ic_ne, tg_aload_0, tg_iload_3, tg_iconst, tg_iv3, nLg_n, nLg_i, nLg_r, tc_c, tc_l, tc_r, tc_m, tc_n, tc_o, tc_0, inR, true_and, and_true, ne_eq, not_true_eq_false, not_false_eq_true, true_imp_iff, false_imp_iff, lit_a, Nat.reduceAdd, or_true, true_or, or_false, false_or, Int.reduceEq, Int.reduceNe, Int.reduceLT, Int.reduceLE, Int.reduceNeg, Int.toNat_natCast, tg_nil, eq_self, lc0n, lc1n, lc2n, lc3n, lc4n, lc5n, lc6n, lc1i, lc2i, lc3i, lc4i, lc5i, lc6i, lc1r, lc2r, lc3r, lc4r, lc5r, lc6r, Nat.add_zero]
    refine q_ofN3 (Fz_r hF.1) ht (fun μ' hF2 => ?_)
    have hF := Fq_q hF hF2
    refine wp2_go w6_218 ?_; simp only [v6_218, tg_iload, ldI_4, tg_ic_eq, nLg_n, nLg_i, nLg_r, tc_c, tc_l, tc_r, tc_m, tc_n, tc_o, tc_0, inR, true_and, and_true, ne_eq, not_true_eq_false, not_false_eq_true, true_imp_iff, false_imp_iff, lit_a, Nat.reduceAdd, or_true, true_or, or_false, false_or, Int.reduceEq, Int.reduceNe, Int.reduceLT, Int.reduceLE, Int.reduceNeg, Int.toNat_natCast, tg_nil, eq_self, lc0n, lc1n, lc2n, lc3n, lc4n, lc5n, lc6n, lc1i, lc2i, lc3i, lc4i, lc5i, lc6i, lc1r, lc2r, lc3r, lc4r, lc5r, lc6r, Nat.add_zero]
    refine wp2_go w6_225 ?_; simp only [v6_225, tg_iinc, ldI_3, okS_3, stL_3, tg_goto, nLg_n, nLg_i, nLg_r, tc_c, tc_l, tc_r, tc_m, tc_n, tc_o, tc_0, inR, true_and, and_true, ne_eq, not_true_eq_false, not_false_eq_true, true_imp_iff, false_imp_iff, lit_a, Nat.reduceAdd, or_true, true_or, or_false, false_or, Int.reduceEq, Int.reduceNe, Int.reduceLT, Int.reduceLE, Int.reduceNeg, Int.toNat_natCast, tg_nil, eq_self, lc0n, lc1n, lc2n, lc3n, lc4n, lc5n, lc6n, lc1i, lc2i, lc3i, lc4i, lc5i, lc6i, lc1r, lc2r, lc3r, lc4r, lc5r, lc6r, Nat.add_zero]
    repeat' (first | with_reducible apply And.intro | intro _)
    all_goals (try omega)
    exact ih (t + 1) (by omega) (some (.inl (sm (hrs z (zn z) (t : Int)) (znl z)))) (some (.inl (sm (brk z (t : Int)) (zn z)))) (some (.inl (zn z : Int))) X7 X8 X9 _ trivial trivial trivial n7 n8 n9 hF
theorem c_notices {y : Nat → Int} {L d g na : Nat} {len : Nat → Nat} {Q : QT} {μ0 : Mem} {z : Rw} (hS : St z μ0)
    (h : ∀ μ', St z μ' → (∀ k, 510 ≤ k → k < 510 + na → μ' k = μ0 k) → Q (.inl 1) μ') : Call2 y L (d + 2) 6 [.inr (.inr 0)] (g, na, len) μ0 Q := by
  have hz := hS.1
  have q0 := hz.1
  obtain ⟨n2, e2⟩ := nat_of (show 0 ≤ z 2 by omega)
  refine el_6 ?_
  refine wp2_go w6_0 ?_; simp only [v6_0, tg_bipush, tg_newa, noR_0, noR_r, noR_i, noR_n, tg_astore_1, tg_astore_2, tg_iconst, tg_istore_3, nLg_n, nLg_i, nLg_r, tc_c, tc_l, tc_r, tc_m, tc_n, tc_o, tc_0, inR, true_and, and_true, ne_eq, not_true_eq_false, not_false_eq_true, true_imp_iff, false_imp_iff, lit_a, Nat.reduceAdd, or_true, true_or, or_false, false_or, Int.reduceEq, Int.reduceNe, Int.reduceLT, Int.reduceLE, Int.reduceNeg, Int.toNat_natCast, tg_nil, eq_self, lc0n, lc1n, lc2n, lc3n, lc4n, lc5n, lc6n, lc1i, lc2i, lc3i, lc4i, lc5i, lc6i, lc1r, lc2r, lc3r, lc4r, lc5r, lc6r, Nat.add_zero, Int.reduceToNat]
  repeat' (first | with_reducible apply And.intro | intro _)
  all_goals (try omega)
  refine nt_tail (V := 510 + na) (W := 510 + (na + 1)) (μ0 := μ0) hz ⟨by omega, by omega, ?_, ?_, by omega⟩ (fun μ' hF' => h μ' hF'.1 (fun k h1 h2 => hF'.2 k h1 (by omega) (by omega))) n2 0 (by omega) none none none none none none _ trivial trivial trivial trivial trivial trivial ⟨St_zr (St_zr hS (by omega)) (by omega), fun k h1 h2 h3 => by rw [zr_o h3, zr_o h2]⟩
  · rw [upl_o (by omega), upl_s]
  · rw [upl_s]
