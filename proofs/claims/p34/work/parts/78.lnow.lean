/-! THE LAW'S cell, low, now -/
def cellF (y : Nat → Int) (L : Nat) (k : Int) : Int := if k < L then y k.toNat else 32452867 * k + 15485863
def lowF (v n : Int) : Int := iAnd v 2147483647 % n
theorem and31 (v : Int) : 0 ≤ iAnd v 2147483647 ∧ iAnd v 2147483647 ≤ 2147483647 := by
  unfold iAnd
  obtain ⟨j, hj, h⟩ := pk_andE (Int32.ofInt v) (m := Int32.ofInt 2147483647) 31 (by decide)
  rw [h, nI_toInt (by omega)]
  omega
theorem lowF_b (v : Int) {n : Int} (hn : 0 < n) : 0 ≤ lowF v n ∧ lowF v n < n := ⟨Int.emod_nonneg _ (by omega), Int.emod_lt_of_pos _ hn⟩
-- the law's cell: blocks [0, 12, 19]
theorem c_cell {y : Nat → Int} {L d g na : Nat} {len : Nat → Nat} {Q : QT} {μ : Mem} {k : Int} (hL : L ≤ 260) (hk : 0 ≤ k ∧ k ≤ 200) (h : Q (.inl (cellF y L k)) μ) : Call2 y L (d + 1) 0 [.inr (.inr 1), .inl k] (g, na, len) μ Q := by
  refine el_0 ?_
  unfold cellF at h
  refine wp2_go w0_0 ?_; simp only [v0_0, tg_iload_1, tg_aload_0, tg_alen, tg_ic_ge, tg_sld, tg_goto, nLg_n, nLg_i, nLg_r, tc_c, tc_l, tc_r, tc_m, tc_n, tc_o, tc_0, inR, true_and, and_true, ne_eq, not_true_eq_false, not_false_eq_true, true_imp_iff, false_imp_iff, lit_a, Nat.reduceAdd, or_true, true_or, or_false, false_or, Int.reduceEq, Int.reduceNe, Int.reduceLT, Int.reduceLE, Int.reduceNeg, Int.toNat_natCast, tg_nil, eq_self, lc0n, lc1n, lc2n, lc3n, lc4n, lc5n, lc6n, lc1i, lc2i, lc3i, lc4i, lc5i, lc6i, lc1r, lc2r, lc3r, lc4r, lc5r, lc6r, Nat.add_zero]
  repeat' (first | with_reducible apply And.intro | intro _)
  all_goals (try omega)
  · rename_i hc
    rw [if_pos hc] at h
    refine wp2_go w0_19 ?_; simp only [v0_19, tg_iret0, nLg_n, nLg_i, nLg_r, tc_c, tc_l, tc_r, tc_m, tc_n, tc_o, tc_0, inR, true_and, and_true, ne_eq, not_true_eq_false, not_false_eq_true, true_imp_iff, false_imp_iff, lit_a, Nat.reduceAdd, or_true, true_or, or_false, false_or, Int.reduceEq, Int.reduceNe, Int.reduceLT, Int.reduceLE, Int.reduceNeg, Int.toNat_natCast, tg_nil, eq_self, lc0n, lc1n, lc2n, lc3n, lc4n, lc5n, lc6n, lc1i, lc2i, lc3i, lc4i, lc5i, lc6i, lc1r, lc2r, lc3r, lc4r, lc5r, lc6r, Nat.add_zero]
    exact h
  · rename_i hc
    rw [if_neg (by omega)] at h
    refine wp2_go w0_12 ?_; simp only [v0_12, tg_ldc, tg_iload_1, tg_imul, tg_iadd, nLg_n, nLg_i, nLg_r, tc_c, tc_l, tc_r, tc_m, tc_n, tc_o, tc_0, inR, true_and, and_true, ne_eq, not_true_eq_false, not_false_eq_true, true_imp_iff, false_imp_iff, lit_a, Nat.reduceAdd, or_true, true_or, or_false, false_or, Int.reduceEq, Int.reduceNe, Int.reduceLT, Int.reduceLE, Int.reduceNeg, Int.toNat_natCast, tg_nil, eq_self, lc0n, lc1n, lc2n, lc3n, lc4n, lc5n, lc6n, lc1i, lc2i, lc3i, lc4i, lc5i, lc6i, lc1r, lc2r, lc3r, lc4r, lc5r, lc6r, Nat.add_zero]
    refine wp2_go w0_19 ?_; simp only [v0_19, tg_iret0, nLg_n, nLg_i, nLg_r, tc_c, tc_l, tc_r, tc_m, tc_n, tc_o, tc_0, inR, true_and, and_true, ne_eq, not_true_eq_false, not_false_eq_true, true_imp_iff, false_imp_iff, lit_a, Nat.reduceAdd, or_true, true_or, or_false, false_or, Int.reduceEq, Int.reduceNe, Int.reduceLT, Int.reduceLE, Int.reduceNeg, Int.toNat_natCast, tg_nil, eq_self, lc0n, lc1n, lc2n, lc3n, lc4n, lc5n, lc6n, lc1i, lc2i, lc3i, lc4i, lc5i, lc6i, lc1r, lc2r, lc3r, lc4r, lc5r, lc6r, Nat.add_zero]
    exact h
-- the law's low: blocks [0]
theorem c_low {y : Nat → Int} {L d g na : Nat} {len : Nat → Nat} {Q : QT} {μ : Mem} {v n : Int} (hn : 0 < n ∧ n ≤ 1000) (h : Q (.inl (lowF v n)) μ) : Call2 y L (d + 1) 1 [.inl v, .inl n] (g, na, len) μ Q := by
  refine el_1 ?_
  have a := and31 v
  refine wp2_go w1_0 ?_; simp only [v1_0, tg_iload_0, tg_ldc, tg_iand, tg_iload_1, tg_irem, tg_iret0, nLg_n, nLg_i, nLg_r, tc_c, tc_l, tc_r, tc_m, tc_n, tc_o, tc_0, inR, true_and, and_true, ne_eq, not_true_eq_false, not_false_eq_true, true_imp_iff, false_imp_iff, lit_a, Nat.reduceAdd, or_true, true_or, or_false, false_or, Int.reduceEq, Int.reduceNe, Int.reduceLT, Int.reduceLE, Int.reduceNeg, Int.toNat_natCast, tg_nil, eq_self, lc0n, lc1n, lc2n, lc3n, lc4n, lc5n, lc6n, lc1i, lc2i, lc3i, lc4i, lc5i, lc6i, lc1r, lc2r, lc3r, lc4r, lc5r, lc6r, Nat.add_zero]
  repeat' (first | with_reducible apply And.intro | intro _)
  all_goals (try omega)
  exact h
theorem Fz_ms {z : Rw} {μ0 μ : Mem} {V j : Nat} {v : Int} (hF : Fz z μ0 μ) (hV : 510 ≤ V) : Fz z (ms μ0 V j v) (ms μ V j v) := by
  obtain ⟨⟨h1, h2, h3, a, h4⟩, h5⟩ := hF
  refine ⟨⟨h1, h2, RC_f (by have := h1.1; omega) (fun k hk1 hk2 => ms_ne k (by omega)) h3, a, CRr_f (fun k hk => ms_ne k (by omega)) h4⟩, fun k hk => ?_⟩
  funext x
  rw [ms_at, ms_at, h5 k hk]
/-- two arrays of 48 that the law knows -/
def VW (na : Nat) (len : Nat → Nat) (V W : Nat) : Prop := (510 ≤ V ∧ V < 510 + na) ∧ (510 ≤ W ∧ W < 510 + na) ∧ len V = 48 ∧ len W = 48 ∧ V ≠ W
/-- what the law's now writes into them -/
def NV (z : Rw) (g b : Int) (V W s : Nat) (μ : Mem) : Prop := ∀ i, i < s → μ V (2 * i) = ch z g b i ∧ μ V (2 * i + 1) = zm z i ∧ μ W (2 * i) = nl z g b i ∧ μ W (2 * i + 1) = zl z i
theorem NV_s {z : Rw} {g b : Int} {V W s : Nat} {μ : Mem} (hV : V ≠ W) (h : NV z g b V W s μ) : NV z g b V W (s + 1) (ms (ms (ms (ms μ V (2 * s) (ch z g b s)) V (2 * s + 1) (zm z s)) W (2 * s) (nl z g b s)) W (2 * s + 1) (zl z s)) := by
  intro i hi
  unfold ms
  by_cases e : i = s
  · subst e
    refine ⟨?_, ?_, ?_, ?_⟩ <;> (repeat (first | rw [if_neg (by omega)] | rw [if_pos (by omega)]))
  · obtain ⟨h1, h2, h3, h4⟩ := h i (by omega)
    refine ⟨?_, ?_, ?_, ?_⟩ <;> (repeat (first | rw [if_neg (by omega)] | rw [if_pos (by omega)])) <;> assumption
theorem iOr_0 {x : Int} (h : inR x) : iOr x 0 = x := by
  unfold iOr
  rw [i32_zero, Int32.or_zero, inR_toInt h]
theorem rn1_r (z : Rw) (g b : Int) : ∀ s : Nat, inR (rn z g b s).1
  | 0 => ⟨by show (-2147483648 : Int) ≤ 0; decide, by show (0 : Int) ≤ 2147483647; decide⟩
  | s + 1 => by
    show inR (nxt z (rn z g b s) (ch z g b s)).1
    unfold nxt
    split
    · exact rn1_r z g b s
    · exact iOr_r _ _
theorem bit_1 {x k : Int} : iAnd (iShr x k) 1 = bit x k := rfl
-- the law's now: blocks [0, 6, 19, 24, 38, 47, 63, 72, 100, 109, 110, 122, 124, 132, 143, 147, 172, 188, 195, 211, 230]
theorem c_now {y : Nat → Int} {L d g na l V W : Nat} {len : Nat → Nat} {Q : QT} {μ0 : Mem} {z : Rw} {b : Int} (hS : St z μ0) (hl : (l : Int) < z 3) (hb : -1 ≤ b ∧ b ≤ 600) (hVW : VW na len V W)
    (h : ∀ μ', St z μ' → (∀ k, 510 ≤ k → k ≠ V → k ≠ W → μ' k = μ0 k) → NV z (gL z l) b V W (zn z) μ' → Q (.inl (z 0)) μ') : Call2 y L (d + 1) 3 [.inr (.inr 0), .inl (l : Int), .inl b, .inr (.inr V), .inr (.inr W)] (g, na, len) μ0 Q := by
  have hz := hS.1
  have q0 := hz.1
  have ez := zn_eq hz
  obtain ⟨hV1, hW1, hVl, hWl, hne⟩ := hVW
  refine el_3 ?_
  refine wp2_go w3_0 ?_; simp only [v3_0, tg_aload_0, tg_iload_1, tg_iconst, tg_iv3, nLg_n, nLg_i, nLg_r, tc_c, tc_l, tc_r, tc_m, tc_n, tc_o, tc_0, inR, true_and, and_true, ne_eq, not_true_eq_false, not_false_eq_true, true_imp_iff, false_imp_iff, lit_a, Nat.reduceAdd, or_true, true_or, or_false, false_or, Int.reduceEq, Int.reduceNe, Int.reduceLT, Int.reduceLE, Int.reduceNeg, Int.toNat_natCast, tg_nil, eq_self, lc0n, lc1n, lc2n, lc3n, lc4n, lc5n, lc6n, lc1i, lc2i, lc3i, lc4i, lc5i, lc6i, lc1r, lc2r, lc3r, lc4r, lc5r, lc6r, Nat.add_zero]
  refine q_of0 (Fz_r hS) hl (fun μ hF => ?_)
  refine wp2_go w3_6 ?_; simp only [v3_6, tg_istore, okS_5, stL_5, tg_iconst, okS_6, stL_6, okS_7, stL_7, tg_aload_0, tg_iv2, nLg_n, nLg_i, nLg_r, tc_c, tc_l, tc_r, tc_m, tc_n, tc_o, tc_0, inR, true_and, and_true, ne_eq, not_true_eq_false, not_false_eq_true, true_imp_iff, false_imp_iff, lit_a, Nat.reduceAdd, or_true, true_or, or_false, false_or, Int.reduceEq, Int.reduceNe, Int.reduceLT, Int.reduceLE, Int.reduceNeg, Int.toNat_natCast, tg_nil, eq_self, lc0n, lc1n, lc2n, lc3n, lc4n, lc5n, lc6n, lc1i, lc2i, lc3i, lc4i, lc5i, lc6i, lc1r, lc2r, lc3r, lc4r, lc5r, lc6r, Nat.add_zero]
  refine q_cnt0 hF (fun μ hF => ?_)
  refine wp2_go w3_19 ?_; simp only [v3_19, tg_istore, okS_8, stL_8, tg_iconst, okS_9, stL_9, nLg_n, nLg_i, nLg_r, tc_c, tc_l, tc_r, tc_m, tc_n, tc_o, tc_0, inR, true_and, and_true, ne_eq, not_true_eq_false, not_false_eq_true, true_imp_iff, false_imp_iff, lit_a, Nat.reduceAdd, or_true, true_or, or_false, false_or, Int.reduceEq, Int.reduceNe, Int.reduceLT, Int.reduceLE, Int.reduceNeg, Int.toNat_natCast, tg_nil, eq_self, lc0n, lc1n, lc2n, lc3n, lc4n, lc5n, lc6n, lc1i, lc2i, lc3i, lc4i, lc5i, lc6i, lc1r, lc2r, lc3r, lc4r, lc5r, lc6r, Nat.add_zero]
  -- the loop over the sentences
  have loop : ∀ j s : Nat, s + j = zn z → ∀ (ν μ : Mem) (X10 X11 X12 X13 : Option MV), nLg X10 → nLg X11 → nLg X12 → nLg X13 → Fz z ν μ → (∀ k, 510 ≤ k → k ≠ V → k ≠ W → ν k = μ0 k) → NV z (gL z l) b V W s ν →
      wp2 y L 0 (Call2 y L d) 3 Q (0, na, len) 24 [some (.inr (.inr 0)), some (.inl (l : Int)), some (.inl b), some (.inr (.inr V)), some (.inr (.inr W)), some (.inl (gL z l)), some (.inl (rn z (gL z l) b s).2), some (.inl (rn z (gL z l) b s).1), some (.inl (z 0)), some (.inl (s : Int)), X10, X11, X12, X13] [] μ := by
    intro j
    induction j with
    | zero =>
      intro s hj ν μ X10 X11 X12 X13 n10 n11 n12 n13 hF hk hN
      refine wp2_go w3_24 ?_; simp only [v3_24, tg_iload, ldI_9, ldI_8, tg_ic_ge, tg_bipush, tg_istore, okS_10, stL_10, tg_iconst, okS_11, stL_11, nLg_n, nLg_i, nLg_r, tc_c, tc_l, tc_r, tc_m, tc_n, tc_o, tc_0, inR, true_and, and_true, ne_eq, not_true_eq_false, not_false_eq_true, true_imp_iff, false_imp_iff, lit_a, Nat.reduceAdd, or_true, true_or, or_false, false_or, Int.reduceEq, Int.reduceNe, Int.reduceLT, Int.reduceLE, Int.reduceNeg, Int.toNat_natCast, tg_nil, eq_self, lc0n, lc1n, lc2n, lc3n, lc4n, lc5n, lc6n, lc1i, lc2i, lc3i, lc4i, lc5i, lc6i, lc1r, lc2r, lc3r, lc4r, lc5r, lc6r, Nat.add_zero]
      repeat' (first | with_reducible apply And.intro | intro _)
      all_goals (try omega)
      refine wp2_go w3_230 ?_; simp only [v3_230, tg_iload, ldI_8, tg_iret0, nLg_n, nLg_i, nLg_r, tc_c, tc_l, tc_r, tc_m, tc_n, tc_o, tc_0, inR, true_and, and_true, ne_eq, not_true_eq_false, not_false_eq_true, true_imp_iff, false_imp_iff, lit_a, Nat.reduceAdd, or_true, true_or, or_false, false_or, Int.reduceEq, Int.reduceNe, Int.reduceLT, Int.reduceLE, Int.reduceNeg, Int.toNat_natCast, tg_nil, eq_self, lc0n, lc1n, lc2n, lc3n, lc4n, lc5n, lc6n, lc1i, lc2i, lc3i, lc4i, lc5i, lc6i, lc1r, lc2r, lc3r, lc4r, lc5r, lc6r, Nat.add_zero]
      have e1 : s = zn z := by omega
      rw [e1] at hN
      refine h μ hF.1 (fun k h1 h2 h3 => (hF.2 k h1).trans (hk k h1 h2 h3)) ?_
      intro i hi
      rw [hF.2 V hV1.1, hF.2 W hW1.1]
      exact hN i hi
    | succ j ih =>
      intro s hj ν μ X10 X11 X12 X13 n10 n11 n12 n13 hF hk hN
      have hs : (s : Int) < z 0 := by omega
      have hr4 := (hz.2.1 s hs).2.2.2.1
      have hrow := (hz.2.1 s hs).2.2.2.2
      have hsec := rn_b2 (g := gL z l) (b := b) hz hb.1 s (by omega)
      obtain ⟨r, er⟩ := nat_of hr4.1
      -- behind the choice
      have behind : ∀ (X11 X12 X13 : Option MV) (μ : Mem), nLg X11 → nLg X12 → nLg X13 → Fz z ν μ → wp2 y L 0 (Call2 y L d) 3 Q (0, na, len) 132 [some (.inr (.inr 0)), some (.inl (l : Int)), some (.inl b), some (.inr (.inr V)), some (.inr (.inr W)), some (.inl (gL z l)), some (.inl (rn z (gL z l) b s).2), some (.inl (rn z (gL z l) b s).1), some (.inl (z 0)), some (.inl (s : Int)), some (.inl (ch z (gL z l) b s)), X11, X12, X13] [] μ := by
        intro X11 X12 X13 μ n11 n12 n13 hF
        have hc := ch_in (g := gL z l) (b := b) hz hs
        have b1 := iOr_r (rn z (gL z l) b s).1 (iShl 1 (ch z (gL z l) b s))
        have b2 := cl_b (g := gL z l) (b := b) hz hs
        have e1 : rn z (gL z l) b (s + 1) = nxt z (rn z (gL z l) b s) (ch z (gL z l) b s) := rfl
        have e2 : (rn z (gL z l) b (s + 1)).2 = (rn z (gL z l) b s).2 + nl z (gL z l) b s := by rw [rn_sm, rn_sm, sm_s]
        have fin2 : ∀ (v : Int) (μ : Mem), v = nl z (gL z l) b s → Fz z (ms (ms ν V (2 * s) (ch z (gL z l) b s)) V (2 * s + 1) (zm z s)) μ → wp2 y L 0 (Call2 y L d) 3 Q (0, na, len) 195 [some (.inr (.inr 0)), some (.inl (l : Int)), some (.inl b), some (.inr (.inr V)), some (.inr (.inr W)), some (.inl (gL z l)), some (.inl (rn z (gL z l) b s).2), some (.inl (rn z (gL z l) b (s + 1)).1), some (.inl (z 0)), some (.inl (s : Int)),  some (.inl (ch z (gL z l) b s)), X11, X12, X13] [.inl v, .inl ((2 * s : Nat) : Int), .inr (.inr W)] μ := by
          intro v μ ev hF
          subst ev
          refine wp2_go w3_195 ?_; simp only [v3_195, tg_iastore, tg_aload, ldR_4, tg_iconst, tg_iload, ldI_9, tg_imul, tg_iadd, tg_aload_0, tg_iv3, nLg_n, nLg_i, nLg_r, tc_c, tc_l, tc_r, tc_m, tc_n, tc_o, tc_0, inR, true_and, and_true, ne_eq, not_true_eq_false, not_false_eq_true, true_imp_iff, false_imp_iff, lit_a, Nat.reduceAdd, or_true, true_or, or_false, false_or, Int.reduceEq, Int.reduceNe, Int.reduceLT, Int.reduceLE, Int.reduceNeg, Int.toNat_natCast, tg_nil, eq_self, lc0n, lc1n, lc2n, lc3n, lc4n, lc5n, lc6n, lc1i, lc2i, lc3i, lc4i, lc5i, lc6i, lc1r, lc2r, lc3r, lc4r, lc5r, lc6r, Nat.add_zero, hWl]
          repeat' (first | with_reducible apply And.intro | intro _)
          all_goals (try omega)
          refine q_sen1 (Fz_ms hF hW1.1) hs (fun μ hF => ?_)
          have e3 : ms μ W (2 * s + 1) (zl z s) W (2 * s) = nl z (gL z l) b s := by
            unfold ms
            rw [if_neg (by omega), hF.2 W hW1.1]
            unfold ms
            rw [if_pos ⟨rfl, rfl⟩]
          refine wp2_go w3_211 ?_; simp only [v3_211, tg_iastore, tg_iload, ldI_6, tg_aload, ldR_4, tg_iconst, ldI_9, tg_imul, tg_iaload, tg_iadd, tg_istore, okS_6, stL_6, tg_iinc, okS_9, stL_9, tg_goto, nLg_n, nLg_i, nLg_r, tc_c, tc_l, tc_r, tc_m, tc_n, tc_o, tc_0, inR, true_and, and_true, ne_eq, not_true_eq_false, not_false_eq_true, true_imp_iff, false_imp_iff, lit_a, Nat.reduceAdd, or_true, true_or, or_false, false_or, Int.reduceEq, Int.reduceNe, Int.reduceLT, Int.reduceLE, Int.reduceNeg, Int.toNat_natCast, tg_nil, eq_self, lc0n, lc1n, lc2n, lc3n, lc4n, lc5n, lc6n, lc1i, lc2i, lc3i, lc4i, lc5i, lc6i, lc1r, lc2r, lc3r, lc4r, lc5r, lc6r, Nat.add_zero, hWl, e3, ← e2]
          repeat' (first | with_reducible apply And.intro | intro _)
          all_goals (try omega)
          refine ih (s + 1) (by omega) _ _ _ _ _ _ trivial n11 n12 n13 (Fz_ms hF hW1.1) (fun k h1 h2 h3 => ?_) (NV_s hne hN)
          rw [ms_ne k h3, ms_ne k h3, ms_ne k h2, ms_ne k h2]
          exact hk k h1 h2 h3
        have fin : ∀ (x : Int), iOr (rn z (gL z l) b s).1 x = (rn z (gL z l) b (s + 1)).1 → wp2 y L 0 (Call2 y L d) 3 Q (0, na, len) 147 [some (.inr (.inr 0)), some (.inl (l : Int)), some (.inl b), some (.inr (.inr V)), some (.inr (.inr W)), some (.inl (gL z l)), some (.inl (rn z (gL z l) b s).2), some (.inl (rn z (gL z l) b s).1), some (.inl (z 0)), some (.inl (s : Int)),  some (.inl (ch z (gL z l) b s)), X11, X12, X13] [.inl x, .inl (rn z (gL z l) b s).1] μ := by
          intro x ex
          refine wp2_go w3_147 ?_; simp only [v3_147, tg_ior, tg_istore, okS_7, stL_7, tg_aload_3, tg_iconst, tg_iload, ldI_9, tg_imul, ldI_10, tg_iastore, tg_iadd, tg_aload_0, tg_iv3, nLg_n, nLg_i, nLg_r, tc_c, tc_l, tc_r, tc_m, tc_n, tc_o, tc_0, inR, true_and, and_true, ne_eq, not_true_eq_false, not_false_eq_true, true_imp_iff, false_imp_iff, lit_a, Nat.reduceAdd, or_true, true_or, or_false, false_or, Int.reduceEq, Int.reduceNe, Int.reduceLT, Int.reduceLE, Int.reduceNeg, Int.toNat_natCast, tg_nil, eq_self, lc0n, lc1n, lc2n, lc3n, lc4n, lc5n, lc6n, lc1i, lc2i, lc3i, lc4i, lc5i, lc6i, lc1r, lc2r, lc3r, lc4r, lc5r, lc6r, Nat.add_zero, ex, hVl]
          repeat' (first | with_reducible apply And.intro | intro _)
          all_goals (try omega)
          refine q_sen0 (Fz_ms hF hV1.1) hs (fun μ hF => ?_)
          refine wp2_go w3_172 ?_; simp only [v3_172, tg_iastore, tg_aload, ldR_4, tg_iconst, tg_iload, ldI_9, tg_imul, ldI_10, tg_if_ge, tg_goto, nLg_n, nLg_i, nLg_r, tc_c, tc_l, tc_r, tc_m, tc_n, tc_o, tc_0, inR, true_and, and_true, ne_eq, not_true_eq_false, not_false_eq_true, true_imp_iff, false_imp_iff, lit_a, Nat.reduceAdd, or_true, true_or, or_false, false_or, Int.reduceEq, Int.reduceNe, Int.reduceLT, Int.reduceLE, Int.reduceNeg, Int.toNat_natCast, tg_nil, eq_self, lc0n, lc1n, lc2n, lc3n, lc4n, lc5n, lc6n, lc1i, lc2i, lc3i, lc4i, lc5i, lc6i, lc1r, lc2r, lc3r, lc4r, lc5r, lc6r, Nat.add_zero, hVl]
          repeat' (first | with_reducible apply And.intro | intro _)
          all_goals (try omega)
          · rename_i hc0
            exact fin2 0 _ (by rw [b2.2.2.mpr (by omega)]) (Fz_ms hF hV1.1)
          · rename_i hc0
            refine wp2_go w3_188 ?_; simp only [v3_188, tg_aload_0, tg_iload, ldI_10, tg_iconst, tg_iv3, nLg_n, nLg_i, nLg_r, tc_c, tc_l, tc_r, tc_m, tc_n, tc_o, tc_0, inR, true_and, and_true, ne_eq, not_true_eq_false, not_false_eq_true, true_imp_iff, false_imp_iff, lit_a, Nat.reduceAdd, or_true, true_or, or_false, false_or, Int.reduceEq, Int.reduceNe, Int.reduceLT, Int.reduceLE, Int.reduceNeg, Int.toNat_natCast, tg_nil, eq_self, lc0n, lc1n, lc2n, lc3n, lc4n, lc5n, lc6n, lc1i, lc2i, lc3i, lc4i, lc5i, lc6i, lc1r, lc2r, lc3r, lc4r, lc5r, lc6r, Nat.add_zero]
            refine q_ofN0i (Fz_ms hF hV1.1) hc0 (by omega) (fun μ hF => ?_)
            refine fin2 _ _ ?_ hF
            unfold nl cl
            rw [if_neg (by omega)]
        refine wp2_go w3_132 ?_; simp only [v3_132, tg_iload, ldI_7, ldI_10, tg_if_ge, tg_iconst, tg_goto, nLg_n, nLg_i, nLg_r, tc_c, tc_l, tc_r, tc_m, tc_n, tc_o, tc_0, inR, true_and, and_true, ne_eq, not_true_eq_false, not_false_eq_true, true_imp_iff, false_imp_iff, lit_a, Nat.reduceAdd, or_true, true_or, or_false, false_or, Int.reduceEq, Int.reduceNe, Int.reduceLT, Int.reduceLE, Int.reduceNeg, Int.toNat_natCast, tg_nil, eq_self, lc0n, lc1n, lc2n, lc3n, lc4n, lc5n, lc6n, lc1i, lc2i, lc3i, lc4i, lc5i, lc6i, lc1r, lc2r, lc3r, lc4r, lc5r, lc6r, Nat.add_zero]
        repeat' (first | with_reducible apply And.intro | intro _)
        all_goals (try omega)
        · refine fin 0 ?_
          rw [e1, iOr_0 (rn1_r z (gL z l) b s)]
          unfold nxt
          rw [if_pos (by omega)]
        · refine wp2_go w3_143 ?_; simp only [v3_143, tg_iconst, tg_iload, ldI_10, tg_ishl, nLg_n, nLg_i, nLg_r, tc_c, tc_l, tc_r, tc_m, tc_n, tc_o, tc_0, inR, true_and, and_true, ne_eq, not_true_eq_false, not_false_eq_true, true_imp_iff, false_imp_iff, lit_a, Nat.reduceAdd, or_true, true_or, or_false, false_or, Int.reduceEq, Int.reduceNe, Int.reduceLT, Int.reduceLE, Int.reduceNeg, Int.toNat_natCast, tg_nil, eq_self, lc0n, lc1n, lc2n, lc3n, lc4n, lc5n, lc6n, lc1i, lc2i, lc3i, lc4i, lc5i, lc6i, lc1r, lc2r, lc3r, lc4r, lc5r, lc6r, Nat.add_zero]
          refine fin _ ?_
          rw [e1]
          unfold nxt
          rw [if_neg (by omega)]
      -- the choice
      have out : ∀ (k : Nat) (X12 X13 : Option MV) (μ : Mem), nLg X12 → nLg X13 → Fz z ν μ → 0 ≤ ch z (gL z l) b s → k ≤ 5 → wp2 y L 0 (Call2 y L d) 3 Q (0, na, len) 38 [some (.inr (.inr 0)), some (.inl (l : Int)), some (.inl b), some (.inr (.inr V)), some (.inr (.inr W)), some (.inl (gL z l)), some (.inl (rn z (gL z l) b s).2), some (.inl (rn z (gL z l) b s).1), some (.inl (z 0)), some (.inl (s : Int)),  some (.inl (ch z (gL z l) b s)), some (.inl (k : Int)), X12, X13] [] μ := by
        intro k X12 X13 μ n12 n13 hF hc hk5
        have hc2 := ch_in (g := gL z l) (b := b) hz hs
        refine wp2_go w3_38 ?_; simp only [v3_38, tg_iload, ldI_11, tg_aload_0, ldI_9, tg_iconst, tg_iv3, nLg_n, nLg_i, nLg_r, tc_c, tc_l, tc_r, tc_m, tc_n, tc_o, tc_0, inR, true_and, and_true, ne_eq, not_true_eq_false, not_false_eq_true, true_imp_iff, false_imp_iff, lit_a, Nat.reduceAdd, or_true, true_or, or_false, false_or, Int.reduceEq, Int.reduceNe, Int.reduceLT, Int.reduceLE, Int.reduceNeg, Int.toNat_natCast, tg_nil, eq_self, lc0n, lc1n, lc2n, lc3n, lc4n, lc5n, lc6n, lc1i, lc2i, lc3i, lc4i, lc5i, lc6i, lc1r, lc2r, lc3r, lc4r, lc5r, lc6r, Nat.add_zero]
        refine q_sen5 hF hs (fun μ hF => ?_)
        rw [er]
        refine wp2_go w3_47 ?_; simp only [v3_47, tg_ic_ge, tg_iload, ldI_10, tg_if_ge, tg_aload_0, ldI_9, ldI_11, tg_iv3, nLg_n, nLg_i, nLg_r, tc_c, tc_l, tc_r, tc_m, tc_n, tc_o, tc_0, inR, true_and, and_true, ne_eq, not_true_eq_false, not_false_eq_true, true_imp_iff, false_imp_iff, lit_a, Nat.reduceAdd, or_true, true_or, or_false, false_or, Int.reduceEq, Int.reduceNe, Int.reduceLT, Int.reduceLE, Int.reduceNeg, Int.toNat_natCast, tg_nil, eq_self, lc0n, lc1n, lc2n, lc3n, lc4n, lc5n, lc6n, lc1i, lc2i, lc3i, lc4i, lc5i, lc6i, lc1r, lc2r, lc3r, lc4r, lc5r, lc6r, Nat.add_zero]
        repeat' (first | with_reducible apply And.intro | intro _)
        all_goals (try omega)
        · exact behind (some (.inl (k : Int))) _ _ _ trivial n12 n13 hF
        · exact behind (some (.inl (k : Int))) _ _ _ trivial n12 n13 hF
      have inner : ∀ (j k : Nat), k + j = r → pickR (fun i => z (77 + 5 * s + i)) (okN z (gL z l) b (rn z (gL z l) b s).1 (rn z (gL z l) b s).2) j k = ch z (gL z l) b s → ∀ (X12 X13 : Option MV) (μ : Mem), nLg X12 → nLg X13 → Fz z ν μ → wp2 y L 0 (Call2 y L d) 3 Q (0, na, len) 38 [some (.inr (.inr 0)), some (.inl (l : Int)), some (.inl b), some (.inr (.inr V)), some (.inr (.inr W)), some (.inl (gL z l)), some (.inl (rn z (gL z l) b s).2), some (.inl (rn z (gL z l) b s).1), some (.inl (z 0)), some (.inl (s : Int)),  some (.inl (-6)), some (.inl (k : Int)), X12, X13] [] μ := by
        intro j
        induction j with
        | zero =>
          intro k hkr hpk X12 X13 μ n12 n13 hF
          have e6 : ch z (gL z l) b s = -6 := hpk.symm
          refine wp2_go w3_38 ?_; simp only [v3_38, tg_iload, ldI_11, tg_aload_0, ldI_9, tg_iconst, tg_iv3, nLg_n, nLg_i, nLg_r, tc_c, tc_l, tc_r, tc_m, tc_n, tc_o, tc_0, inR, true_and, and_true, ne_eq, not_true_eq_false, not_false_eq_true, true_imp_iff, false_imp_iff, lit_a, Nat.reduceAdd, or_true, true_or, or_false, false_or, Int.reduceEq, Int.reduceNe, Int.reduceLT, Int.reduceLE, Int.reduceNeg, Int.toNat_natCast, tg_nil, eq_self, lc0n, lc1n, lc2n, lc3n, lc4n, lc5n, lc6n, lc1i, lc2i, lc3i, lc4i, lc5i, lc6i, lc1r, lc2r, lc3r, lc4r, lc5r, lc6r, Nat.add_zero]
          refine q_sen5 hF hs (fun μ hF => ?_)
          rw [er]
          refine wp2_go w3_47 ?_; simp only [v3_47, tg_ic_ge, tg_iload, ldI_10, tg_if_ge, tg_aload_0, ldI_9, ldI_11, tg_iv3, nLg_n, nLg_i, nLg_r, tc_c, tc_l, tc_r, tc_m, tc_n, tc_o, tc_0, inR, true_and, and_true, ne_eq, not_true_eq_false, not_false_eq_true, true_imp_iff, false_imp_iff, lit_a, Nat.reduceAdd, or_true, true_or, or_false, false_or, Int.reduceEq, Int.reduceNe, Int.reduceLT, Int.reduceLE, Int.reduceNeg, Int.toNat_natCast, tg_nil, eq_self, lc0n, lc1n, lc2n, lc3n, lc4n, lc5n, lc6n, lc1i, lc2i, lc3i, lc4i, lc5i, lc6i, lc1r, lc2r, lc3r, lc4r, lc5r, lc6r, Nat.add_zero]
          repeat' (first | with_reducible apply And.intro | intro _)
          all_goals (try omega)
          have := behind (some (.inl (k : Int))) X12 X13 μ trivial n12 n13 hF
          rw [e6] at this
          exact this
        | succ j ih2 =>
          intro k hkr hpk X12 X13 μ n12 n13 hF
          obtain ⟨t1, t2⟩ := hrow k (by omega)
          obtain ⟨t, et⟩ := nat_of t1
          have ht := hz.2.2.2.1 t (by omega)
          have hb1 := bit_01 (z (197 + 2 * t)) (gL z l)
          have hb2 := bit_01 (rn z (gL z l) b s).1 (t : Int)
          unfold pickR at hpk
          rw [et] at hpk
          unfold okN at hpk
          rw [Int.toNat_natCast] at hpk
          -- not taken
          have p109 : ∀ (μ : Mem) (X13 : Option MV), nLg X13 → Fz z ν μ → ¬ (bit (z (197 + 2 * t)) (gL z l) = 1 ∧ bit (rn z (gL z l) b s).1 (t : Int) ≠ 1 ∧ (rn z (gL z l) b s).2 + z (196 + 2 * t) ≤ b) → wp2 y L 0 (Call2 y L d) 3 Q (0, na, len) 109 [some (.inr (.inr 0)), some (.inl (l : Int)), some (.inl b), some (.inr (.inr V)), some (.inr (.inr W)), some (.inl (gL z l)), some (.inl (rn z (gL z l) b s).2), some (.inl (rn z (gL z l) b s).1), some (.inl (z 0)), some (.inl (s : Int)),  some (.inl (-6)), some (.inl (k : Int)), some (.inl (t : Int)), X13] [] μ := by
            intro μ X13 n13 hF hno
            rw [if_neg (by rw [decide_eq_true_eq]; exact hno)] at hpk
            refine wp2_go w3_109 ?_; simp only [v3_109, tg_iconst, nLg_n, nLg_i, nLg_r, tc_c, tc_l, tc_r, tc_m, tc_n, tc_o, tc_0, inR, true_and, and_true, ne_eq, not_true_eq_false, not_false_eq_true, true_imp_iff, false_imp_iff, lit_a, Nat.reduceAdd, or_true, true_or, or_false, false_or, Int.reduceEq, Int.reduceNe, Int.reduceLT, Int.reduceLE, Int.reduceNeg, Int.toNat_natCast, tg_nil, eq_self, lc0n, lc1n, lc2n, lc3n, lc4n, lc5n, lc6n, lc1i, lc2i, lc3i, lc4i, lc5i, lc6i, lc1r, lc2r, lc3r, lc4r, lc5r, lc6r, Nat.add_zero]
            refine wp2_go w3_110 ?_; simp only [v3_110, tg_istore, okS_13, stL_13, tg_iload, ldI_13, tg_if_eq, ldI_12, tg_goto, nLg_n, nLg_i, nLg_r, tc_c, tc_l, tc_r, tc_m, tc_n, tc_o, tc_0, inR, true_and, and_true, ne_eq, not_true_eq_false, not_false_eq_true, true_imp_iff, false_imp_iff, lit_a, Nat.reduceAdd, or_true, true_or, or_false, false_or, Int.reduceEq, Int.reduceNe, Int.reduceLT, Int.reduceLE, Int.reduceNeg, Int.toNat_natCast, tg_nil, eq_self, lc0n, lc1n, lc2n, lc3n, lc4n, lc5n, lc6n, lc1i, lc2i, lc3i, lc4i, lc5i, lc6i, lc1r, lc2r, lc3r, lc4r, lc5r, lc6r, Nat.add_zero]
            refine wp2_go w3_122 ?_; simp only [v3_122, tg_iload, ldI_10, nLg_n, nLg_i, nLg_r, tc_c, tc_l, tc_r, tc_m, tc_n, tc_o, tc_0, inR, true_and, and_true, ne_eq, not_true_eq_false, not_false_eq_true, true_imp_iff, false_imp_iff, lit_a, Nat.reduceAdd, or_true, true_or, or_false, false_or, Int.reduceEq, Int.reduceNe, Int.reduceLT, Int.reduceLE, Int.reduceNeg, Int.toNat_natCast, tg_nil, eq_self, lc0n, lc1n, lc2n, lc3n, lc4n, lc5n, lc6n, lc1i, lc2i, lc3i, lc4i, lc5i, lc6i, lc1r, lc2r, lc3r, lc4r, lc5r, lc6r, Nat.add_zero]
            refine wp2_go w3_124 ?_; simp only [v3_124, tg_istore, okS_10, stL_10, tg_iinc, ldI_11, okS_11, stL_11, tg_goto, nLg_n, nLg_i, nLg_r, tc_c, tc_l, tc_r, tc_m, tc_n, tc_o, tc_0, inR, true_and, and_true, ne_eq, not_true_eq_false, not_false_eq_true, true_imp_iff, false_imp_iff, lit_a, Nat.reduceAdd, or_true, true_or, or_false, false_or, Int.reduceEq, Int.reduceNe, Int.reduceLT, Int.reduceLE, Int.reduceNeg, Int.toNat_natCast, tg_nil, eq_self, lc0n, lc1n, lc2n, lc3n, lc4n, lc5n, lc6n, lc1i, lc2i, lc3i, lc4i, lc5i, lc6i, lc1r, lc2r, lc3r, lc4r, lc5r, lc6r, Nat.add_zero]
            exact ih2 (k + 1) (by omega) hpk _ _ _ trivial trivial hF
          refine wp2_go w3_38 ?_; simp only [v3_38, tg_iload, ldI_11, tg_aload_0, ldI_9, tg_iconst, tg_iv3, nLg_n, nLg_i, nLg_r, tc_c, tc_l, tc_r, tc_m, tc_n, tc_o, tc_0, inR, true_and, and_true, ne_eq, not_true_eq_false, not_false_eq_true, true_imp_iff, false_imp_iff, lit_a, Nat.reduceAdd, or_true, true_or, or_false, false_or, Int.reduceEq, Int.reduceNe, Int.reduceLT, Int.reduceLE, Int.reduceNeg, Int.toNat_natCast, tg_nil, eq_self, lc0n, lc1n, lc2n, lc3n, lc4n, lc5n, lc6n, lc1i, lc2i, lc3i, lc4i, lc5i, lc6i, lc1r, lc2r, lc3r, lc4r, lc5r, lc6r, Nat.add_zero]
          refine q_sen5 hF hs (fun μ hF => ?_)
          rw [er]
          refine wp2_go w3_47 ?_; simp only [v3_47, tg_ic_ge, tg_iload, ldI_10, tg_if_ge, tg_aload_0, ldI_9, ldI_11, tg_iv3, nLg_n, nLg_i, nLg_r, tc_c, tc_l, tc_r, tc_m, tc_n, tc_o, tc_0, inR, true_and, and_true, ne_eq, not_true_eq_false, not_false_eq_true, true_imp_iff, false_imp_iff, lit_a, Nat.reduceAdd, or_true, true_or, or_false, false_or, Int.reduceEq, Int.reduceNe, Int.reduceLT, Int.reduceLE, Int.reduceNeg, Int.toNat_natCast, tg_nil, eq_self, lc0n, lc1n, lc2n, lc3n, lc4n, lc5n, lc6n, lc1i, lc2i, lc3i, lc4i, lc5i, lc6i, lc1r, lc2r, lc3r, lc4r, lc5r, lc6r, Nat.add_zero]
          repeat' (first | with_reducible apply And.intro | intro _)
          all_goals (try omega)
          refine q_bkd hF hs (by omega) (fun μ hF => ?_)
          rw [et]
          refine wp2_go w3_63 ?_; simp only [v3_63, tg_istore, okS_12, stL_12, tg_aload_0, tg_iload, ldI_12, tg_iconst, tg_iv3, nLg_n, nLg_i, nLg_r, tc_c, tc_l, tc_r, tc_m, tc_n, tc_o, tc_0, inR, true_and, and_true, ne_eq, not_true_eq_false, not_false_eq_true, true_imp_iff, false_imp_iff, lit_a, Nat.reduceAdd, or_true, true_or, or_false, false_or, Int.reduceEq, Int.reduceNe, Int.reduceLT, Int.reduceLE, Int.reduceNeg, Int.toNat_natCast, tg_nil, eq_self, lc0n, lc1n, lc2n, lc3n, lc4n, lc5n, lc6n, lc1i, lc2i, lc3i, lc4i, lc5i, lc6i, lc1r, lc2r, lc3r, lc4r, lc5r, lc6r, Nat.add_zero]
          refine q_ofN1 hF (by omega) (fun μ hF => ?_)
          refine wp2_go w3_72 ?_; simp only [v3_72, tg_iload, ldI_5, tg_ishr, tg_iconst, tg_iand, tg_ic_ne, ldI_7, ldI_12, tg_if_ne, ldI_6, tg_aload_0, tg_iv3, nLg_n, nLg_i, nLg_r, tc_c, tc_l, tc_r, tc_m, tc_n, tc_o, tc_0, inR, true_and, and_true, ne_eq, not_true_eq_false, not_false_eq_true, true_imp_iff, false_imp_iff, lit_a, Nat.reduceAdd, or_true, true_or, or_false, false_or, Int.reduceEq, Int.reduceNe, Int.reduceLT, Int.reduceLE, Int.reduceNeg, Int.toNat_natCast, tg_nil, eq_self, lc0n, lc1n, lc2n, lc3n, lc4n, lc5n, lc6n, lc1i, lc2i, lc3i, lc4i, lc5i, lc6i, lc1r, lc2r, lc3r, lc4r, lc5r, lc6r, Nat.add_zero, bit_1]
          repeat' (first | with_reducible apply And.intro | intro _)
          all_goals (try omega)
          · refine q_ofN0 hF (by omega) (fun μ hF => ?_)
            refine wp2_go w3_100 ?_; simp only [v3_100, tg_iadd, tg_iload_2, tg_ic_gt, tg_iconst, tg_goto, nLg_n, nLg_i, nLg_r, tc_c, tc_l, tc_r, tc_m, tc_n, tc_o, tc_0, inR, true_and, and_true, ne_eq, not_true_eq_false, not_false_eq_true, true_imp_iff, false_imp_iff, lit_a, Nat.reduceAdd, or_true, true_or, or_false, false_or, Int.reduceEq, Int.reduceNe, Int.reduceLT, Int.reduceLE, Int.reduceNeg, Int.toNat_natCast, tg_nil, eq_self, lc0n, lc1n, lc2n, lc3n, lc4n, lc5n, lc6n, lc1i, lc2i, lc3i, lc4i, lc5i, lc6i, lc1r, lc2r, lc3r, lc4r, lc5r, lc6r, Nat.add_zero]
            repeat' (first | with_reducible apply And.intro | intro _)
            all_goals (try omega)
            · exact p109 _ _ n13 hF (by omega)
            · rw [if_pos (by rw [decide_eq_true_eq]; omega)] at hpk
              refine wp2_go w3_110 ?_; simp only [v3_110, tg_istore, okS_13, stL_13, tg_iload, ldI_13, tg_if_eq, ldI_12, tg_goto, nLg_n, nLg_i, nLg_r, tc_c, tc_l, tc_r, tc_m, tc_n, tc_o, tc_0, inR, true_and, and_true, ne_eq, not_true_eq_false, not_false_eq_true, true_imp_iff, false_imp_iff, lit_a, Nat.reduceAdd, or_true, true_or, or_false, false_or, Int.reduceEq, Int.reduceNe, Int.reduceLT, Int.reduceLE, Int.reduceNeg, Int.toNat_natCast, tg_nil, eq_self, lc0n, lc1n, lc2n, lc3n, lc4n, lc5n, lc6n, lc1i, lc2i, lc3i, lc4i, lc5i, lc6i, lc1r, lc2r, lc3r, lc4r, lc5r, lc6r, Nat.add_zero]
              refine wp2_go w3_124 ?_; simp only [v3_124, tg_istore, okS_10, stL_10, tg_iinc, ldI_11, okS_11, stL_11, tg_goto, nLg_n, nLg_i, nLg_r, tc_c, tc_l, tc_r, tc_m, tc_n, tc_o, tc_0, inR, true_and, and_true, ne_eq, not_true_eq_false, not_false_eq_true, true_imp_iff, false_imp_iff, lit_a, Nat.reduceAdd, or_true, true_or, or_false, false_or, Int.reduceEq, Int.reduceNe, Int.reduceLT, Int.reduceLE, Int.reduceNeg, Int.toNat_natCast, tg_nil, eq_self, lc0n, lc1n, lc2n, lc3n, lc4n, lc5n, lc6n, lc1i, lc2i, lc3i, lc4i, lc5i, lc6i, lc1r, lc2r, lc3r, lc4r, lc5r, lc6r, Nat.add_zero]
              rw [hpk]
              exact out (k + 1) _ _ _ trivial trivial hF (by omega) (by omega)
          · exact p109 _ _ n13 hF (by omega)
          · exact p109 _ _ n13 hF (by omega)
      refine wp2_go w3_24 ?_; simp only [v3_24, tg_iload, ldI_9, ldI_8, tg_ic_ge, tg_bipush, tg_istore, okS_10, stL_10, tg_iconst, okS_11, stL_11, nLg_n, nLg_i, nLg_r, tc_c, tc_l, tc_r, tc_m, tc_n, tc_o, tc_0, inR, true_and, and_true, ne_eq, not_true_eq_false, not_false_eq_true, true_imp_iff, false_imp_iff, lit_a, Nat.reduceAdd, or_true, true_or, or_false, false_or, Int.reduceEq, Int.reduceNe, Int.reduceLT, Int.reduceLE, Int.reduceNeg, Int.toNat_natCast, tg_nil, eq_self, lc0n, lc1n, lc2n, lc3n, lc4n, lc5n, lc6n, lc1i, lc2i, lc3i, lc4i, lc5i, lc6i, lc1r, lc2r, lc3r, lc4r, lc5r, lc6r, Nat.add_zero]
      repeat' (first | with_reducible apply And.intro | intro _)
      all_goals (try omega)
      exact inner r 0 (by omega) (by
        show _ = chs z (gL z l) b (rn z (gL z l) b s) s
        unfold chs
        rw [er, Int.toNat_natCast]) _ _ _ n12 n13 hF
  exact loop (zn z) 0 (by omega) μ μ _ _ _ _ trivial trivial trivial trivial (Fz_r hF.1) (fun k h1 _ _ => hF.2 k h1) (fun i hi => absurd hi (by omega))
