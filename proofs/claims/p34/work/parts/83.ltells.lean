/-! THE LAW'S tells -/
def mostE (z : Rw) : Nat → Int × Int
  | 0 => (-6, -1)
  | l + 1 => if (mostE z l).2 < tot z l then ((l : Int), tot z l) else mostE z l
theorem mostE_s (z : Rw) (l : Nat) : mostE z (l + 1) = if (mostE z l).2 < tot z l then ((l : Int), tot z l) else mostE z l := rfl
theorem tot_b {z : Rw} {l : Nat} (hz : IZ z) (hl : (l : Int) < z 3) : 0 ≤ tot z l ∧ tot z l ≤ 10080 := by
  have e := nw_eq hz hl
  have b := bt_b (wO_W hz hl) (p := nw z l) (by omega)
  unfold tot
  omega
theorem mostE_lng {z : Rw} (hz : IZ z) : ∀ l : Nat, (l : Int) ≤ z 3 → (mostE z l).1 = (lng z l).1 ∧ ((l = 0 ∧ (mostE z l).2 = -1 ∧ (lng z l).2 = -6) ∨ (0 < l ∧ (mostE z l).2 = (lng z l).2))
  | 0, _ => ⟨rfl, Or.inl ⟨rfl, rfl, rfl⟩⟩
  | l + 1, h => by
    have ih := mostE_lng hz l (by omega)
    have b := tot_b hz (show (l : Int) < z 3 by omega)
    unfold mostE lng
    rcases ih with ⟨h1, ⟨h2, h3, h4⟩ | ⟨h2, h3⟩⟩
    · rw [h3, h4, if_pos (by omega), if_pos (by omega)]
      exact ⟨rfl, Or.inr ⟨by omega, rfl⟩⟩
    · rw [h3]
      split
      · exact ⟨rfl, Or.inr ⟨by omega, rfl⟩⟩
      · exact ⟨h1, Or.inr ⟨by omega, h3⟩⟩
theorem mostE_b {z : Rw} (hz : IZ z) : ∀ l : Nat, (l : Int) ≤ z 3 → -6 ≤ (mostE z l).1 ∧ (mostE z l).1 ≤ 6 ∧ -1 ≤ (mostE z l).2 ∧ (mostE z l).2 ≤ 10080
  | 0, _ => by show (-6 : Int) ≤ -6 ∧ (-6 : Int) ≤ 6 ∧ (-1 : Int) ≤ -1 ∧ (-1 : Int) ≤ 10080; omega
  | l + 1, h => by
    have ih := mostE_b hz l (by omega)
    have b := tot_b hz (show (l : Int) < z 3 by omega)
    have q := hz.1
    unfold mostE
    split
    · show -6 ≤ (l : Int) ∧ (l : Int) ≤ 6 ∧ -1 ≤ tot z l ∧ tot z l ≤ 10080
      omega
    · exact ih
theorem iShl_0 (l : Int) : iShl 0 l = 0 := by
  unfold iShl
  rw [i32_zero, Int32.zero_shiftLeft]
  rfl
theorem olds_r (z : Rw) : ∀ l : Nat, inR (olds z l)
  | 0 => ⟨by show (-2147483648 : Int) ≤ 0; decide, by show (0 : Int) ≤ 2147483647; decide⟩
  | l + 1 => by
    unfold olds
    split
    · exact iOr_r _ _
    · exact olds_r z l
def Fn (z : Rw) (na : Nat) (μ0 μ : Mem) : Prop := St z μ ∧ ∀ k, 510 ≤ k → k < 510 + na → μ k = μ0 k
theorem Fn_q {z : Rw} {na : Nat} {μ0 μ μ' : Mem} (h : Fn z na μ0 μ) (h2 : Fz z μ μ') : Fn z na μ0 μ' := ⟨h2.1, fun k a b => (h2.2 k a).trans (h.2 k a b)⟩
theorem Fn_c {z : Rw} {na : Nat} {μ0 μ μ' : Mem} (h : Fn z na μ0 μ) (h1 : St z μ') (h2 : ∀ k, 510 ≤ k → k < 510 + na → μ' k = μ k) : Fn z na μ0 μ' := ⟨h1, fun k a b => (h2 k a b).trans (h.2 k a b)⟩
-- the law's tells: blocks [0, 11, 18, 28, 38, 41, 47, 50, 52, 59, 68, 69, 77, 88, 91, 92, 102, 114, 120, 129, 138, 145, 146]
theorem c_tells {y : Nat → Int} {L d g0 na : Nat} {len : Nat → Nat} {Q : QT} {μ0 : Mem} {z : Rw} {hh : Int} (hS : St z μ0)
    (h : ∀ μ', Fn z na μ0 μ' → Q (.inl 1) μ') : Call2 y L (d + 3) 7 [.inr (.inr 0), .inl hh] (g0, na, len) μ0 Q := by
  have hz := hS.1
  have q0 := hz.1
  have el := znl_eq hz
  refine el_7 ?_
  have loop : ∀ j l : Nat, l + j = znl z → ∀ (g : Nat) (μ : Mem), g ≤ 4 * l → Fn z na μ0 μ → wp2 y L 26 (Call2 y L (d + 2)) 7 Q (g, na, len) 11 [some (.inr (.inr 0)), some (.inl hh), some (.inl (mostE z l).1), some (.inl (mostE z l).2), some (.inl (olds z l)), some (.inl (l : Int))] [] μ := by
    intro j
    induction j with
    | zero =>
      intro l hj g μ hg hF
      obtain rfl : l = znl z := by omega
      have e1 := (mostE_lng hz (znl z) (by omega)).1
      rw [e1]
      refine wp2_go w7_11 ?_; simp only [v7_11, tg_iload, ldI_5, tg_aload_0, tg_iconst, tg_iv2, nLg_n, nLg_i, nLg_r, tc_c, tc_l, tc_r, tc_m, tc_n, tc_o, tc_0, inR, true_and, and_true, ne_eq, not_true_eq_false, not_false_eq_true, true_imp_iff, false_imp_iff, lit_a, Nat.reduceAdd, or_true, true_or, or_false, false_or, Int.reduceEq, Int.reduceNe, Int.reduceLT, Int.reduceLE, Int.reduceNeg, Int.toNat_natCast, tg_nil, eq_self, lc0n, lc1n, lc2n, lc3n, lc4n, lc5n, lc6n, lc1i, lc2i, lc3i, lc4i, lc5i, lc6i, lc1r, lc2r, lc3r, lc4r, lc5r, lc6r, Nat.add_zero]
      refine q_cnt4 (Fz_r hF.1) (fun μ' hF2 => ?_)
      have hF := Fn_q hF hF2
      refine wp2_go w7_18 ?_; simp only [v7_18, tg_ic_ge, tg_aload_0, tg_iload, ldI_5, tg_iconst, tg_iv3, nLg_n, nLg_i, nLg_r, tc_c, tc_l, tc_r, tc_m, tc_n, tc_o, tc_0, inR, true_and, and_true, ne_eq, not_true_eq_false, not_false_eq_true, true_imp_iff, false_imp_iff, lit_a, Nat.reduceAdd, or_true, true_or, or_false, false_or, Int.reduceEq, Int.reduceNe, Int.reduceLT, Int.reduceLE, Int.reduceNeg, Int.toNat_natCast, tg_nil, eq_self, lc0n, lc1n, lc2n, lc3n, lc4n, lc5n, lc6n, lc1i, lc2i, lc3i, lc4i, lc5i, lc6i, lc1r, lc2r, lc3r, lc4r, lc5r, lc6r, Nat.add_zero]
      repeat' (first | with_reducible apply And.intro | intro _)
      all_goals (try omega)
      refine wp2_go w7_114 ?_; simp only [v7_114, tg_aload_0, tg_bipush, tg_iv2, nLg_n, nLg_i, nLg_r, tc_c, tc_l, tc_r, tc_m, tc_n, tc_o, tc_0, inR, true_and, and_true, ne_eq, not_true_eq_false, not_false_eq_true, true_imp_iff, false_imp_iff, lit_a, Nat.reduceAdd, or_true, true_or, or_false, false_or, Int.reduceEq, Int.reduceNe, Int.reduceLT, Int.reduceLE, Int.reduceNeg, Int.toNat_natCast, tg_nil, eq_self, lc0n, lc1n, lc2n, lc3n, lc4n, lc5n, lc6n, lc1i, lc2i, lc3i, lc4i, lc5i, lc6i, lc1r, lc2r, lc3r, lc4r, lc5r, lc6r, Nat.add_zero]
      refine q_cnt6 (Fz_r hF.1) (fun μ' hF2 => ?_)
      have hF := Fn_q hF hF2
      refine wp2_go w7_120 ?_; simp only [v7_120, tg_iload_2, tg_ic_ne, tg_aload_0, tg_iconst, tg_iv2, nLg_n, nLg_i, nLg_r, tc_c, tc_l, tc_r, tc_m, tc_n, tc_o, tc_0, inR, true_and, and_true, ne_eq, not_true_eq_false, not_false_eq_true, true_imp_iff, false_imp_iff, lit_a, Nat.reduceAdd, or_true, true_or, or_false, false_or, Int.reduceEq, Int.reduceNe, Int.reduceLT, Int.reduceLE, Int.reduceNeg, Int.toNat_natCast, tg_nil, eq_self, lc0n, lc1n, lc2n, lc3n, lc4n, lc5n, lc6n, lc1i, lc2i, lc3i, lc4i, lc5i, lc6i, lc1r, lc2r, lc3r, lc4r, lc5r, lc6r, Nat.add_zero]
      refine q_cnt5 (Fz_r hF.1) (fun μ' hF2 => ?_)
      have hF := Fn_q hF hF2
      refine wp2_go w7_129 ?_; simp only [v7_129, tg_iload, ldI_4, tg_ic_ne, tg_aload_0, tg_is1, mc_6, nLg_n, nLg_i, nLg_r, tc_c, tc_l, tc_r, tc_m, tc_n, tc_o, tc_0, inR, true_and, and_true, ne_eq, not_true_eq_false, not_false_eq_true, true_imp_iff, false_imp_iff, lit_a, Nat.reduceAdd, or_true, true_or, or_false, false_or, Int.reduceEq, Int.reduceNe, Int.reduceLT, Int.reduceLE, Int.reduceNeg, Int.toNat_natCast, tg_nil, eq_self, lc0n, lc1n, lc2n, lc3n, lc4n, lc5n, lc6n, lc1i, lc2i, lc3i, lc4i, lc5i, lc6i, lc1r, lc2r, lc3r, lc4r, lc5r, lc6r, Nat.add_zero]
      repeat' (first | with_reducible apply And.intro | intro _)
      all_goals (try omega)
      refine c_notices hF.1 (fun μ' hS' hk' => ?_)
      have hF := Fn_c hF hS' hk'
      refine wp2_go w7_138 ?_; simp only [v7_138, tg_if_eq, tg_iconst, tg_goto, nLg_n, nLg_i, nLg_r, tc_c, tc_l, tc_r, tc_m, tc_n, tc_o, tc_0, inR, true_and, and_true, ne_eq, not_true_eq_false, not_false_eq_true, true_imp_iff, false_imp_iff, lit_a, Nat.reduceAdd, or_true, true_or, or_false, false_or, Int.reduceEq, Int.reduceNe, Int.reduceLT, Int.reduceLE, Int.reduceNeg, Int.toNat_natCast, tg_nil, eq_self, lc0n, lc1n, lc2n, lc3n, lc4n, lc5n, lc6n, lc1i, lc2i, lc3i, lc4i, lc5i, lc6i, lc1r, lc2r, lc3r, lc4r, lc5r, lc6r, Nat.add_zero]
      refine wp2_go w7_146 ?_; simp only [v7_146, tg_iret1, nLg_n, nLg_i, nLg_r, tc_c, tc_l, tc_r, tc_m, tc_n, tc_o, tc_0, inR, true_and, and_true, ne_eq, not_true_eq_false, not_false_eq_true, true_imp_iff, false_imp_iff, lit_a, Nat.reduceAdd, or_true, true_or, or_false, false_or, Int.reduceEq, Int.reduceNe, Int.reduceLT, Int.reduceLE, Int.reduceNeg, Int.toNat_natCast, tg_nil, eq_self, lc0n, lc1n, lc2n, lc3n, lc4n, lc5n, lc6n, lc1i, lc2i, lc3i, lc4i, lc5i, lc6i, lc1r, lc2r, lc3r, lc4r, lc5r, lc6r, Nat.add_zero]
      exact h _ hF
    | succ j ih =>
      intro l hj g μ hg hF
      have hl : (l : Int) < z 3 := by omega
      have b1 := mostE_b hz l (by omega)
      have b2 := tot_b hz hl
      have o1 := old_01 z l
      have o2 := olds_r z l
      have fl := (hz.2.2.2.2 l hl).2.2.1
      -- old
      have p92 : ∀ (g : Nat) (μ : Mem), g ≤ 4 * (l + 1) → Fn z na μ0 μ → wp2 y L 26 (Call2 y L (d + 2)) 7 Q (g, na, len) 92 [some (.inr (.inr 0)), some (.inl hh), some (.inl (mostE z (l + 1)).1), some (.inl (mostE z l).2), some (.inl (olds z l)), some (.inl (l : Int))] [.inl (mostE z (l + 1)).2] μ := by
        intro g μ hg hF
        refine wp2_go w7_92 ?_; simp only [v7_92, tg_istore_3, tg_iload, ldI_4, tg_aload_0, ldI_5, tg_iconst, tg_iv3, nLg_n, nLg_i, nLg_r, tc_c, tc_l, tc_r, tc_m, tc_n, tc_o, tc_0, inR, true_and, and_true, ne_eq, not_true_eq_false, not_false_eq_true, true_imp_iff, false_imp_iff, lit_a, Nat.reduceAdd, or_true, true_or, or_false, false_or, Int.reduceEq, Int.reduceNe, Int.reduceLT, Int.reduceLE, Int.reduceNeg, Int.toNat_natCast, tg_nil, eq_self, lc0n, lc1n, lc2n, lc3n, lc4n, lc5n, lc6n, lc1i, lc2i, lc3i, lc4i, lc5i, lc6i, lc1r, lc2r, lc3r, lc4r, lc5r, lc6r, Nat.add_zero]
        refine q_of3 (Fz_r hF.1) hl (fun μ' hF2 => ?_)
        have hF := Fn_q hF hF2
        have eo : iOr (olds z l) (iShl (old z l) (l : Int)) = olds z (l + 1) := by
          show _ = if old z l = 1 then iOr (olds z l) (iShl 1 l) else olds z l
          rcases o1 with o | o
          · rw [o, iShl_0, iOr_0 o2, if_neg (by omega)]
          · rw [o, if_pos rfl]
        refine wp2_go w7_102 ?_; simp only [v7_102, tg_iload, ldI_5, tg_ishl, tg_ior, tg_istore, okS_4, stL_4, tg_iinc, okS_5, stL_5, tg_goto, nLg_n, nLg_i, nLg_r, tc_c, tc_l, tc_r, tc_m, tc_n, tc_o, tc_0, inR, true_and, and_true, ne_eq, not_true_eq_false, not_false_eq_true, true_imp_iff, false_imp_iff, lit_a, Nat.reduceAdd, or_true, true_or, or_false, false_or, Int.reduceEq, Int.reduceNe, Int.reduceLT, Int.reduceLE, Int.reduceNeg, Int.toNat_natCast, tg_nil, eq_self, lc0n, lc1n, lc2n, lc3n, lc4n, lc5n, lc6n, lc1i, lc2i, lc3i, lc4i, lc5i, lc6i, lc1r, lc2r, lc3r, lc4r, lc5r, lc6r, Nat.add_zero, eo]
        repeat' (first | with_reducible apply And.intro | intro _)
        all_goals (try omega)
        exact ih (l + 1) (by omega) g _ hg hF
      have p69 : ∀ (g : Nat) (μ : Mem), g ≤ 4 * (l + 1) → Fn z na μ0 μ → wp2 y L 26 (Call2 y L (d + 2)) 7 Q (g, na, len) 69 [some (.inr (.inr 0)), some (.inl hh), some (.inl (mostE z l).1), some (.inl (mostE z l).2), some (.inl (olds z l)), some (.inl (l : Int))] [.inl (mostE z (l + 1)).1] μ := by
        intro g μ hg hF
        refine wp2_go w7_69 ?_; simp only [v7_69, tg_istore_2, tg_aload_0, tg_iload, ldI_5, tg_iconst, tg_iv3, nLg_n, nLg_i, nLg_r, tc_c, tc_l, tc_r, tc_m, tc_n, tc_o, tc_0, inR, true_and, and_true, ne_eq, not_true_eq_false, not_false_eq_true, true_imp_iff, false_imp_iff, lit_a, Nat.reduceAdd, or_true, true_or, or_false, false_or, Int.reduceEq, Int.reduceNe, Int.reduceLT, Int.reduceLE, Int.reduceNeg, Int.toNat_natCast, tg_nil, eq_self, lc0n, lc1n, lc2n, lc3n, lc4n, lc5n, lc6n, lc1i, lc2i, lc3i, lc4i, lc5i, lc6i, lc1r, lc2r, lc3r, lc4r, lc5r, lc6r, Nat.add_zero]
        refine q_of4 (Fz_r hF.1) hl (fun μ' hF2 => ?_)
        have hF := Fn_q hF hF2
        refine wp2_go w7_77 ?_; simp only [v7_77, tg_iload_3, tg_ic_le, tg_aload_0, tg_iload, ldI_5, tg_iconst, tg_iv3, nLg_n, nLg_i, nLg_r, tc_c, tc_l, tc_r, tc_m, tc_n, tc_o, tc_0, inR, true_and, and_true, ne_eq, not_true_eq_false, not_false_eq_true, true_imp_iff, false_imp_iff, lit_a, Nat.reduceAdd, or_true, true_or, or_false, false_or, Int.reduceEq, Int.reduceNe, Int.reduceLT, Int.reduceLE, Int.reduceNeg, Int.toNat_natCast, tg_nil, eq_self, lc0n, lc1n, lc2n, lc3n, lc4n, lc5n, lc6n, lc1i, lc2i, lc3i, lc4i, lc5i, lc6i, lc1r, lc2r, lc3r, lc4r, lc5r, lc6r, Nat.add_zero]
        repeat' (first | with_reducible apply And.intro | intro _)
        all_goals (try omega)
        · rename_i hc
          refine q_of4 (Fz_r hF.1) hl (fun μ' hF2 => ?_)
          have hF := Fn_q hF hF2
          refine wp2_go w7_88 ?_; simp only [v7_88, tg_goto, nLg_n, nLg_i, nLg_r, tc_c, tc_l, tc_r, tc_m, tc_n, tc_o, tc_0, inR, true_and, and_true, ne_eq, not_true_eq_false, not_false_eq_true, true_imp_iff, false_imp_iff, lit_a, Nat.reduceAdd, or_true, true_or, or_false, false_or, Int.reduceEq, Int.reduceNe, Int.reduceLT, Int.reduceLE, Int.reduceNeg, Int.toNat_natCast, tg_nil, eq_self, lc0n, lc1n, lc2n, lc3n, lc4n, lc5n, lc6n, lc1i, lc2i, lc3i, lc4i, lc5i, lc6i, lc1r, lc2r, lc3r, lc4r, lc5r, lc6r, Nat.add_zero]
          have em : (mostE z (l + 1)).2 = tot z l := by
            rw [mostE_s, if_pos (by omega)]
          have q := p92 g _ hg hF
          rw [em] at q
          exact q
        · rename_i hc
          refine wp2_go w7_91 ?_; simp only [v7_91, tg_iload_3, nLg_n, nLg_i, nLg_r, tc_c, tc_l, tc_r, tc_m, tc_n, tc_o, tc_0, inR, true_and, and_true, ne_eq, not_true_eq_false, not_false_eq_true, true_imp_iff, false_imp_iff, lit_a, Nat.reduceAdd, or_true, true_or, or_false, false_or, Int.reduceEq, Int.reduceNe, Int.reduceLT, Int.reduceLE, Int.reduceNeg, Int.toNat_natCast, tg_nil, eq_self, lc0n, lc1n, lc2n, lc3n, lc4n, lc5n, lc6n, lc1i, lc2i, lc3i, lc4i, lc5i, lc6i, lc1r, lc2r, lc3r, lc4r, lc5r, lc6r, Nat.add_zero]
          have em : (mostE z (l + 1)).2 = (mostE z l).2 := by
            rw [mostE_s, if_neg (by omega)]
          have q := p92 g _ hg hF
          rw [em] at q
          exact q
      have p41 : ∀ (g : Nat) (μ : Mem), g ≤ 4 * l + 2 → Fn z na μ0 μ → wp2 y L 26 (Call2 y L (d + 2)) 7 Q (g, na, len) 41 [some (.inr (.inr 0)), some (.inl hh), some (.inl (mostE z l).1), some (.inl (mostE z l).2), some (.inl (olds z l)), some (.inl (l : Int))] [] μ := by
        intro g μ hg hF
        refine wp2_go w7_41 ?_; simp only [v7_41, tg_aload_0, tg_iload, ldI_5, tg_is2, mc_5, nLg_n, nLg_i, nLg_r, tc_c, tc_l, tc_r, tc_m, tc_n, tc_o, tc_0, inR, true_and, and_true, ne_eq, not_true_eq_false, not_false_eq_true, true_imp_iff, false_imp_iff, lit_a, Nat.reduceAdd, or_true, true_or, or_false, false_or, Int.reduceEq, Int.reduceNe, Int.reduceLT, Int.reduceLE, Int.reduceNeg, Int.toNat_natCast, tg_nil, eq_self, lc0n, lc1n, lc2n, lc3n, lc4n, lc5n, lc6n, lc1i, lc2i, lc3i, lc4i, lc5i, lc6i, lc1r, lc2r, lc3r, lc4r, lc5r, lc6r, Nat.add_zero]
        repeat' (first | with_reducible apply And.intro | intro _)
        all_goals (try omega)
        refine c_enough hF.1 hl (fun μ' hS' hk' => ?_)
        have hF := Fn_c hF hS' hk'
        refine wp2_go w7_47 ?_; simp only [v7_47, tg_if_ne, nLg_n, nLg_i, nLg_r, tc_c, tc_l, tc_r, tc_m, tc_n, tc_o, tc_0, inR, true_and, and_true, ne_eq, not_true_eq_false, not_false_eq_true, true_imp_iff, false_imp_iff, lit_a, Nat.reduceAdd, or_true, true_or, or_false, false_or, Int.reduceEq, Int.reduceNe, Int.reduceLT, Int.reduceLE, Int.reduceNeg, Int.toNat_natCast, tg_nil, eq_self, lc0n, lc1n, lc2n, lc3n, lc4n, lc5n, lc6n, lc1i, lc2i, lc3i, lc4i, lc5i, lc6i, lc1r, lc2r, lc3r, lc4r, lc5r, lc6r, Nat.add_zero]
        refine wp2_go w7_52 ?_; simp only [v7_52, tg_aload_0, tg_iload, ldI_5, tg_iconst, tg_iv3, nLg_n, nLg_i, nLg_r, tc_c, tc_l, tc_r, tc_m, tc_n, tc_o, tc_0, inR, true_and, and_true, ne_eq, not_true_eq_false, not_false_eq_true, true_imp_iff, false_imp_iff, lit_a, Nat.reduceAdd, or_true, true_or, or_false, false_or, Int.reduceEq, Int.reduceNe, Int.reduceLT, Int.reduceLE, Int.reduceNeg, Int.toNat_natCast, tg_nil, eq_self, lc0n, lc1n, lc2n, lc3n, lc4n, lc5n, lc6n, lc1i, lc2i, lc3i, lc4i, lc5i, lc6i, lc1r, lc2r, lc3r, lc4r, lc5r, lc6r, Nat.add_zero]
        refine q_of4 (Fz_r hF.1) hl (fun μ' hF2 => ?_)
        have hF := Fn_q hF hF2
        refine wp2_go w7_59 ?_; simp only [v7_59, tg_iload_3, tg_ic_le, tg_iload, ldI_5, tg_goto, nLg_n, nLg_i, nLg_r, tc_c, tc_l, tc_r, tc_m, tc_n, tc_o, tc_0, inR, true_and, and_true, ne_eq, not_true_eq_false, not_false_eq_true, true_imp_iff, false_imp_iff, lit_a, Nat.reduceAdd, or_true, true_or, or_false, false_or, Int.reduceEq, Int.reduceNe, Int.reduceLT, Int.reduceLE, Int.reduceNeg, Int.toNat_natCast, tg_nil, eq_self, lc0n, lc1n, lc2n, lc3n, lc4n, lc5n, lc6n, lc1i, lc2i, lc3i, lc4i, lc5i, lc6i, lc1r, lc2r, lc3r, lc4r, lc5r, lc6r, Nat.add_zero]
        repeat' (first | with_reducible apply And.intro | intro _)
        all_goals (try omega)
        · rename_i hc
          have em : (mostE z (l + 1)).1 = (l : Int) := by
            rw [mostE_s, if_pos (by omega)]
          have q := p69 (g + 2) _ (by omega) hF
          rw [em] at q
          exact q
        · rename_i hc
          refine wp2_go w7_68 ?_; simp only [v7_68, tg_iload_2, nLg_n, nLg_i, nLg_r, tc_c, tc_l, tc_r, tc_m, tc_n, tc_o, tc_0, inR, true_and, and_true, ne_eq, not_true_eq_false, not_false_eq_true, true_imp_iff, false_imp_iff, lit_a, Nat.reduceAdd, or_true, true_or, or_false, false_or, Int.reduceEq, Int.reduceNe, Int.reduceLT, Int.reduceLE, Int.reduceNeg, Int.toNat_natCast, tg_nil, eq_self, lc0n, lc1n, lc2n, lc3n, lc4n, lc5n, lc6n, lc1i, lc2i, lc3i, lc4i, lc5i, lc6i, lc1r, lc2r, lc3r, lc4r, lc5r, lc6r, Nat.add_zero]
          have em : (mostE z (l + 1)).1 = (mostE z l).1 := by
            rw [mostE_s, if_neg (by omega)]
          have q := p69 (g + 2) _ (by omega) hF
          rw [em] at q
          exact q
      refine wp2_go w7_11 ?_; simp only [v7_11, tg_iload, ldI_5, tg_aload_0, tg_iconst, tg_iv2, nLg_n, nLg_i, nLg_r, tc_c, tc_l, tc_r, tc_m, tc_n, tc_o, tc_0, inR, true_and, and_true, ne_eq, not_true_eq_false, not_false_eq_true, true_imp_iff, false_imp_iff, lit_a, Nat.reduceAdd, or_true, true_or, or_false, false_or, Int.reduceEq, Int.reduceNe, Int.reduceLT, Int.reduceLE, Int.reduceNeg, Int.toNat_natCast, tg_nil, eq_self, lc0n, lc1n, lc2n, lc3n, lc4n, lc5n, lc6n, lc1i, lc2i, lc3i, lc4i, lc5i, lc6i, lc1r, lc2r, lc3r, lc4r, lc5r, lc6r, Nat.add_zero]
      refine q_cnt4 (Fz_r hF.1) (fun μ' hF2 => ?_)
      have hF := Fn_q hF hF2
      refine wp2_go w7_18 ?_; simp only [v7_18, tg_ic_ge, tg_aload_0, tg_iload, ldI_5, tg_iconst, tg_iv3, nLg_n, nLg_i, nLg_r, tc_c, tc_l, tc_r, tc_m, tc_n, tc_o, tc_0, inR, true_and, and_true, ne_eq, not_true_eq_false, not_false_eq_true, true_imp_iff, false_imp_iff, lit_a, Nat.reduceAdd, or_true, true_or, or_false, false_or, Int.reduceEq, Int.reduceNe, Int.reduceLT, Int.reduceLE, Int.reduceNeg, Int.toNat_natCast, tg_nil, eq_self, lc0n, lc1n, lc2n, lc3n, lc4n, lc5n, lc6n, lc1i, lc2i, lc3i, lc4i, lc5i, lc6i, lc1r, lc2r, lc3r, lc4r, lc5r, lc6r, Nat.add_zero]
      repeat' (first | with_reducible apply And.intro | intro _)
      all_goals (try omega)
      refine q_of2 (Fz_r hF.1) hl (fun μ' hF2 => ?_)
      have hF := Fn_q hF hF2
      refine wp2_go w7_28 ?_; simp only [v7_28, tg_if_ne, tg_aload_0, tg_iload, ldI_5, tg_iload_1, tg_is3, mc_4, nLg_n, nLg_i, nLg_r, tc_c, tc_l, tc_r, tc_m, tc_n, tc_o, tc_0, inR, true_and, and_true, ne_eq, not_true_eq_false, not_false_eq_true, true_imp_iff, false_imp_iff, lit_a, Nat.reduceAdd, or_true, true_or, or_false, false_or, Int.reduceEq, Int.reduceNe, Int.reduceLT, Int.reduceLE, Int.reduceNeg, Int.toNat_natCast, tg_nil, eq_self, lc0n, lc1n, lc2n, lc3n, lc4n, lc5n, lc6n, lc1i, lc2i, lc3i, lc4i, lc5i, lc6i, lc1r, lc2r, lc3r, lc4r, lc5r, lc6r, Nat.add_zero]
      repeat' (first | with_reducible apply And.intro | intro _)
      all_goals (try omega)
      · rename_i hc
        refine c_isHeard hF.1 ⟨hl, hc⟩ (fun μ' hS' hk' => ?_)
        have hF := Fn_c hF hS' hk'
        refine wp2_go w7_38 ?_; simp only [v7_38, tg_if_eq, nLg_n, nLg_i, nLg_r, tc_c, tc_l, tc_r, tc_m, tc_n, tc_o, tc_0, inR, true_and, and_true, ne_eq, not_true_eq_false, not_false_eq_true, true_imp_iff, false_imp_iff, lit_a, Nat.reduceAdd, or_true, true_or, or_false, false_or, Int.reduceEq, Int.reduceNe, Int.reduceLT, Int.reduceLE, Int.reduceNeg, Int.toNat_natCast, tg_nil, eq_self, lc0n, lc1n, lc2n, lc3n, lc4n, lc5n, lc6n, lc1i, lc2i, lc3i, lc4i, lc5i, lc6i, lc1r, lc2r, lc3r, lc4r, lc5r, lc6r, Nat.add_zero]
        exact p41 (g + 2) _ (by omega) hF
      · exact p41 g _ (by omega) hF
  refine wp2_go w7_0 ?_; simp only [v7_0, tg_bipush, tg_istore_2, tg_iconst, tg_istore_3, tg_istore, okS_4, stL_4, okS_5, stL_5, nLg_n, nLg_i, nLg_r, tc_c, tc_l, tc_r, tc_m, tc_n, tc_o, tc_0, inR, true_and, and_true, ne_eq, not_true_eq_false, not_false_eq_true, true_imp_iff, false_imp_iff, lit_a, Nat.reduceAdd, or_true, true_or, or_false, false_or, Int.reduceEq, Int.reduceNe, Int.reduceLT, Int.reduceLE, Int.reduceNeg, Int.toNat_natCast, tg_nil, eq_self, lc0n, lc1n, lc2n, lc3n, lc4n, lc5n, lc6n, lc1i, lc2i, lc3i, lc4i, lc5i, lc6i, lc1r, lc2r, lc3r, lc4r, lc5r, lc6r, Nat.add_zero]
  exact loop (znl z) 0 (by omega) 0 μ0 (by omega) ⟨hS, fun _ _ _ => rfl⟩
