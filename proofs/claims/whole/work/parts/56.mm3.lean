-- Mo.load: blocks [0, 5, 10, 19, 25, 29, 34, 36, 64, 70, 77, 98, 99, 105]
theorem k_Mo_load {d : Nat} {Q : QT} {μ : Mem} {l b : Int} {z : Rw} {a : Hs} (hM : μ 511 = z) (hz : IZ z) (hI : IR z) (hC : CRm a μ) (hl : inR l) (hb : b = 0 ∨ b = 1) (hf : c_load z l b < 0 → Q (.inl (c_load z l b)) μ)
    (hq : c_load z l b = 0 → ∀ μ', PG (fun w => w = ldZ z l.toNat b) (hsPush a z) μ μ' → Q (.inl (bt (hrL z l.toNat) (zn z))) μ') : Call σ1 (d + 4) 133 [.inr (.inr 510), .inl l, .inl b] μ Q := by
  refine e_133 ?_
  have q := hz.1
  refine wp_go b133_0 ?_; simp only [l133_0, sg_aload_0, sg_iload_1, sg_iv2_i, len4_0, len4_1, len4_2, len4_3, len4_4, nLg_n, nLg_i, nLg_r, tc_c, tc_l, tc_r, tc_m, tc_n, tc_o, tc_0, inR, true_and, and_true, ne_eq, not_true_eq_false, not_false_eq_true, true_imp_iff, false_imp_iff, Int.toNat_natCast, lit_a, Nat.reduceAdd, or_true, true_or, or_false, false_or, Int.reduceEq, Int.reduceNe, Int.reduceLT, Int.reduceLE, Int.reduceNeg, sg_nil, s1p, x510, x511, x512, x513, x514, x515, x516, x517]
  refine k_Mo_isListener hM hz hl (fun h1 h2 => ?_) (fun h0 => ?_)
  · obtain ⟨n, rfl⟩ := nat_of h1
    have z01 := (hz.2.2.2.2 n h2).2.2.1
    have cont : c_load z (n : Int) b = 0 → wp σ1 (Call σ1 (d + 3)) 133 Q 25 [some (.inr (.inr 510)), some (.inl (n : Int)), some (.inl b), none] [] μ := fun ec => by
      have hq := hq ec
      rw [Int.toNat_natCast] at hq
      refine wp_go b133_25 ?_; simp only [l133_25, sg_aload_0, sg_iv1_v, len4_0, len4_1, len4_2, len4_3, len4_4, nLg_n, nLg_i, nLg_r, tc_c, tc_l, tc_r, tc_m, tc_n, tc_o, tc_0, inR, true_and, and_true, ne_eq, not_true_eq_false, not_false_eq_true, true_imp_iff, false_imp_iff, Int.toNat_natCast, lit_a, Nat.reduceAdd, or_true, true_or, or_false, false_or, Int.reduceEq, Int.reduceNe, Int.reduceLT, Int.reduceLE, Int.reduceNeg, sg_nil, s1p, x510, x511, x512, x513, x514, x515, x516, x517]
      refine k_Mo_rec hM hI hC (fun μ1 f1 C1 => ?_)
      have M1 : μ1 511 = z := by rw [f1 511 (by omega) (by omega)]; exact hM
      refine wp_go b133_29 ?_; simp only [l133_29, sg_aload_0, sg_iload_1, sg_iv2_v, len4_0, len4_1, len4_2, len4_3, len4_4, nLg_n, nLg_i, nLg_r, tc_c, tc_l, tc_r, tc_m, tc_n, tc_o, tc_0, inR, true_and, and_true, ne_eq, not_true_eq_false, not_false_eq_true, true_imp_iff, false_imp_iff, Int.toNat_natCast, lit_a, Nat.reduceAdd, or_true, true_or, or_false, false_or, Int.reduceEq, Int.reduceNe, Int.reduceLT, Int.reduceLE, Int.reduceNeg, sg_nil, s1p, x510, x511, x512, x513, x514, x515, x516, x517]
      refine k_Mo_layNow M1 hz h2 (fun μ2 f2 H2 => ?_)
      have M2 : μ2 511 = z := by rw [f2 511 (by omega)]; exact M1
      have W := hrL_W hz n
      have loop : ∀ k i : Nat, i + k = 121 → ∀ μ3 : Mem, (∀ k, k ≠ 511 → μ3 k = μ2 k) → (∀ x, μ3 511 x = if 230 + 121 * n ≤ x ∧ x < 230 + 121 * n + i then (if b = 1 then 0 else hrL z n (x - (230 + 121 * n))) else z x) → wp σ1 (Call σ1 (d + 3)) 133 Q 36 [some (.inr (.inr 510)), some (.inl (n : Int)), some (.inl b), some (.inl (i : Int))] [] μ3 := by
        intro k
        induction k with
        | zero =>
          intro i hi μ3 f3 g3
          have hin : i = 121 := by omega
          subst hin
          have e : ms μ3 511 (212 + 3 * n + 2) (1 - b) 511 = ldZ z n b := by
            funext x
            simp only [ms_at, true_and]
            unfold ldZ
            by_cases hx : x = 214 + 3 * n
            · rw [if_pos (by omega), if_pos hx]
            · rw [if_neg (by omega), if_neg hx, g3, show 230 + 121 * n + 121 = 351 + 121 * n by omega]
          have H4 : HM (hrL z n) (ms μ3 511 (212 + 3 * n + 2) (1 - b)) := fun k hk => by
            have e2 : ms μ3 511 (212 + 3 * n + 2) (1 - b) 516 k = μ3 516 k := by simp only [ms_at]; (repeat (first | rw [if_neg (by omega)] | rw [if_pos (by omega)]))
            rw [e2, f3 516 (by omega)]; exact H2 k hk
          have hq := hq (ms μ3 511 (212 + 3 * n + 2) (1 - b)) ⟨fun k hk => by rw [← f1 k (by omega) (by omega), ← f2 k (by omega), ← f3 k (by omega)]; funext j; simp only [ms_at]; (repeat (first | rw [if_neg (by omega)] | rw [if_pos (by omega)])), e, by
            rw [e]
            intro k hk
            unfold ldZ
            split
            · unfold inR; omega
            · split
              · split
                · unfold inR; omega
                · exact WH_r W (by omega)
              · exact hI k hk, CRm_1 (fun k h1 h2 => by rw [← f2 k h2, ← f3 k h1]; funext j; simp only [ms_at]; (repeat (first | rw [if_neg (by omega)] | rw [if_pos (by omega)]))) C1⟩
          rcases hb with rfl | rfl
          · refine wp_go b133_36 ?_; simp only [l133_36, sg_iload_3, sg_bipush, sg_ic_ge, sg_aload_0, sg_getfp, sg_sipush, sg_iload_1, sg_imul, sg_iadd, sg_iload_2, sg_if_eq, sg_iconst, sg_goto, nLg_n, nLg_i, nLg_r, tc_c, tc_l, tc_r, tc_m, tc_n, tc_o, tc_0, inR, true_and, and_true, ne_eq, not_true_eq_false, not_false_eq_true, true_imp_iff, false_imp_iff, Int.toNat_natCast, lit_a, Nat.reduceAdd, or_true, true_or, or_false, false_or, Int.reduceEq, Int.reduceNe, Int.reduceLT, Int.reduceLE, Int.reduceNeg, sg_nil, s1p, x510, x511, x512, x513, x514, x515, x516, x517]
            repeat' (first | with_reducible apply And.intro | intro _)
            all_goals (try omega)
            refine wp_go b133_77 ?_; simp only [l133_77, sg_aload_0, sg_getfp, sg_sipush, sg_iconst, sg_iload_1, sg_imul, sg_iadd, sg_iload_2, sg_if_eq, sg_goto, nLg_n, nLg_i, nLg_r, tc_c, tc_l, tc_r, tc_m, tc_n, tc_o, tc_0, inR, true_and, and_true, ne_eq, not_true_eq_false, not_false_eq_true, true_imp_iff, false_imp_iff, Int.toNat_natCast, lit_a, Nat.reduceAdd, or_true, true_or, or_false, false_or, Int.reduceEq, Int.reduceNe, Int.reduceLT, Int.reduceLE, Int.reduceNeg, sg_nil, s1p, x510, x511, x512, x513, x514, x515, x516, x517]
            repeat' (first | with_reducible apply And.intro | intro _)
            all_goals (try omega)
            refine wp_go b133_98 ?_; simp only [l133_98, sg_iconst, nLg_n, nLg_i, nLg_r, tc_c, tc_l, tc_r, tc_m, tc_n, tc_o, tc_0, inR, true_and, and_true, ne_eq, not_true_eq_false, not_false_eq_true, true_imp_iff, false_imp_iff, Int.toNat_natCast, lit_a, Nat.reduceAdd, or_true, true_or, or_false, false_or, Int.reduceEq, Int.reduceNe, Int.reduceLT, Int.reduceLE, Int.reduceNeg, sg_nil, s1p, x510, x511, x512, x513, x514, x515, x516, x517]
            refine wp_go b133_99 ?_; simp only [l133_99, sg_iastore, sg_aload_0, sg_iconst, sg_iv2_i, len4_0, len4_1, len4_2, len4_3, len4_4, nLg_n, nLg_i, nLg_r, tc_c, tc_l, tc_r, tc_m, tc_n, tc_o, tc_0, inR, true_and, and_true, ne_eq, not_true_eq_false, not_false_eq_true, true_imp_iff, false_imp_iff, Int.toNat_natCast, lit_a, Nat.reduceAdd, or_true, true_or, or_false, false_or, Int.reduceEq, Int.reduceNe, Int.reduceLT, Int.reduceLE, Int.reduceNeg, sg_nil, s1p, x510, x511, x512, x513, x514, x515, x516, x517]
            repeat' (first | with_reducible apply And.intro | intro _)
            all_goals (try omega)
            refine k_Mo_seconds W H4 (hw_eq hz n) (Or.inr rfl) ?_
            rw [if_pos rfl, ht_bt]
            refine wp_go b133_105 ?_; simp only [l133_105, sg_iret0, nLg_n, nLg_i, nLg_r, tc_c, tc_l, tc_r, tc_m, tc_n, tc_o, tc_0, inR, true_and, and_true, ne_eq, not_true_eq_false, not_false_eq_true, true_imp_iff, false_imp_iff, Int.toNat_natCast, lit_a, Nat.reduceAdd, or_true, true_or, or_false, false_or, Int.reduceEq, Int.reduceNe, Int.reduceLT, Int.reduceLE, Int.reduceNeg, sg_nil, s1p, x510, x511, x512, x513, x514, x515, x516, x517]
            exact hq
          · refine wp_go b133_36 ?_; simp only [l133_36, sg_iload_3, sg_bipush, sg_ic_ge, sg_aload_0, sg_getfp, sg_sipush, sg_iload_1, sg_imul, sg_iadd, sg_iload_2, sg_if_eq, sg_iconst, sg_goto, nLg_n, nLg_i, nLg_r, tc_c, tc_l, tc_r, tc_m, tc_n, tc_o, tc_0, inR, true_and, and_true, ne_eq, not_true_eq_false, not_false_eq_true, true_imp_iff, false_imp_iff, Int.toNat_natCast, lit_a, Nat.reduceAdd, or_true, true_or, or_false, false_or, Int.reduceEq, Int.reduceNe, Int.reduceLT, Int.reduceLE, Int.reduceNeg, sg_nil, s1p, x510, x511, x512, x513, x514, x515, x516, x517]
            repeat' (first | with_reducible apply And.intro | intro _)
            all_goals (try omega)
            refine wp_go b133_77 ?_; simp only [l133_77, sg_aload_0, sg_getfp, sg_sipush, sg_iconst, sg_iload_1, sg_imul, sg_iadd, sg_iload_2, sg_if_eq, sg_goto, nLg_n, nLg_i, nLg_r, tc_c, tc_l, tc_r, tc_m, tc_n, tc_o, tc_0, inR, true_and, and_true, ne_eq, not_true_eq_false, not_false_eq_true, true_imp_iff, false_imp_iff, Int.toNat_natCast, lit_a, Nat.reduceAdd, or_true, true_or, or_false, false_or, Int.reduceEq, Int.reduceNe, Int.reduceLT, Int.reduceLE, Int.reduceNeg, sg_nil, s1p, x510, x511, x512, x513, x514, x515, x516, x517]
            repeat' (first | with_reducible apply And.intro | intro _)
            all_goals (try omega)
            refine wp_go b133_99 ?_; simp only [l133_99, sg_iastore, sg_aload_0, sg_iconst, sg_iv2_i, len4_0, len4_1, len4_2, len4_3, len4_4, nLg_n, nLg_i, nLg_r, tc_c, tc_l, tc_r, tc_m, tc_n, tc_o, tc_0, inR, true_and, and_true, ne_eq, not_true_eq_false, not_false_eq_true, true_imp_iff, false_imp_iff, Int.toNat_natCast, lit_a, Nat.reduceAdd, or_true, true_or, or_false, false_or, Int.reduceEq, Int.reduceNe, Int.reduceLT, Int.reduceLE, Int.reduceNeg, sg_nil, s1p, x510, x511, x512, x513, x514, x515, x516, x517]
            repeat' (first | with_reducible apply And.intro | intro _)
            all_goals (try omega)
            refine k_Mo_seconds W H4 (hw_eq hz n) (Or.inr rfl) ?_
            rw [if_pos rfl, ht_bt]
            refine wp_go b133_105 ?_; simp only [l133_105, sg_iret0, nLg_n, nLg_i, nLg_r, tc_c, tc_l, tc_r, tc_m, tc_n, tc_o, tc_0, inR, true_and, and_true, ne_eq, not_true_eq_false, not_false_eq_true, true_imp_iff, false_imp_iff, Int.toNat_natCast, lit_a, Nat.reduceAdd, or_true, true_or, or_false, false_or, Int.reduceEq, Int.reduceNe, Int.reduceLT, Int.reduceLE, Int.reduceNeg, sg_nil, s1p, x510, x511, x512, x513, x514, x515, x516, x517]
            exact hq
        | succ k ih =>
          intro i hi μ3 f3 g3
          have eh : μ3 516 i = hrL z n i := by rw [f3 516 (by omega)]; exact H2 i (by omega)
          have ih1 : ∀ v : Int, v = (if b = 1 then 0 else hrL z n i) → wp σ1 (Call σ1 (d + 3)) 133 Q 36 [some (.inr (.inr 510)), some (.inl (n : Int)), some (.inl b), some (.inl ((i + 1 : Nat) : Int))] [] (ms μ3 511 (230 + 121 * n + i) v) := fun v hv => ih (i + 1) (by omega) _ (fun k hk => by rw [← f3 k hk]; funext j; simp only [ms_at]; (repeat (first | rw [if_neg (by omega)] | rw [if_pos (by omega)]))) (fun x => by
            simp only [ms_at, true_and]
            by_cases hx : x = 230 + 121 * n + i
            · rw [if_pos hx, if_pos (show 230 + 121 * n ≤ x ∧ x < 230 + 121 * n + (i + 1) by omega), hv, hx, show 230 + 121 * n + i - (230 + 121 * n) = i by omega]
            · rw [if_neg hx, g3 x]
              by_cases hy : 230 + 121 * n ≤ x ∧ x < 230 + 121 * n + i
              · rw [if_pos hy, if_pos (show 230 + 121 * n ≤ x ∧ x < 230 + 121 * n + (i + 1) by omega)]
              · rw [if_neg hy, if_neg (show ¬ (230 + 121 * n ≤ x ∧ x < 230 + 121 * n + (i + 1)) by omega)])
          rcases hb with rfl | rfl
          · have ih1 := ih1 (hrL z n i) rfl
            refine wp_go b133_36 ?_; simp only [l133_36, sg_iload_3, sg_bipush, sg_ic_ge, sg_aload_0, sg_getfp, sg_sipush, sg_iload_1, sg_imul, sg_iadd, sg_iload_2, sg_if_eq, sg_iconst, sg_goto, nLg_n, nLg_i, nLg_r, tc_c, tc_l, tc_r, tc_m, tc_n, tc_o, tc_0, inR, true_and, and_true, ne_eq, not_true_eq_false, not_false_eq_true, true_imp_iff, false_imp_iff, Int.toNat_natCast, lit_a, Nat.reduceAdd, or_true, true_or, or_false, false_or, Int.reduceEq, Int.reduceNe, Int.reduceLT, Int.reduceLE, Int.reduceNeg, sg_nil, s1p, x510, x511, x512, x513, x514, x515, x516, x517]
            repeat' (first | with_reducible apply And.intro | intro _)
            all_goals (try omega)
            refine wp_go b133_64 ?_; simp only [l133_64, sg_aload_0, sg_getfp, sg_iload_3, sg_iaload, nLg_n, nLg_i, nLg_r, tc_c, tc_l, tc_r, tc_m, tc_n, tc_o, tc_0, inR, true_and, and_true, ne_eq, not_true_eq_false, not_false_eq_true, true_imp_iff, false_imp_iff, Int.toNat_natCast, lit_a, Nat.reduceAdd, or_true, true_or, or_false, false_or, Int.reduceEq, Int.reduceNe, Int.reduceLT, Int.reduceLE, Int.reduceNeg, sg_nil, s1p, x510, x511, x512, x513, x514, x515, x516, x517, eh]
            repeat' (first | with_reducible apply And.intro | intro _)
            all_goals (try omega)
            refine wp_go b133_70 ?_; simp only [l133_70, sg_iastore, sg_iinc, ldI_3, okS_3, stL_3, sg_goto, nLg_n, nLg_i, nLg_r, tc_c, tc_l, tc_r, tc_m, tc_n, tc_o, tc_0, inR, true_and, and_true, ne_eq, not_true_eq_false, not_false_eq_true, true_imp_iff, false_imp_iff, Int.toNat_natCast, lit_a, Nat.reduceAdd, or_true, true_or, or_false, false_or, Int.reduceEq, Int.reduceNe, Int.reduceLT, Int.reduceLE, Int.reduceNeg, sg_nil, s1p, x510, x511, x512, x513, x514, x515, x516, x517]
            repeat' (first | with_reducible apply And.intro | intro _)
            all_goals (try omega)
          · have ih1 := ih1 0 rfl
            refine wp_go b133_36 ?_; simp only [l133_36, sg_iload_3, sg_bipush, sg_ic_ge, sg_aload_0, sg_getfp, sg_sipush, sg_iload_1, sg_imul, sg_iadd, sg_iload_2, sg_if_eq, sg_iconst, sg_goto, nLg_n, nLg_i, nLg_r, tc_c, tc_l, tc_r, tc_m, tc_n, tc_o, tc_0, inR, true_and, and_true, ne_eq, not_true_eq_false, not_false_eq_true, true_imp_iff, false_imp_iff, Int.toNat_natCast, lit_a, Nat.reduceAdd, or_true, true_or, or_false, false_or, Int.reduceEq, Int.reduceNe, Int.reduceLT, Int.reduceLE, Int.reduceNeg, sg_nil, s1p, x510, x511, x512, x513, x514, x515, x516, x517]
            repeat' (first | with_reducible apply And.intro | intro _)
            all_goals (try omega)
            refine wp_go b133_70 ?_; simp only [l133_70, sg_iastore, sg_iinc, ldI_3, okS_3, stL_3, sg_goto, nLg_n, nLg_i, nLg_r, tc_c, tc_l, tc_r, tc_m, tc_n, tc_o, tc_0, inR, true_and, and_true, ne_eq, not_true_eq_false, not_false_eq_true, true_imp_iff, false_imp_iff, Int.toNat_natCast, lit_a, Nat.reduceAdd, or_true, true_or, or_false, false_or, Int.reduceEq, Int.reduceNe, Int.reduceLT, Int.reduceLE, Int.reduceNeg, sg_nil, s1p, x510, x511, x512, x513, x514, x515, x516, x517]
            repeat' (first | with_reducible apply And.intro | intro _)
            all_goals (try omega)
      refine wp_go b133_34 ?_; simp only [l133_34, sg_iconst, sg_istore_3, nLg_n, nLg_i, nLg_r, tc_c, tc_l, tc_r, tc_m, tc_n, tc_o, tc_0, inR, true_and, and_true, ne_eq, not_true_eq_false, not_false_eq_true, true_imp_iff, false_imp_iff, Int.toNat_natCast, lit_a, Nat.reduceAdd, or_true, true_or, or_false, false_or, Int.reduceEq, Int.reduceNe, Int.reduceLT, Int.reduceLE, Int.reduceNeg, sg_nil, s1p, x510, x511, x512, x513, x514, x515, x516, x517]
      exact loop 121 0 (by omega) μ2 (fun _ _ => rfl) (fun x => by rw [if_neg (by omega), M2])
    rcases hb with rfl | rfl
    · have st := cont (by unfold c_load; rw [if_neg (by omega), if_neg (by omega)])
      refine wp_go b133_5 ?_; simp only [l133_5, sg_if_ne, sg_iconst, sg_iret0, nLg_n, nLg_i, nLg_r, tc_c, tc_l, tc_r, tc_m, tc_n, tc_o, tc_0, inR, true_and, and_true, ne_eq, not_true_eq_false, not_false_eq_true, true_imp_iff, false_imp_iff, Int.toNat_natCast, lit_a, Nat.reduceAdd, or_true, true_or, or_false, false_or, Int.reduceEq, Int.reduceNe, Int.reduceLT, Int.reduceLE, Int.reduceNeg, sg_nil, s1p, x510, x511, x512, x513, x514, x515, x516, x517]
      repeat' (first | with_reducible apply And.intro | intro _)
      all_goals (try omega)
      refine wp_go b133_10 ?_; simp only [l133_10, sg_iload_2, sg_if_eq, sg_aload_0, sg_iload_1, sg_iv2_i, len4_0, len4_1, len4_2, len4_3, len4_4, nLg_n, nLg_i, nLg_r, tc_c, tc_l, tc_r, tc_m, tc_n, tc_o, tc_0, inR, true_and, and_true, ne_eq, not_true_eq_false, not_false_eq_true, true_imp_iff, false_imp_iff, Int.toNat_natCast, lit_a, Nat.reduceAdd, or_true, true_or, or_false, false_or, Int.reduceEq, Int.reduceNe, Int.reduceLT, Int.reduceLE, Int.reduceNeg, sg_nil, s1p, x510, x511, x512, x513, x514, x515, x516, x517]
      repeat' (first | with_reducible apply And.intro | intro _)
      all_goals (try omega)
    · refine wp_go b133_5 ?_; simp only [l133_5, sg_if_ne, sg_iconst, sg_iret0, nLg_n, nLg_i, nLg_r, tc_c, tc_l, tc_r, tc_m, tc_n, tc_o, tc_0, inR, true_and, and_true, ne_eq, not_true_eq_false, not_false_eq_true, true_imp_iff, false_imp_iff, Int.toNat_natCast, lit_a, Nat.reduceAdd, or_true, true_or, or_false, false_or, Int.reduceEq, Int.reduceNe, Int.reduceLT, Int.reduceLE, Int.reduceNeg, sg_nil, s1p, x510, x511, x512, x513, x514, x515, x516, x517]
      repeat' (first | with_reducible apply And.intro | intro _)
      all_goals (try omega)
      refine wp_go b133_10 ?_; simp only [l133_10, sg_iload_2, sg_if_eq, sg_aload_0, sg_iload_1, sg_iv2_i, len4_0, len4_1, len4_2, len4_3, len4_4, nLg_n, nLg_i, nLg_r, tc_c, tc_l, tc_r, tc_m, tc_n, tc_o, tc_0, inR, true_and, and_true, ne_eq, not_true_eq_false, not_false_eq_true, true_imp_iff, false_imp_iff, Int.toNat_natCast, lit_a, Nat.reduceAdd, or_true, true_or, or_false, false_or, Int.reduceEq, Int.reduceNe, Int.reduceLT, Int.reduceLE, Int.reduceNeg, sg_nil, s1p, x510, x511, x512, x513, x514, x515, x516, x517]
      repeat' (first | with_reducible apply And.intro | intro _)
      all_goals (try omega)
      refine k_Mo_hasFile (n := n) hM (by omega) (by omega) ?_
      by_cases g : z (214 + 3 * n) = 0
      · have ec : c_load z (n : Int) 1 = -5 := by unfold c_load; rw [if_neg (by omega), if_pos (by rw [Int.toNat_natCast]; exact ⟨rfl, g⟩)]
        rw [ec] at hf
        have hf := hf (by omega)
        rw [g]
        refine wp_go b133_19 ?_; simp only [l133_19, sg_if_ne, sg_bipush, sg_iret0, nLg_n, nLg_i, nLg_r, tc_c, tc_l, tc_r, tc_m, tc_n, tc_o, tc_0, inR, true_and, and_true, ne_eq, not_true_eq_false, not_false_eq_true, true_imp_iff, false_imp_iff, Int.toNat_natCast, lit_a, Nat.reduceAdd, or_true, true_or, or_false, false_or, Int.reduceEq, Int.reduceNe, Int.reduceLT, Int.reduceLE, Int.reduceNeg, sg_nil, s1p, x510, x511, x512, x513, x514, x515, x516, x517]
        repeat' (first | with_reducible apply And.intro | (intro _) | ((first | refine wp_go b133_0 ?_ | refine wp_go b133_5 ?_ | refine wp_go b133_10 ?_ | refine wp_go b133_19 ?_ | refine wp_go b133_25 ?_ | refine wp_go b133_29 ?_ | refine wp_go b133_34 ?_ | refine wp_go b133_64 ?_ | refine wp_go b133_70 ?_ | refine wp_go b133_77 ?_ | refine wp_go b133_98 ?_ | refine wp_go b133_99 ?_ | refine wp_go b133_105 ?_); simp only [l133_0, l133_5, l133_10, l133_19, l133_25, l133_29, l133_34, l133_64, l133_70, l133_77, l133_98, l133_99, l133_105, sg_aload_0, sg_iload_1, sg_iv2_i, len4_0, len4_1, len4_2, len4_3, len4_4, sg_if_ne, sg_iconst, sg_iret0, sg_iload_2, sg_if_eq, sg_bipush, sg_iv1_v, sg_iv2_v, sg_istore_3, sg_getfp, sg_iload_3, sg_iaload, sg_iastore, sg_iinc, ldI_3, okS_3, stL_3, sg_goto, sg_sipush, sg_imul, sg_iadd, nLg_n, nLg_i, nLg_r, tc_c, tc_l, tc_r, tc_m, tc_n, tc_o, tc_0, inR, true_and, and_true, ne_eq, not_true_eq_false, not_false_eq_true, true_imp_iff, false_imp_iff, Int.toNat_natCast, lit_a, Nat.reduceAdd, or_true, true_or, or_false, false_or, Int.reduceEq, Int.reduceNe, Int.reduceLT, Int.reduceLE, Int.reduceNeg, sg_nil, s1p, x510, x511, x512, x513, x514, x515, x516, x517]))
        all_goals (try omega)
        all_goals exact hf
      · have st := cont (by unfold c_load; rw [if_neg (by omega), if_neg (by rw [Int.toNat_natCast]; omega)])
        rw [show z (214 + 3 * n) = 1 by omega]
        refine wp_go b133_19 ?_; simp only [l133_19, sg_if_ne, sg_bipush, sg_iret0, nLg_n, nLg_i, nLg_r, tc_c, tc_l, tc_r, tc_m, tc_n, tc_o, tc_0, inR, true_and, and_true, ne_eq, not_true_eq_false, not_false_eq_true, true_imp_iff, false_imp_iff, Int.toNat_natCast, lit_a, Nat.reduceAdd, or_true, true_or, or_false, false_or, Int.reduceEq, Int.reduceNe, Int.reduceLT, Int.reduceLE, Int.reduceNeg, sg_nil, s1p, x510, x511, x512, x513, x514, x515, x516, x517]
        repeat' (first | with_reducible apply And.intro | intro _)
        all_goals (try omega)
  · have ec : c_load z l b = -1 := by unfold c_load; rw [if_pos (by omega)]
    rw [ec] at hf
    have hf := hf (by omega)
    refine wp_go b133_5 ?_; simp only [l133_5, sg_if_ne, sg_iconst, sg_iret0, nLg_n, nLg_i, nLg_r, tc_c, tc_l, tc_r, tc_m, tc_n, tc_o, tc_0, inR, true_and, and_true, ne_eq, not_true_eq_false, not_false_eq_true, true_imp_iff, false_imp_iff, Int.toNat_natCast, lit_a, Nat.reduceAdd, or_true, true_or, or_false, false_or, Int.reduceEq, Int.reduceNe, Int.reduceLT, Int.reduceLE, Int.reduceNeg, sg_nil, s1p, x510, x511, x512, x513, x514, x515, x516, x517]
    repeat' (first | with_reducible apply And.intro | (intro _) | ((first | refine wp_go b133_0 ?_ | refine wp_go b133_5 ?_ | refine wp_go b133_10 ?_ | refine wp_go b133_19 ?_ | refine wp_go b133_25 ?_ | refine wp_go b133_29 ?_ | refine wp_go b133_34 ?_ | refine wp_go b133_64 ?_ | refine wp_go b133_70 ?_ | refine wp_go b133_77 ?_ | refine wp_go b133_98 ?_ | refine wp_go b133_99 ?_ | refine wp_go b133_105 ?_); simp only [l133_0, l133_5, l133_10, l133_19, l133_25, l133_29, l133_34, l133_64, l133_70, l133_77, l133_98, l133_99, l133_105, sg_aload_0, sg_iload_1, sg_iv2_i, len4_0, len4_1, len4_2, len4_3, len4_4, sg_if_ne, sg_iconst, sg_iret0, sg_iload_2, sg_if_eq, sg_bipush, sg_iv1_v, sg_iv2_v, sg_istore_3, sg_getfp, sg_iload_3, sg_iaload, sg_iastore, sg_iinc, ldI_3, okS_3, stL_3, sg_goto, sg_sipush, sg_imul, sg_iadd, nLg_n, nLg_i, nLg_r, tc_c, tc_l, tc_r, tc_m, tc_n, tc_o, tc_0, inR, true_and, and_true, ne_eq, not_true_eq_false, not_false_eq_true, true_imp_iff, false_imp_iff, Int.toNat_natCast, lit_a, Nat.reduceAdd, or_true, true_or, or_false, false_or, Int.reduceEq, Int.reduceNe, Int.reduceLT, Int.reduceLE, Int.reduceNeg, sg_nil, s1p, x510, x511, x512, x513, x514, x515, x516, x517]))
    all_goals (try omega)
    all_goals exact hf
theorem k_Mo_undoC {d : Nat} {Q : QT} {μ : Mem} {a : Hs} (hC : CRm a μ) (hf : hsN a = 0 → Q (.inl (-5)) μ)
    (hq : hsN a ≠ 0 → ∀ μ', PG (fun w => ∀ k, k < 956 → w k = hsH a (hsN a - 1) k) (hsPop a) μ μ' → Q (.inl ((hsN a : Int) - 1)) μ') : Call σ1 (d + 1) 107 [.inr (.inr 510)] μ Q := by
  obtain ⟨⟨c1, c2, c3⟩, c4, c5, c6⟩ := hC
  refine k_Mo_undo c1 c2 hf (fun m hm μ' f1 f2 f3 f4 => ?_)
  have e : hsN a - 1 = m := by omega
  have e2 : (hsN a : Int) - 1 = (m : Int) := by omega
  rw [e, e2] at hq
  have ew : ∀ k, k < 956 → μ' 511 k = hsH a m k := fun k hk => by rw [f4 k hk]; exact (c3 m k (by omega) hk).1
  refine hq (by omega) μ' ⟨fun k hk => f1 k (by omega) (by omega), ew, fun k hk => by rw [ew k hk]; exact (c3 m k (by omega) hk).2, ⟨by show μ' 510 4 = ((hsN a - 1 : Nat) : Int); rw [f3, e], by show hsN a - 1 ≤ 6; omega, fun j k hj hk => ?_⟩, ?_, ?_⟩
  · have hj : j < hsN a - 1 := hj
    rw [f1 512 (by omega) (by omega)]; exact c3 j k (by omega) hk
  · rw [f1 513 (by omega) (by omega), f1 514 (by omega) (by omega)]; exact c4
  · rw [f1 515 (by omega) (by omega), f2 6 (by omega)]; exact ⟨c5, c6⟩
theorem k_Mo_saveC {d : Nat} {Q : QT} {μ : Mem} {s : Int} {z : Rw} {a : Hs} (hM : μ 511 = z) (hI : IR z) (hC : CRm a μ) (hs : inR s) (hf : (s < 0 ∨ 1 < s) → Q (.inl (-2)) μ)
    (hq : 0 ≤ s → s ≤ 1 → ∀ μ', PG (fun w => w = z) (hsSave a s.toNat z) μ μ' → Q (.inl (z 0)) μ') : Call σ1 (d + 2) 108 [.inr (.inr 510), .inl s] μ Q := by
  obtain ⟨⟨c1, c2, c3⟩, c4, c5, c6⟩ := hC
  refine k_Mo_save hM hs hf (fun g1 g2 μ' f1 f2 f3 => ?_)
  obtain ⟨m, rfl⟩ := nat_of g1
  rw [Int.toNat_natCast] at hq f2 f3
  have M1 : μ' 511 = z := by rw [f1 511 (by omega) (by omega)]; exact hM
  refine hq g1 g2 μ' ⟨fun k hk => f1 k (by omega) (by omega), M1, by rw [M1]; exact hI, ⟨by rw [f1 510 (by omega) (by omega)]; exact c1, c2, fun j k hj hk => by rw [f1 512 (by omega) (by omega)]; exact c3 j k hj hk⟩, fun i hi => ?_, by rw [f1 510 (by omega) (by omega), f1 515 (by omega) (by omega)]; exact ⟨c5, c6⟩⟩
  show μ' 514 i = (if i = m then 1 else hsV a i) ∧ ((if i = m then 1 else hsV a i) = 1 → ∀ k : Nat, k < 956 → μ' 513 (956 * i + k) = (if i = m then z else hsL a i) k ∧ inR ((if i = m then z else hsL a i) k))
  rw [f2]
  by_cases h : i = m
  · rw [if_pos h, if_pos h, if_pos h]
    refine ⟨rfl, fun _ k hk => ?_⟩
    rw [f3, if_pos (by omega), h, show 956 * m + k - 956 * m = k by omega]
    exact ⟨rfl, hI k hk⟩
  · rw [if_neg h, if_neg h, if_neg h]
    refine ⟨(c4 i hi).1, fun hv k hk => ?_⟩
    rw [f3, if_neg (by omega)]
    exact (c4 i hi).2 hv k hk
-- Mo.restore: blocks [0, 6, 12, 24, 28, 30, 61]
theorem k_Mo_restore {d : Nat} {Q : QT} {μ : Mem} {s : Int} {z : Rw} {a : Hs} (hM : μ 511 = z) (hI : IR z) (hC : CRm a μ) (hv : ∀ i : Nat, i < 2 → hsV a i = 0 ∨ hsV a i = 1) (hs : inR s) (hf : c_restore a s < 0 → Q (.inl (c_restore a s)) μ)
    (hq : c_restore a s = 0 → ∀ μ', PG (fun w => ∀ k, k < 956 → w k = hsL a s.toNat k) (hsPush a z) μ μ' → Q (.inl (hsL a s.toNat 0)) μ') : Call σ1 (d + 2) 109 [.inr (.inr 510), .inl s] μ Q := by
  refine e_109 ?_
  refine wp_go b109_0 ?_; simp only [l109_0, sg_iload_1, sg_iconst, len4_0, len4_1, len4_2, len4_3, len4_4, sg_is3_1, nLg_n, nLg_i, nLg_r, tc_c, tc_l, tc_r, tc_m, tc_n, tc_o, tc_0, inR, true_and, and_true, ne_eq, not_true_eq_false, not_false_eq_true, true_imp_iff, false_imp_iff, Int.toNat_natCast, lit_a, Nat.reduceAdd, or_true, true_or, or_false, false_or, Int.reduceEq, Int.reduceNe, Int.reduceLT, Int.reduceLE, Int.reduceNeg, sg_nil, s1p, x510, x511, x512, x513, x514, x515, x516, x517]
  refine k_Mo_in hs (by unfold inR; omega) (by unfold inR; omega) (fun g1 g2 => ?_) (fun g0 => ?_)
  · obtain ⟨m, rfl⟩ := nat_of g1
    have c4 := hC.2.1 m (by omega)
    have v01 := hv m (by omega)
    by_cases g : hsV a m = 1
    · have ec : c_restore a (m : Int) = 0 := by unfold c_restore; rw [if_neg (by omega), Int.toNat_natCast, if_neg (fun h => h g)]
      have hq := hq ec
      rw [Int.toNat_natCast] at hq
      have e4 : μ 514 m = 1 := c4.1.trans g
      refine wp_go b109_6 ?_; simp only [l109_6, sg_if_ne, sg_bipush, sg_iret0, nLg_n, nLg_i, nLg_r, tc_c, tc_l, tc_r, tc_m, tc_n, tc_o, tc_0, inR, true_and, and_true, ne_eq, not_true_eq_false, not_false_eq_true, true_imp_iff, false_imp_iff, Int.toNat_natCast, lit_a, Nat.reduceAdd, or_true, true_or, or_false, false_or, Int.reduceEq, Int.reduceNe, Int.reduceLT, Int.reduceLE, Int.reduceNeg, sg_nil, s1p, x510, x511, x512, x513, x514, x515, x516, x517]
      repeat' (first | with_reducible apply And.intro | intro _)
      all_goals (try omega)
      refine wp_go b109_12 ?_; simp only [l109_12, sg_aload_0, sg_getfp, sg_iload_1, sg_baload, sg_if_ne, sg_bipush, sg_iret0, nLg_n, nLg_i, nLg_r, tc_c, tc_l, tc_r, tc_m, tc_n, tc_o, tc_0, inR, true_and, and_true, ne_eq, not_true_eq_false, not_false_eq_true, true_imp_iff, false_imp_iff, Int.toNat_natCast, lit_a, Nat.reduceAdd, or_true, true_or, or_false, false_or, Int.reduceEq, Int.reduceNe, Int.reduceLT, Int.reduceLE, Int.reduceNeg, sg_nil, s1p, x510, x511, x512, x513, x514, x515, x516, x517, e4]
      repeat' (first | with_reducible apply And.intro | intro _)
      all_goals (try omega)
      refine wp_go b109_24 ?_; simp only [l109_24, sg_aload_0, sg_iv1_v, len4_0, len4_1, len4_2, len4_3, len4_4, nLg_n, nLg_i, nLg_r, tc_c, tc_l, tc_r, tc_m, tc_n, tc_o, tc_0, inR, true_and, and_true, ne_eq, not_true_eq_false, not_false_eq_true, true_imp_iff, false_imp_iff, Int.toNat_natCast, lit_a, Nat.reduceAdd, or_true, true_or, or_false, false_or, Int.reduceEq, Int.reduceNe, Int.reduceLT, Int.reduceLE, Int.reduceNeg, sg_nil, s1p, x510, x511, x512, x513, x514, x515, x516, x517]
      refine k_Mo_rec hM hI hC (fun μ1 f1 C1 => ?_)
      have e3 : ∀ k, k < 956 → μ1 513 (956 * m + k) = hsL a m k := fun k hk => by rw [f1 513 (by omega) (by omega)]; exact (c4.2 g k hk).1
      have loop : ∀ k i : Nat, i + k = 956 → ∀ μ2 : Mem, (∀ k, k ≠ 511 → μ2 k = μ1 k) → (∀ x, x < i → μ2 511 x = hsL a m x) → wp σ1 (Call σ1 (d + 1)) 109 Q 30 [some (.inr (.inr 510)), some (.inl (m : Int)), some (.inl (i : Int))] [] μ2 := by
        intro k
        induction k with
        | zero =>
          intro i hi μ2 f2 g2
          have hin : i = 956 := by omega
          subst hin
          have hq := hq μ2 ⟨fun k hk => (f2 k (by omega)).trans (f1 k (by omega) (by omega)), g2, fun k hk => by rw [g2 k hk]; exact (c4.2 g k hk).2, CRm_1 (fun k h1 _ => f2 k h1) C1⟩
          have e0 : μ2 511 0 = hsL a m 0 := g2 0 (by omega)
          refine wp_go b109_30 ?_; simp only [l109_30, sg_iload_2, sg_sipush, sg_ic_ge, sg_aload_0, sg_getfp, sg_iload_1, sg_imul, sg_iadd, sg_iaload, sg_iastore, sg_iinc, ldI_2, okS_2, stL_2, sg_goto, nLg_n, nLg_i, nLg_r, tc_c, tc_l, tc_r, tc_m, tc_n, tc_o, tc_0, inR, true_and, and_true, ne_eq, not_true_eq_false, not_false_eq_true, true_imp_iff, false_imp_iff, Int.toNat_natCast, lit_a, Nat.reduceAdd, or_true, true_or, or_false, false_or, Int.reduceEq, Int.reduceNe, Int.reduceLT, Int.reduceLE, Int.reduceNeg, sg_nil, s1p, x510, x511, x512, x513, x514, x515, x516, x517]
          repeat' (first | with_reducible apply And.intro | intro _)
          all_goals (try omega)
          refine wp_go b109_61 ?_; simp only [l109_61, sg_aload_0, sg_getfp, sg_iconst, sg_iaload, sg_iret0, nLg_n, nLg_i, nLg_r, tc_c, tc_l, tc_r, tc_m, tc_n, tc_o, tc_0, inR, true_and, and_true, ne_eq, not_true_eq_false, not_false_eq_true, true_imp_iff, false_imp_iff, Int.toNat_natCast, lit_a, Nat.reduceAdd, or_true, true_or, or_false, false_or, Int.reduceEq, Int.reduceNe, Int.reduceLT, Int.reduceLE, Int.reduceNeg, sg_nil, s1p, x510, x511, x512, x513, x514, x515, x516, x517, e0, Int.toNat_zero]
          exact hq
        | succ k ih =>
          intro i hi μ2 f2 g2
          have e : μ2 513 (m * 956 + i) = hsL a m i := by rw [f2 513 (by omega), Nat.mul_comm]; exact e3 i (by omega)
          have ih1 := ih (i + 1) (by omega) (ms μ2 511 i (hsL a m i)) (fun k hk => by rw [← f2 k hk]; funext j; simp only [ms_at]; (repeat (first | rw [if_neg (by omega)] | rw [if_pos (by omega)]))) (fun x hx => by
            simp only [ms_at, true_and]
            by_cases h : x = i
            · rw [if_pos h, h]
            · rw [if_neg h]; exact g2 x (by omega))
          refine wp_go b109_30 ?_; simp only [l109_30, sg_iload_2, sg_sipush, sg_ic_ge, sg_aload_0, sg_getfp, sg_iload_1, sg_imul, sg_iadd, sg_iaload, sg_iastore, sg_iinc, ldI_2, okS_2, stL_2, sg_goto, nLg_n, nLg_i, nLg_r, tc_c, tc_l, tc_r, tc_m, tc_n, tc_o, tc_0, inR, true_and, and_true, ne_eq, not_true_eq_false, not_false_eq_true, true_imp_iff, false_imp_iff, Int.toNat_natCast, lit_a, Nat.reduceAdd, or_true, true_or, or_false, false_or, Int.reduceEq, Int.reduceNe, Int.reduceLT, Int.reduceLE, Int.reduceNeg, sg_nil, s1p, x510, x511, x512, x513, x514, x515, x516, x517, e]
          repeat' (first | with_reducible apply And.intro | intro _)
          all_goals (try omega)
      refine wp_go b109_28 ?_; simp only [l109_28, sg_iconst, sg_istore_2, nLg_n, nLg_i, nLg_r, tc_c, tc_l, tc_r, tc_m, tc_n, tc_o, tc_0, inR, true_and, and_true, ne_eq, not_true_eq_false, not_false_eq_true, true_imp_iff, false_imp_iff, Int.toNat_natCast, lit_a, Nat.reduceAdd, or_true, true_or, or_false, false_or, Int.reduceEq, Int.reduceNe, Int.reduceLT, Int.reduceLE, Int.reduceNeg, sg_nil, s1p, x510, x511, x512, x513, x514, x515, x516, x517]
      exact loop 956 0 (by omega) μ1 (fun _ _ => rfl) (fun x hx => absurd hx (by omega))
    · have ec : c_restore a (m : Int) = -5 := by unfold c_restore; rw [if_neg (by omega), Int.toNat_natCast, if_pos g]
      rw [ec] at hf
      have hf := hf (by omega)
      have e4 : μ 514 m = 0 := c4.1.trans (by omega)
      refine wp_go b109_6 ?_; simp only [l109_6, sg_if_ne, sg_bipush, sg_iret0, nLg_n, nLg_i, nLg_r, tc_c, tc_l, tc_r, tc_m, tc_n, tc_o, tc_0, inR, true_and, and_true, ne_eq, not_true_eq_false, not_false_eq_true, true_imp_iff, false_imp_iff, Int.toNat_natCast, lit_a, Nat.reduceAdd, or_true, true_or, or_false, false_or, Int.reduceEq, Int.reduceNe, Int.reduceLT, Int.reduceLE, Int.reduceNeg, sg_nil, s1p, x510, x511, x512, x513, x514, x515, x516, x517]
      repeat' (first | with_reducible apply And.intro | intro _)
      all_goals (try omega)
      refine wp_go b109_12 ?_; simp only [l109_12, sg_aload_0, sg_getfp, sg_iload_1, sg_baload, sg_if_ne, sg_bipush, sg_iret0, nLg_n, nLg_i, nLg_r, tc_c, tc_l, tc_r, tc_m, tc_n, tc_o, tc_0, inR, true_and, and_true, ne_eq, not_true_eq_false, not_false_eq_true, true_imp_iff, false_imp_iff, Int.toNat_natCast, lit_a, Nat.reduceAdd, or_true, true_or, or_false, false_or, Int.reduceEq, Int.reduceNe, Int.reduceLT, Int.reduceLE, Int.reduceNeg, sg_nil, s1p, x510, x511, x512, x513, x514, x515, x516, x517, e4]
      repeat' (first | with_reducible apply And.intro | (intro _) | ((first | refine wp_go b109_0 ?_ | refine wp_go b109_6 ?_ | refine wp_go b109_12 ?_ | refine wp_go b109_24 ?_ | refine wp_go b109_28 ?_ | refine wp_go b109_61 ?_); simp only [l109_0, l109_6, l109_12, l109_24, l109_28, l109_61, sg_iload_1, sg_iconst, len4_0, len4_1, len4_2, len4_3, len4_4, sg_is3_1, sg_if_ne, sg_bipush, sg_iret0, sg_aload_0, sg_getfp, sg_baload, sg_iv1_v, sg_istore_2, sg_iaload, nLg_n, nLg_i, nLg_r, tc_c, tc_l, tc_r, tc_m, tc_n, tc_o, tc_0, inR, true_and, and_true, ne_eq, not_true_eq_false, not_false_eq_true, true_imp_iff, false_imp_iff, Int.toNat_natCast, lit_a, Nat.reduceAdd, or_true, true_or, or_false, false_or, Int.reduceEq, Int.reduceNe, Int.reduceLT, Int.reduceLE, Int.reduceNeg, sg_nil, s1p, x510, x511, x512, x513, x514, x515, x516, x517]))
      all_goals (try omega)
      all_goals exact hf
  · have ec : c_restore a s = -2 := by unfold c_restore; rw [if_pos (by omega)]
    rw [ec] at hf
    have hf := hf (by omega)
    refine wp_go b109_6 ?_; simp only [l109_6, sg_if_ne, sg_bipush, sg_iret0, nLg_n, nLg_i, nLg_r, tc_c, tc_l, tc_r, tc_m, tc_n, tc_o, tc_0, inR, true_and, and_true, ne_eq, not_true_eq_false, not_false_eq_true, true_imp_iff, false_imp_iff, Int.toNat_natCast, lit_a, Nat.reduceAdd, or_true, true_or, or_false, false_or, Int.reduceEq, Int.reduceNe, Int.reduceLT, Int.reduceLE, Int.reduceNeg, sg_nil, s1p, x510, x511, x512, x513, x514, x515, x516, x517]
    repeat' (first | with_reducible apply And.intro | (intro _) | ((first | refine wp_go b109_0 ?_ | refine wp_go b109_6 ?_ | refine wp_go b109_12 ?_ | refine wp_go b109_24 ?_ | refine wp_go b109_28 ?_ | refine wp_go b109_61 ?_); simp only [l109_0, l109_6, l109_12, l109_24, l109_28, l109_61, sg_iload_1, sg_iconst, len4_0, len4_1, len4_2, len4_3, len4_4, sg_is3_1, sg_if_ne, sg_bipush, sg_iret0, sg_aload_0, sg_getfp, sg_baload, sg_iv1_v, sg_istore_2, sg_iaload, nLg_n, nLg_i, nLg_r, tc_c, tc_l, tc_r, tc_m, tc_n, tc_o, tc_0, inR, true_and, and_true, ne_eq, not_true_eq_false, not_false_eq_true, true_imp_iff, false_imp_iff, Int.toNat_natCast, lit_a, Nat.reduceAdd, or_true, true_or, or_false, false_or, Int.reduceEq, Int.reduceNe, Int.reduceLT, Int.reduceLE, Int.reduceNeg, sg_nil, s1p, x510, x511, x512, x513, x514, x515, x516, x517]))
    all_goals (try omega)
    all_goals exact hf
