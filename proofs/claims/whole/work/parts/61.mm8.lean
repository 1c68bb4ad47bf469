-- Mo.areRows: blocks [0, 17, 18, 21, 31, 61, 68, 69, 76, 82]
theorem k_Mo_areRows {d n r c : Nat} {o : Bool} {f : Nat → Int} {Q : QT} {μ : Mem} {z : Rw} (hM : μ 511 = z) (hz : IZ z) (H : PRD f n (μ 517) r c o) (m12 : μ 510 12 = ((r + 1 : Nat) : Int))
    (h0 : (z 0 < 1 + nSl f n ∨ z 2 ≤ hiF f n) → Q (.inl 0) μ) (h1 : ¬ (z 0 < 1 + nSl f n ∨ z 2 ≤ hiF f n) → Q (.inl 1) μ) : Call σ1 (d + 2) 164 [.inr (.inr 510)] μ Q := by
  refine e_164 ?_
  have q := hz.1
  obtain ⟨b1, b2, b3⟩ := pst_b H.1
  obtain ⟨p1, p2, p3, p4, p5, p6⟩ := H
  have loop : ∀ k j : Nat, j + k = r + 1 → ∀ (v : Int) (o3 : Option MV), nLg o3 → (v = 0 ∨ v = 1) → (v = 1 ↔ (((r + 1 : Nat) : Int) ≤ z 0 ∧ ∀ j', j' < j → ∀ k : Nat, (k : Int) < μ 517 (5 * j') → μ 517 (5 * j' + 1 + k) < z 2)) → wp σ1 (Call σ1 (d + 1)) 164 Q 21 [some (.inr (.inr 510)), some (.inl v), some (.inl (j : Int)), o3] [] μ := by
    intro k
    induction k with
    | zero =>
      intro j hj v o3 l3 hv hvi
      have hjr : j = r + 1 := by omega
      have h6 := p6 (z 2) (by omega)
      have fin : Q (.inl v) μ := by
        rcases hv with hv | hv
        · rw [hv]
          refine h0 (Classical.byContradiction (fun hn => ?_))
          have : v = 1 := hvi.mpr ⟨by omega, fun j' hj' => h6.mpr (by omega) j' (by omega)⟩
          omega
        · rw [hv]
          refine h1 (fun hx => ?_)
          obtain ⟨g1, g2⟩ := hvi.mp hv
          have := h6.mp (fun j' hj' => g2 j' (by omega))
          omega
      refine wp_go b164_21 ?_; simp only [l164_21, sg_iload_2, sg_aload_0, sg_getf0, sg_ic_ge, sg_iconst, sg_istore_3, nLg_n, nLg_i, nLg_r, tc_c, tc_l, tc_r, tc_m, tc_n, tc_o, tc_0, inR, true_and, and_true, ne_eq, not_true_eq_false, not_false_eq_true, true_imp_iff, false_imp_iff, Int.toNat_natCast, lit_a, Nat.reduceAdd, or_true, true_or, or_false, false_or, Int.reduceEq, Int.reduceNe, Int.reduceLT, Int.reduceLE, Int.reduceNeg, sg_nil, s1p, x510, x511, x512, x513, x514, x515, x516, x517, m12]
      repeat' (first | with_reducible apply And.intro | intro _)
      all_goals (try omega)
      refine wp_go b164_82 ?_; simp only [l164_82, sg_iload_1, sg_iret1, nLg_n, nLg_i, nLg_r, tc_c, tc_l, tc_r, tc_m, tc_n, tc_o, tc_0, inR, true_and, and_true, ne_eq, not_true_eq_false, not_false_eq_true, true_imp_iff, false_imp_iff, Int.toNat_natCast, lit_a, Nat.reduceAdd, or_true, true_or, or_false, false_or, Int.reduceEq, Int.reduceNe, Int.reduceLT, Int.reduceLE, Int.reduceNeg, sg_nil, s1p, x510, x511, x512, x513, x514, x515, x516, x517]
      exact ⟨hv, fin⟩
    | succ k ih =>
      intro j hj v o3 l3 hv hvi
      obtain ⟨s1, s2, s3⟩ := p4 j (by omega)
      obtain ⟨m, hm⟩ := nat_of s1
      have inner : ∀ c i : Nat, i + c = m → ∀ v : Int, (v = 0 ∨ v = 1) → (v = 1 ↔ (((r + 1 : Nat) : Int) ≤ z 0 ∧ (∀ j', j' < j → ∀ k : Nat, (k : Int) < μ 517 (5 * j') → μ 517 (5 * j' + 1 + k) < z 2) ∧ ∀ k : Nat, k < i → μ 517 (5 * j + 1 + k) < z 2)) → wp σ1 (Call σ1 (d + 1)) 164 Q 31 [some (.inr (.inr 510)), some (.inl v), some (.inl (j : Int)), some (.inl ((i + 1 : Nat) : Int))] [] μ := by
        intro c
        induction c with
        | zero =>
          intro i hi v hv hvi
          have ih1 := ih (j + 1) (by omega) v (some (.inl ((i + 1 : Nat) : Int))) trivial hv (by
            rw [hvi]
            constructor
            · rintro ⟨g1, g2, g3⟩
              refine ⟨g1, fun j' hj' k hk => ?_⟩
              rcases Nat.lt_or_ge j' j with hh | hh
              · exact g2 j' hh k hk
              · have : j' = j := by omega
                subst this
                exact g3 k (by omega)
            · rintro ⟨g1, g2⟩
              exact ⟨g1, fun j' hj' => g2 j' (by omega), fun k hk => g2 j (by omega) k (by omega)⟩)
          refine wp_go b164_31 ?_; simp only [l164_31, sg_iload_3, sg_aload_0, sg_getfp, sg_iconst, sg_iload_2, sg_imul, sg_iaload, sg_ic_gt, sg_iload_1, sg_if_eq, sg_iadd, sg_iv2_i, len4_0, len4_1, len4_2, len4_3, len4_4, nLg_n, nLg_i, nLg_r, tc_c, tc_l, tc_r, tc_m, tc_n, tc_o, tc_0, inR, true_and, and_true, ne_eq, not_true_eq_false, not_false_eq_true, true_imp_iff, false_imp_iff, Int.toNat_natCast, lit_a, Nat.reduceAdd, or_true, true_or, or_false, false_or, Int.reduceEq, Int.reduceNe, Int.reduceLT, Int.reduceLE, Int.reduceNeg, sg_nil, s1p, x510, x511, x512, x513, x514, x515, x516, x517, hm]
          repeat' (first | with_reducible apply And.intro | intro _)
          all_goals (try omega)
          refine wp_go b164_76 ?_; simp only [l164_76, sg_iinc, ldI_2, okS_2, stL_2, sg_goto, nLg_n, nLg_i, nLg_r, tc_c, tc_l, tc_r, tc_m, tc_n, tc_o, tc_0, inR, true_and, and_true, ne_eq, not_true_eq_false, not_false_eq_true, true_imp_iff, false_imp_iff, Int.toNat_natCast, lit_a, Nat.reduceAdd, or_true, true_or, or_false, false_or, Int.reduceEq, Int.reduceNe, Int.reduceLT, Int.reduceLE, Int.reduceNeg, sg_nil, s1p, x510, x511, x512, x513, x514, x515, x516, x517]
          repeat' (first | with_reducible apply And.intro | intro _)
          all_goals (try omega)
        | succ c ihc =>
          intro i hi v hv hvi
          obtain ⟨t1, t2⟩ := s3 i (by omega)
          have e1 : 5 * j + (i + 1) = 5 * j + 1 + i := by omega
          have nx : ∀ v2 : Int, (v2 = 0 ∨ v2 = 1) → (v2 = 1 ↔ (v = 1 ∧ μ 517 (5 * j + 1 + i) < z 2)) → wp σ1 (Call σ1 (d + 1)) 164 Q 31 [some (.inr (.inr 510)), some (.inl v2), some (.inl (j : Int)), some (.inl ((i + 1 + 1 : Nat) : Int))] [] μ := fun v2 w1 w2 => ihc (i + 1) (by omega) v2 w1 (by
            rw [w2, hvi]
            constructor
            · rintro ⟨⟨g1, g2, g3⟩, g4⟩
              refine ⟨g1, g2, fun k hk => ?_⟩
              rcases Nat.lt_or_ge k i with hh | hh
              · exact g3 k hh
              · rw [show k = i by omega]; exact g4
            · rintro ⟨g1, g2, g3⟩
              exact ⟨⟨g1, g2, fun k hk => g3 k (by omega)⟩, g3 i (by omega)⟩)
          rcases hv with hv | hv
          · have nx0 := nx 0 (Or.inl rfl) ⟨fun h => absurd h (by omega), fun h => absurd h.1 (by omega)⟩
            rw [hv]
            refine wp_go b164_31 ?_; simp only [l164_31, sg_iload_3, sg_aload_0, sg_getfp, sg_iconst, sg_iload_2, sg_imul, sg_iaload, sg_ic_gt, sg_iload_1, sg_if_eq, sg_iadd, sg_iv2_i, len4_0, len4_1, len4_2, len4_3, len4_4, nLg_n, nLg_i, nLg_r, tc_c, tc_l, tc_r, tc_m, tc_n, tc_o, tc_0, inR, true_and, and_true, ne_eq, not_true_eq_false, not_false_eq_true, true_imp_iff, false_imp_iff, Int.toNat_natCast, lit_a, Nat.reduceAdd, or_true, true_or, or_false, false_or, Int.reduceEq, Int.reduceNe, Int.reduceLT, Int.reduceLE, Int.reduceNeg, sg_nil, s1p, x510, x511, x512, x513, x514, x515, x516, x517, hm]
            repeat' (first | with_reducible apply And.intro | intro _)
            all_goals (try omega)
            refine wp_go b164_68 ?_; simp only [l164_68, sg_iconst, nLg_n, nLg_i, nLg_r, tc_c, tc_l, tc_r, tc_m, tc_n, tc_o, tc_0, inR, true_and, and_true, ne_eq, not_true_eq_false, not_false_eq_true, true_imp_iff, false_imp_iff, Int.toNat_natCast, lit_a, Nat.reduceAdd, or_true, true_or, or_false, false_or, Int.reduceEq, Int.reduceNe, Int.reduceLT, Int.reduceLE, Int.reduceNeg, sg_nil, s1p, x510, x511, x512, x513, x514, x515, x516, x517]
            refine wp_go b164_69 ?_; simp only [l164_69, sg_istore_1, sg_iinc, ldI_3, okS_3, stL_3, sg_goto, nLg_n, nLg_i, nLg_r, tc_c, tc_l, tc_r, tc_m, tc_n, tc_o, tc_0, inR, true_and, and_true, ne_eq, not_true_eq_false, not_false_eq_true, true_imp_iff, false_imp_iff, Int.toNat_natCast, lit_a, Nat.reduceAdd, or_true, true_or, or_false, false_or, Int.reduceEq, Int.reduceNe, Int.reduceLT, Int.reduceLE, Int.reduceNeg, sg_nil, s1p, x510, x511, x512, x513, x514, x515, x516, x517]
            repeat' (first | with_reducible apply And.intro | intro _)
            all_goals (try omega)
          · rw [hv]
            refine wp_go b164_31 ?_; simp only [l164_31, sg_iload_3, sg_aload_0, sg_getfp, sg_iconst, sg_iload_2, sg_imul, sg_iaload, sg_ic_gt, sg_iload_1, sg_if_eq, sg_iadd, sg_iv2_i, len4_0, len4_1, len4_2, len4_3, len4_4, nLg_n, nLg_i, nLg_r, tc_c, tc_l, tc_r, tc_m, tc_n, tc_o, tc_0, inR, true_and, and_true, ne_eq, not_true_eq_false, not_false_eq_true, true_imp_iff, false_imp_iff, Int.toNat_natCast, lit_a, Nat.reduceAdd, or_true, true_or, or_false, false_or, Int.reduceEq, Int.reduceNe, Int.reduceLT, Int.reduceLE, Int.reduceNeg, sg_nil, s1p, x510, x511, x512, x513, x514, x515, x516, x517, hm, e1]
            repeat' (first | with_reducible apply And.intro | intro _)
            all_goals (try omega)
            refine k_Mo_isNotice hM hz (by unfold inR; omega) (fun g1 g2 => ?_) (fun g0 => ?_)
            · have nx1 := nx 1 (Or.inr rfl) ⟨fun _ => ⟨hv, g2⟩, fun _ => rfl⟩
              refine wp_go b164_61 ?_; simp only [l164_61, sg_if_eq, sg_iconst, sg_goto, nLg_n, nLg_i, nLg_r, tc_c, tc_l, tc_r, tc_m, tc_n, tc_o, tc_0, inR, true_and, and_true, ne_eq, not_true_eq_false, not_false_eq_true, true_imp_iff, false_imp_iff, Int.toNat_natCast, lit_a, Nat.reduceAdd, or_true, true_or, or_false, false_or, Int.reduceEq, Int.reduceNe, Int.reduceLT, Int.reduceLE, Int.reduceNeg, sg_nil, s1p, x510, x511, x512, x513, x514, x515, x516, x517]
              repeat' (first | with_reducible apply And.intro | intro _)
              all_goals (try omega)
              refine wp_go b164_69 ?_; simp only [l164_69, sg_istore_1, sg_iinc, ldI_3, okS_3, stL_3, sg_goto, nLg_n, nLg_i, nLg_r, tc_c, tc_l, tc_r, tc_m, tc_n, tc_o, tc_0, inR, true_and, and_true, ne_eq, not_true_eq_false, not_false_eq_true, true_imp_iff, false_imp_iff, Int.toNat_natCast, lit_a, Nat.reduceAdd, or_true, true_or, or_false, false_or, Int.reduceEq, Int.reduceNe, Int.reduceLT, Int.reduceLE, Int.reduceNeg, sg_nil, s1p, x510, x511, x512, x513, x514, x515, x516, x517]
              repeat' (first | with_reducible apply And.intro | intro _)
              all_goals (try omega)
            · have nx0 := nx 0 (Or.inl rfl) ⟨fun h => absurd h (by omega), fun h => absurd h.2 (by omega)⟩
              refine wp_go b164_61 ?_; simp only [l164_61, sg_if_eq, sg_iconst, sg_goto, nLg_n, nLg_i, nLg_r, tc_c, tc_l, tc_r, tc_m, tc_n, tc_o, tc_0, inR, true_and, and_true, ne_eq, not_true_eq_false, not_false_eq_true, true_imp_iff, false_imp_iff, Int.toNat_natCast, lit_a, Nat.reduceAdd, or_true, true_or, or_false, false_or, Int.reduceEq, Int.reduceNe, Int.reduceLT, Int.reduceLE, Int.reduceNeg, sg_nil, s1p, x510, x511, x512, x513, x514, x515, x516, x517]
              repeat' (first | with_reducible apply And.intro | intro _)
              all_goals (try omega)
              refine wp_go b164_68 ?_; simp only [l164_68, sg_iconst, nLg_n, nLg_i, nLg_r, tc_c, tc_l, tc_r, tc_m, tc_n, tc_o, tc_0, inR, true_and, and_true, ne_eq, not_true_eq_false, not_false_eq_true, true_imp_iff, false_imp_iff, Int.toNat_natCast, lit_a, Nat.reduceAdd, or_true, true_or, or_false, false_or, Int.reduceEq, Int.reduceNe, Int.reduceLT, Int.reduceLE, Int.reduceNeg, sg_nil, s1p, x510, x511, x512, x513, x514, x515, x516, x517]
              refine wp_go b164_69 ?_; simp only [l164_69, sg_istore_1, sg_iinc, ldI_3, okS_3, stL_3, sg_goto, nLg_n, nLg_i, nLg_r, tc_c, tc_l, tc_r, tc_m, tc_n, tc_o, tc_0, inR, true_and, and_true, ne_eq, not_true_eq_false, not_false_eq_true, true_imp_iff, false_imp_iff, Int.toNat_natCast, lit_a, Nat.reduceAdd, or_true, true_or, or_false, false_or, Int.reduceEq, Int.reduceNe, Int.reduceLT, Int.reduceLE, Int.reduceNeg, sg_nil, s1p, x510, x511, x512, x513, x514, x515, x516, x517]
              repeat' (first | with_reducible apply And.intro | intro _)
              all_goals (try omega)
      have st := inner m 0 (by omega) v hv (by
        rw [hvi]
        exact ⟨fun g => ⟨g.1, g.2, fun k hk => absurd hk (by omega)⟩, fun g => ⟨g.1, g.2.1⟩⟩)
      refine wp_go b164_21 ?_; simp only [l164_21, sg_iload_2, sg_aload_0, sg_getf0, sg_ic_ge, sg_iconst, sg_istore_3, nLg_n, nLg_i, nLg_r, tc_c, tc_l, tc_r, tc_m, tc_n, tc_o, tc_0, inR, true_and, and_true, ne_eq, not_true_eq_false, not_false_eq_true, true_imp_iff, false_imp_iff, Int.toNat_natCast, lit_a, Nat.reduceAdd, or_true, true_or, or_false, false_or, Int.reduceEq, Int.reduceNe, Int.reduceLT, Int.reduceLE, Int.reduceNeg, sg_nil, s1p, x510, x511, x512, x513, x514, x515, x516, x517, m12, l3]
      repeat' (first | with_reducible apply And.intro | intro _)
      all_goals (try omega)
  by_cases g : ((r + 1 : Nat) : Int) ≤ z 0
  · have st := loop (r + 1) 0 (by omega) 1 none trivial (Or.inr rfl) ⟨fun _ => ⟨g, fun j' hj' => absurd hj' (by omega)⟩, fun _ => rfl⟩
    refine wp_go b164_0 ?_; simp only [l164_0, sg_aload_0, sg_getf0, sg_getfp, sg_iconst, sg_iaload, sg_ic_gt, sg_goto, nLg_n, nLg_i, nLg_r, tc_c, tc_l, tc_r, tc_m, tc_n, tc_o, tc_0, inR, true_and, and_true, ne_eq, not_true_eq_false, not_false_eq_true, true_imp_iff, false_imp_iff, Int.toNat_natCast, lit_a, Nat.reduceAdd, or_true, true_or, or_false, false_or, Int.reduceEq, Int.reduceNe, Int.reduceLT, Int.reduceLE, Int.reduceNeg, sg_nil, s1p, x510, x511, x512, x513, x514, x515, x516, x517, hM, m12, Int.toNat_zero]
    repeat' (first | with_reducible apply And.intro | intro _)
    all_goals (try omega)
    refine wp_go b164_18 ?_; simp only [l164_18, sg_istore_1, sg_iconst, sg_istore_2, nLg_n, nLg_i, nLg_r, tc_c, tc_l, tc_r, tc_m, tc_n, tc_o, tc_0, inR, true_and, and_true, ne_eq, not_true_eq_false, not_false_eq_true, true_imp_iff, false_imp_iff, Int.toNat_natCast, lit_a, Nat.reduceAdd, or_true, true_or, or_false, false_or, Int.reduceEq, Int.reduceNe, Int.reduceLT, Int.reduceLE, Int.reduceNeg, sg_nil, s1p, x510, x511, x512, x513, x514, x515, x516, x517]
    exact st
  · have st := loop (r + 1) 0 (by omega) 0 none trivial (Or.inl rfl) ⟨fun h => absurd h (by omega), fun h => absurd h.1 g⟩
    refine wp_go b164_0 ?_; simp only [l164_0, sg_aload_0, sg_getf0, sg_getfp, sg_iconst, sg_iaload, sg_ic_gt, sg_goto, nLg_n, nLg_i, nLg_r, tc_c, tc_l, tc_r, tc_m, tc_n, tc_o, tc_0, inR, true_and, and_true, ne_eq, not_true_eq_false, not_false_eq_true, true_imp_iff, false_imp_iff, Int.toNat_natCast, lit_a, Nat.reduceAdd, or_true, true_or, or_false, false_or, Int.reduceEq, Int.reduceNe, Int.reduceLT, Int.reduceLE, Int.reduceNeg, sg_nil, s1p, x510, x511, x512, x513, x514, x515, x516, x517, hM, m12, Int.toNat_zero]
    repeat' (first | with_reducible apply And.intro | intro _)
    all_goals (try omega)
    refine wp_go b164_17 ?_; simp only [l164_17, sg_iconst, nLg_n, nLg_i, nLg_r, tc_c, tc_l, tc_r, tc_m, tc_n, tc_o, tc_0, inR, true_and, and_true, ne_eq, not_true_eq_false, not_false_eq_true, true_imp_iff, false_imp_iff, Int.toNat_natCast, lit_a, Nat.reduceAdd, or_true, true_or, or_false, false_or, Int.reduceEq, Int.reduceNe, Int.reduceLT, Int.reduceLE, Int.reduceNeg, sg_nil, s1p, x510, x511, x512, x513, x514, x515, x516, x517]
    refine wp_go b164_18 ?_; simp only [l164_18, sg_istore_1, sg_iconst, sg_istore_2, nLg_n, nLg_i, nLg_r, tc_c, tc_l, tc_r, tc_m, tc_n, tc_o, tc_0, inR, true_and, and_true, ne_eq, not_true_eq_false, not_false_eq_true, true_imp_iff, false_imp_iff, Int.toNat_natCast, lit_a, Nat.reduceAdd, or_true, true_or, or_false, false_or, Int.reduceEq, Int.reduceNe, Int.reduceLT, Int.reduceLE, Int.reduceNeg, sg_nil, s1p, x510, x511, x512, x513, x514, x515, x516, x517]
    exact st
theorem k_Mo_rec2 {d : Nat} {Q : QT} {μ : Mem} {z : Rw} {a : Hs} (hM : μ 511 = z) (hI : IR z) (hC : CRm a μ)
    (hq : ∀ μ', (∀ k, k ≠ 510 → k ≠ 512 → μ' k = μ k) → (∀ j, j ≠ 4 → μ' 510 j = μ 510 j) → CRm (hsPush a z) μ' → Q (.inl 0) μ') : Call σ1 (d + 1) 106 [.inr (.inr 510)] μ Q := by
  obtain ⟨⟨c1, c2, c3⟩, c4, c5, c6⟩ := hC
  refine k_Mo_record hM c1 c2 hI (fun μ' f1 f2 f3 f4 => hq μ' f1 f2 ⟨⟨f3, ?_, fun j k hj hk => ?_⟩, ?_, ?_, ?_⟩)
  · show hpn (hsN a) ≤ 6
    unfold hpn; split <;> omega
  · have hj : j < hpn (hsN a) := hj
    have e := f4 j k hj hk
    rw [e]
    show hpush (hsN a) (fun j k => μ 512 (956 * j + k)) z j k = hpush (hsN a) (hsH a) z j k ∧ inR (hpush (hsN a) (hsH a) z j k)
    unfold hpn at hj
    unfold hpush
    by_cases hn : hsN a < 6
    · rw [if_pos hn] at hj
      rw [if_pos hn, if_pos hn]
      by_cases hjn : j = hsN a
      · rw [if_pos hjn, if_pos hjn]; exact ⟨rfl, hI k hk⟩
      · rw [if_neg hjn, if_neg hjn]; exact c3 j k (by omega) hk
    · rw [if_neg hn] at hj
      rw [if_neg hn, if_neg hn]
      by_cases hjn : j = 5
      · rw [if_pos hjn, if_pos hjn]; exact ⟨rfl, hI k hk⟩
      · rw [if_neg hjn, if_neg hjn]; exact c3 (j + 1) k (by omega) hk
  · rw [f1 514 (by omega) (by omega), f1 513 (by omega) (by omega)]; exact c4
  · rw [f2 6 (by omega)]; exact c5
  · rw [f1 515 (by omega) (by omega)]; exact c6
theorem bkR_n {R : Nat → Int} {w : Rw} {j : Nat} : ∀ k : Nat, bkR R (emZ w j) j k (76 + 5 * j) = (k : Int)
  | 0 => emZ_s w j
  | k + 1 => by
    show bookZ (bkR R (emZ w j) j k) j (R (5 * j + 1 + k)) (76 + 5 * j) = _
    rw [bookZ_s, bkR_n k]; omega
theorem FP_QM {μ μ' : Mem} (h : FP μ μ') : QM μ μ' := ⟨fun k a _ _ c => h.1 k a c, fun j hj => h.2 j (by omega)⟩
-- Mo.read: blocks [0, 4, 12, 16, 21, 25, 27, 40, 43, 70, 76, 82]
theorem k_Mo_read {d : Nat} {Q : QT} {μ : Mem} {z : Rw} {a : Hs} (hM : μ 511 = z) (hz : IZ z) (hI : IR z) (hC : CRm a μ) (h60 : hsP a ≤ 60) (hch : ∀ i, i < hsP a → 33 ≤ hsC a i ∧ hsC a i ≤ 126) (hf : c_read z a < 0 → ∀ μ', QM μ μ' → μ' 511 = z → Q (.inl (c_read z a)) μ')
    (hq : c_read z a = 0 → ∀ μ', PG (fun w => w = (tkF (hsC a) z (hsP a)).1) (hsWipe (hsPush a z)) μ μ' → Q (.inl (1 + nSl (hsC a) (hsP a))) μ') : Call σ1 (d + 4) 165 [.inr (.inr 510)] μ Q := by
  refine e_165 ?_
  have q := hz.1
  have c6 := hC.2.2.1
  have c5 := hC.2.2.2
  have nb := nSl_b (hsC a) (hsP a)
  have hb := hiF_b (hsC a) (hsP a)
  have fb : -6 ≤ fltF (hsC a) (hsP a) ∧ fltF (hsC a) (hsP a) ≤ 60 := by
    cases e : pst (hsC a) (hsP a) with
    | none =>
      unfold fltF
      rw [e]
      rcases fsI_in (fun i => (pst (hsC a) (i + 1)).isNone) (hsP a : Int) (hsP a) with h | ⟨i, h1, h2, -⟩
      · show -6 ≤ fsI (fun i => (pst (hsC a) (i + 1)).isNone) (hsP a : Int) (hsP a) ∧ fsI (fun i => (pst (hsC a) (i + 1)).isNone) (hsP a : Int) (hsP a) ≤ 60
        omega
      · show -6 ≤ fsI (fun i => (pst (hsC a) (i + 1)).isNone) (hsP a : Int) (hsP a) ∧ fsI (fun i => (pst (hsC a) (i + 1)).isNone) (hsP a : Int) (hsP a) ≤ 60
        omega
    | some s =>
      obtain ⟨r, c, o⟩ := s
      rw [fltF_e e]
      split <;> omega
  refine wp_go b165_0 ?_; simp only [l165_0, sg_aload_0, sg_iv1_i, len4_0, len4_1, len4_2, len4_3, len4_4, nLg_n, nLg_i, nLg_r, tc_c, tc_l, tc_r, tc_m, tc_n, tc_o, tc_0, inR, true_and, and_true, ne_eq, not_true_eq_false, not_false_eq_true, true_imp_iff, false_imp_iff, Int.toNat_natCast, lit_a, Nat.reduceAdd, or_true, true_or, or_false, false_or, Int.reduceEq, Int.reduceNe, Int.reduceLT, Int.reduceLE, Int.reduceNeg, sg_nil, s1p, x510, x511, x512, x513, x514, x515, x516, x517]
  refine k_Mo_readPad h60 c6 (fun i hi => ⟨(hch i hi).1, (hch i hi).2, c5 i hi⟩) (fun h6 μ1 f1 => ?_) (fun h6 μ1 r c o f1 H m12 => ?_)
  · have ec : c_read z a = -3 := by unfold c_read; rw [if_pos h6]
    rw [ec] at hf
    have hf := hf (by omega) μ1 (FP_QM f1) (by rw [f1.1 511 (by omega) (by omega)]; exact hM)
    refine wp_go b165_4 ?_; simp only [l165_4, sg_bipush, sg_ic_eq, sg_iret0, nLg_n, nLg_i, nLg_r, tc_c, tc_l, tc_r, tc_m, tc_n, tc_o, tc_0, inR, true_and, and_true, ne_eq, not_true_eq_false, not_false_eq_true, true_imp_iff, false_imp_iff, Int.toNat_natCast, lit_a, Nat.reduceAdd, or_true, true_or, or_false, false_or, Int.reduceEq, Int.reduceNe, Int.reduceLT, Int.reduceLE, Int.reduceNeg, sg_nil, s1p, x510, x511, x512, x513, x514, x515, x516, x517]
    repeat' (first | with_reducible apply And.intro | (intro _) | ((first | refine wp_go b165_0 ?_ | refine wp_go b165_4 ?_ | refine wp_go b165_12 ?_ | refine wp_go b165_16 ?_ | refine wp_go b165_21 ?_ | refine wp_go b165_25 ?_ | refine wp_go b165_40 ?_ | refine wp_go b165_70 ?_ | refine wp_go b165_76 ?_ | refine wp_go b165_82 ?_); simp only [l165_0, l165_4, l165_12, l165_16, l165_21, l165_25, l165_40, l165_70, l165_76, l165_82, sg_aload_0, sg_iv1_i, len4_0, len4_1, len4_2, len4_3, len4_4, sg_bipush, sg_ic_eq, sg_iret0, sg_if_ne, sg_iconst, sg_iv1_v, sg_istore_1, sg_pop_i, sg_pop_r, sg_istore_2, sg_iinc, ldI_2, okS_2, stL_2, sg_goto, ldI_1, okS_1, stL_1, sg_putf0, sg_getf0, nLg_n, nLg_i, nLg_r, tc_c, tc_l, tc_r, tc_m, tc_n, tc_o, tc_0, inR, true_and, and_true, ne_eq, not_true_eq_false, not_false_eq_true, true_imp_iff, false_imp_iff, Int.toNat_natCast, lit_a, Nat.reduceAdd, or_true, true_or, or_false, false_or, Int.reduceEq, Int.reduceNe, Int.reduceLT, Int.reduceLE, Int.reduceNeg, sg_nil, s1p, x510, x511, x512, x513, x514, x515, x516, x517]))
    all_goals (try omega)
    all_goals exact hf
  · have M1 : μ1 511 = z := by rw [f1.1 511 (by omega) (by omega)]; exact hM
    have C1 := CRm_q (FP_QM f1) hC
    obtain ⟨b1, b2, b3⟩ := pst_b H.1
    refine wp_go b165_4 ?_; simp only [l165_4, sg_bipush, sg_ic_eq, sg_iret0, nLg_n, nLg_i, nLg_r, tc_c, tc_l, tc_r, tc_m, tc_n, tc_o, tc_0, inR, true_and, and_true, ne_eq, not_true_eq_false, not_false_eq_true, true_imp_iff, false_imp_iff, Int.toNat_natCast, lit_a, Nat.reduceAdd, or_true, true_or, or_false, false_or, Int.reduceEq, Int.reduceNe, Int.reduceLT, Int.reduceLE, Int.reduceNeg, sg_nil, s1p, x510, x511, x512, x513, x514, x515, x516, x517]
    repeat' (first | with_reducible apply And.intro | intro _)
    all_goals (try omega)
    refine wp_go b165_12 ?_; simp only [l165_12, sg_aload_0, sg_iv1_i, len4_0, len4_1, len4_2, len4_3, len4_4, nLg_n, nLg_i, nLg_r, tc_c, tc_l, tc_r, tc_m, tc_n, tc_o, tc_0, inR, true_and, and_true, ne_eq, not_true_eq_false, not_false_eq_true, true_imp_iff, false_imp_iff, Int.toNat_natCast, lit_a, Nat.reduceAdd, or_true, true_or, or_false, false_or, Int.reduceEq, Int.reduceNe, Int.reduceLT, Int.reduceLE, Int.reduceNeg, sg_nil, s1p, x510, x511, x512, x513, x514, x515, x516, x517]
    refine k_Mo_areRows M1 hz H m12 (fun hg => ?_) (fun hg => ?_)
    · have ec : c_read z a = -1 := by unfold c_read; rw [if_neg (by omega), if_pos hg]
      rw [ec] at hf
      have hf := hf (by omega) μ1 (FP_QM f1) M1
      refine wp_go b165_16 ?_; simp only [l165_16, sg_if_ne, sg_iconst, sg_iret0, nLg_n, nLg_i, nLg_r, tc_c, tc_l, tc_r, tc_m, tc_n, tc_o, tc_0, inR, true_and, and_true, ne_eq, not_true_eq_false, not_false_eq_true, true_imp_iff, false_imp_iff, Int.toNat_natCast, lit_a, Nat.reduceAdd, or_true, true_or, or_false, false_or, Int.reduceEq, Int.reduceNe, Int.reduceLT, Int.reduceLE, Int.reduceNeg, sg_nil, s1p, x510, x511, x512, x513, x514, x515, x516, x517]
      repeat' (first | with_reducible apply And.intro | (intro _) | ((first | refine wp_go b165_0 ?_ | refine wp_go b165_4 ?_ | refine wp_go b165_12 ?_ | refine wp_go b165_16 ?_ | refine wp_go b165_21 ?_ | refine wp_go b165_25 ?_ | refine wp_go b165_40 ?_ | refine wp_go b165_70 ?_ | refine wp_go b165_76 ?_ | refine wp_go b165_82 ?_); simp only [l165_0, l165_4, l165_12, l165_16, l165_21, l165_25, l165_40, l165_70, l165_76, l165_82, sg_aload_0, sg_iv1_i, len4_0, len4_1, len4_2, len4_3, len4_4, sg_bipush, sg_ic_eq, sg_iret0, sg_if_ne, sg_iconst, sg_iv1_v, sg_istore_1, sg_pop_i, sg_pop_r, sg_istore_2, sg_iinc, ldI_2, okS_2, stL_2, sg_goto, ldI_1, okS_1, stL_1, sg_putf0, sg_getf0, nLg_n, nLg_i, nLg_r, tc_c, tc_l, tc_r, tc_m, tc_n, tc_o, tc_0, inR, true_and, and_true, ne_eq, not_true_eq_false, not_false_eq_true, true_imp_iff, false_imp_iff, Int.toNat_natCast, lit_a, Nat.reduceAdd, or_true, true_or, or_false, false_or, Int.reduceEq, Int.reduceNe, Int.reduceLT, Int.reduceLE, Int.reduceNeg, sg_nil, s1p, x510, x511, x512, x513, x514, x515, x516, x517]))
      all_goals (try omega)
      all_goals exact hf
    · have ec : c_read z a = 0 := by unfold c_read; rw [if_neg (by omega), if_neg hg]
      have hq := hq ec
      obtain ⟨p1, p2, p3, p4, p5, p6⟩ := H
      refine wp_go b165_16 ?_; simp only [l165_16, sg_if_ne, sg_iconst, sg_iret0, nLg_n, nLg_i, nLg_r, tc_c, tc_l, tc_r, tc_m, tc_n, tc_o, tc_0, inR, true_and, and_true, ne_eq, not_true_eq_false, not_false_eq_true, true_imp_iff, false_imp_iff, Int.toNat_natCast, lit_a, Nat.reduceAdd, or_true, true_or, or_false, false_or, Int.reduceEq, Int.reduceNe, Int.reduceLT, Int.reduceLE, Int.reduceNeg, sg_nil, s1p, x510, x511, x512, x513, x514, x515, x516, x517]
      repeat' (first | with_reducible apply And.intro | intro _)
      all_goals (try omega)
      refine wp_go b165_21 ?_; simp only [l165_21, sg_aload_0, sg_iv1_v, len4_0, len4_1, len4_2, len4_3, len4_4, nLg_n, nLg_i, nLg_r, tc_c, tc_l, tc_r, tc_m, tc_n, tc_o, tc_0, inR, true_and, and_true, ne_eq, not_true_eq_false, not_false_eq_true, true_imp_iff, false_imp_iff, Int.toNat_natCast, lit_a, Nat.reduceAdd, or_true, true_or, or_false, false_or, Int.reduceEq, Int.reduceNe, Int.reduceLT, Int.reduceLE, Int.reduceNeg, sg_nil, s1p, x510, x511, x512, x513, x514, x515, x516, x517]
      refine k_Mo_rec2 M1 hI C1 (fun μ2 f2 g2 C2 => ?_)
      have M2 : μ2 511 = z := by rw [f2 511 (by omega) (by omega)]; exact M1
      have w12 : μ2 510 12 = ((r + 1 : Nat) : Int) := (g2 12 (by omega)).trans m12
      have w17 : μ2 517 = μ1 517 := f2 517 (by omega) (by omega)
      have loop : ∀ k j : Nat, j + k = r + 1 → ∀ (μ3 : Mem) (o2 : Option MV), nLg o2 → (∀ k, k ≠ 511 → μ3 k = μ2 k) → μ3 511 = tk2 (μ1 517) z j → IR (μ3 511) → wp σ1 (Call σ1 (d + 3)) 165 Q 27 [some (.inr (.inr 510)), some (.inl (j : Int)), o2] [] μ3 := by
        intro k
        induction k with
        | zero =>
          intro j hj μ3 o2 l2 f3 M3 I3
          have hjr : j = r + 1 := by omega
          subst hjr
          have v12 : μ3 510 12 = ((r + 1 : Nat) : Int) := by rw [f3 510 (by omega)]; exact w12
          have v12' : ms μ3 510 6 0 510 12 = ((r + 1 : Nat) : Int) := by simp only [ms_at]; rw [if_neg (by omega)]; exact v12
          have e11 : ms μ3 510 6 0 511 = μ3 511 := by funext j; simp only [ms_at]; (repeat (first | rw [if_neg (by omega)] | rw [if_pos (by omega)]))
          have hq := hq (ms μ3 510 6 0) ⟨fun k hk => by rw [← f1.1 k (by omega) (by omega), ← f2 k (by omega) (by omega), ← f3 k (by omega)]; funext j; simp only [ms_at]; (repeat (first | rw [if_neg (by omega)] | rw [if_pos (by omega)])), by rw [e11, M3, (p3 z).1], by rw [e11]; exact I3, CRm_pad C2 (fun k h1 h2 h3 h4 => by rw [← f3 k h4]; funext j; simp only [ms_at]; (repeat (first | rw [if_neg (by omega)] | rw [if_pos (by omega)]))) (by rw [← f3 510 (by omega)]; simp only [ms_at]; (repeat (first | rw [if_neg (by omega)] | rw [if_pos (by omega)]))) rfl rfl rfl rfl ⟨by simp [ms_at]; rfl, fun i hi => absurd hi (Nat.not_lt_zero i)⟩⟩
          rw [show 1 + nSl (hsC a) (hsP a) = ((r + 1 : Nat) : Int) by omega] at hq
          refine wp_go b165_27 ?_; simp only [l165_27, sg_iload_1, sg_aload_0, sg_getf0, sg_ic_ge, sg_iv2_i, len4_0, len4_1, len4_2, len4_3, len4_4, nLg_n, nLg_i, nLg_r, tc_c, tc_l, tc_r, tc_m, tc_n, tc_o, tc_0, inR, true_and, and_true, ne_eq, not_true_eq_false, not_false_eq_true, true_imp_iff, false_imp_iff, Int.toNat_natCast, lit_a, Nat.reduceAdd, or_true, true_or, or_false, false_or, Int.reduceEq, Int.reduceNe, Int.reduceLT, Int.reduceLE, Int.reduceNeg, sg_nil, s1p, x510, x511, x512, x513, x514, x515, x516, x517, v12]
          repeat' (first | with_reducible apply And.intro | intro _)
          all_goals (try omega)
          refine wp_go b165_82 ?_; simp only [l165_82, sg_aload_0, sg_iconst, sg_putf0, sg_getf0, sg_iret0, nLg_n, nLg_i, nLg_r, tc_c, tc_l, tc_r, tc_m, tc_n, tc_o, tc_0, inR, true_and, and_true, ne_eq, not_true_eq_false, not_false_eq_true, true_imp_iff, false_imp_iff, Int.toNat_natCast, lit_a, Nat.reduceAdd, or_true, true_or, or_false, false_or, Int.reduceEq, Int.reduceNe, Int.reduceLT, Int.reduceLE, Int.reduceNeg, sg_nil, s1p, x510, x511, x512, x513, x514, x515, x516, x517, v12']
          exact hq
        | succ k ih =>
          intro j hj μ3 o2 l2 f3 M3 I3
          obtain ⟨s1, s2, s3⟩ := p4 j (by omega)
          obtain ⟨m, hm⟩ := nat_of s1
          have v12 : μ3 510 12 = ((r + 1 : Nat) : Int) := by rw [f3 510 (by omega)]; exact w12
          refine wp_go b165_27 ?_; simp only [l165_27, sg_iload_1, sg_aload_0, sg_getf0, sg_ic_ge, sg_iv2_i, len4_0, len4_1, len4_2, len4_3, len4_4, nLg_n, nLg_i, nLg_r, tc_c, tc_l, tc_r, tc_m, tc_n, tc_o, tc_0, inR, true_and, and_true, ne_eq, not_true_eq_false, not_false_eq_true, true_imp_iff, false_imp_iff, Int.toNat_natCast, lit_a, Nat.reduceAdd, or_true, true_or, or_false, false_or, Int.reduceEq, Int.reduceNe, Int.reduceLT, Int.reduceLE, Int.reduceNeg, sg_nil, s1p, x510, x511, x512, x513, x514, x515, x516, x517, v12]
          repeat' (first | with_reducible apply And.intro | intro _)
          all_goals (try omega)
          refine k_Mo_emptyIt rfl (by omega) (fun μ4 f4 M4 => ?_)
          have inner : ∀ c i : Nat, i + c = m → ∀ μ5 : Mem, (∀ k, k ≠ 511 → μ5 k = μ2 k) → μ5 511 = bkR (μ1 517) (emZ (tk2 (μ1 517) z j) j) j i → IR (μ5 511) → wp σ1 (Call σ1 (d + 3)) 165 Q 43 [some (.inr (.inr 510)), some (.inl (j : Int)), some (.inl ((i + 1 : Nat) : Int))] [] μ5 := by
            intro c
            induction c with
            | zero =>
              intro i hi μ5 f5 M5 I5
              have him : i = m := by omega
              subst him
              have u17 : μ5 517 (5 * j) = (i : Int) := by rw [f5 517 (by omega), w17]; exact hm
              have ih1 := ih (j + 1) (by omega) μ5 (some (.inl ((i + 1 : Nat) : Int))) trivial f5 (by
                rw [M5]
                show _ = bkR (μ1 517) (emZ (tk2 (μ1 517) z j) j) j (μ1 517 (5 * j)).toNat
                rw [hm, Int.toNat_natCast]) I5
              refine wp_go b165_43 ?_; simp only [l165_43, sg_iload_2, sg_aload_0, sg_getfp, sg_iconst, sg_iload_1, sg_imul, sg_iaload, sg_ic_gt, sg_iadd, sg_iv3_v, len4_0, len4_1, len4_2, len4_3, len4_4, nLg_n, nLg_i, nLg_r, tc_c, tc_l, tc_r, tc_m, tc_n, tc_o, tc_0, inR, true_and, and_true, ne_eq, not_true_eq_false, not_false_eq_true, true_imp_iff, false_imp_iff, Int.toNat_natCast, lit_a, Nat.reduceAdd, or_true, true_or, or_false, false_or, Int.reduceEq, Int.reduceNe, Int.reduceLT, Int.reduceLE, Int.reduceNeg, sg_nil, s1p, x510, x511, x512, x513, x514, x515, x516, x517, u17]
              repeat' (first | with_reducible apply And.intro | intro _)
              all_goals (try omega)
              refine wp_go b165_76 ?_; simp only [l165_76, sg_iinc, ldI_1, okS_1, stL_1, sg_goto, nLg_n, nLg_i, nLg_r, tc_c, tc_l, tc_r, tc_m, tc_n, tc_o, tc_0, inR, true_and, and_true, ne_eq, not_true_eq_false, not_false_eq_true, true_imp_iff, false_imp_iff, Int.toNat_natCast, lit_a, Nat.reduceAdd, or_true, true_or, or_false, false_or, Int.reduceEq, Int.reduceNe, Int.reduceLT, Int.reduceLE, Int.reduceNeg, sg_nil, s1p, x510, x511, x512, x513, x514, x515, x516, x517]
              repeat' (first | with_reducible apply And.intro | intro _)
              all_goals (try omega)
            | succ c ihc =>
              intro i hi μ5 f5 M5 I5
              obtain ⟨t1, t2⟩ := s3 i (by omega)
              have e1 : 5 * j + (i + 1) = 5 * j + 1 + i := by omega
              have u17 : μ5 517 (5 * j) = (m : Int) := by rw [f5 517 (by omega), w17]; exact hm
              have u18 : μ5 517 (5 * j + 1 + i) = μ1 517 (5 * j + 1 + i) := by rw [f5 517 (by omega), w17]
              have sz : μ5 511 (76 + 5 * j) = (i : Int) := by rw [M5]; exact bkR_n i
              refine wp_go b165_43 ?_; simp only [l165_43, sg_iload_2, sg_aload_0, sg_getfp, sg_iconst, sg_iload_1, sg_imul, sg_iaload, sg_ic_gt, sg_iadd, sg_iv3_v, len4_0, len4_1, len4_2, len4_3, len4_4, nLg_n, nLg_i, nLg_r, tc_c, tc_l, tc_r, tc_m, tc_n, tc_o, tc_0, inR, true_and, and_true, ne_eq, not_true_eq_false, not_false_eq_true, true_imp_iff, false_imp_iff, Int.toNat_natCast, lit_a, Nat.reduceAdd, or_true, true_or, or_false, false_or, Int.reduceEq, Int.reduceNe, Int.reduceLT, Int.reduceLE, Int.reduceNeg, sg_nil, s1p, x510, x511, x512, x513, x514, x515, x516, x517, u17, e1, u18]
              repeat' (first | with_reducible apply And.intro | intro _)
              all_goals (try omega)
              refine k_Mo_bookIt (z := μ5 511) rfl (by omega) (by omega) (fun μ6 f6 M6 => ?_)
              have ih1 := ihc (i + 1) (by omega) μ6 (fun k hk => (f6 k hk).trans (f5 k hk)) (by rw [M6, M5]; rfl) (by rw [M6]; exact IR_book I5 (by omega) (by unfold inR; omega))
              refine wp_go b165_70 ?_; simp only [l165_70, sg_iinc, ldI_2, okS_2, stL_2, sg_goto, nLg_n, nLg_i, nLg_r, tc_c, tc_l, tc_r, tc_m, tc_n, tc_o, tc_0, inR, true_and, and_true, ne_eq, not_true_eq_false, not_false_eq_true, true_imp_iff, false_imp_iff, Int.toNat_natCast, lit_a, Nat.reduceAdd, or_true, true_or, or_false, false_or, Int.reduceEq, Int.reduceNe, Int.reduceLT, Int.reduceLE, Int.reduceNeg, sg_nil, s1p, x510, x511, x512, x513, x514, x515, x516, x517]
              repeat' (first | with_reducible apply And.intro | intro _)
              all_goals (try omega)
          have st := inner m 0 (by omega) μ4 (fun k hk => (f4 k hk).trans (f3 k hk)) (by rw [M4, M3]; rfl) (by rw [M4]; exact IR_em I3)
          refine wp_go b165_40 ?_; simp only [l165_40, sg_pop_i, sg_pop_r, sg_iconst, sg_istore_2, nLg_n, nLg_i, nLg_r, tc_c, tc_l, tc_r, tc_m, tc_n, tc_o, tc_0, inR, true_and, and_true, ne_eq, not_true_eq_false, not_false_eq_true, true_imp_iff, false_imp_iff, Int.toNat_natCast, lit_a, Nat.reduceAdd, or_true, true_or, or_false, false_or, Int.reduceEq, Int.reduceNe, Int.reduceLT, Int.reduceLE, Int.reduceNeg, sg_nil, s1p, x510, x511, x512, x513, x514, x515, x516, x517, l2]
          repeat' (first | with_reducible apply And.intro | intro _)
          all_goals (try omega)
          all_goals exact st
      refine wp_go b165_25 ?_; simp only [l165_25, sg_iconst, sg_istore_1, nLg_n, nLg_i, nLg_r, tc_c, tc_l, tc_r, tc_m, tc_n, tc_o, tc_0, inR, true_and, and_true, ne_eq, not_true_eq_false, not_false_eq_true, true_imp_iff, false_imp_iff, Int.toNat_natCast, lit_a, Nat.reduceAdd, or_true, true_or, or_false, false_or, Int.reduceEq, Int.reduceNe, Int.reduceLT, Int.reduceLE, Int.reduceNeg, sg_nil, s1p, x510, x511, x512, x513, x514, x515, x516, x517]
      exact loop (r + 1) 0 (by omega) μ2 none trivial (fun _ _ => rfl) M2 (by rw [M2]; exact hI)
