abbrev Hs : Type := Nat × (Nat → Rw) × (Nat → Int) × (Nat → Rw) × Nat × (Nat → Int)
def hsN (a : Hs) : Nat := a.1
def hsH (a : Hs) : Nat → Rw := a.2.1
def hsV (a : Hs) : Nat → Int := a.2.2.1
def hsL (a : Hs) : Nat → Rw := a.2.2.2.1
def hsP (a : Hs) : Nat := a.2.2.2.2.1
def hsC (a : Hs) : Nat → Int := a.2.2.2.2.2
def HisR (n : Nat) (H : Nat → Rw) (μ : Mem) : Prop := n ≤ 6 ∧ μ 56 2 = (n : Int) ∧ ∃ nx : Nat, nx < 6 ∧ μ 56 1 = (nx : Int) ∧ ∀ j : Nat, j < n → IZ (H j) ∧ RC (H j) μ (58 + 55 * ((nx + 6 - n + j) % 6))
def CRr (a : Hs) (μ : Mem) : Prop := HisR (hsN a) (hsH a) μ ∧
  (∀ s : Nat, s < 2 → ((hsV a) s = 0 ∨ (hsV a) s = 1) ∧ μ 389 s = (hsV a) s ∧ ((hsV a) s = 1 → IZ ((hsL a) s) ∧ RC ((hsL a) s) μ (400 + 55 * s))) ∧
  ((hsP a) ≤ 60 ∧ μ 390 1 = ((hsP a) : Int) ∧ ∀ i : Nat, i < (hsP a) → 33 ≤ (hsC a) i ∧ (hsC a) i ≤ 126 ∧ μ 391 i = (hsC a) i)
theorem HisR_f {n : Nat} {H : Nat → Rw} {μ μ' : Mem} (hf : ∀ k, 56 ≤ k → k < 388 → μ' k = μ k) (h : HisR n H μ) : HisR n H μ' := by
  obtain ⟨h1, h2, nx, h3, h4, h5⟩ := h
  refine ⟨h1, by rw [hf 56 (by omega) (by omega)]; exact h2, nx, h3, by rw [hf 56 (by omega) (by omega)]; exact h4, fun j hj => ⟨(h5 j hj).1, ?_⟩⟩
  exact RC_f (by have := (h5 j hj).1.1; omega) (fun k _ _ => hf k (by omega) (by omega)) (h5 j hj).2
theorem CRr_f {a : Hs} {μ μ' : Mem} (hf : ∀ k, (56 ≤ k ∧ k < 392) ∨ (400 ≤ k ∧ k < 510) → μ' k = μ k) (h : CRr a μ) : CRr a μ' := by
  obtain ⟨h1, h2, h3, h4, h5⟩ := h
  refine ⟨HisR_f (fun k _ _ => hf k (by omega)) h1, fun s hs => ?_, h3, by rw [hf 390 (by omega)]; exact h4, fun i hi => by rw [hf 391 (by omega)]; exact h5 i hi⟩
  obtain ⟨g1, g2, g3⟩ := h2 s hs
  refine ⟨g1, by rw [hf 389 (by omega)]; exact g2, fun h => ⟨(g3 h).1, ?_⟩⟩
  exact RC_f (by have := (g3 h).1.1; omega) (fun k _ _ => hf k (by omega)) (g3 h).2
theorem CRr_q {a : Hs} {z : Rw} {μ μ' : Mem} (hq : QF z μ μ') (h : CRr a μ) : CRr a μ' := CRr_f (fun k hk => hq.1 k (by omega) (by omega) (by omega)) h
def hpush (n : Nat) (H : Nat → Rw) (z : Rw) : Nat → Rw := fun j => if n < 6 then (if j = n then z else H j) else (if j = 5 then z else H (j + 1))
def hpn (n : Nat) : Nat := if n < 6 then n + 1 else 6
def hsPush (a : Hs) (z : Rw) : Hs := (hpn (hsN a), hpush (hsN a) (hsH a) z, hsV a, hsL a, hsP a, hsC a)
def hsPop (a : Hs) : Hs := (hsN a - 1, hsH a, hsV a, hsL a, hsP a, hsC a)
theorem HisR_push {n : Nat} {H : Nat → Rw} {z : Rw} {μ μ' : Mem} {nx : Nat} (hz : IZ z) (h1 : n ≤ 6) (h3 : nx < 6) (h5 : ∀ j : Nat, j < n → IZ (H j) ∧ RC (H j) μ (58 + 55 * ((nx + 6 - n + j) % 6)))
    (hf : ∀ k, 58 ≤ k → k < 388 → (k < 58 + 55 * nx ∨ 58 + 55 * nx + 55 ≤ k) → μ' k = μ k) (g2 : μ' 56 2 = if (n : Int) < 6 then (n : Int) + 1 else 6) (g1 : μ' 56 1 = if nx = 5 then 0 else (nx : Int) + 1) (gR : RC z μ' (58 + 55 * nx)) : HisR (hpn n) (hpush n H z) μ' := by
  have cp : ∀ (w : Rw) (k : Nat), k < 6 → k ≠ nx → IZ w → RC w μ (58 + 55 * k) → RC w μ' (58 + 55 * k) := fun w k hk hk2 hw hR => RC_f (by have := hw.1; omega) (fun x _ _ => hf x (by omega) (by omega) (by omega)) hR
  refine ⟨by unfold hpn; split <;> omega, by rw [g2]; unfold hpn; split <;> split <;> omega, (nx + 1) % 6, by omega, by rw [g1]; split <;> omega, fun j hj => ?_⟩
  unfold hpn at hj ⊢
  unfold hpush
  by_cases hn : n < 6
  · rw [if_pos hn] at hj ⊢
    rw [if_pos hn]
    by_cases hjn : j = n
    · rw [if_pos hjn, show ((nx + 1) % 6 + 6 - (n + 1) + j) % 6 = nx by omega]
      exact ⟨hz, gR⟩
    · rw [if_neg hjn, show ((nx + 1) % 6 + 6 - (n + 1) + j) % 6 = (nx + 6 - n + j) % 6 by omega]
      have := h5 j (by omega)
      exact ⟨this.1, cp _ _ (by omega) (by omega) this.1 this.2⟩
  · rw [if_neg hn] at hj ⊢
    rw [if_neg hn]
    by_cases hjn : j = 5
    · rw [if_pos hjn, show ((nx + 1) % 6 + 6 - 6 + j) % 6 = nx by omega]
      exact ⟨hz, gR⟩
    · rw [if_neg hjn, show ((nx + 1) % 6 + 6 - 6 + j) % 6 = (nx + 6 - n + (j + 1)) % 6 by omega]
      have := h5 (j + 1) (by omega)
      exact ⟨this.1, cp _ _ (by omega) (by omega) this.1 this.2⟩
-- His.keep: blocks [0, 13, 26, 32]
theorem k_His_keep {d : Nat} {Q : QT} {μ : Mem} {z : Rw} {a : Hs} (hz : IZ z) (hR : RC z μ 1) (hC : CRr a μ)
    (hq : ∀ μ' : Mem, (∀ k, k < 56 ∨ 388 ≤ k → μ' k = μ k) → CRr (hsPush a z) μ' → Q (.inl 0) μ') : Call σ1 (d + 4) 14 [.inr (.inr 56), .inr (.inr 1)] μ Q := by
  refine e_14 ?_
  obtain ⟨⟨h1, h2, nx, h3, h4, h5⟩, hs, hp⟩ := hC
  refine wp_go b14_0 ?_; simp only [l14_0, sg_aload_0, sg_getfp, sg_getf0, sg_aaload, sg_aload_1, sg_iv2_v, len4_0, len4_1, len4_2, len4_3, len4_4, nLg_n, nLg_i, nLg_r, tc_c, tc_l, tc_r, tc_m, tc_n, tc_o, tc_0, inR, true_and, and_true, ne_eq, not_true_eq_false, not_false_eq_true, true_imp_iff, false_imp_iff, Int.toNat_natCast, lit_a, Nat.reduceAdd, or_true, true_or, or_false, false_or, Int.reduceEq, Int.reduceNe, Int.reduceLT, Int.reduceLE, Int.reduceNeg, sg_nil, s1p, x0, x1, x2, x3, x4, x5, x6, x7, x8, x9, x10, x11, x12, x13, x56, x57, x388, x389, x390, x391, x392, x393, x394, x395, x396, x397, x398, x399, h4, (stH nx h3).1]
  repeat' (first | with_reducible apply And.intro | (intro _) | ((first | refine wp_go b14_0 ?_ | refine wp_go b14_13 ?_ | refine wp_go b14_26 ?_ | refine wp_go b14_32 ?_); simp only [l14_0, l14_13, l14_26, l14_32, sg_aload_0, sg_getfp, sg_getf0, sg_aaload, sg_aload_1, sg_iv2_v, len4_0, len4_1, len4_2, len4_3, len4_4, sg_iconst, sg_ic_ne, sg_goto, sg_iadd, sg_putf0, sg_bipush, sg_min, sg_ret, nLg_n, nLg_i, nLg_r, tc_c, tc_l, tc_r, tc_m, tc_n, tc_o, tc_0, inR, true_and, and_true, ne_eq, not_true_eq_false, not_false_eq_true, true_imp_iff, false_imp_iff, Int.toNat_natCast, lit_a, Nat.reduceAdd, or_true, true_or, or_false, false_or, Int.reduceEq, Int.reduceNe, Int.reduceLT, Int.reduceLE, Int.reduceNeg, sg_nil]))
  all_goals (try omega)
  refine k_Sta_copyFrom (stH nx h3) st1 (by omega) hz hR (fun μ1 f1 R1 => ?_)
  have e1 : μ1 56 1 = (nx : Int) := by rw [f1 56 (by omega)]; exact h4
  have e2 : μ1 56 2 = ((hsN a) : Int) := by rw [f1 56 (by omega)]; exact h2
  have fin : ∀ μ2 : Mem, (∀ k, k ≠ 56 → μ2 k = μ1 k) → μ2 56 2 = (if ((hsN a) : Int) < 6 then ((hsN a) : Int) + 1 else 6) → μ2 56 1 = (if nx = 5 then 0 else (nx : Int) + 1) → Q (.inl 0) μ2 := fun μ2 f2 g2 g1 => by
    have f3 : ∀ k, k < 56 ∨ 388 ≤ k → μ2 k = μ k := fun k hk => (f2 k (by omega)).trans (f1 k (by omega))
    refine hq μ2 f3 ⟨HisR_push hz h1 h3 h5 (fun k _ _ _ => (f2 k (by omega)).trans (f1 k (by omega))) g2 g1 (RC_f (by have := hz.1; omega) (fun k _ _ => f2 k (by omega)) R1), fun s hs' => ?_, ?_⟩
    · obtain ⟨g1, g2, g3⟩ := hs s hs'
      refine ⟨g1, by rw [f3 389 (by omega)]; exact g2, fun h => ⟨(g3 h).1, ?_⟩⟩
      exact RC_f (by have := (g3 h).1.1; show (hsL a) s 3 ≤ 6; omega) (fun k _ _ => f3 k (by omega)) (g3 h).2
    · show (hsP a) ≤ 60 ∧ _
      rw [f3 390 (by omega), f3 391 (by omega)]
      exact hp
  refine wp_go b14_13 ?_; simp only [l14_13, sg_aload_0, sg_getf0, sg_iconst, sg_ic_ne, sg_goto, nLg_n, nLg_i, nLg_r, tc_c, tc_l, tc_r, tc_m, tc_n, tc_o, tc_0, inR, true_and, and_true, ne_eq, not_true_eq_false, not_false_eq_true, true_imp_iff, false_imp_iff, Int.toNat_natCast, lit_a, Nat.reduceAdd, or_true, true_or, or_false, false_or, Int.reduceEq, Int.reduceNe, Int.reduceLT, Int.reduceLE, Int.reduceNeg, sg_nil, s1p, x0, x1, x2, x3, x4, x5, x6, x7, x8, x9, x10, x11, x12, x13, x56, x57, x388, x389, x390, x391, x392, x393, x394, x395, x396, x397, x398, x399, e1]
  repeat' (first | with_reducible apply And.intro | (intro _) | ((first | refine wp_go b14_0 ?_ | refine wp_go b14_13 ?_ | refine wp_go b14_26 ?_ | refine wp_go b14_32 ?_); simp only [l14_0, l14_13, l14_26, l14_32, sg_aload_0, sg_getfp, sg_getf0, sg_aaload, sg_aload_1, sg_iv2_v, len4_0, len4_1, len4_2, len4_3, len4_4, sg_iconst, sg_ic_ne, sg_goto, sg_iadd, sg_putf0, sg_bipush, sg_min, sg_ret, nLg_n, nLg_i, nLg_r, tc_c, tc_l, tc_r, tc_m, tc_n, tc_o, tc_0, inR, true_and, and_true, ne_eq, not_true_eq_false, not_false_eq_true, true_imp_iff, false_imp_iff, Int.toNat_natCast, lit_a, Nat.reduceAdd, or_true, true_or, or_false, false_or, Int.reduceEq, Int.reduceNe, Int.reduceLT, Int.reduceLE, Int.reduceNeg, sg_nil, s1p, x0, x1, x2, x3, x4, x5, x6, x7, x8, x9, x10, x11, x12, x13, x56, x57, x388, x389, x390, x391, x392, x393, x394, x395, x396, x397, x398, x399, e2, ms_at]))
  all_goals (try omega)
  all_goals
    refine fin _ (fun k hk => ?_) ?_ ?_
    · funext j; simp only [ms_at]; (repeat (first | rw [if_neg (by omega)] | rw [if_pos (by omega)]))
    · simp only [ms_at, true_and, and_true, if_true, Nat.reduceEqDiff, if_false, e1, e2]; (repeat' split) <;> omega
    · simp only [ms_at, true_and, and_true, if_true, Nat.reduceEqDiff, if_false, e1, e2]; (repeat' split) <;> omega
