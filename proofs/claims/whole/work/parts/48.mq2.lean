theorem hw_eq {z : Rw} (hz : IZ z) (l : Nat) : hrL z l 0 = ((zn z : Nat) : Int) := (zn_eq hz).1
theorem hrL_W {z : Rw} (hz : IZ z) (l : Nat) : WH (hrL z l) := hr_W (g := z (212 + 3 * l)) (b := z (213 + 3 * l)) hz
/-- the seconds of notices that a run has gathered -/
theorem rn_cl (z : Rw) (g b : Int) : ∀ n : Nat, (rn z g b n).2 = sm (fun s => cl z (ch z g b s)) n
  | 0 => rfl
  | n + 1 => by
    rw [sm_s, ← rn_cl z g b n, rn_s]
    unfold nxt cl
    split
    · exact (Int.add_zero _).symm
    · rfl
theorem hr_not {z : Rw} {g b : Int} {n : Nat} (h : (n : Int) ≤ z 0) : sm (fun i => hr z g b (5 * i + 2)) n = (rn z g b n).2 := by
  rw [rn_cl]
  exact sm_c (fun i hi => hr_2 (by omega))
theorem hr_len {z : Rw} {g b : Int} {n : Nat} (h : (n : Int) ≤ z 0) : sm (fun i => hr z g b (5 * i + 4)) n = sm (zl z) n := sm_c (fun i hi => hr_4 (by omega))
/-- the length of what is heard now: notices and sentences -/
theorem ht_hrL {z : Rw} {l n : Nat} (h : (n : Int) ≤ z 0) : ht (hrL z l) n = secs z n l + sm (zl z) n := by
  rw [ht_bt]
  unfold bt hrL secs
  rw [hr_not h, hr_len h]
  omega
-- Mo.allSeconds: blocks [0, 4, 19, 25, 33]
theorem k_Mo_allSeconds {d : Nat} {Q : QT} {μ : Mem} {z : Rw} (hM : μ 511 = z) (hz : IZ z)
    (hq : ∀ μ', (∀ k, k ≠ 516 → μ' k = μ k) → Q (.inl (sm (secs z (zn z)) (znl z) + sm (fun _ => sm (zl z) (zn z)) (znl z))) μ') : Call σ1 (d + 4) 155 [.inr (.inr 510)] μ Q := by
  refine e_155 ?_
  have e0 := zn_eq hz
  have e3 := znl_eq hz
  have z3 := e3.1
  have loop : ∀ k i : Nat, i + k = znl z → ∀ (v : Int), v = sm (secs z (zn z)) i + sm (fun _ => sm (zl z) (zn z)) i → ∀ μ1 : Mem, (∀ k, k ≠ 516 → μ1 k = μ k) → wp σ1 (Call σ1 (d + 3)) 155 Q 4 [some (.inr (.inr 510)), some (.inl v), some (.inl (i : Int))] [] μ1 := by
    intro k
    induction k with
    | zero =>
      intro i hi v hv μ1 f1
      have hin : i = znl z := by omega
      have M1 : μ1 511 = z := by rw [f1 511 (by omega)]; exact hM
      have hq := hq μ1 f1
      rw [← hin, ← hv] at hq
      refine wp_go b155_4 ?_; simp only [l155_4, sg_iload_2, sg_aload_0, sg_getfp, sg_iconst, sg_iaload, sg_ic_ge, sg_iv2_v, len4_0, len4_1, len4_2, len4_3, len4_4, nLg_n, nLg_i, nLg_r, tc_c, tc_l, tc_r, tc_m, tc_n, tc_o, tc_0, inR, true_and, and_true, ne_eq, not_true_eq_false, not_false_eq_true, true_imp_iff, false_imp_iff, Int.toNat_natCast, lit_a, Nat.reduceAdd, or_true, true_or, or_false, false_or, Int.reduceEq, Int.reduceNe, Int.reduceLT, Int.reduceLE, Int.reduceNeg, sg_nil, s1p, x510, x511, x512, x513, x514, x515, x516, x517, M1, z3, Int.reduceToNat]
      repeat' (first | with_reducible apply And.intro | intro _)
      all_goals (try omega)
      refine wp_go b155_33 ?_; simp only [l155_33, sg_iload_1, sg_iret0, nLg_n, nLg_i, nLg_r, tc_c, tc_l, tc_r, tc_m, tc_n, tc_o, tc_0, inR, true_and, and_true, ne_eq, not_true_eq_false, not_false_eq_true, true_imp_iff, false_imp_iff, Int.toNat_natCast, lit_a, Nat.reduceAdd, or_true, true_or, or_false, false_or, Int.reduceEq, Int.reduceNe, Int.reduceLT, Int.reduceLE, Int.reduceNeg, sg_nil, s1p, x510, x511, x512, x513, x514, x515, x516, x517]
      exact hq
    | succ k ih =>
      intro i hi v hv μ1 f1
      have M1 : μ1 511 = z := by rw [f1 511 (by omega)]; exact hM
      refine wp_go b155_4 ?_; simp only [l155_4, sg_iload_2, sg_aload_0, sg_getfp, sg_iconst, sg_iaload, sg_ic_ge, sg_iv2_v, len4_0, len4_1, len4_2, len4_3, len4_4, nLg_n, nLg_i, nLg_r, tc_c, tc_l, tc_r, tc_m, tc_n, tc_o, tc_0, inR, true_and, and_true, ne_eq, not_true_eq_false, not_false_eq_true, true_imp_iff, false_imp_iff, Int.toNat_natCast, lit_a, Nat.reduceAdd, or_true, true_or, or_false, false_or, Int.reduceEq, Int.reduceNe, Int.reduceLT, Int.reduceLE, Int.reduceNeg, sg_nil, s1p, x510, x511, x512, x513, x514, x515, x516, x517, M1, z3, Int.reduceToNat]
      repeat' (first | with_reducible apply And.intro | intro _)
      all_goals (try omega)
      refine k_Mo_layNow M1 hz (by omega) (fun μ2 f2 H2 => ?_)
      refine wp_go b155_19 ?_; simp only [l155_19, sg_iload_1, sg_aload_0, sg_iconst, sg_iv2_i, len4_0, len4_1, len4_2, len4_3, len4_4, nLg_n, nLg_i, nLg_r, tc_c, tc_l, tc_r, tc_m, tc_n, tc_o, tc_0, inR, true_and, and_true, ne_eq, not_true_eq_false, not_false_eq_true, true_imp_iff, false_imp_iff, Int.toNat_natCast, lit_a, Nat.reduceAdd, or_true, true_or, or_false, false_or, Int.reduceEq, Int.reduceNe, Int.reduceLT, Int.reduceLE, Int.reduceNeg, sg_nil, s1p, x510, x511, x512, x513, x514, x515, x516, x517]
      refine k_Mo_seconds (hrL_W hz i) H2 (hw_eq hz i) (Or.inr rfl) ?_
      rw [if_pos rfl, ht_hrL (by omega)]
      have ih1 := ih (i + 1) (by omega) (v + (secs z (zn z) i + sm (zl z) (zn z))) (by rw [hv, sm_s, sm_s]; omega) μ2 (fun k hk => (f2 k hk).trans (f1 k hk))
      refine wp_go b155_25 ?_; simp only [l155_25, sg_iadd, sg_istore_1, sg_iinc, ldI_2, okS_2, stL_2, sg_goto, nLg_n, nLg_i, nLg_r, tc_c, tc_l, tc_r, tc_m, tc_n, tc_o, tc_0, inR, true_and, and_true, ne_eq, not_true_eq_false, not_false_eq_true, true_imp_iff, false_imp_iff, Int.toNat_natCast, lit_a, Nat.reduceAdd, or_true, true_or, or_false, false_or, Int.reduceEq, Int.reduceNe, Int.reduceLT, Int.reduceLE, Int.reduceNeg, sg_nil, s1p, x510, x511, x512, x513, x514, x515, x516, x517]
      repeat' (first | with_reducible apply And.intro | intro _)
      all_goals (try omega)
  refine wp_go b155_0 ?_; simp only [l155_0, sg_iconst, sg_istore_1, sg_istore_2, nLg_n, nLg_i, nLg_r, tc_c, tc_l, tc_r, tc_m, tc_n, tc_o, tc_0, inR, true_and, and_true, ne_eq, not_true_eq_false, not_false_eq_true, true_imp_iff, false_imp_iff, Int.toNat_natCast, lit_a, Nat.reduceAdd, or_true, true_or, or_false, false_or, Int.reduceEq, Int.reduceNe, Int.reduceLT, Int.reduceLE, Int.reduceNeg, sg_nil, s1p, x510, x511, x512, x513, x514, x515, x516, x517]
  exact loop (znl z) 0 (by omega) 0 rfl μ (fun _ _ => rfl)
theorem exI_e {p q : Nat → Bool} : ∀ {n : Nat}, (∀ i, i < n → p i = q i) → exI p n = exI q n
  | 0, _ => rfl
  | n + 1, h => by rw [exI_s, exI_s, h n (by omega), exI_e (fun i hi => h i (by omega))]
-- bits of an int (begun from the kit's rows to paste)
def bq (x : Int32) (i : Nat) : Bool := x.toBitVec.getLsbD i
theorem bq_ext {x y : Int32} (h : ∀ i, i < 32 → bq x i = bq y i) : x = y := Int32.toBitVec_inj.mp (BitVec.eq_of_getLsbD_eq (fun i hi => h i hi))
theorem bq_or (x y : Int32) (i : Nat) : bq (x ||| y) i = (bq x i || bq y i) := by unfold bq; rw [Int32.toBitVec_or, BitVec.getLsbD_or]
theorem bq_and (x y : Int32) (i : Nat) : bq (x &&& y) i = (bq x i && bq y i) := by unfold bq; rw [Int32.toBitVec_and, BitVec.getLsbD_and]
theorem bq_0 (i : Nat) : bq 0 i = false := BitVec.getLsbD_zero
theorem bq_1 : ∀ i, i < 32 → bq 1 i = decide (i = 0) := by decide +kernel
theorem bq_sl : ∀ n, n < 32 → ((nI n &&& 31).toBitVec.smod 32).toNat = n := by decide +kernel
theorem bq_shl (n : Nat) (hn : n < 32) (x : Int32) {i : Nat} (hi : i < 32) : bq (x <<< (nI n &&& 31)) i = (decide (n ≤ i) && bq x (i - n)) := by
  unfold bq
  rw [Int32.toBitVec_shiftLeft]
  show (x.toBitVec <<< ((nI n &&& 31).toBitVec.smod 32).toNat).getLsbD i = _
  rw [bq_sl n hn, BitVec.getLsbD_shiftLeft]
  rcases Nat.lt_or_ge i n with h | h
  · simp [h, Nat.not_le.mpr h]
  · simp [hi, h, Nat.not_lt.mpr h]
theorem bq_shr (n : Nat) (hn : n < 32) (x : Int32) {i : Nat} (hi : i < 32) : bq (x >>> (nI n &&& 31)) i = if n + i < 32 then bq x (n + i) else bq x 31 := by
  unfold bq
  rw [Int32.toBitVec_shiftRight]
  show (x.toBitVec.sshiftRight ((nI n &&& 31).toBitVec.smod 32).toNat).getLsbD i = _
  rw [bq_sl n hn, BitVec.getLsbD_sshiftRight, BitVec.msb_eq_getLsbD_last]
  simp [hi]
theorem oI_n (n : Nat) : Int32.ofInt (n : Int) = nI n := Int32.toBitVec_inj.mp (BitVec.ofInt_natCast 32 n)
theorem bit_bq (x : Int) (m : Nat) (hm : m < 32) : bit x m = if bq (Int32.ofInt x) m = true then 1 else 0 := by
  unfold bit iAnd iShr
  rw [Int32.ofInt_toInt, oI_n, show Int32.ofInt 1 = 1 from rfl]
  have e : ((Int32.ofInt x >>> (nI m &&& 31)) &&& 1) = if bq (Int32.ofInt x) m = true then 1 else 0 := bq_ext (fun i hi => by
    rw [bq_and, bq_1 i hi]
    by_cases h : i = 0
    · subst h
      rw [bq_shr m hm _ hi, if_pos (by omega), Nat.add_zero]
      cases bq (Int32.ofInt x) m
      · rfl
      · rfl
    · rw [decide_eq_false h, Bool.and_false]
      split
      · rw [bq_1 i hi, decide_eq_false h]
      · rw [bq_0])
  rw [e]
  split <;> rfl
theorem bit_or_bq (x : Int) (n m : Nat) (hn : n < 32) (hm : m < 32) : bq (Int32.ofInt (iOr x (iShl 1 n))) m = (bq (Int32.ofInt x) m || decide (m = n)) := by
  unfold iOr iShl
  rw [Int32.ofInt_toInt, Int32.ofInt_toInt, oI_n, show Int32.ofInt 1 = 1 from rfl, bq_or, bq_shl n hn _ hm]
  congr 1
  rcases Nat.lt_trichotomy m n with h | h | h
  · rw [decide_eq_false (by omega), decide_eq_false (show ¬ m = n by omega), Bool.false_and]
  · subst h
    rw [decide_eq_true (Nat.le_refl m), bq_1 _ (by omega), Nat.sub_self]; simp
  · rw [bq_1 _ (by omega), decide_eq_false (show ¬ m - n = 0 by omega), decide_eq_false (show ¬ m = n by omega), Bool.and_false]
theorem bit_or_self (x : Int) (n : Nat) (h : n < 8) : bit (iOr x (iShl 1 n)) n = 1 := by
  rw [bit_bq _ _ (by omega), bit_or_bq _ _ _ (by omega) (by omega), decide_eq_true rfl, Bool.or_true, if_pos rfl]
theorem bit_or_ne (x : Int) (n m : Nat) (h : n < 8) (h2 : m < 8) (hne : m ≠ n) : bit (iOr x (iShl 1 n)) m = bit x m := by
  rw [bit_bq _ _ (by omega), bit_bq _ _ (by omega), bit_or_bq _ _ _ (by omega) (by omega), decide_eq_false hne, Bool.or_false]
/-- a listener hears a notice: the bit of the set says it -/
theorem rn_bit {z : Rw} {g b : Int} {m : Nat} (hz : IZ z) (hm : m < 8) : ∀ n : Nat, (n : Int) ≤ z 0 → bit (rn z g b n).1 m = exI (fun s => decide (ch z g b s = (m : Int))) n
  | 0, _ => by
    show bit 0 m = 0
    unfold bit iShr iAnd
    simp
  | n + 1, h => by
    have ih := rn_bit (g := g) (b := b) hz hm n (by omega)
    rw [exI_s, ← ih, rn_s]
    unfold nxt
    rcases ch_in (g := g) (b := b) hz (show (n : Int) < z 0 by omega) with h6 | ⟨h1, h2⟩
    · rw [if_pos h6, if_neg (fun h => by have := of_decide_eq_true h; omega)]
    · have q := hz.1
      obtain ⟨c, hc⟩ := nat_of h1
      rw [if_neg (by omega), hc]
      show bit (iOr _ (iShl 1 (c : Int))) m = _
      by_cases e : c = m
      · subst e
        rw [if_pos (decide_eq_true rfl), bit_or_self _ _ hm]
      · rw [if_neg (fun h => e (by have := of_decide_eq_true h; omega)), bit_or_ne _ _ _ (by omega) hm (fun q => e q.symm)]
-- Mo.hearers: blocks [0, 4, 19, 25, 32, 33, 41]
theorem k_Mo_hearers {d m : Nat} {Q : QT} {μ : Mem} {z : Rw} (hM : μ 511 = z) (hz : IZ z) (hm : m < 8)
    (hq : ∀ μ', (∀ k, k ≠ 516 → μ' k = μ k) → Q (.inl (sm (hrs z (zn z) m) (znl z))) μ') : Call σ1 (d + 4) 140 [.inr (.inr 510), .inl (m : Int)] μ Q := by
  refine e_140 ?_
  have e0 := zn_eq hz
  have e3 := znl_eq hz
  have z3 := e3.1
  have loop : ∀ k i : Nat, i + k = znl z → ∀ μ1 : Mem, (∀ k, k ≠ 516 → μ1 k = μ k) → wp σ1 (Call σ1 (d + 3)) 140 Q 4 [some (.inr (.inr 510)), some (.inl (m : Int)), some (.inl (sm (hrs z (zn z) m) i)), some (.inl (i : Int))] [] μ1 := by
    intro k
    induction k with
    | zero =>
      intro i hi μ1 f1
      have hin : i = znl z := by omega
      have M1 : μ1 511 = z := by rw [f1 511 (by omega)]; exact hM
      have hq := hq μ1 f1
      rw [← hin] at hq
      refine wp_go b140_4 ?_; simp only [l140_4, sg_iload_3, sg_aload_0, sg_getfp, sg_iconst, sg_iaload, sg_ic_ge, sg_iv2_v, len4_0, len4_1, len4_2, len4_3, len4_4, nLg_n, nLg_i, nLg_r, tc_c, tc_l, tc_r, tc_m, tc_n, tc_o, tc_0, inR, true_and, and_true, ne_eq, not_true_eq_false, not_false_eq_true, true_imp_iff, false_imp_iff, Int.toNat_natCast, lit_a, Nat.reduceAdd, or_true, true_or, or_false, false_or, Int.reduceEq, Int.reduceNe, Int.reduceLT, Int.reduceLE, Int.reduceNeg, sg_nil, s1p, x510, x511, x512, x513, x514, x515, x516, x517, M1, z3, Int.reduceToNat]
      repeat' (first | with_reducible apply And.intro | intro _)
      all_goals (try omega)
      refine wp_go b140_41 ?_; simp only [l140_41, sg_iload_2, sg_iret0, nLg_n, nLg_i, nLg_r, tc_c, tc_l, tc_r, tc_m, tc_n, tc_o, tc_0, inR, true_and, and_true, ne_eq, not_true_eq_false, not_false_eq_true, true_imp_iff, false_imp_iff, Int.toNat_natCast, lit_a, Nat.reduceAdd, or_true, true_or, or_false, false_or, Int.reduceEq, Int.reduceNe, Int.reduceLT, Int.reduceLE, Int.reduceNeg, sg_nil, s1p, x510, x511, x512, x513, x514, x515, x516, x517]
      exact hq
    | succ k ih =>
      intro i hi μ1 f1
      have M1 : μ1 511 = z := by rw [f1 511 (by omega)]; exact hM
      refine wp_go b140_4 ?_; simp only [l140_4, sg_iload_3, sg_aload_0, sg_getfp, sg_iconst, sg_iaload, sg_ic_ge, sg_iv2_v, len4_0, len4_1, len4_2, len4_3, len4_4, nLg_n, nLg_i, nLg_r, tc_c, tc_l, tc_r, tc_m, tc_n, tc_o, tc_0, inR, true_and, and_true, ne_eq, not_true_eq_false, not_false_eq_true, true_imp_iff, false_imp_iff, Int.toNat_natCast, lit_a, Nat.reduceAdd, or_true, true_or, or_false, false_or, Int.reduceEq, Int.reduceNe, Int.reduceLT, Int.reduceLE, Int.reduceNeg, sg_nil, s1p, x510, x511, x512, x513, x514, x515, x516, x517, M1, z3, Int.reduceToNat]
      repeat' (first | with_reducible apply And.intro | intro _)
      all_goals (try omega)
      refine k_Mo_layNow M1 hz (by omega) (fun μ2 f2 H2 => ?_)
      refine wp_go b140_19 ?_; simp only [l140_19, sg_iload_2, sg_aload_0, sg_iload_1, sg_iv2_i, len4_0, len4_1, len4_2, len4_3, len4_4, nLg_n, nLg_i, nLg_r, tc_c, tc_l, tc_r, tc_m, tc_n, tc_o, tc_0, inR, true_and, and_true, ne_eq, not_true_eq_false, not_false_eq_true, true_imp_iff, false_imp_iff, Int.toNat_natCast, lit_a, Nat.reduceAdd, or_true, true_or, or_false, false_or, Int.reduceEq, Int.reduceNe, Int.reduceLT, Int.reduceLE, Int.reduceNeg, sg_nil, s1p, x510, x511, x512, x513, x514, x515, x516, x517]
      refine k_Mo_hasHeard (hrL_W hz i) H2 (hw_eq hz i) (by unfold inR; omega) ?_
      have ih1 := ih (i + 1) (by omega) μ2 (fun k hk => (f2 k hk).trans (f1 k hk))
      have eb : exI (fun s => decide (hrL z i (5 * s + 1) = (m : Int))) (zn z) = hrs z (zn z) m i := by
        unfold hrs
        rw [rn_bit hz hm (zn z) (by omega)]
        exact exI_e (fun s hs => by unfold hrL; rw [hr_1 (by omega)])
      rw [eb]
      rw [sm_s] at ih1
      rcases bit_01 (rn z (z (212 + 3 * i)) (z (213 + 3 * i)) (zn z)).1 m with e | e
      · rw [show hrs z (zn z) m i = 0 from e] at ih1 ⊢
        refine wp_go b140_25 ?_; simp only [l140_25, sg_if_eq, sg_iconst, sg_goto, nLg_n, nLg_i, nLg_r, tc_c, tc_l, tc_r, tc_m, tc_n, tc_o, tc_0, inR, true_and, and_true, ne_eq, not_true_eq_false, not_false_eq_true, true_imp_iff, false_imp_iff, Int.toNat_natCast, lit_a, Nat.reduceAdd, or_true, true_or, or_false, false_or, Int.reduceEq, Int.reduceNe, Int.reduceLT, Int.reduceLE, Int.reduceNeg, sg_nil, s1p, x510, x511, x512, x513, x514, x515, x516, x517]
        repeat' (first | with_reducible apply And.intro | (intro _) | ((first | refine wp_go b140_0 ?_ | refine wp_go b140_19 ?_ | refine wp_go b140_25 ?_ | refine wp_go b140_32 ?_ | refine wp_go b140_33 ?_ | refine wp_go b140_41 ?_); simp only [l140_0, l140_19, l140_25, l140_32, l140_33, l140_41, sg_iconst, sg_istore_2, sg_istore_3, sg_iload_2, sg_aload_0, sg_iload_1, sg_iv2_i, len4_0, len4_1, len4_2, len4_3, len4_4, sg_if_eq, sg_goto, sg_iadd, sg_iinc, ldI_3, okS_3, stL_3, sg_iret0, nLg_n, nLg_i, nLg_r, tc_c, tc_l, tc_r, tc_m, tc_n, tc_o, tc_0, inR, true_and, and_true, ne_eq, not_true_eq_false, not_false_eq_true, true_imp_iff, false_imp_iff, Int.toNat_natCast, lit_a, Nat.reduceAdd, or_true, true_or, or_false, false_or, Int.reduceEq, Int.reduceNe, Int.reduceLT, Int.reduceLE, Int.reduceNeg, sg_nil, s1p, x510, x511, x512, x513, x514, x515, x516, x517]))
        all_goals (try omega)
        all_goals first | exact ih1 | (rw [Int.add_zero] at ih1 ⊢; exact ih1)
      · rw [show hrs z (zn z) m i = 1 from e] at ih1 ⊢
        refine wp_go b140_25 ?_; simp only [l140_25, sg_if_eq, sg_iconst, sg_goto, nLg_n, nLg_i, nLg_r, tc_c, tc_l, tc_r, tc_m, tc_n, tc_o, tc_0, inR, true_and, and_true, ne_eq, not_true_eq_false, not_false_eq_true, true_imp_iff, false_imp_iff, Int.toNat_natCast, lit_a, Nat.reduceAdd, or_true, true_or, or_false, false_or, Int.reduceEq, Int.reduceNe, Int.reduceLT, Int.reduceLE, Int.reduceNeg, sg_nil, s1p, x510, x511, x512, x513, x514, x515, x516, x517]
        repeat' (first | with_reducible apply And.intro | (intro _) | ((first | refine wp_go b140_0 ?_ | refine wp_go b140_19 ?_ | refine wp_go b140_25 ?_ | refine wp_go b140_32 ?_ | refine wp_go b140_33 ?_ | refine wp_go b140_41 ?_); simp only [l140_0, l140_19, l140_25, l140_32, l140_33, l140_41, sg_iconst, sg_istore_2, sg_istore_3, sg_iload_2, sg_aload_0, sg_iload_1, sg_iv2_i, len4_0, len4_1, len4_2, len4_3, len4_4, sg_if_eq, sg_goto, sg_iadd, sg_iinc, ldI_3, okS_3, stL_3, sg_iret0, nLg_n, nLg_i, nLg_r, tc_c, tc_l, tc_r, tc_m, tc_n, tc_o, tc_0, inR, true_and, and_true, ne_eq, not_true_eq_false, not_false_eq_true, true_imp_iff, false_imp_iff, Int.toNat_natCast, lit_a, Nat.reduceAdd, or_true, true_or, or_false, false_or, Int.reduceEq, Int.reduceNe, Int.reduceLT, Int.reduceLE, Int.reduceNeg, sg_nil, s1p, x510, x511, x512, x513, x514, x515, x516, x517]))
        all_goals (try omega)
        all_goals exact ih1
  refine wp_go b140_0 ?_; simp only [l140_0, sg_iconst, sg_istore_2, sg_istore_3, nLg_n, nLg_i, nLg_r, tc_c, tc_l, tc_r, tc_m, tc_n, tc_o, tc_0, inR, true_and, and_true, ne_eq, not_true_eq_false, not_false_eq_true, true_imp_iff, false_imp_iff, Int.toNat_natCast, lit_a, Nat.reduceAdd, or_true, true_or, or_false, false_or, Int.reduceEq, Int.reduceNe, Int.reduceLT, Int.reduceLE, Int.reduceNeg, sg_nil, s1p, x510, x511, x512, x513, x514, x515, x516, x517]
  exact loop (znl z) 0 (by omega) μ (fun _ _ => rfl)
