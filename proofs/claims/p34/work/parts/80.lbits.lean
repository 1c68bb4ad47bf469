/-! BITS; the set of the notices that are heard (the rows bq_.. begun from the kit's rows to paste) -/
theorem exI_s (p : Nat → Bool) (n : Nat) : exI p (n + 1) = if p n = true then 1 else exI p n := rfl
theorem exI_e {p q : Nat → Bool} : ∀ {n : Nat}, (∀ i, i < n → p i = q i) → exI p n = exI q n
  | 0, _ => rfl
  | n + 1, h => by rw [exI_s, exI_s, h n (by omega), exI_e (fun i hi => h i (by omega))]
-- bits of an int (begun from the kit's rows to paste)
def bq (x : Int32) (i : Nat) : Bool := x.toBitVec.getLsbD i
theorem bq_ext {x y : Int32} (h : ∀ i, i < 32 → bq x i = bq y i) : x = y := Int32.toBitVec_inj.mp (BitVec.eq_of_getLsbD_eq (fun i hi => h i hi))
theorem bq_or (x y : Int32) (i : Nat) : bq (x ||| y) i = (bq x i || bq y i) := by unfold bq; rw [Int32.toBitVec_or, BitVec.getLsbD_or]
theorem bq_and (x y : Int32) (i : Nat) : bq (x &&& y) i = (bq x i && bq y i) := by unfold bq; rw [Int32.toBitVec_and, BitVec.getLsbD_and]
theorem bq_0 (i : Nat) : bq 0 i = false := BitVec.getLsbD_zero
theorem bq_1 : ∀ i, i < 32 → bq 1 i = decide (i = 0) := by decide +kernel
theorem bq_sl : ∀ n, n < 32 → ((nI n &&& 31).toBitVec.smod 32).toNat = n := by decide +kernel
theorem bq_shl (n : Nat) (hn : n < 32) (x : Int32) {i : Nat} (hi : i < 32) : bq (x <<< (nI n &&& 31)) i = (decide (n ≤ i) && bq x (i - n)) := by
  unfold bq
  rw [Int32.toBitVec_shiftLeft]
  show (x.toBitVec <<< ((nI n &&& 31).toBitVec.smod 32).toNat).getLsbD i = _
  rw [bq_sl n hn, BitVec.getLsbD_shiftLeft]
  rcases Nat.lt_or_ge i n with h | h
  · simp [h, Nat.not_le.mpr h]
  · simp [hi, h, Nat.not_lt.mpr h]
theorem bq_shr (n : Nat) (hn : n < 32) (x : Int32) {i : Nat} (hi : i < 32) : bq (x >>> (nI n &&& 31)) i = if n + i < 32 then bq x (n + i) else bq x 31 := by
  unfold bq
  rw [Int32.toBitVec_shiftRight]
  show (x.toBitVec.sshiftRight ((nI n &&& 31).toBitVec.smod 32).toNat).getLsbD i = _
  rw [bq_sl n hn, BitVec.getLsbD_sshiftRight, BitVec.msb_eq_getLsbD_last]
  simp [hi]
theorem oI_n (n : Nat) : Int32.ofInt (n : Int) = nI n := Int32.toBitVec_inj.mp (BitVec.ofInt_natCast 32 n)
theorem bit_bq (x : Int) (m : Nat) (hm : m < 32) : bit x m = if bq (Int32.ofInt x) m = true then 1 else 0 := by
  unfold bit iAnd iShr
  rw [Int32.ofInt_toInt, oI_n, show Int32.ofInt 1 = 1 from rfl]
  have e : ((Int32.ofInt x >>> (nI m &&& 31)) &&& 1) = if bq (Int32.ofInt x) m = true then 1 else 0 := bq_ext (fun i hi => by
    rw [bq_and, bq_1 i hi]
    by_cases h : i = 0
    · subst h
      rw [bq_shr m hm _ hi, if_pos (by omega), Nat.add_zero]
      cases bq (Int32.ofInt x) m
      · rfl
      · rfl
    · rw [decide_eq_false h, Bool.and_false]
      split
      · rw [bq_1 i hi, decide_eq_false h]
      · rw [bq_0])
  rw [e]
  split <;> rfl
theorem bit_or_bq (x : Int) (n m : Nat) (hn : n < 32) (hm : m < 32) : bq (Int32.ofInt (iOr x (iShl 1 n))) m = (bq (Int32.ofInt x) m || decide (m = n)) := by
  unfold iOr iShl
  rw [Int32.ofInt_toInt, Int32.ofInt_toInt, oI_n, show Int32.ofInt 1 = 1 from rfl, bq_or, bq_shl n hn _ hm]
  congr 1
  rcases Nat.lt_trichotomy m n with h | h | h
  · rw [decide_eq_false (by omega), decide_eq_false (show ¬ m = n by omega), Bool.false_and]
  · subst h
    rw [decide_eq_true (Nat.le_refl m), bq_1 _ (by omega), Nat.sub_self]; simp
  · rw [bq_1 _ (by omega), decide_eq_false (show ¬ m - n = 0 by omega), decide_eq_false (show ¬ m = n by omega), Bool.and_false]
theorem bit_or_self (x : Int) (n : Nat) (h : n < 8) : bit (iOr x (iShl 1 n)) n = 1 := by
  rw [bit_bq _ _ (by omega), bit_or_bq _ _ _ (by omega) (by omega), decide_eq_true rfl, Bool.or_true, if_pos rfl]
theorem bit_or_ne (x : Int) (n m : Nat) (h : n < 8) (h2 : m < 8) (hne : m ≠ n) : bit (iOr x (iShl 1 n)) m = bit x m := by
  rw [bit_bq _ _ (by omega), bit_bq _ _ (by omega), bit_or_bq _ _ _ (by omega) (by omega), decide_eq_false hne, Bool.or_false]
/-- a listener hears a notice: the bit of the set says it -/
theorem rn_bit {z : Rw} {g b : Int} {m : Nat} (hz : IZ z) (hm : m < 8) : ∀ n : Nat, (n : Int) ≤ z 0 → bit (rn z g b n).1 m = exI (fun s => decide (ch z g b s = (m : Int))) n
  | 0, _ => by
    show bit 0 m = 0
    unfold bit iShr iAnd
    simp
  | n + 1, h => by
    have ih := rn_bit (g := g) (b := b) hz hm n (by omega)
    rw [exI_s, ← ih, rn_s]
    unfold nxt
    rcases ch_in (g := g) (b := b) hz (show (n : Int) < z 0 by omega) with h6 | ⟨h1, h2⟩
    · rw [if_pos h6, if_neg (fun h => by have := of_decide_eq_true h; omega)]
    · have q := hz.1
      obtain ⟨c, hc⟩ := nat_of h1
      rw [if_neg (by omega), hc]
      show bit (iOr _ (iShl 1 (c : Int))) m = _
      by_cases e : c = m
      · subst e
        rw [if_pos (decide_eq_true rfl), bit_or_self _ _ hm]
      · rw [if_neg (fun h => e (by have := of_decide_eq_true h; omega)), bit_or_ne _ _ _ (by omega) hm (fun q => e q.symm)]
theorem hrs_bit {z : Rw} {t l : Nat} (hz : IZ z) (ht : t < 8) : hrs z (zn z) (t : Int) l = exI (fun s => decide (ch z (gL z l) (bLi z l) s = (t : Int))) (zn z) := rn_bit hz ht (zn z) (by have := zn_eq hz; omega)
theorem fsI_m {p : Nat → Bool} {e : Int} {n j : Nat} (h : (j : Int) < fsI p e n) (hj : j < n) : p j = false := by
  unfold fsI at h
  cases hf : (List.range n).find? p with
  | some i =>
    rw [hf] at h
    have h : (j : Int) < (i : Int) := h
    have := (List.find?_range_eq_some.mp hf).2.2 j (by omega)
    simpa using this
  | none =>
    have := List.find?_eq_none.mp hf j (List.mem_range.mpr hj)
    simpa using this
theorem kN_cnt {z : Rw} {l : Nat} {b : Int} (hz : IZ z) : cnt z l b = sm (kN z (gL z l) b) (zn z) := by
  have e := zn_eq hz
  unfold cnt
  refine sm_c (fun i hi => ?_)
  unfold bI kN gL
  rcases ch_in (g := z (212 + 3 * l)) (b := b) (s := i) hz (by omega) with h | h
  · rw [h, if_neg (by omega), if_pos (by omega)]
  · rw [if_pos (by omega), if_neg (by omega)]
theorem kN_b {z : Rw} {g b : Int} (n : Nat) : 0 ≤ sm (kN z g b) n ∧ sm (kN z g b) n ≤ n := by
  have := sm_b (f := kN z g b) (b := 1) (n := n) (fun i _ => by unfold kN; split <;> omega)
  omega
/-- the least bound that is enough -/
theorem E_f {z : Rw} {l : Nat} (hz : IZ z) (hl : (l : Int) < z 3) : (0 ≤ F_enough z (l : Int) ∧ F_enough z (l : Int) ≤ 600) ∧ sm (kN z (gL z l) (F_enough z (l : Int))) (zn z) = sm (kN z (gL z l) 600) (zn z) ∧ ∀ b : Int, 0 ≤ b → b < F_enough z (l : Int) → sm (kN z (gL z l) b) (zn z) ≠ sm (kN z (gL z l) 600) (zn z) := by
  have e0 : F_enough z (l : Int) = fsI (fun b => decide (cnt z l (b : Int) = cnt z l 600)) 600 600 := by
    unfold F_enough
    rw [if_neg (by omega), Int.toNat_natCast]
  rw [e0]
  have hi := fsI_in (fun b => decide (cnt z l (b : Int) = cnt z l 600)) 600 600
  refine ⟨?_, ?_, fun b h0 h1 hb => ?_⟩
  · rcases hi with h | ⟨i, h1, h2, -⟩
    · rw [h]; omega
    · rw [h2]; omega
  · rcases hi with h | ⟨i, h1, h2, h3⟩
    · rw [h]
    · rw [h2, ← kN_cnt hz, ← kN_cnt hz]
      exact of_decide_eq_true h3
  · obtain ⟨k, rfl⟩ := nat_of h0
    have hk : k < 600 := by
      rcases hi with h | ⟨i, g1, h2, -⟩
      · rw [h] at h1; omega
      · rw [h2] at h1; omega
    have := fsI_m h1 hk
    have := of_decide_eq_false this
    rw [kN_cnt hz, kN_cnt hz] at this
    exact this hb
/-- all but two arrays are as they were -/
def Fq (z : Rw) (V W : Nat) (μ0 μ : Mem) : Prop := St z μ ∧ ∀ k, 510 ≤ k → k ≠ V → k ≠ W → μ k = μ0 k
