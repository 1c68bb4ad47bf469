def U (x : Int64) : Nat := x.toUInt64.toNat
theorem U_lt (x : Int64) : U x < 2 ^ 64 := x.toUInt64.toNat_lt
theorem U_shr {x : Int64} {y : Int} {n : Nat} (hy : ((Int32.ofInt y).toInt64.toUInt64 &&& Int64.toUInt64 63) = UInt64.ofNat n) (hn : n < 64) : U (lUshr x y) = U x / 2 ^ n := by
  unfold lUshr U
  rw [hy]
  show ((x.toUInt64 >>> UInt64.ofNat n).toInt64.toUInt64).toNat = _
  rw [show ∀ u : UInt64, u.toInt64.toUInt64 = u from fun _ => rfl, UInt64.toNat_shiftRight]
  rw [show (UInt64.ofNat n).toNat = n from Nat.mod_eq_of_lt (by omega), Nat.mod_eq_of_lt hn, Nat.shiftRight_eq_div_pow]
theorem U_shr8 {x : Int64} {p : Nat} (hp : p < 8) : U (lUshr x ((8 * p : Nat) : Int)) = U x / 256 ^ p := by
  rw [show (256 : Nat) = 2 ^ 8 from rfl, ← Nat.pow_mul]
  refine U_shr (n := 8 * p) ?_ (by omega)
  rcases (show p = 0 ∨ p = 1 ∨ p = 2 ∨ p = 3 ∨ p = 4 ∨ p = 5 ∨ p = 6 ∨ p = 7 by omega) with rfl | rfl | rfl | rfl | rfl | rfl | rfl | rfl <;> decide
theorem U_and (x : Int64) : U (x &&& Int64.ofNat 255) = U x % 256 := by
  unfold U
  rw [show (x &&& Int64.ofNat 255).toUInt64 = x.toUInt64 &&& UInt64.ofNat 255 from rfl, UInt64.toNat_and]
  exact Nat.and_two_pow_sub_one_eq_mod x.toUInt64.toNat 8
theorem U_l2i {y : Int64} (h : U y < 256) : y.toInt32.toInt = (U y : Int) := by
  have e : y.toInt = (U y : Int) := by
    show y.toBitVec.toInt = _
    rw [BitVec.toInt_eq_toNat_cond, if_pos (by have : y.toBitVec.toNat = U y := rfl; omega)]
    rfl
  rw [Int64.toInt_toInt32, e]
  rw [Int.bmod_eq_of_le (by omega) (by omega)]
theorem byte_l {x : Int64} : (x &&& Int64.ofNat 255).toInt32.toInt = ((U x % 256 : Nat) : Int) := by
  rw [U_l2i (by rw [U_and]; omega), U_and]
theorem i2c_s {n : Nat} (h : n < 256) : iI2c (n : Int) = (n : Int) := by
  unfold iI2c
  have e : (Int32.ofInt (n : Int)).toUInt32 = UInt32.ofNat n := by
    rw [show Int32.ofInt (n : Int) = Int32.ofNat n from rfl]; rfl
  rw [e]
  have e2 : UInt32.ofNat n % 65536 = UInt32.ofNat n := by
    apply UInt32.toNat_inj.mp
    rw [UInt32.toNat_mod, show (UInt32.ofNat n).toNat = n from Nat.mod_eq_of_lt (by omega)]
    show n % 65536 = n
    omega
  rw [e2]
  exact nI_toInt (by omega)
theorem U_inj {x y : Int64} (h : U x = U y) : x = y := by
  have : x.toUInt64 = y.toUInt64 := UInt64.toNat_inj.mp h
  rw [← show x.toUInt64.toInt64 = x from rfl, this]; rfl
theorem cmp_0 {x : Int64} : (lCmp x (Int64.ofNat ((0 : Fin 2)).val) = 0) = (U x = 0) := by
  unfold lCmp lg_cmp
  refine propext ⟨fun h => ?_, fun h => ?_⟩
  · split at h
    · exact absurd h (by decide)
    · split at h
      · rename_i hx; rw [hx]; rfl
      · exact absurd h (by decide)
  · have hx : x = Int64.ofNat ((0 : Fin 2)).val := U_inj h
    rw [hx]
    decide
/-- the bytes -/
def by8 (u p : Nat) : Nat := u / 256 ^ p % 256
def nB (u : Nat) : Int := fsI (fun p => decide (u / 256 ^ p = 0)) 8 8
def bd8 (u p : Nat) : Bool := decide (by8 u p < 33 ∨ 126 < by8 u p)
def ccF (u : Nat) : Int := if nB u = 0 then -2 else if exI (bd8 u) (nB u).toNat = 1 then -2 else nB u
theorem nB_e {u p : Nat} (h8 : p ≤ 8) (hu : u < 2 ^ 64) (h : ∀ q, q < p → u / 256 ^ q ≠ 0) (h0 : u / 256 ^ p = 0) : nB u = (p : Int) := by
  unfold nB
  rcases Nat.lt_or_ge p 8 with h9 | h9
  · exact fsI_s h9 (decide_eq_true h0) (fun j hj => decide_eq_false (h j hj))
  · rw [fsI_n (fun j hj => decide_eq_false (h j (by omega)))]
    omega
theorem nB_g {u p : Nat} (hu : u < 2 ^ 64) (h : ∀ q, q ≤ p → u / 256 ^ q ≠ 0) : ∃ n : Nat, nB u = (n : Int) ∧ p < n ∧ n ≤ 8 := by
  have hp8 : p < 8 := by
    refine Nat.lt_of_not_le (fun hge => h 8 hge ?_)
    exact Nat.div_eq_of_lt hu
  rcases fsI_in (fun p => decide (u / 256 ^ p = 0)) 8 8 with e | ⟨i, h1, h2, h3⟩
  · exact ⟨8, e, hp8, Nat.le_refl 8⟩
  · refine ⟨i, h2, ?_, by omega⟩
    refine Nat.lt_of_not_le (fun hge => h i hge (of_decide_eq_true h3))
theorem ccF_e {u p : Nat} (h8 : p ≤ 8) (hu : u < 2 ^ 64) (h : ∀ q, q < p → u / 256 ^ q ≠ 0) (hg : ∀ q, q < p → bd8 u q = false) (h0 : u / 256 ^ p = 0) : ccF u = if p = 0 then -2 else (p : Int) := by
  unfold ccF
  rw [nB_e h8 hu h h0, Int.toNat_natCast, exI_f hg]
  split <;> split <;> omega
theorem ccF_b {u p : Nat} (hu : u < 2 ^ 64) (h : ∀ q, q ≤ p → u / 256 ^ q ≠ 0) (hb : bd8 u p = true) : ccF u = -2 := by
  obtain ⟨n, e, h1, h2⟩ := nB_g hu h
  unfold ccF
  rw [e, Int.toNat_natCast, exI_t h1 hb]
  split <;> simp
theorem by8_b (u p : Nat) : by8 u p < 256 := Nat.mod_lt _ (by omega)
/-- good characters are in range -/
theorem ccF_g {u : Nat} {n : Nat} (h : ccF u = (n : Int)) : 1 ≤ n ∧ n ≤ 8 ∧ ∀ q, q < n → 33 ≤ by8 u q ∧ by8 u q ≤ 126 := by
  unfold ccF at h
  split at h
  · omega
  · split at h
    · omega
    · rename_i h1 h2
      rw [h, Int.toNat_natCast] at h2
      have hn : n ≤ 8 := by
        rcases fsI_in (fun p => decide (u / 256 ^ p = 0)) 8 8 with e | ⟨i, g1, g2, -⟩
        · have : nB u = 8 := e
          omega
        · have : nB u = (i : Int) := g2
          omega
      refine ⟨by omega, hn, fun q hq => ?_⟩
      have : bd8 u q = false := by
        cases e : bd8 u q with
        | false => rfl
        | true => exact absurd (exI_t hq e) h2
      have := of_decide_eq_false this
      omega
theorem ccF_m {u : Nat} (h : ccF u ≠ -2) : ∃ n : Nat, ccF u = (n : Int) := by
  unfold ccF at h ⊢
  split at h
  · exact absurd rfl h
  · split at h
    · exact absurd rfl h
    · rename_i h1 h2
      rw [if_neg h1, if_neg h2]
      refine nat_of ?_
      rcases fsI_in (fun p => decide (u / 256 ^ p = 0)) 8 8 with e | ⟨i, g1, g2, -⟩
      · have : nB u = 8 := e
        omega
      · have : nB u = (i : Int) := g2
        omega
theorem lCmp_b (x y : Int64) : inR (lCmp x y) := ⟨Int32.le_toInt _, by have := Int32.toInt_lt (lg_cmp x y); unfold lCmp; omega⟩
