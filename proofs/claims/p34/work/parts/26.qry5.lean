theorem fw_book (z : Rw) (s : Nat) (t : Int) (l : Nat) (h : 77 + 5 * s + (z (76 + 5 * s)).toNat < 230) (h2 : s < 24) : fw (bookZ z s t) l = fw z l := by funext k; exact bookZ_o z s _ t (by omega) (by omega)
theorem IZ_book {z : Rw} {s : Nat} {t : Int} (hz : IZ z) (hs : (s : Int) < z 0) (h4 : z (76 + 5 * s) < 4) (ht : 0 ≤ t ∧ t < z 2) : IZ (bookZ z s t) := by
  have q := hz.1
  have r := (hz.2.1 s hs).2.2.2.1
  obtain ⟨n, hn⟩ := nat_of r.1
  have bo : ∀ k, k ≠ 76 + 5 * s → k ≠ 77 + 5 * s + n → bookZ z s t k = z k := fun k h1 h2 => bookZ_o z s k t h1 (by rw [hn]; exact h2)
  obtain ⟨h1, h2, h3, h5, h6⟩ := hz
  unfold IZ
  rw [bo 0 (by omega) (by omega), bo 1 (by omega) (by omega), bo 2 (by omega) (by omega), bo 3 (by omega) (by omega), bo 6 (by omega) (by omega)]
  refine ⟨h1, fun i hi => ?_, h3, fun i hi => ?_, fun l hl => ?_⟩
  · rw [bo (4 + 3 * i) (by omega) (by omega), bo (5 + 3 * i) (by omega) (by omega), bo (6 + 3 * i) (by omega) (by omega)]
    obtain ⟨b1, b2, b3, b4, b5⟩ := h2 i hi
    refine ⟨b1, b2, b3, ?_, fun j hj => ?_⟩
    · by_cases hii : i = s
      · subst hii; rw [bookZ_s]; omega
      · rw [bo _ (by omega) (by omega)]; exact b4
    · by_cases hii : i = s
      · subst hii
        rw [bookZ_s] at hj
        by_cases hjn : j = n
        · subst hjn; rw [bookZ_n z i j t hn]; exact ht
        · rw [bo _ (by omega) (by omega)]; exact b5 j (by omega)
      · rw [bo _ (by omega) (by omega)] at hj
        rw [bo _ (by omega) (by omega)]; exact b5 j hj
  · rw [bo (196 + 2 * i) (by omega) (by omega), bo (197 + 2 * i) (by omega) (by omega)]; exact h5 i hi
  · rw [bo (212 + 3 * l) (by omega) (by omega), bo (213 + 3 * l) (by omega) (by omega), bo (214 + 3 * l) (by omega) (by omega), fw_book z s t l (by omega) (by omega)]; exact h6 l hl
theorem QF_t {z : Rw} {μ μ1 μ2 : Mem} (h1 : QF z μ μ1) (h2 : QF z μ1 μ2) : QF z μ μ2 := ⟨fun k a b c => (h2.1 k a b c).trans (h1.1 k a b c), h2.2⟩
def hib (z : Rw) (t : Int) (s : Nat) : Int := if 4 ≤ z (76 + 5 * s) then -6 else sm (hrs (bookZ z s t) (zn z) t) (znl z)
def F_ifBooked (z : Rw) (s t : Int) : Int := if (s < 0 ∨ z 0 ≤ s) ∨ (t < 0 ∨ z 2 ≤ t) then -1 else if 4 ≤ z (76 + 5 * s.toNat) then -4 else 10000 + sm (secs (bookZ z s.toNat t) (zn z)) (znl z) - sm (secs z (zn z)) (znl z)
theorem secs_b {z : Rw} (hz : IZ z) : 0 ≤ sm (secs z (zn z)) (znl z) ∧ sm (secs z (zn z)) (znl z) ≤ 3600 := by
  have e := znl_eq hz
  have e0 := zn_eq hz
  have := sm_b (f := secs z (zn z)) (b := 600) (n := znl z) (fun i hi => by
    have c := (hz.2.2.2.2 i (by omega)).2.1
    have := rn_b (g := z (212 + 3 * i)) (b := z (213 + 3 * i)) hz (by omega) (zn z) (by omega)
    unfold secs; omega)
  omega
/-- the best break: where, and how many hear it -/
def bb (f : Nat → Int) : Nat → Int × Int
  | 0 => (-6, -6)
  | n + 1 => if (bb f n).2 < f n then ((n : Int), f n) else bb f n
def F_bestBreak (z : Rw) (t w : Int) : Int := if t < 0 ∨ z 2 ≤ t then -1 else if w < 0 ∨ 1 < w then -2 else if w = 0 then (bb (hib z t) (zn z)).1 else (bb (hib z t) (zn z)).2
theorem hib_b (z : Rw) (t : Int) (s : Nat) : -6 ≤ hib z t s ∧ hib z t s ≤ znl z := by
  unfold hib
  split
  · omega
  · have := sm_b (f := hrs (bookZ z s t) (zn z) t) (b := 1) (n := znl z) (fun i hi => by
      have := bit_01 (rn (bookZ z s t) (bookZ z s t (212 + 3 * i)) (bookZ z s t (213 + 3 * i)) (zn z)).1 t
      unfold hrs; omega)
    omega
theorem bb_b {f : Nat → Int} {a b : Int} (ha : a ≤ -6) (hb : -6 ≤ b) (h : ∀ i, a ≤ f i ∧ f i ≤ b) : ∀ n, a ≤ (bb f n).2 ∧ (bb f n).2 ≤ b
  | 0 => ⟨ha, hb⟩
  | n + 1 => by
    have := bb_b ha hb h n
    unfold bb
    split
    · exact h n
    · exact this
