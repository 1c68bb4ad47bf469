/-- the rows that the model has read -/
def bkR (R : Nat → Int) (w : Rw) (j : Nat) : Nat → Rw
  | 0 => w
  | k + 1 => bookZ (bkR R w j k) j (R (5 * j + 1 + k))
def tk2 (R : Nat → Int) (z : Rw) : Nat → Rw
  | 0 => z
  | j + 1 => bkR R (emZ (tk2 R z j) j) j (R (5 * j)).toNat
theorem bkR_c {R R' : Nat → Int} {w : Rw} {j : Nat} : ∀ k : Nat, (∀ i, i < k → R (5 * j + 1 + i) = R' (5 * j + 1 + i)) → bkR R w j k = bkR R' w j k
  | 0, _ => rfl
  | k + 1, h => by
    unfold bkR
    rw [bkR_c k (fun i hi => h i (by omega)), h k (by omega)]
theorem tk2_c {R R' : Nat → Int} {z : Rw} : ∀ j : Nat, (∀ i, i < j → R (5 * i) = R' (5 * i) ∧ 0 ≤ R (5 * i) ∧ R (5 * i) ≤ 4) → (∀ i, i < 5 * j → R i = R' i) → tk2 R z j = tk2 R' z j
  | 0, _, _ => rfl
  | j + 1, h, h2 => by
    unfold tk2
    have hj := h j (by omega)
    rw [tk2_c j (fun i hi => h i (by omega)) (fun i hi => h2 i (by omega)), ← hj.1]
    exact bkR_c _ (fun i hi => h2 _ (by omega))
def PRD (f : Nat → Int) (i : Nat) (R : Nat → Int) (r c : Nat) (o : Bool) : Prop := pst f i = some (r, c, o) ∧ R (5 * r) = (c : Int) ∧ (∀ z, tk2 R z (r + 1) = (tkF f z i).1 ∧ (tkF f z i).2 = r) ∧
  (∀ j, j ≤ r → 0 ≤ R (5 * j) ∧ R (5 * j) ≤ 4 ∧ ∀ k : Nat, (k : Int) < R (5 * j) → 0 ≤ R (5 * j + 1 + k) ∧ R (5 * j + 1 + k) ≤ 7) ∧ nSl f i = (r : Int) ∧
  ∀ m : Int, 0 ≤ m → ((∀ j, j ≤ r → ∀ k : Nat, (k : Int) < R (5 * j) → R (5 * j + 1 + k) < m) ↔ hiF f i < m)
theorem PRD_0 {f : Nat → Int} {R : Nat → Int} (h : R 0 = 0) : PRD f 0 R 0 0 false := by
  refine ⟨rfl, h, fun z => ⟨?_, rfl⟩, fun j hj => ?_, rfl, fun m hm => ⟨fun _ => ?_, fun _ j hj k hk => ?_⟩⟩
  · show bkR R (emZ z 0) 0 (R (5 * 0)).toNat = emZ z 0
    rw [show R (5 * 0) = 0 from h]; rfl
  · have : j = 0 := by omega
    subst this
    rw [show R (5 * 0) = 0 from h]
    exact ⟨by omega, by omega, fun k hk => absurd hk (by omega)⟩
  · show (-1 : Int) < m
    omega
  · have : j = 0 := by omega
    subst this
    rw [show R (5 * 0) = 0 from h] at hk
    exact absurd hk (by omega)
theorem hiF_s (f : Nat → Int) (n : Nat) : hiF f (n + 1) = if 48 ≤ f n ∧ f n ≤ 55 then (if hiF f n < f n - 48 then f n - 48 else hiF f n) else hiF f n := rfl
theorem tkF_s (f : Nat → Int) (z : Rw) (n : Nat) : tkF f z (n + 1) = if f n = 47 then (emZ (tkF f z n).1 ((tkF f z n).2 + 1), (tkF f z n).2 + 1) else if 48 ≤ f n ∧ f n ≤ 55 then (bookZ (tkF f z n).1 (tkF f z n).2 (f n - 48), (tkF f z n).2) else tkF f z n := rfl
theorem nSl_s (f : Nat → Int) (n : Nat) : nSl f (n + 1) = nSl f n + bI (f n = 47) := by unfold nSl; rw [sm_s]
theorem PRD_sl {f : Nat → Int} {i r c : Nat} {o : Bool} {R R' : Nat → Int} (H : PRD f i R r c o) (h : f i = 47) (hm : o = true ∨ 0 < c) (hr : r < 23) (e0 : R' (5 * (r + 1)) = 0) (e : ∀ x, x < 5 * (r + 1) → R' x = R x) : PRD f (i + 1) R' (r + 1) 0 false := by
  obtain ⟨h1, h2, h3, h4, h5, h6⟩ := H
  refine ⟨?_, e0, fun z => ?_, fun j hj => ?_, ?_, fun m hm => ?_⟩
  · rw [pst_s h1]; unfold stD; rw [if_pos h, if_pos ⟨hm, hr⟩]
  · rw [tkF_s, if_pos h, (h3 z).2]
    refine ⟨?_, rfl⟩
    show bkR R' (emZ (tk2 R' z (r + 1)) (r + 1)) (r + 1) (R' (5 * (r + 1))).toNat = _
    rw [e0, ← (h3 z).1, tk2_c (R := R') (R' := R) (r + 1) (fun x hx => by
      have := h4 x (by omega)
      rw [e (5 * x) (by omega)]; exact ⟨rfl, this.1, this.2.1⟩) e]
    rfl
  · by_cases hj2 : j = r + 1
    · subst hj2
      rw [e0]; exact ⟨by omega, by omega, fun k hk => absurd hk (by omega)⟩
    · have := h4 j (by omega)
      rw [e (5 * j) (by omega)]
      exact ⟨this.1, this.2.1, fun k hk => by rw [e _ (by omega)]; exact this.2.2 k hk⟩
  · rw [nSl_s, h5]; unfold bI; rw [if_pos h]; omega
  · rw [hiF_s, if_neg (by omega), ← h6 m hm]
    constructor
    · intro g j hj k hk
      have := h4 j hj
      have g := g j (by omega) k (by rw [e (5 * j) (by omega)]; exact hk)
      rw [e _ (by omega)] at g
      exact g
    · intro g j hj k hk
      by_cases hj2 : j = r + 1
      · subst hj2
        rw [e0] at hk
        exact absurd hk (by omega)
      · have := h4 j (by omega)
        rw [e (5 * j) (by omega)] at hk
        rw [e _ (by omega)]
        exact g j (by omega) k hk
theorem PRD_dot {f : Nat → Int} {i r c : Nat} {R : Nat → Int} (H : PRD f i R r c false) (h : f i = 46) (hc : c = 0) : PRD f (i + 1) R r c true := by
  obtain ⟨h1, h2, h3, h4, h5, h6⟩ := H
  refine ⟨?_, h2, fun z => ?_, h4, ?_, fun m hm => ?_⟩
  · rw [pst_s h1]; unfold stD; rw [if_neg (by omega), if_pos h, if_pos ⟨rfl, hc⟩]
  · rw [tkF_s, if_neg (by omega), if_neg (by omega)]; exact h3 z
  · rw [nSl_s, h5]; unfold bI; rw [if_neg (by omega)]; omega
  · rw [hiF_s, if_neg (by omega)]; exact h6 m hm
theorem PRD_dig {f : Nat → Int} {i r c : Nat} {R R' : Nat → Int} (H : PRD f i R r c false) (hc : c < 4) (g1 : 48 ≤ f i) (g2 : f i ≤ 55) (e0 : R' (5 * r) = ((c + 1 : Nat) : Int)) (e1 : R' (5 * r + 1 + c) = f i - 48) (e : ∀ x, x ≠ 5 * r → x ≠ 5 * r + 1 + c → R' x = R x) : PRD f (i + 1) R' r (c + 1) false := by
  obtain ⟨h1, h2, h3, h4, h5, h6⟩ := H
  refine ⟨?_, e0, fun z => ?_, fun j hj => ?_, ?_, fun m hm => ?_⟩
  · rw [pst_s h1]; unfold stD; rw [if_neg (by omega), if_neg (by omega), if_neg (fun hx => by
      rcases hx with hx | hx
      · exact absurd hx (by decide)
      · omega)]
  · rw [tkF_s, if_neg (by omega), if_pos ⟨g1, g2⟩, (h3 z).2]
    refine ⟨?_, rfl⟩
    show bkR R' (emZ (tk2 R' z r) r) r (R' (5 * r)).toNat = _
    rw [e0, Int.toNat_natCast, ← (h3 z).1]
    show bookZ (bkR R' (emZ (tk2 R' z r) r) r c) r (R' (5 * r + 1 + c)) = bookZ (bkR R (emZ (tk2 R z r) r) r (R (5 * r)).toNat) r (f i - 48)
    rw [e1, h2, Int.toNat_natCast, tk2_c (R := R') (R' := R) r (fun x hx => by
      have := h4 x (by omega)
      rw [e (5 * x) (by omega) (by omega)]; exact ⟨rfl, this.1, this.2.1⟩) (fun x hx => e x (by omega) (by omega)), bkR_c (R := R') (R' := R) c (fun x hx => e _ (by omega) (by omega))]
  · by_cases hj2 : j = r
    · subst hj2
      rw [e0]
      refine ⟨by omega, by omega, fun k hk => ?_⟩
      by_cases hk2 : k = c
      · subst hk2; rw [e1]; omega
      · rw [e _ (by omega) (by omega)]; exact (h4 j (by omega)).2.2 k (by rw [h2]; omega)
    · have := h4 j (by omega)
      rw [e (5 * j) (by omega) (by omega)]
      exact ⟨this.1, this.2.1, fun k hk => by rw [e _ (by omega) (by omega)]; exact this.2.2 k hk⟩
  · rw [nSl_s, h5]; unfold bI; rw [if_neg (by omega)]; omega
  · rw [hiF_s, if_pos ⟨g1, g2⟩]
    have hh := h6 m hm
    constructor
    · intro g
      have gc := g r (Nat.le_refl r) c (by rw [e0]; omega)
      rw [e1] at gc
      have gl := hh.mp (fun j hj k hk => by
        have := h4 j hj
        by_cases hj2 : j = r
        · subst hj2
          rw [h2] at hk
          have := g j (by omega) k (by rw [e0]; omega)
          rw [e _ (by omega) (by omega)] at this
          exact this
        · have := g j hj k (by rw [e (5 * j) (by omega) (by omega)]; exact hk)
          rw [e _ (by omega) (by omega)] at this
          exact this)
      split <;> omega
    · intro g j hj k hk
      have gl : hiF f i < m := by split at g <;> omega
      have gc : f i - 48 < m := by split at g <;> omega
      have ha := hh.mpr gl
      by_cases hj2 : j = r
      · subst hj2
        rw [e0] at hk
        by_cases hk2 : k = c
        · subst hk2; rw [e1]; exact gc
        · rw [e _ (by omega) (by omega)]; exact ha j (by omega) k (by rw [h2]; omega)
      · have := h4 j hj
        rw [e (5 * j) (by omega) (by omega)] at hk
        rw [e _ (by omega) (by omega)]
        exact ha j hj k hk
