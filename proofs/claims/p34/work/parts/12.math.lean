/-! sums, first places -/
def sm (f : Nat → Int) : Nat → Int
  | 0 => 0
  | n + 1 => sm f n + f n
theorem sm_s (f : Nat → Int) (n : Nat) : sm f (n + 1) = sm f n + f n := rfl
theorem sm_0 (f : Nat → Int) : sm f 0 = 0 := rfl
theorem sm_c {f g : Nat → Int} : ∀ {n : Nat}, (∀ i, i < n → f i = g i) → sm f n = sm g n
  | 0, _ => rfl
  | n + 1, h => by rw [sm_s, sm_s, sm_c (fun i hi => h i (by omega)), h n (by omega)]
theorem sm_b {f : Nat → Int} {b : Int} : ∀ {n : Nat}, (∀ i, i < n → 0 ≤ f i ∧ f i ≤ b) → 0 ≤ sm f n ∧ sm f n ≤ b * n
  | 0, _ => ⟨Int.le_refl 0, by simp [sm]⟩
  | n + 1, h => by
    have h1 := sm_b (n := n) (fun i hi => h i (by omega))
    have h2 := h n (by omega)
    rw [sm_s, Int.natCast_succ, Int.mul_add]
    omega
theorem sm_a (f g : Nat → Int) : ∀ n : Nat, sm (fun i => f i + g i) n = sm f n + sm g n
  | 0 => rfl
  | n + 1 => by rw [sm_s, sm_s, sm_s, sm_a f g n]; omega
theorem sm_mono {f : Nat → Int} {m n : Nat} (hmn : m ≤ n) (h : ∀ i, i < n → 0 ≤ f i) : sm f m ≤ sm f n := by
  induction n with
  | zero => have : m = 0 := by omega
            rw [this]; exact Int.le_refl _
  | succ n ih =>
    rcases Nat.lt_or_ge m (n + 1) with q | q
    · have h1 := ih (by omega) (fun i hi => h i (by omega))
      have h2 := h n (by omega)
      rw [sm_s]
      omega
    · have : m = n + 1 := by omega
      rw [this]; exact Int.le_refl _
/-- the first place below n where p holds, else e -/
def fsI (p : Nat → Bool) (e : Int) (n : Nat) : Int := match (List.range n).find? p with
  | some i => (i : Int)
  | none => e
theorem fsI_s {p : Nat → Bool} {e : Int} {n i : Nat} (hi : i < n) (hp : p i = true) (hm : ∀ j, j < i → p j = false) : fsI p e n = (i : Int) := by
  have : (List.range n).find? p = some i := by
    rw [List.find?_range_eq_some]
    exact ⟨hp, List.mem_range.mpr hi, fun j hj => by rw [hm j hj]; rfl⟩
  unfold fsI
  rw [this]
theorem fsI_n {p : Nat → Bool} {e : Int} {n : Nat} (hm : ∀ j, j < n → p j = false) : fsI p e n = e := by
  have : (List.range n).find? p = none := by
    rw [List.find?_eq_none]
    intro j hj
    rw [hm j (List.mem_range.mp hj)]
    decide
  unfold fsI
  rw [this]
theorem fsI_c {p q : Nat → Bool} {e : Int} {n : Nat} (h : ∀ i, i < n → p i = q i) : fsI p e n = fsI q e n := by
  by_cases hx : ∃ i, i < n ∧ p i = true ∧ ∀ j, j < i → p j = false
  · obtain ⟨i, h1, h2, h3⟩ := hx
    rw [fsI_s h1 h2 h3, fsI_s h1 (by rw [← h i h1]; exact h2) (fun j hj => by rw [← h j (by omega)]; exact h3 j hj)]
  · have hn : ∀ j, j < n → p j = false := by
      intro j
      induction j using Nat.strongRecOn with
      | ind j ih =>
        intro hj
        cases hp : p j with
        | false => rfl
        | true => exact absurd ⟨j, hj, hp, fun k hk => ih k hk (by omega)⟩ hx
    rw [fsI_n hn, fsI_n (fun j hj => by rw [← h j hj]; exact hn j hj)]
theorem ne_a (a n : Nat) : (a = a + (n + 1)) = False := by simp
theorem ne_b (a n : Nat) : (a + (n + 1) = a) = False := by simp
-- the layout around an object
def iSen (σ : Sg) (s : Nat) : Prop := (shp σ s).1 = 4 ∧ shp σ (s + 1) = (100, 24) ∧ shp σ (s + 2) = (100, 24) ∧ shp σ (s + 3) = (100, 24) ∧ σ.2 s 0 = true ∧ σ.2 s 1 = true ∧ σ.2 s 2 = true
def iHea (σ : Sg) (h : Nat) : Prop := (shp σ h).1 = 1 ∧ iSen σ (h + 1) ∧ shp σ (h + 5) = (100, 24) ∧ shp σ (h + 6) = (100, 24) ∧ σ.2 h 0 = true ∧ σ.2 h 1 = true ∧ σ.2 h 2 = true
def iSta (σ : Sg) (S : Nat) : Prop := (shp σ S).1 = 5 ∧ iSen σ (S + 1) ∧ (shp σ (S + 5) = (100, 24) ∧ shp σ (S + 6) = (100, 96) ∧ shp σ (S + 7) = (100, 8) ∧ shp σ (S + 8) = (100, 8) ∧ shp σ (S + 9) = (100, 6) ∧ shp σ (S + 10) = (100, 6) ∧ shp σ (S + 11) = (102, 6) ∧ shp σ (S + 12) = (103, 6)) ∧ (∀ l, l < 6 → iHea σ (S + 13 + 7 * l)) ∧ (∀ j, j < 9 → σ.2 S j = true) ∧ ∀ l, l < 6 → σ.2 (S + 12) l = true
def iCho (σ : Sg) (c : Nat) : Prop := (shp σ c).1 = 0
def iHis (σ : Sg) (c : Nat) : Prop := (shp σ c).1 = 2 ∧ shp σ (c + 1) = (104, 6) ∧ σ.2 c 0 = true ∧ ∀ l, l < 6 → σ.2 (c + 1) l = true ∧ iSta σ (c + 2 + 55 * l)
def iPad (σ : Sg) (c : Nat) : Prop := (shp σ c).1 = 3 ∧ shp σ (c + 1) = (101, 60) ∧ σ.2 c 0 = true
def bI (p : Prop) [Decidable p] : Int := if p then 1 else 0

