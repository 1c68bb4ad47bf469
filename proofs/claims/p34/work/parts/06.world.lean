/-! THE WORLD of the small machine as cells of the heap -/
def tr (base : Nat) : MV → Value
  | .inl x => .int (Int32.ofInt x)
  | .inr (.inl y) => .long y
  | .inr (.inr k) => .ref (base + k)
def fldV (base : Nat) (σ : Sg) (μ : Mem) (k j f : Nat) : Value := match f with
  | 0 => .int (Int32.ofInt (μ k j))
  | 1 => .int (Int32.ofInt (μ k j))
  | n + 2 => if σ.2 k j = true then .ref (base + (k + n)) else .null
def ptrs (base : Nat) (σ : Sg) (k b c : Nat) : Nat → Option Nat := fun j => if σ.2 k j = true then some (base + (k + b + c * j)) else none
def entV (base : Nat) (cA : Nat → ClassId) (σ : Sg) (μ : Mem) (k kd n : Nat) : va_E :=
  if kd = 100 then .inl (cA 0, n, .inl fun j => Int32.ofInt (μ k j))
  else if kd = 101 then .inl (cA 1, n, .inl fun j => Int32.ofInt (μ k j))
  else if kd = 102 then .inl (cA 2, n, .inl fun j => Int32.ofInt (μ k j))
  else if kd = 103 then .inl (cA 3, n, .inr (.inr (.inr (.inr (ptrs base σ k 1 7)))))
  else if kd = 104 then .inl (cA 4, n, .inr (.inr (.inr (.inr (ptrs base σ k 1 55)))))
  else if kd = 105 then .inl (cA 4, n, .inr (.inr (.inr (.inr (ptrs base σ k 12 55)))))
  else .inr (kd, (fks kd).mapIdx (fun j f => fldV base σ μ k j f))
def ent (base : Nat) (cA : Nat → ClassId) (σ : Sg) (μ : Mem) (k : Nat) : va_E := entV base cA σ μ k (lay.getD k (999, 0)).1 (lay.getD k (999, 0)).2
def wl (base : Nat) (cA : Nat → ClassId) (σ : Sg) (μ : Mem) : va_W := (List.range σ.1).map (fun k => (base + k, ent base cA σ μ k))
def tysA (cA : Nat → ClassId) : List (ClassId × FieldType) := [(cA 0, .int), (cA 1, .char), (cA 2, .boolean), (cA 3, .object RX1), (cA 4, .object RX5)]
def AA (base : Nat) : Nat → Prop := fun q => base ≤ q
theorem shp_of {σ : Sg} {k kd : Nat} (h : (shp σ k).1 = kd) (hk : kd ≠ 999) : k < σ.1 ∧ (lay.getD k (999, 0)).1 = kd ∧ (shp σ k).2 = (lay.getD k (999, 0)).2 := by
  unfold shp at h ⊢
  by_cases q : k < σ.1
  · rw [if_pos q] at h ⊢; exact ⟨q, h, rfl⟩
  · rw [if_neg q] at h; exact absurd h.symm hk
theorem wl_at {base : Nat} {cA : Nat → ClassId} {σ : Sg} {μ : Mem} {k : Nat} (hk : k < σ.1) : (wl base cA σ μ)[k]? = some (base + k, ent base cA σ μ k) := by
  simp [wl, hk]
theorem wl_of {base : Nat} {cA : Nat → ClassId} {σ : Sg} {μ : Mem} {k : Nat} {q : Nat × va_E} (h : (wl base cA σ μ)[k]? = some q) : k < σ.1 ∧ q = (base + k, ent base cA σ μ k) := by
  by_cases hk : k < σ.1
  · rw [wl_at hk] at h; exact ⟨hk, (Option.some.inj h).symm⟩
  · simp [wl, hk] at h
theorem ent_congr {base : Nat} {cA : Nat → ClassId} {σ : Sg} {μ μ' : Mem} {k : Nat} (h : μ' k = μ k) : ent base cA σ μ' k = ent base cA σ μ k := by
  simp only [ent, entV, fldV, h]
theorem wl_set {base : Nat} {cA : Nat → ClassId} {σ : Sg} {μ μ' : Mem} {k : Nat} {e' : va_E} (he : e' = ent base cA σ μ' k) (hne : ∀ i, i ≠ k → μ' i = μ i) : (wl base cA σ μ).set k (base + k, e') = wl base cA σ μ' := by
  apply List.ext_getElem?
  intro i
  by_cases hi : i < σ.1
  · by_cases hik : k = i
    · subst hik
      rw [List.getElem?_set_self (by simp [wl, hi]), wl_at hi, he]
    · rw [List.getElem?_set_ne hik, wl_at hi, wl_at hi, ent_congr (hne i (fun q => hik q.symm))]
  · have h1 : (wl base cA σ μ').length ≤ i := by simp [wl]; omega
    have h2 : ((wl base cA σ μ).set k (base + k, e')).length ≤ i := by simp [wl]; omega
    rw [List.getElem?_eq_none h1, List.getElem?_eq_none h2]
/-- the addresses of a world's cells -/
def AC (base : Nat) (σ : Sg) : Nat → Prop := fun q => base ≤ q ∧ q < base + σ.1
theorem wl_D {base : Nat} {cA : Nat → ClassId} {σ : Sg} {μ : Mem} {A : Nat → Prop} (hA : ∀ q, AC base σ q → A q) : va_D A (wl base cA σ μ) := by
  refine ⟨fun i j p q hi hj hpq => ?_, fun k q hk => ?_⟩
  · obtain ⟨-, rfl⟩ := wl_of hi
    obtain ⟨-, rfl⟩ := wl_of hj
    have : base + i = base + j := hpq
    omega
  · obtain ⟨h2, rfl⟩ := wl_of hk
    exact hA _ ⟨Nat.le_add_right _ _, Nat.add_lt_add_left h2 _⟩
theorem lay_small : ∀ q ∈ lay, q.2 < 6000 := by decide +kernel
theorem shp_small (σ : Sg) (k : Nat) : (shp σ k).2 < 6000 := by
  unfold shp
  split
  · by_cases hk : k < lay.length
    · have := lay_small (lay.getD k (999, 0)) (by simp [List.getD, hk])
      exact this
    · simp [List.getD, hk]
  · decide
theorem ms_ne {μ : Mem} {k j : Nat} {v : Int} : ∀ i, i ≠ k → ms μ k j v i = μ i := by
  intro i hi
  funext j'
  simp [ms, hi]
theorem mcp_ne {μ : Mem} {k0 sp k1 dp n : Nat} : ∀ i, i ≠ k1 → mcp μ k0 sp k1 dp n i = μ i := by
  intro i hi
  funext j'
  simp [mcp, hi]
-- numbers
theorem inR_toInt {x : Int} (h : inR x) : (Int32.ofInt x).toInt = x := Int32.toInt_ofInt_of_le h.1 (by have := h.2; omega)
theorem i32_lt {x y : Int} (hx : inR x) (hy : inR y) : Int32.ofInt x < Int32.ofInt y ↔ x < y := by
  rw [Int32.lt_iff_toInt_lt, inR_toInt hx, inR_toInt hy]
theorem i32_le {x y : Int} (hx : inR x) (hy : inR y) : Int32.ofInt x ≤ Int32.ofInt y ↔ x ≤ y := by
  rw [Int32.le_iff_toInt_le, inR_toInt hx, inR_toInt hy]
theorem i32_inj {x y : Int} (hx : inR x) (hy : inR y) (h : Int32.ofInt x = Int32.ofInt y) : x = y := by
  rw [← inR_toInt hx, ← inR_toInt hy, h]
theorem cEq_u {x y : Int} {a b : Prop} (h : cEq x y a b) : (Int32.ofInt x = Int32.ofInt y → a) ∧ (¬ Int32.ofInt x = Int32.ofInt y → b) := by
  by_cases e : x = y
  · exact ⟨fun _ => h.1 e, fun q => absurd (by rw [e]) q⟩
  · obtain ⟨h1, h2, h3⟩ := h.2 e
    exact ⟨fun q => absurd (i32_inj h1 h2 q) e, fun _ => h3⟩
theorem cLt_u {x y : Int} {a b : Prop} (h : cLt x y a b) : (Int32.ofInt x < Int32.ofInt y → a) ∧ (¬ Int32.ofInt x < Int32.ofInt y → b) :=
  ⟨fun q => h.2.2.1 ((i32_lt h.1 h.2.1).mp q), fun q => h.2.2.2 (Int.not_lt.mp (fun z => q ((i32_lt h.1 h.2.1).mpr z)))⟩
theorem cLt_v {x y : Int} {a b : Prop} (h : cLt x y a b) : (Int32.ofInt y ≤ Int32.ofInt x → b) ∧ (¬ Int32.ofInt y ≤ Int32.ofInt x → a) :=
  ⟨fun q => h.2.2.2 ((i32_le h.2.1 h.1).mp q), fun q => h.2.2.1 (Int.not_le.mp (fun z => q ((i32_le h.2.1 h.1).mpr z)))⟩
theorem clamp_i {i : Int} {n : Nat} (h0 : 0 ≤ i) (h1 : i < (n : Int)) (hn : n < 6000) : (Int32.ofInt i).toNatClampNeg = i.toNat := by
  have : (Int32.ofInt i).toInt = i := inR_toInt ⟨by omega, by omega⟩
  show (Int32.ofInt i).toInt.toNat = _
  rw [this]
theorem in_i {i : Int} {n : Nat} (h0 : 0 ≤ i) (h1 : i < (n : Int)) (hn : n < 6000) : vp_in (Int32.ofInt i) n := by
  rw [vp_in_iff, inR_toInt ⟨by omega, by omega⟩]
  exact ⟨h0, h1⟩
-- locals
def LR (base nL : Nat) (ls : Ls) (lsA : Array Slot) : Prop := lsA.size = nL ∧ lv_wf lsA ∧ ls.length = nL ∧ ∀ (i : Nat) (v : MV), ls[i]? = some (some v) → lsA[i]? = some (.val (tr base v))
def lpk (base : Nat) (ls : Ls) : List (Nat × Value) := (List.range ls.length).filterMap (fun i => (ls.getD i none).map (fun v => (i, tr base v)))
theorem lpk_mem {base : Nat} {ls : Ls} {i : Nat} {v : MV} (h : ls[i]? = some (some v)) : (i, tr base v) ∈ lpk base ls := by
  have hi : i < ls.length := (List.getElem?_eq_some_iff.mp h).1
  refine List.mem_filterMap.mpr ⟨i, List.mem_range.mpr hi, ?_⟩
  simp [List.getD, h]
theorem lpk_of {base : Nat} {ls : Ls} {q : Nat × Value} (h : q ∈ lpk base ls) : ∃ v, ls[q.1]? = some (some v) ∧ q.2 = tr base v := by
  obtain ⟨i, hi, h⟩ := List.mem_filterMap.mp h
  have hi := List.mem_range.mp hi
  cases e : ls.getD i none with
  | none => rw [e] at h; cases h
  | some v =>
    rw [e] at h
    cases h
    refine ⟨v, ?_, rfl⟩
    rw [← e]
    simp [List.getD, hi]
theorem LR.has {base nL : Nat} {ls : Ls} {lsA : Array Slot} (h : LR base nL ls lsA) : lv_has lsA nL (lpk base ls) := by
  refine ⟨h.1, h.2.1, fun q hq => ?_⟩
  obtain ⟨v, h1, h2⟩ := lpk_of hq
  rw [h2]
  exact h.2.2.2 _ v h1
theorem stL_len (x : Option MV) : ∀ (ls : Ls) (i : Nat), (stL ls i x).length = ls.length
  | [], i => by cases i <;> rfl
  | _ :: _, 0 => rfl
  | _ :: t, i + 1 => by show (stL t i x).length + 1 = t.length + 1; rw [stL_len x t i]
theorem stL_get (x : Option MV) : ∀ (ls : Ls) (i j : Nat), (stL ls i x)[j]? = if j = i ∧ i < ls.length then some x else ls[j]?
  | [], i, j => by cases i <;> simp [stL]
  | h :: t, 0, j => by cases j <;> simp [stL]
  | h :: t, i + 1, 0 => by simp [stL]
  | h :: t, i + 1, j + 1 => by
    show (stL t i x)[j]? = _
    rw [stL_get x t i j]
    simp
theorem okS_lt : ∀ (ls : Ls) (i : Nat), okS ls i → i < ls.length
  | [], i, h => by cases i with | zero => exact h.elim | succ i => cases i <;> exact h.elim
  | _ :: _, 0, _ => Nat.zero_lt_succ _
  | [_], 1, h => h.elim
  | _ :: _ :: _, 1, _ => by simp
  | h :: t, n + 2, q => by
    rw [okS_s] at q
    have := okS_lt t (n + 1) q
    simp only [List.length_cons]
    omega
theorem okS_get : ∀ (ls : Ls) (i : Nat) (o : Option MV), okS ls (i + 1) → ls[i]? = some o → nLg o
  | [], i, o, _, h => by simp at h
  | [_], 0, o, q, _ => q.elim
  | h :: _ :: _, 0, o, q, e => by
    have : h = o := by simpa using e
    rw [← this]; exact q
  | h :: t, n + 1, o, q, e => by
    rw [okS_s] at q
    exact okS_get t n o q (by simpa using e)
theorem okS2_lt : ∀ (ls : Ls) (i : Nat), okS2 ls i → i + 1 < ls.length
  | [], i, h => by cases i with | zero => exact h.elim | succ i => cases i <;> exact h.elim
  | [_], 0, h => h.elim
  | _ :: _ :: _, 0, _ => by simp
  | [_], 1, h => h.elim
  | [_, _], 1, h => h.elim
  | _ :: _ :: _ :: _, 1, _ => by simp
  | h :: t, n + 2, q => by
    rw [okS2_s] at q
    have := okS2_lt t (n + 1) q
    simp only [List.length_cons]
    omega
theorem okS2_get : ∀ (ls : Ls) (i : Nat) (o : Option MV), okS2 ls (i + 1) → ls[i]? = some o → nLg o
  | [], i, o, _, h => by simp at h
  | [_], 0, o, q, _ => q.elim
  | [_, _], 0, o, q, _ => q.elim
  | h :: _ :: _ :: _, 0, o, q, e => by
    have : h = o := by simpa using e
    rw [← this]; exact q
  | h :: t, n + 1, o, q, e => by
    rw [okS2_s] at q
    exact okS2_get t n o q (by simpa using e)
theorem nLg_cat {base : Nat} {v : MV} (h : nLg (some v)) : (tr base v).category = 1 := by
  rcases v with x | x | k
  · rfl
  · exact h.elim
  · rfl
theorem LR_st {base nL : Nat} {ls : Ls} {lsA : Array Slot} {i : Nat} {v : MV} (hok : okS ls i) (hlen : ls.length = nL)
    (h : lv_has lsA nL ((i, tr base v) :: (lpk base ls).filter (fun q => !(q.1 == i) && !(q.1 + 1 == i && q.2.category == 2)))) : LR base nL (stL ls i (some v)) lsA := by
  refine ⟨h.1, h.2.1, by rw [stL_len]; exact hlen, fun j w hj => ?_⟩
  rw [stL_get] at hj
  by_cases hji : j = i
  · rw [if_pos ⟨hji, okS_lt _ _ hok⟩] at hj
    have e : v = w := by simpa using hj
    rw [hji, ← e]
    exact h.2.2 _ List.mem_cons_self
  · rw [if_neg (fun q => hji q.1)] at hj
    refine h.2.2 (j, tr base w) (List.mem_cons_of_mem _ (List.mem_filter.mpr ⟨lpk_mem hj, ?_⟩))
    by_cases hj1 : j + 1 = i
    · subst hj1
      have := nLg_cat (base := base) (okS_get ls j _ hok hj)
      simp [this]
    · simp [hji, hj1]
theorem LR_st2 {base nL : Nat} {ls : Ls} {lsA : Array Slot} {i : Nat} {v : MV} (hok : okS2 ls i) (hlen : ls.length = nL)
    (h : lv_has lsA nL ((i, tr base v) :: (lpk base ls).filter (fun q => !(q.1 == i) && (!(q.1 == i + 1) && !(q.1 + 1 == i && q.2.category == 2))))) : LR base nL (stL (stL ls i (some v)) (i + 1) none) lsA := by
  refine ⟨h.1, h.2.1, by rw [stL_len, stL_len]; exact hlen, fun j w hj => ?_⟩
  rw [stL_get, stL_get, stL_len] at hj
  have hl := okS2_lt _ _ hok
  by_cases hj2 : j = i + 1
  · rw [if_pos ⟨hj2, hl⟩] at hj
    cases hj
  · rw [if_neg (fun q => hj2 q.1)] at hj
    by_cases hji : j = i
    · rw [if_pos ⟨hji, by omega⟩] at hj
      have e : v = w := by simpa using hj
      rw [hji, ← e]
      exact h.2.2 _ List.mem_cons_self
    · rw [if_neg (fun q => hji q.1)] at hj
      refine h.2.2 (j, tr base w) (List.mem_cons_of_mem _ (List.mem_filter.mpr ⟨lpk_mem hj, ?_⟩))
      by_cases hj1 : j + 1 = i
      · subst hj1
        have := nLg_cat (base := base) (okS2_get ls j _ hok hj)
        simp [this]
        omega
      · simp [hji, hj1, hj2]
-- what an operand's reading says
theorem p1_g {st : List MV} {f : Int → List MV → Prop} (h : p1 st f) : ∃ x r, st = .inl x :: r ∧ f x r := by
  unfold p1 at h; split at h
  · exact ⟨_, _, rfl, h⟩
  · exact h.elim
theorem p2_g {st : List MV} {f : Int → Int → List MV → Prop} (h : p2 st f) : ∃ x y r, st = .inl y :: .inl x :: r ∧ f x y r := by
  unfold p2 at h; split at h
  · exact ⟨_, _, _, rfl, h⟩
  · exact h.elim
theorem pR_g {st : List MV} {f : Nat → List MV → Prop} (h : pR st f) : ∃ x r, st = .inr (.inr x) :: r ∧ f x r := by
  unfold pR at h; split at h
  · exact ⟨_, _, rfl, h⟩
  · exact h.elim
theorem pA_g {st : List MV} {f : Nat → Int → List MV → Prop} (h : pA st f) : ∃ k i r, st = .inl i :: .inr (.inr k) :: r ∧ f k i r := by
  unfold pA at h; split at h
  · exact ⟨_, _, _, rfl, h⟩
  · exact h.elim
theorem pAS_g {st : List MV} {f : Nat → Int → Int → List MV → Prop} (h : pAS st f) : ∃ k i v r, st = .inl v :: .inl i :: .inr (.inr k) :: r ∧ f k i v r := by
  unfold pAS at h; split at h
  · exact ⟨_, _, _, _, rfl, h⟩
  · exact h.elim
theorem pL_g {st : List MV} {f : Int64 → List MV → Prop} (h : pL st f) : ∃ x r, st = .inr (.inl x) :: r ∧ f x r := by
  unfold pL at h; split at h
  · exact ⟨_, _, rfl, h⟩
  · exact h.elim
theorem pLL_g {st : List MV} {f : Int64 → Int64 → List MV → Prop} (h : pLL st f) : ∃ x y r, st = .inr (.inl y) :: .inr (.inl x) :: r ∧ f x y r := by
  unfold pLL at h; split at h
  · exact ⟨_, _, _, rfl, h⟩
  · exact h.elim
theorem pLI_g {st : List MV} {f : Int64 → Int → List MV → Prop} (h : pLI st f) : ∃ x y r, st = .inl y :: .inr (.inl x) :: r ∧ f x y r := by
  unfold pLI at h; split at h
  · exact ⟨_, _, _, rfl, h⟩
  · exact h.elim
theorem pD_g {st : List MV} {f : MV → List MV → Prop} (h : pD st f) : ∃ v r, st = v :: r ∧ nLg (some v) ∧ f v r := by
  unfold pD at h; split at h
  · exact ⟨_, _, rfl, trivial, h⟩
  · exact ⟨_, _, rfl, trivial, h⟩
  · exact h.elim
theorem pC_g {st : List MV} {f : Nat → Int → Nat → Int → Int → List MV → Prop} (h : pC st f) : ∃ k0 sp k1 dp n r, st = .inl n :: .inl dp :: .inr (.inr k1) :: .inl sp :: .inr (.inr k0) :: r ∧ f k0 sp k1 dp n r := by
  unfold pC at h; split at h
  · exact ⟨_, _, _, _, _, _, rfl, h⟩
  · exact h.elim
theorem tk_g {n : Nat} {st : List MV} {f : List MV → List MV → Prop} (h : tk n st f) : ∃ vs r, st = vs.reverse ++ r ∧ vs.length = n ∧ f vs r := by
  unfold tk at h; split at h
  · exact ⟨[], _, rfl, rfl, h⟩
  · exact ⟨[_], _, rfl, rfl, h⟩
  · exact ⟨[_, _], _, rfl, rfl, h⟩
  · exact ⟨[_, _, _], _, rfl, rfl, h⟩
  · exact ⟨[_, _, _, _], _, rfl, rfl, h⟩
  · exact h.elim
theorem ldI_g : ∀ {ls : Ls} {n : Nat} {f : Int → Prop}, ldI ls n f → ∃ x, ls[n]? = some (some (.inl x)) ∧ f x
  | [], n, f, h => by cases n <;> exact h.elim
  | a :: t, 0, f, h => by
    simp only [ldI] at h
    split at h
    · exact ⟨_, rfl, h⟩
    · exact h.elim
  | a :: t, n + 1, f, h => ldI_g (ls := t) (n := n) (by rw [ldI_s] at h; exact h)
theorem ldL_g : ∀ {ls : Ls} {n : Nat} {f : Int64 → Prop}, ldL ls n f → ∃ x, ls[n]? = some (some (.inr (.inl x))) ∧ f x
  | [], n, f, h => by cases n <;> exact h.elim
  | a :: t, 0, f, h => by
    simp only [ldL] at h
    split at h
    · exact ⟨_, rfl, h⟩
    · exact h.elim
  | a :: t, n + 1, f, h => ldL_g (ls := t) (n := n) (by rw [ldL_s] at h; exact h)
theorem ldR_g : ∀ {ls : Ls} {n : Nat} {f : Nat → Prop}, ldR ls n f → ∃ x, ls[n]? = some (some (.inr (.inr x))) ∧ f x
  | [], n, f, h => by cases n <;> exact h.elim
  | a :: t, 0, f, h => by
    simp only [ldR] at h
    split at h
    · exact ⟨_, rfl, h⟩
    · exact h.elim
  | a :: t, n + 1, f, h => ldR_g (ls := t) (n := n) (by rw [ldR_s] at h; exact h)
theorem len4_cat {base : Nat} : ∀ {r : List MV}, len4 r → ((r.map (tr base)).map fun v => v.category).sum ≤ 8 := by
  intro r h
  have h1 : ∀ v : MV, (tr base v).category ≤ 2 := fun v => by rcases v with x | x | k <;> simp [tr, Value.category]
  have h2 : r.length ≤ 4 := by unfold len4 at h; split at h <;> simp_all
  have h3 : ∀ r : List MV, ((r.map (tr base)).map fun v => v.category).sum ≤ 2 * r.length := by
    intro r
    induction r with
    | nil => simp
    | cons a t ih => simp only [List.map_cons, List.sum_cons, List.length_cons]; have := h1 a; omega
  have := h3 r
  omega
theorem swc_g {pc : Nat} {K : Nat → Prop} {x : Int} : ∀ {os : List Int} {v : Int} {i : Nat} {o : Int}, swc pc K x v os → os[i]? = some o → x = v + i → K ((pc : Int) + o).toNat
  | [], _, _, _, _, h, _ => by simp at h
  | a :: t, v, 0, o, q, h, e => by
    have : a = o := by simpa using h
    rw [← this]; exact q.1 (by omega)
  | a :: t, v, i + 1, o, q, h, e => swc_g (os := t) (v := v + 1) (i := i) q.2 (by simpa using h) (by omega)
