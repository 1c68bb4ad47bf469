/-! THE LAW'S WORLD: the object's cells, the arrays at any addresses behind them, the script before them -/
abbrev AdT : Type := Nat × Nat × (Nat → Nat)
def tr2 (ρ : AdT) : MV → Value
  | .inl x => .int (Int32.ofInt x)
  | .inr (.inl y) => .long y
  | .inr (.inr k) => .ref (if k = 1 then ρ.2.1 else if k < 510 then ρ.1 + k else ρ.2.2 k)
def ar2 (ρ : AdT) (cA : Nat → ClassId) (δ : Dy) (μ : Mem) (i : Nat) : Nat × va_E := (ρ.2.2 (510 + i), .inl (cA 0, δ.2.2 (510 + i), .inl (fun j => Int32.ofInt (μ (510 + i) j))))
def wlA (ρ : AdT) (cA : Nat → ClassId) (δ : Dy) (μ : Mem) : va_W := (List.range δ.2.1).map (ar2 ρ cA δ μ)
def wl2 (ρ : AdT) (cA : Nat → ClassId) (δ : Dy) (μ : Mem) : va_W := wl ρ.1 cA σ1 μ ++ wlA ρ cA δ μ
def ok2 (ρ : AdT) (δ : Dy) : Prop := (∀ i, i < δ.2.1 → ρ.1 + 510 ≤ ρ.2.2 (510 + i) ∧ δ.2.2 (510 + i) < 6000) ∧ ∀ i j, i < δ.2.1 → j < δ.2.1 → ρ.2.2 (510 + i) = ρ.2.2 (510 + j) → i = j
/-- what is known at the entry is known still -/
def ext2 (ρ0 : AdT) (δ0 : Dy) (ρ : AdT) (δ : Dy) : Prop := ρ.1 = ρ0.1 ∧ ρ.2.1 = ρ0.2.1 ∧ δ0.2.1 ≤ δ.2.1 ∧ ∀ i, i < δ0.2.1 → ρ.2.2 (510 + i) = ρ0.2.2 (510 + i) ∧ δ.2.2 (510 + i) = δ0.2.2 (510 + i)
theorem wlC_len {b : Nat} {cA : Nat → ClassId} {μ : Mem} : (wl b cA σ1 μ).length = 510 := by simp [wl, σ1]
theorem wlA_len {ρ : AdT} {cA : Nat → ClassId} {δ : Dy} {μ : Mem} : (wlA ρ cA δ μ).length = δ.2.1 := by simp [wlA]
theorem wlA_at {ρ : AdT} {cA : Nat → ClassId} {δ : Dy} {μ : Mem} {i : Nat} (h : i < δ.2.1) : (wlA ρ cA δ μ)[i]? = some (ar2 ρ cA δ μ i) := by simp [wlA, h]
theorem wlA_of {ρ : AdT} {cA : Nat → ClassId} {δ : Dy} {μ : Mem} {i : Nat} {q : Nat × va_E} (h : (wlA ρ cA δ μ)[i]? = some q) : i < δ.2.1 ∧ q = ar2 ρ cA δ μ i := by
  by_cases hk : i < δ.2.1
  · rw [wlA_at hk] at h; exact ⟨hk, (Option.some.inj h).symm⟩
  · simp [wlA, hk] at h
theorem wl2_at {ρ : AdT} {cA : Nat → ClassId} {δ : Dy} {μ : Mem} {i : Nat} (h : i < δ.2.1) : (wl2 ρ cA δ μ)[510 + i]? = some (ar2 ρ cA δ μ i) := by
  unfold wl2
  rw [List.getElem?_append_right (by rw [wlC_len]; omega), wlC_len, show 510 + i - 510 = i by omega, wlA_at h]
theorem wl2_C {ρ : AdT} {cA : Nat → ClassId} {δ : Dy} {μ : Mem} {D : va_G} {H : Heap} (h : va_P D vwCl (wl2 ρ cA δ μ) H) : va_P D vwCl (wl ρ.1 cA σ1 μ) H := fun k q hq => h k q (by
  unfold wl2
  rw [List.getElem?_append_left (List.getElem?_eq_some_iff.mp hq).1]; exact hq)
theorem wl2_A {ρ : AdT} {cA : Nat → ClassId} {δ : Dy} {μ : Mem} {D : va_G} {H : Heap} (h : va_P D vwCl (wl2 ρ cA δ μ) H) : va_P D vwCl (wlA ρ cA δ μ) H := fun k q hq => by
  obtain ⟨h1, rfl⟩ := wlA_of hq
  exact h (510 + k) _ (wl2_at h1)
theorem wl_c {b : Nat} {cA : Nat → ClassId} {σ : Sg} {μ μ' : Mem} (h : ∀ k, k < σ.1 → μ' k = μ k) : wl b cA σ μ' = wl b cA σ μ := by
  unfold wl
  refine List.map_congr_left (fun k hk => ?_)
  rw [ent_congr (h k (List.mem_range.mp hk))]
theorem wl2_D {ρ : AdT} {cA : Nat → ClassId} {δ : Dy} {μ : Mem} (h : ok2 ρ δ) : va_D (AA ρ.1) (wl2 ρ cA δ μ) := by
  refine va_D.app (wl_D (fun q hq => hq.1)) ⟨fun i j p q hi hj hpq => ?_, fun k q hk => ?_⟩ (fun i j p q hi hj hpq => ?_)
  · obtain ⟨h1, rfl⟩ := wlA_of hi
    obtain ⟨h2, rfl⟩ := wlA_of hj
    exact h.2 i j h1 h2 hpq
  · obtain ⟨h1, rfl⟩ := wlA_of hk
    have := (h.1 k h1).1
    show ρ.1 ≤ ρ.2.2 (510 + k)
    omega
  · obtain ⟨g1, rfl⟩ := wl_of hi
    obtain ⟨g2, rfl⟩ := wlA_of hj
    have h1 := (h.1 j g2).1
    have h2 : i < 510 := g1
    have h3 : ρ.1 + i = ρ.2.2 (510 + j) := hpq
    omega
/-- the world with one array changed -/
theorem wl2_set {ρ : AdT} {cA : Nat → ClassId} {δ : Dy} {μ μ' : Mem} {i : Nat} {q : Nat × va_E} (hi : i < δ.2.1) (hq : q = ar2 ρ cA δ μ' i) (hne : ∀ k, k ≠ 510 + i → μ' k = μ k) : (wl2 ρ cA δ μ).set (510 + i) q = wl2 ρ cA δ μ' := by
  unfold wl2
  rw [List.set_append_right _ _ (by rw [wlC_len]; omega), wlC_len, show 510 + i - 510 = i by omega, wl_c (μ := μ) (μ' := μ') (fun k hk => hne k (by have : k < 510 := hk; omega))]
  congr 1
  apply List.ext_getElem?
  intro j
  by_cases hj : j < δ.2.1
  · by_cases hij : i = j
    · subst hij
      rw [List.getElem?_set_self (by rw [wlA_len]; exact hi), wlA_at hj, hq]
    · rw [List.getElem?_set_ne hij, wlA_at hj, wlA_at hj]
      unfold ar2
      rw [hne (510 + j) (by omega)]
  · rw [List.getElem?_eq_none (by rw [List.length_set, wlA_len]; omega), List.getElem?_eq_none (by rw [wlA_len]; omega)]
/-- the world with one array more -/
theorem wl2_push {b sc q N : Nat} {ad : Nat → Nat} {cA : Nat → ClassId} {δ : Dy} {μ : Mem} : wl2 (b, sc, upl ad (510 + δ.2.1) q) cA (δ.1 + 1, δ.2.1 + 1, upl δ.2.2 (510 + δ.2.1) N) (zr μ (510 + δ.2.1)) = wl2 (b, sc, ad) cA δ μ ++ [(q, .inl (cA 0, N, .inl (fun _ => 0)))] := by
  unfold wl2 wlA
  show wl b cA σ1 _ ++ (List.range (δ.2.1 + 1)).map _ = _
  rw [List.range_succ, List.map_append, wl_c (μ := μ) (fun k hk => zr_o (by have : k < 510 := hk; omega)), List.append_assoc]
  congr 2
  · refine List.map_congr_left (fun i hi => ?_)
    have hi := List.mem_range.mp hi
    unfold ar2
    dsimp only
    rw [upl_o (by omega), upl_o (by omega), zr_o (by omega)]
  · show [ar2 _ _ _ _ _] = _
    unfold ar2
    dsimp only
    rw [upl_s, upl_s]
    congr 6
    funext j
    rw [zr_s]
    rfl
theorem ok2_push {b sc q N : Nat} {ad : Nat → Nat} {cA : Nat → ClassId} {δ : Dy} {μ : Mem} {x : va_E} (h : ok2 (b, sc, ad) δ) (hN : N < 6000) (hD : va_D (AA b) (wl2 (b, sc, ad) cA δ μ ++ [(q, x)])) : ok2 (b, sc, upl ad (510 + δ.2.1) q) (δ.1 + 1, δ.2.1 + 1, upl δ.2.2 (510 + δ.2.1) N) := by
  have hlen : (wl2 (b, sc, ad) cA δ μ).length = 510 + δ.2.1 := by unfold wl2; rw [List.length_append, wlC_len, wlA_len]
  have hq : (wl2 (b, sc, ad) cA δ μ ++ [(q, x)])[510 + δ.2.1]? = some (q, x) := by rw [List.getElem?_append_right (by omega), hlen, Nat.sub_self]; rfl
  have hb : b ≤ q := hD.2 _ _ hq
  have hold : ∀ i, i < δ.2.1 → (wl2 (b, sc, ad) cA δ μ ++ [(q, x)])[510 + i]? = some (ar2 (b, sc, ad) cA δ μ i) := fun i hi => by rw [List.getElem?_append_left (by omega), wl2_at hi]
  have hge : b + 510 ≤ q := by
    rcases Nat.lt_or_ge q (b + 510) with h1 | h1
    · exfalso
      have hk : q - b < 510 := by omega
      have hi : (wl2 (b, sc, ad) cA δ μ ++ [(q, x)])[q - b]? = some (b + (q - b), ent b cA σ1 μ (q - b)) := by
        rw [List.getElem?_append_left (by omega)]
        unfold wl2
        rw [List.getElem?_append_left (by rw [wlC_len]; exact hk)]
        exact wl_at (σ := σ1) hk
      have := hD.1 _ _ _ _ hi hq (by show b + (q - b) = q; omega)
      omega
    · exact h1
  have hnew : ∀ i, i < δ.2.1 → ad (510 + i) ≠ q := fun i hi e => by
    have := hD.1 _ _ _ _ (hold i hi) hq e
    omega
  refine ⟨fun i hi => ?_, fun i j hi hj e => ?_⟩
  · dsimp only at hi ⊢
    by_cases e : i = δ.2.1
    · rw [e, upl_s, upl_s]; exact ⟨hge, hN⟩
    · rw [upl_o (by omega), upl_o (by omega)]; exact h.1 i (by omega)
  · dsimp only at hi hj e
    by_cases ei : i = δ.2.1
    · by_cases ej : j = δ.2.1
      · omega
      · rw [ei, upl_s, upl_o (by omega)] at e
        exact absurd e.symm (hnew j (by omega))
    · by_cases ej : j = δ.2.1
      · rw [ej, upl_s, upl_o (by omega)] at e
        exact absurd e (hnew i (by omega))
      · rw [upl_o (by omega), upl_o (by omega)] at e
        exact h.2 i j (by omega) (by omega) e
-- locals
def LQ (ρ : AdT) (nL : Nat) (ls : Ls) (lsA : Array Slot) : Prop := lsA.size = nL ∧ lv_wf lsA ∧ ls.length = nL ∧ ∀ (i : Nat) (v : MV), ls[i]? = some (some v) → lsA[i]? = some (.val (tr2 ρ v))
def lqk (ρ : AdT) (ls : Ls) : List (Nat × Value) := (List.range ls.length).filterMap (fun i => (ls.getD i none).map (fun v => (i, tr2 ρ v)))
theorem lqk_mem {ρ : AdT} {ls : Ls} {i : Nat} {v : MV} (h : ls[i]? = some (some v)) : (i, tr2 ρ v) ∈ lqk ρ ls := by
  have hi : i < ls.length := (List.getElem?_eq_some_iff.mp h).1
  refine List.mem_filterMap.mpr ⟨i, List.mem_range.mpr hi, ?_⟩
  simp [List.getD, h]
theorem lqk_of {ρ : AdT} {ls : Ls} {q : Nat × Value} (h : q ∈ lqk ρ ls) : ∃ v, ls[q.1]? = some (some v) ∧ q.2 = tr2 ρ v := by
  obtain ⟨i, hi, h⟩ := List.mem_filterMap.mp h
  have hi := List.mem_range.mp hi
  cases e : ls.getD i none with
  | none => rw [e] at h; cases h
  | some v =>
    rw [e] at h
    cases h
    refine ⟨v, ?_, rfl⟩
    rw [← e]
    simp [List.getD, hi]
theorem LQ.has {ρ : AdT} {nL : Nat} {ls : Ls} {lsA : Array Slot} (h : LQ ρ nL ls lsA) : lv_has lsA nL (lqk ρ ls) := by
  refine ⟨h.1, h.2.1, fun q hq => ?_⟩
  obtain ⟨v, h1, h2⟩ := lqk_of hq
  rw [h2]
  exact h.2.2.2 _ v h1
theorem nLg_cat2 {ρ : AdT} {v : MV} (h : nLg (some v)) : (tr2 ρ v).category = 1 := by
  rcases v with x | x | k
  · rfl
  · exact h.elim
  · rfl
theorem LQ_st {ρ : AdT} {nL : Nat} {ls : Ls} {lsA : Array Slot} {i : Nat} {v : MV} (hok : okS ls i) (hlen : ls.length = nL)
    (h : lv_has lsA nL ((i, tr2 ρ v) :: (lqk ρ ls).filter (fun q => !(q.1 == i) && !(q.1 + 1 == i && q.2.category == 2)))) : LQ ρ nL (stL ls i (some v)) lsA := by
  refine ⟨h.1, h.2.1, by rw [stL_len]; exact hlen, fun j w hj => ?_⟩
  rw [stL_get] at hj
  by_cases hji : j = i
  · rw [if_pos ⟨hji, okS_lt _ _ hok⟩] at hj
    have e : v = w := by simpa using hj
    rw [hji, ← e]
    exact h.2.2 _ List.mem_cons_self
  · rw [if_neg (fun q => hji q.1)] at hj
    refine h.2.2 (j, tr2 ρ w) (List.mem_cons_of_mem _ (List.mem_filter.mpr ⟨lqk_mem hj, ?_⟩))
    by_cases hj1 : j + 1 = i
    · subst hj1
      have := nLg_cat2 (ρ := ρ) (okS_get ls j _ hok hj)
      simp [this]
    · simp [hji, hj1]
theorem LQ_st2 {ρ : AdT} {nL : Nat} {ls : Ls} {lsA : Array Slot} {i : Nat} {v : MV} (hok : okS2 ls i) (hlen : ls.length = nL)
    (h : lv_has lsA nL ((i, tr2 ρ v) :: (lqk ρ ls).filter (fun q => !(q.1 == i) && (!(q.1 == i + 1) && !(q.1 + 1 == i && q.2.category == 2))))) : LQ ρ nL (stL (stL ls i (some v)) (i + 1) none) lsA := by
  refine ⟨h.1, h.2.1, by rw [stL_len, stL_len]; exact hlen, fun j w hj => ?_⟩
  rw [stL_get, stL_get, stL_len] at hj
  have hl := okS2_lt _ _ hok
  by_cases hj2 : j = i + 1
  · rw [if_pos ⟨hj2, hl⟩] at hj
    cases hj
  · rw [if_neg (fun q => hj2 q.1)] at hj
    by_cases hji : j = i
    · rw [if_pos ⟨hji, by omega⟩] at hj
      have e : v = w := by simpa using hj
      rw [hji, ← e]
      exact h.2.2 _ List.mem_cons_self
    · rw [if_neg (fun q => hji q.1)] at hj
      refine h.2.2 (j, tr2 ρ w) (List.mem_cons_of_mem _ (List.mem_filter.mpr ⟨lqk_mem hj, ?_⟩))
      by_cases hj1 : j + 1 = i
      · subst hj1
        have := nLg_cat2 (ρ := ρ) (okS2_get ls j _ hok hj)
        simp [this]
        omega
      · simp [hji, hj1, hj2]
theorem noR_g {n : Nat} : ∀ {ls : Ls} {i : Nat} {v : MV}, noR n ls → ls[i]? = some (some v) → v ≠ .inr (.inr n)
  | [], i, v, _, h => by simp at h
  | o :: t, 0, v, hn, h => by
    have e : o = some v := by simpa using h
    subst e
    rcases v with x | x | k
    · intro q; cases q
    · intro q; cases q
    · intro q
      have : k = n := by injection q with q; injection q
      exact hn.1 this
  | o :: t, i + 1, v, hn, h => by
    have ht : noR n t := by
      rcases o with _ | x | x | k
      · exact hn
      · exact hn
      · exact hn
      · exact hn.2
    exact noR_g ht (by simpa using h)
theorem tr2_u {b sc : Nat} {ad : Nat → Nat} {n q : Nat} {v : MV} (h : v ≠ .inr (.inr n)) : tr2 (b, sc, upl ad n q) v = tr2 (b, sc, ad) v := by
  rcases v with x | x | k
  · rfl
  · rfl
  · have hk : k ≠ n := fun e => h (by rw [e])
    show Value.ref _ = Value.ref _
    dsimp only
    rw [upl_o hk]
theorem LQ_u {b sc : Nat} {ad : Nat → Nat} {n q nL : Nat} {ls : Ls} {lsA : Array Slot} (hn : noR n ls) (h : LQ (b, sc, ad) nL ls lsA) : LQ (b, sc, upl ad n q) nL ls lsA :=
  ⟨h.1, h.2.1, h.2.2.1, fun i v hi => by rw [tr2_u (noR_g hn hi)]; exact h.2.2.2 i v hi⟩
theorem lenC_cat {ρ : AdT} : ∀ {n : Nat} {st : List MV}, lenC n st → ((st.map (tr2 ρ)).map fun v => v.category).sum ≤ n
  | _, [], _ => by simp
  | 0, a :: t, h => by rcases a with x | x | k <;> exact h.elim
  | n + 1, .inl x :: t, h => by
    have := lenC_cat (ρ := ρ) (n := n) (st := t) h
    simp only [List.map_cons, List.sum_cons]
    show 1 + _ ≤ _
    omega
  | n + 1, .inr (.inl x) :: t, h => h.elim
  | n + 1, .inr (.inr x) :: t, h => by
    have := lenC_cat (ρ := ρ) (n := n) (st := t) h
    simp only [List.map_cons, List.sum_cons]
    show 1 + _ ≤ _
    omega
theorem ext2_r {ρ : AdT} {δ : Dy} : ext2 ρ δ ρ δ := ⟨rfl, rfl, Nat.le_refl _, fun _ _ => ⟨rfl, rfl⟩⟩
theorem wl2_ext {ρ0 ρ : AdT} {δ0 δ : Dy} {cA : Nat → ClassId} {μ : Mem} {D : va_G} {H : Heap} (h : ext2 ρ0 δ0 ρ δ) (hP : va_P D vwCl (wl2 ρ cA δ μ) H) : va_P D vwCl (wl2 ρ0 cA δ0 μ) H := by
  unfold wl2
  refine va_P.app ?_ (fun k q hk => ?_)
  · rw [← h.1]; exact wl2_C hP
  · obtain ⟨h1, rfl⟩ := wlA_of hk
    have q := wl2_A hP k _ (wlA_at (Nat.lt_of_lt_of_le h1 h.2.2.1))
    obtain ⟨e1, e2⟩ := h.2.2.2 k h1
    unfold ar2 at q
    rw [e1, e2] at q
    exact q
