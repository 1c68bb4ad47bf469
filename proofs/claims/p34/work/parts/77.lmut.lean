/-! THE CHANGES AS THE LAW MEETS THEM -/
theorem MZ_c {z w : Rw} (h0 : w 0 = z 0) (h1 : w 1 = z 1) (hm : ∀ i : Nat, (i : Int) < z 0 → w (4 + 3 * i) = z (4 + 3 * i)) (H : MZ z) : MZ w := by
  refine ⟨fun i hi => ?_, fun i j hi hj e => ?_⟩
  · rw [h0] at hi
    rw [h1]
    show w (4 + 3 * i) < z 1
    rw [hm i hi]
    exact H.1 i hi
  · rw [h0] at hi hj
    have e : w (4 + 3 * i) = w (4 + 3 * j) := e
    rw [hm i hi, hm j hj] at e
    exact H.2 i j hi hj e
theorem St_MF {z w : Rw} {a : Hs} {μ μ' : Mem} (hI : IZ w) (hM : MZ w) (h : MF w a μ μ') : St w μ' ∧ ∀ k, 510 ≤ k → μ' k = μ k := ⟨⟨hI, hM, h.2.1, a, h.2.2⟩, h.1⟩
theorem St_MG {w : Rw} {R : Rw → Prop} {a : Hs} {μ μ' : Mem} (hI : IZ w) (hM : MZ w) (hw : R w) (h : MG R a μ μ') : St w μ' ∧ ∀ k, 510 ≤ k → μ' k = μ k := ⟨⟨hI, hM, h.2.1 w hw, a, h.2.2⟩, h.1⟩
section LMT
variable {Q : QT} {μ : Mem} {z : Rw}
theorem m_change {s : Nat} {v : Int} (hS : St z μ) (hs : (s : Int) < z 0) (hv : 1 ≤ v ∧ v ≤ 300) (h : ∀ μ', St (uz z (5 + 3 * s) v) μ' → (∀ k, 510 ≤ k → μ' k = μ k) → Q (.inl (zl z s)) μ') : Call σ1 6 42 [.inr (.inr 0), .inl (s : Int), .inl v] μ (fun v μ' => (∀ k, 510 ≤ k → μ' k = μ k) ∧ Q v μ') := by
  obtain ⟨hz, hM, hR, a, hC⟩ := hS
  have q := hz.1
  refine k_NS_change (d := 1) hz hR hC ⟨by omega, by omega⟩ ⟨by omega, by omega⟩ (fun hc => absurd hc ?_) (fun _ μ' hm => ?_)
  · unfold c_change; rw [if_neg (by omega), if_neg (by omega)]; decide
  · simp only [Int.toNat_natCast] at hm ⊢
    obtain ⟨h1, h2⟩ := St_MF (z := z) (IZ_len hz hs hv) (MZ_c (uz_o z v (by omega)) (uz_o z v (by omega)) (fun i hi => uz_o z v (by omega)) hM) hm
    exact ⟨h2, h μ' h1 h2⟩
theorem m_chapter {s : Nat} {b : Int} (hS : St z μ) (hs : (s : Int) < z 0) (h0 : s ≠ 0) (hb : b = 0 ∨ b = 1) (hne : zb z s ≠ b) (h : ∀ μ', St (uz z (6 + 3 * s) b) μ' → (∀ k, 510 ≤ k → μ' k = μ k) → Q (.inl (sm (zb (uz z (6 + 3 * s) b)) (zn z))) μ') : Call σ1 6 43 [.inr (.inr 0), .inl (s : Int), .inl b] μ (fun v μ' => (∀ k, 510 ≤ k → μ' k = μ k) ∧ Q v μ') := by
  obtain ⟨hz, hM, hR, a, hC⟩ := hS
  have q := hz.1
  refine k_NS_chapter (d := 1) hz hR hC ⟨by omega, by omega⟩ (by omega) (fun hc => absurd hc ?_) (fun _ μ' hm => ?_)
  · unfold c_chapter; rw [if_neg (by omega), Int.toNat_natCast, if_neg (fun q => by
      rcases q with q | q
      · omega
      · exact hne q)]; decide
  · simp only [Int.toNat_natCast] at hm ⊢
    obtain ⟨h1, h2⟩ := St_MF (z := z) (IZ_beg hz hs h0 (by omega)) (MZ_c (uz_o z b (by omega)) (uz_o z b (by omega)) (fun i hi => uz_o z b (by omega)) hM) hm
    exact ⟨h2, h μ' h1 h2⟩
theorem m_chapterN {s : Nat} {b : Int} (hS : St z μ) (hs : (s : Int) < z 0) (hb : b = 0 ∨ b = 1) (hne : zb z s = b) (h : Q (.inl (-5)) μ) : Call σ1 6 43 [.inr (.inr 0), .inl (s : Int), .inl b] μ (fun v μ' => (∀ k, 510 ≤ k → μ' k = μ k) ∧ Q v μ') := by
  obtain ⟨hz, hM, hR, a, hC⟩ := hS
  have q := hz.1
  have e : c_chapter z (s : Int) b = -5 := by
    unfold c_chapter; rw [if_neg (by omega), Int.toNat_natCast, if_pos (Or.inr (show z (6 + 3 * s) = b from hne))]
  refine k_NS_chapter (d := 1) hz hR hC ⟨by omega, by omega⟩ (by omega) (fun _ => ?_) (fun hc => absurd hc (by rw [e]; decide))
  rw [e]
  exact ⟨fun _ _ => rfl, h⟩
theorem m_notice {v g : Int} (hS : St z μ) (h8 : z 2 < 8) (hv : 1 ≤ v ∧ v ≤ 120) (hg : 1 ≤ g ∧ g ≤ 63) (h : ∀ μ', St (ntZ z v g) μ' → (∀ k, 510 ≤ k → μ' k = μ k) → Q (.inl (z 2)) μ') : Call σ1 6 44 [.inr (.inr 0), .inl v, .inl g] μ (fun v μ' => (∀ k, 510 ≤ k → μ' k = μ k) ∧ Q v μ') := by
  obtain ⟨hz, hM, hR, a, hC⟩ := hS
  have q := hz.1
  refine k_NS_notice (d := 1) hz hR hC ⟨by omega, by omega⟩ ⟨by omega, by omega⟩ (fun hc => absurd hc ?_) (fun _ μ' hm => ?_)
  · unfold c_notice; rw [if_neg (by omega), if_neg (by omega)]; decide
  · have eo : ∀ k, k ≠ 2 → k < 196 → ntZ z v g k = z k := fun k h1 h2 => by unfold ntZ; rw [if_neg h1, if_neg (by omega), if_neg (by omega)]
    obtain ⟨h1, h2⟩ := St_MF (z := z) (IZ_nt hz h8 hv hg) (MZ_c (eo 0 (by omega) (by omega)) (eo 1 (by omega) (by omega)) (fun i hi => eo _ (by omega) (by omega)) hM) hm
    exact ⟨h2, h μ' h1 h2⟩
theorem m_book {s t : Nat} (hS : St z μ) (hs : (s : Int) < z 0) (ht : (t : Int) < z 2) (h4 : z (76 + 5 * s) < 4) (h : ∀ μ', St (bookZ z s t) μ' → (∀ k, 510 ≤ k → μ' k = μ k) → Q (.inl (z (76 + 5 * s) + 1)) μ') : Call σ1 6 45 [.inr (.inr 0), .inl (s : Int), .inl (t : Int)] μ (fun v μ' => (∀ k, 510 ≤ k → μ' k = μ k) ∧ Q v μ') := by
  obtain ⟨hz, hM, hR, a, hC⟩ := hS
  have q := hz.1
  have q1 := (hz.2.1 s hs).2.2.2.1
  refine k_NS_book (d := 1) hz hR hC ⟨by omega, by omega⟩ ⟨by omega, by omega⟩ (fun hc => absurd hc ?_) (fun _ μ' hm => ?_)
  · unfold c_book; rw [if_neg (by omega), Int.toNat_natCast, if_neg (by omega)]; decide
  · simp only [Int.toNat_natCast] at hm ⊢
    have eo : ∀ k, k < 76 → bookZ z s t k = z k := fun k h1 => bookZ_o z s k t (by omega) (by omega)
    obtain ⟨h1, h2⟩ := St_MF (z := z) (IZ_book hz hs h4 (by omega)) (MZ_c (eo 0 (by omega)) (eo 1 (by omega)) (fun i hi => eo _ (by omega)) hM) hm
    exact ⟨h2, h μ' h1 h2⟩
theorem m_bookN {s t : Nat} (hS : St z μ) (hs : (s : Int) < z 0) (ht : (t : Int) < z 2) (h4 : z (76 + 5 * s) = 4) (h : Q (.inl (-4)) μ) : Call σ1 6 45 [.inr (.inr 0), .inl (s : Int), .inl (t : Int)] μ (fun v μ' => (∀ k, 510 ≤ k → μ' k = μ k) ∧ Q v μ') := by
  obtain ⟨hz, hM, hR, a, hC⟩ := hS
  have q := hz.1
  have e : c_book z (s : Int) (t : Int) = -4 := by
    unfold c_book; rw [if_neg (by omega), Int.toNat_natCast, if_pos (by omega)]
  refine k_NS_book (d := 1) hz hR hC ⟨by omega, by omega⟩ ⟨by omega, by omega⟩ (fun _ => ?_) (fun hc => absurd hc (by rw [e]; decide))
  rw [e]
  exact ⟨fun _ _ => rfl, h⟩
theorem m_empty {s : Nat} (hS : St z μ) (hs : (s : Int) < z 0) (h : ∀ μ', St (emZ z s) μ' → (∀ k, 510 ≤ k → μ' k = μ k) → Q (.inl (z (76 + 5 * s))) μ') : Call σ1 6 46 [.inr (.inr 0), .inl (s : Int)] μ (fun v μ' => (∀ k, 510 ≤ k → μ' k = μ k) ∧ Q v μ') := by
  obtain ⟨hz, hM, hR, a, hC⟩ := hS
  have q := hz.1
  refine k_NS_empty (d := 1) hz hR hC ⟨by omega, by omega⟩ (fun hc => absurd hc ?_) (fun _ μ' hm => ?_)
  · unfold c_sen; rw [if_neg (by omega)]; decide
  · simp only [Int.toNat_natCast] at hm ⊢
    have eo : ∀ k, k < 76 → emZ z s k = z k := fun k h1 => emZ_o z s (by omega)
    obtain ⟨h1, h2⟩ := St_MF (z := z) (IZ_em hz hs) (MZ_c (eo 0 (by omega)) (eo 1 (by omega)) (fun i hi => eo _ (by omega)) hM) hm
    exact ⟨h2, h μ' h1 h2⟩
theorem m_listener {g b : Int} (hS : St z μ) (h6 : z 3 < 6) (hg : 0 ≤ g ∧ g ≤ 5) (hb : 0 ≤ b ∧ b ≤ 600) (h : ∀ μ', St (lsZ z g b) μ' → (∀ k, 510 ≤ k → μ' k = μ k) → Q (.inl (z 3)) μ') : Call σ1 6 47 [.inr (.inr 0), .inl g, .inl b] μ (fun v μ' => (∀ k, 510 ≤ k → μ' k = μ k) ∧ Q v μ') := by
  obtain ⟨hz, hM, hR, a, hC⟩ := hS
  have q := hz.1
  refine k_NS_listener (d := 1) hz hR hC ⟨by omega, by omega⟩ ⟨by omega, by omega⟩ (fun hc => absurd hc ?_) (fun _ μ' hm => ?_)
  · unfold c_listener; rw [if_neg (by omega), if_neg (by omega)]; decide
  · have eo : ∀ k, k ≠ 3 → k < 196 → lsZ z g b k = z k := fun k h1 h2 => by unfold lsZ; rw [if_neg h1, if_neg (by omega), if_neg (by omega), if_neg (by omega)]
    obtain ⟨h1, h2⟩ := St_MF (z := z) (IZ_ls hz h6 hg hb) (MZ_c (eo 0 (by omega) (by omega)) (eo 1 (by omega) (by omega)) (fun i hi => eo _ (by omega) (by omega)) hM) hm
    exact ⟨h2, h μ' h1 h2⟩
theorem m_load {l : Nat} {b : Int} (hS : St z μ) (hl : (l : Int) < z 3) (hb : b = 0 ∨ (b = 1 ∧ z (214 + 3 * l) = 1)) (h : ∀ μ', St (ldZ z l b) μ' → (∀ k, 510 ≤ k → μ' k = μ k) → Q (.inl (bt (hrL z l) (zn z))) μ') : Call σ1 6 48 [.inr (.inr 0), .inl (l : Int), .inl b] μ (fun v μ' => (∀ k, 510 ≤ k → μ' k = μ k) ∧ Q v μ') := by
  obtain ⟨hz, hM, hR, a, hC⟩ := hS
  have q := hz.1
  refine k_NS_load (d := 1) hz hR hC ⟨by omega, by omega⟩ (by omega) (fun hc => absurd hc ?_) (fun _ μ' hm => ?_)
  · unfold c_load; rw [if_neg (by omega), Int.toNat_natCast, if_neg (by omega)]; decide
  · simp only [Int.toNat_natCast] at hm ⊢
    have eo : ∀ k, k < 196 → ldZ z l b k = z k := fun k h1 => ldZ_o z l b (by omega) (by omega)
    obtain ⟨h1, h2⟩ := St_MF (z := z) (IZ_ld hz hl (by omega)) (MZ_c (eo 0 (by omega)) (eo 1 (by omega)) (fun i hi => eo _ (by omega)) hM) hm
    exact ⟨h2, h μ' h1 h2⟩
/-- the row with a sentence more -/
def insW (z : Rw) (p n : Nat) (len : Int) : Rw := fun k => if k = 0 then ((n + 1 : Nat) : Int) else if k = 1 then z 1 + 1 else if k < 4 then z k
  else if k < 76 then (if (k - 4) / 3 < p then z k else if (k - 4) / 3 = p then (if (k - 4) % 3 = 0 then z 1 else if (k - 4) % 3 = 1 then len else bI (p = 0)) else z (k - 3))
  else if k < 196 then (if (k - 76) / 5 < p then z k else if (k - 76) / 5 = p then 0 else z (k - 5)) else z k
theorem insW_r {p n : Nat} {len : Int} (hp : p ≤ n) (hn : n < 24) : insR z (insW z p n len) p n len := by
  have lo : ∀ i r, i < 24 → r < 3 → insW z p n len (4 + 3 * i + r) = if i < p then z (4 + 3 * i + r) else if i = p then (if r = 0 then z 1 else if r = 1 then len else bI (p = 0)) else z (4 + 3 * i + r - 3) := fun i r hi hr => by
    unfold insW
    have e1 : (4 + 3 * i + r - 4) / 3 = i := by omega
    have e2 : (4 + 3 * i + r - 4) % 3 = r := by omega
    rw [if_neg (by omega), if_neg (by omega), if_neg (by omega), if_pos (by omega), e1, e2]
  have ro : ∀ i r, i < 24 → r < 5 → insW z p n len (76 + 5 * i + r) = if i < p then z (76 + 5 * i + r) else if i = p then 0 else z (76 + 5 * i + r - 5) := fun i r hi hr => by
    unfold insW
    have e1 : (76 + 5 * i + r - 76) / 5 = i := by omega
    rw [if_neg (by omega), if_neg (by omega), if_neg (by omega), if_neg (by omega), if_pos (by omega), e1]
  refine ⟨rfl, rfl, fun k hk => ?_, fun i hi => ?_, fun i h1 h2 => ?_, ?_, ?_, ?_, ?_⟩
  · unfold insW
    rcases hk with rfl | rfl | hk
    · rfl
    · rfl
    · rw [if_neg (by omega), if_neg (by omega), if_neg (by omega), if_neg (by omega), if_neg (by omega)]
  · refine ⟨?_, ?_, ?_, ?_, fun j hj => ?_⟩
    · have := lo i 0 (by omega) (by omega); rw [if_pos hi] at this; exact this
    · have := lo i 1 (by omega) (by omega); rw [if_pos hi, show 4 + 3 * i + 1 = 5 + 3 * i by omega] at this; exact this
    · have := lo i 2 (by omega) (by omega); rw [if_pos hi, show 4 + 3 * i + 2 = 6 + 3 * i by omega] at this; exact this
    · have := ro i 0 (by omega) (by omega); rw [if_pos hi] at this; exact this
    · have := ro i (1 + j) (by omega) (by omega); rw [if_pos hi, show 76 + 5 * i + (1 + j) = 77 + 5 * i + j by omega] at this; exact this
  · refine ⟨?_, ?_, ?_, ?_, fun j hj => ?_⟩
    · have := lo (i + 1) 0 (by omega) (by omega); rw [if_neg (by omega), if_neg (by omega), show 4 + 3 * (i + 1) + 0 - 3 = 4 + 3 * i by omega] at this; exact this
    · have := lo (i + 1) 1 (by omega) (by omega); rw [if_neg (by omega), if_neg (by omega), show 4 + 3 * (i + 1) + 1 - 3 = 5 + 3 * i by omega, show 4 + 3 * (i + 1) + 1 = 5 + 3 * (i + 1) by omega] at this; exact this
    · have := lo (i + 1) 2 (by omega) (by omega); rw [if_neg (by omega), if_neg (by omega), show 4 + 3 * (i + 1) + 2 - 3 = 6 + 3 * i by omega, show 4 + 3 * (i + 1) + 2 = 6 + 3 * (i + 1) by omega] at this; exact this
    · have := ro (i + 1) 0 (by omega) (by omega); rw [if_neg (by omega), if_neg (by omega), show 76 + 5 * (i + 1) + 0 - 5 = 76 + 5 * i by omega] at this; exact this
    · have := ro (i + 1) (1 + j) (by omega) (by omega); rw [if_neg (by omega), if_neg (by omega), show 76 + 5 * (i + 1) + (1 + j) - 5 = 77 + 5 * i + j by omega, show 76 + 5 * (i + 1) + (1 + j) = 77 + 5 * (i + 1) + j by omega] at this; exact this
  · have := lo p 0 (by omega) (by omega); rw [if_neg (by omega), if_pos rfl, if_pos rfl] at this; exact this
  · have := lo p 1 (by omega) (by omega); rw [if_neg (by omega), if_pos rfl, if_neg (by omega), if_pos rfl, show 4 + 3 * p + 1 = 5 + 3 * p by omega] at this; exact this
  · have := lo p 2 (by omega) (by omega); rw [if_neg (by omega), if_pos rfl, if_neg (by omega), if_neg (by omega), show 4 + 3 * p + 2 = 6 + 3 * p by omega] at this; exact this
  · have := ro p 0 (by omega) (by omega); rw [if_neg (by omega), if_pos rfl] at this; exact this
theorem MZ_ins {w : Rw} {p n : Nat} {len : Int} (hn : z 0 = (n : Int)) (hp : p ≤ n) (hM : MZ z) (H : insR z w p n len) : MZ w := by
  obtain ⟨g0, g1, -, ga, gb, g4, -, -, -⟩ := H
  -- where the sentence i comes from
  have wh : ∀ i : Nat, i < n + 1 → (i = p ∧ zm w i = z 1) ∨ ∃ k, k < n ∧ zm w i = zm z k ∧ ((i < p ∧ k = i) ∨ (p < i ∧ i = k + 1)) := fun i hi => by
    rcases Nat.lt_trichotomy i p with h | h | h
    · exact Or.inr ⟨i, by omega, (ga i h).1, Or.inl ⟨h, rfl⟩⟩
    · exact Or.inl ⟨h, by rw [h]; exact g4⟩
    · refine Or.inr ⟨i - 1, by omega, ?_, Or.inr ⟨h, by omega⟩⟩
      have := (gb (i - 1) (by omega) (by omega)).1
      rw [show i - 1 + 1 = i by omega] at this
      exact this
  refine ⟨fun i hi => ?_, fun i j hi hj e => ?_⟩
  · rw [g0] at hi
    rw [g1]
    rcases wh i (by omega) with ⟨-, h⟩ | ⟨k, hk, h, -⟩
    · rw [h]; omega
    · have := hM.1 k (by omega)
      rw [h]; omega
  · rw [g0] at hi hj
    rcases wh i (by omega) with ⟨h1, h⟩ | ⟨k, hk, h, h1⟩
    · rcases wh j (by omega) with ⟨h3, h2⟩ | ⟨k2, hk2, h2, h3⟩
      · omega
      · have := hM.1 k2 (by omega)
        rw [h, h2] at e; omega
    · rcases wh j (by omega) with ⟨h3, h2⟩ | ⟨k2, hk2, h2, h3⟩
      · have := hM.1 k (by omega)
        rw [h, h2] at e; omega
      · rw [h, h2] at e
        have := hM.2 k k2 (by omega) (by omega) e
        omega
theorem m_putIn {p : Nat} {len : Int} (hS : St z μ) (hp : (p : Int) ≤ z 0) (hl : 1 ≤ len ∧ len ≤ 300) (h24 : z 0 < 24) (h1 : z 1 < 100) (h : ∀ w μ', insR z w p (zn z) len → St w μ' → (∀ k, 510 ≤ k → μ' k = μ k) → Q (.inl (z 1)) μ') : Call σ1 6 40 [.inr (.inr 0), .inl (p : Int), .inl len] μ (fun v μ' => (∀ k, 510 ≤ k → μ' k = μ k) ∧ Q v μ') := by
  obtain ⟨hz, hM, hR, a, hC⟩ := hS
  have q := hz.1
  have e := zn_eq hz
  refine k_NS_putIn (d := 1) hz hR hC ⟨by omega, by omega⟩ ⟨by omega, by omega⟩ (fun hc => absurd hc ?_) (fun _ μ' hm => ?_)
  · unfold c_putIn; rw [if_neg (by omega), if_neg (by omega), if_neg (by omega)]; decide
  · simp only [Int.toNat_natCast] at hm
    have hw := insW_r (z := z) (p := p) (n := zn z) (len := len) (by omega) (by omega)
    obtain ⟨h2, h3⟩ := St_MG (IZ_ins hz e.1 (by omega) (by omega) h1 hl hw) (MZ_ins e.1 (by omega) hM hw) hw hm
    exact ⟨h3, h _ μ' hw h2 h3⟩
/-- the row with a sentence less -/
def delW (z : Rw) (s m : Nat) : Rw := fun k => if k = 0 then (m : Int) else if k < 4 then z k else if k = 6 then 1
  else if k < 76 then (if (k - 4) / 3 < s then z k else z (k + 3)) else if k < 196 then (if (k - 76) / 5 < s then z k else z (k + 5)) else z k
theorem delW_r {s m : Nat} (hm : m < 24) : delR z (delW z s m) s m := by
  have lo : ∀ i r, i < 24 → r < 3 → 4 + 3 * i + r ≠ 6 → delW z s m (4 + 3 * i + r) = z (4 + 3 * (if i < s then i else i + 1) + r) := fun i r hi hr h6 => by
    unfold delW
    have e1 : (4 + 3 * i + r - 4) / 3 = i := by omega
    rw [if_neg (by omega), if_neg (by omega), if_neg h6, if_pos (by omega), e1]
    split
    · rfl
    · rw [show 4 + 3 * i + r + 3 = 4 + 3 * (i + 1) + r by omega]
  have ro : ∀ i r, i < 24 → r < 5 → delW z s m (76 + 5 * i + r) = z (76 + 5 * (if i < s then i else i + 1) + r) := fun i r hi hr => by
    unfold delW
    have e1 : (76 + 5 * i + r - 76) / 5 = i := by omega
    rw [if_neg (by omega), if_neg (by omega), if_neg (by omega), if_neg (by omega), if_pos (by omega), e1]
    split
    · rfl
    · rw [show 76 + 5 * i + r + 5 = 76 + 5 * (i + 1) + r by omega]
  refine ⟨rfl, fun k hk => ?_, rfl, fun i hi => ⟨?_, ?_, fun h0 => ?_, ?_, fun j hj => ?_⟩⟩
  · unfold delW
    rcases hk with hk | hk
    · rw [if_neg (by omega), if_pos (by omega)]
    · rw [if_neg (by omega), if_neg (by omega), if_neg (by omega), if_neg (by omega), if_neg (by omega)]
  · exact lo i 0 (by omega) (by omega) (by omega)
  · have := lo i 1 (by omega) (by omega) (by omega)
    rw [show 4 + 3 * i + 1 = 5 + 3 * i by omega, show 4 + 3 * (if i < s then i else i + 1) + 1 = 5 + 3 * (if i < s then i else i + 1) by omega] at this
    exact this
  · have := lo i 2 (by omega) (by omega) (by omega)
    rw [show 4 + 3 * i + 2 = 6 + 3 * i by omega, show 4 + 3 * (if i < s then i else i + 1) + 2 = 6 + 3 * (if i < s then i else i + 1) by omega] at this
    exact this
  · exact ro i 0 (by omega) (by omega)
  · have := ro i (1 + j) (by omega) (by omega)
    rw [show 76 + 5 * i + (1 + j) = 77 + 5 * i + j by omega, show 76 + 5 * (if i < s then i else i + 1) + (1 + j) = 77 + 5 * (if i < s then i else i + 1) + j by omega] at this
    exact this
theorem MZ_del {w : Rw} {s m : Nat} (hn : z 0 = ((m + 1 : Nat) : Int)) (hs : s ≤ m) (hM : MZ z) (H : delR z w s m) : MZ w := by
  obtain ⟨g0, gh, -, ga⟩ := H
  refine ⟨fun i hi => ?_, fun i j hi hj e => ?_⟩
  · rw [g0] at hi
    rw [gh 1 (by omega)]
    show w (4 + 3 * i) < z 1
    rw [(ga i (by omega)).1]
    exact hM.1 _ (by split <;> omega)
  · rw [g0] at hi hj
    have e : w (4 + 3 * i) = w (4 + 3 * j) := e
    rw [(ga i (by omega)).1, (ga j (by omega)).1] at e
    have := hM.2 _ _ (by split <;> omega) (by split <;> omega) e
    revert this
    split <;> split <;> omega
theorem m_cutOut {s : Nat} (hS : St z μ) (hs : (s : Int) < z 0) (h1 : 1 < z 0) (h : ∀ w μ', delR z w s (zn z - 1) → St w μ' → (∀ k, 510 ≤ k → μ' k = μ k) → Q (.inl (zm z s)) μ') : Call σ1 6 41 [.inr (.inr 0), .inl (s : Int)] μ (fun v μ' => (∀ k, 510 ≤ k → μ' k = μ k) ∧ Q v μ') := by
  obtain ⟨hz, hM, hR, a, hC⟩ := hS
  have q := hz.1
  have e := zn_eq hz
  refine k_NS_cutOut (d := 1) hz hR hC ⟨by omega, by omega⟩ (fun hc => absurd hc ?_) (fun _ μ' hm => ?_)
  · unfold c_cutOut; rw [if_neg (by omega), if_neg (by omega)]; decide
  · simp only [Int.toNat_natCast] at hm ⊢
    have hw := delW_r (z := z) (s := s) (m := zn z - 1) (by omega)
    obtain ⟨h2, h3⟩ := St_MG (IZ_del hz (by omega) (by omega) hw) (MZ_del (by omega) (by omega) hM hw) hw hm
    exact ⟨h3, h _ μ' hw h2 h3⟩
end LMT
