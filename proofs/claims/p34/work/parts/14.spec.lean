/-! THE ABSTRACT STATE: a row z of numbers (n, next mark, notices, listeners; sentences at 4 + 3i: mark, length, begins; rows at 76 + 5i: how many, then the notices; notices at 196 + 2i: length, groups; listeners at 212 + 3l: group, bound, file; files at 230 + 121l), a hearing w (how many; at 5i + 1: notice, its length, mark, length, begins) -/
abbrev Rw : Type := Nat → Int
def fw (z : Rw) (l : Nat) : Rw := fun k => z (230 + 121 * l + k)
def HR (w : Rw) (μ : Mem) (h : Nat) : Prop := μ (h + 1) 3 = w 0 ∧ ∀ i : Nat, (i : Int) < w 0 → μ (h + 2) i = w (5 * i + 3) ∧ μ (h + 3) i = w (5 * i + 4) ∧ μ (h + 4) i = w (5 * i + 5) ∧ μ (h + 5) i = w (5 * i + 1) ∧ μ (h + 6) i = w (5 * i + 2)
def RC (z : Rw) (μ : Mem) (S : Nat) : Prop :=
  (μ (S + 1) 3 = z 0 ∧ μ S 9 = z 1 ∧ μ S 10 = z 2 ∧ μ S 11 = z 3) ∧
  (∀ i : Nat, (i : Int) < z 0 → μ (S + 2) i = z (4 + 3 * i) ∧ μ (S + 3) i = z (5 + 3 * i) ∧ μ (S + 4) i = z (6 + 3 * i) ∧ μ (S + 5) i = z (76 + 5 * i) ∧ ∀ j : Nat, (j : Int) < z (76 + 5 * i) → μ (S + 6) (4 * i + j) = z (77 + 5 * i + j)) ∧
  (∀ i : Nat, (i : Int) < z 2 → μ (S + 7) i = z (196 + 2 * i) ∧ μ (S + 8) i = z (197 + 2 * i)) ∧
  (∀ l : Nat, (l : Int) < z 3 → μ (S + 9) l = z (212 + 3 * l) ∧ μ (S + 10) l = z (213 + 3 * l) ∧ μ (S + 11) l = z (214 + 3 * l) ∧ (z (214 + 3 * l) = 1 → HR (fw z l) μ (S + 13 + 7 * l)))
def WH (w : Rw) : Prop := (1 ≤ w 0 ∧ w 0 ≤ 24) ∧ (∀ i : Nat, (i : Int) < w 0 → (0 ≤ w (5 * i + 3) ∧ w (5 * i + 3) ≤ 99) ∧ (1 ≤ w (5 * i + 4) ∧ w (5 * i + 4) ≤ 300) ∧ (0 ≤ w (5 * i + 5) ∧ w (5 * i + 5) ≤ 1) ∧ ((w (5 * i + 1) = -6 ∧ w (5 * i + 2) = 0) ∨ (0 ≤ w (5 * i + 1) ∧ w (5 * i + 1) ≤ 7 ∧ 1 ≤ w (5 * i + 2) ∧ w (5 * i + 2) ≤ 120))) ∧ w 5 = 1 ∧ ∀ k : Nat, 5 * w 0 + 1 ≤ (k : Int) → k < 121 → w k = 0
def IZ (z : Rw) : Prop := (1 ≤ z 0 ∧ z 0 ≤ 24 ∧ 1 ≤ z 1 ∧ z 1 ≤ 100 ∧ 0 ≤ z 2 ∧ z 2 ≤ 8 ∧ 0 ≤ z 3 ∧ z 3 ≤ 6) ∧
  (∀ i : Nat, (i : Int) < z 0 → (0 ≤ z (4 + 3 * i) ∧ z (4 + 3 * i) ≤ 99) ∧ (1 ≤ z (5 + 3 * i) ∧ z (5 + 3 * i) ≤ 300) ∧ (0 ≤ z (6 + 3 * i) ∧ z (6 + 3 * i) ≤ 1) ∧ (0 ≤ z (76 + 5 * i) ∧ z (76 + 5 * i) ≤ 4) ∧ ∀ j : Nat, (j : Int) < z (76 + 5 * i) → 0 ≤ z (77 + 5 * i + j) ∧ z (77 + 5 * i + j) < z 2) ∧
  z 6 = 1 ∧
  (∀ i : Nat, (i : Int) < z 2 → (1 ≤ z (196 + 2 * i) ∧ z (196 + 2 * i) ≤ 120) ∧ (1 ≤ z (197 + 2 * i) ∧ z (197 + 2 * i) ≤ 63)) ∧
  (∀ l : Nat, (l : Int) < z 3 → (0 ≤ z (212 + 3 * l) ∧ z (212 + 3 * l) ≤ 5) ∧ (0 ≤ z (213 + 3 * l) ∧ z (213 + 3 * l) ≤ 600) ∧ (0 ≤ z (214 + 3 * l) ∧ z (214 + 3 * l) ≤ 1) ∧ (z (214 + 3 * l) = 1 → WH (fw z l)))
-- what is heard
def bit (x k : Int) : Int := iAnd (iShr x k) 1
def okN (z : Rw) (g b set sec n : Int) : Bool := decide (bit (z (197 + 2 * n.toNat)) g = 1 ∧ bit set n ≠ 1 ∧ sec + z (196 + 2 * n.toNat) ≤ b)
def pickR (f : Nat → Int) (ok : Int → Bool) : Nat → Nat → Int
  | 0, _ => -6
  | k + 1, j => if ok (f j) = true then f j else pickR f ok k (j + 1)
def chs (z : Rw) (g b : Int) (q : Int × Int) (s : Nat) : Int := pickR (fun j => z (77 + 5 * s + j)) (okN z g b q.1 q.2) (z (76 + 5 * s)).toNat 0
def nxt (z : Rw) (q : Int × Int) (n : Int) : Int × Int := if n = -6 then q else (iOr q.1 (iShl 1 n), q.2 + z (196 + 2 * n.toNat))
def rn (z : Rw) (g b : Int) : Nat → Int × Int
  | 0 => (0, 0)
  | s + 1 => nxt z (rn z g b s) (chs z g b (rn z g b s) s)
def ch (z : Rw) (g b : Int) (s : Nat) : Int := chs z g b (rn z g b s) s
def cl (z : Rw) (n : Int) : Int := if n = -6 then 0 else z (196 + 2 * n.toNat)
/-- what a listener of group g with bound b would hear now -/
def hr (z : Rw) (g b : Int) : Rw := fun k => if k = 0 then z 0 else if (((k - 1) / 5 : Nat) : Int) < z 0 then (match (k - 1) % 5 with | 0 => ch z g b ((k - 1) / 5) | 1 => cl z (ch z g b ((k - 1) / 5)) | 2 => z (4 + 3 * ((k - 1) / 5)) | 3 => z (5 + 3 * ((k - 1) / 5)) | _ => z (6 + 3 * ((k - 1) / 5))) else 0
def hrL (z : Rw) (l : Nat) : Rw := hr z (z (212 + 3 * l)) (z (213 + 3 * l))
/-- what listener l hears: of the file, if there is one -/
def wO (z : Rw) (l : Nat) : Rw := if z (214 + 3 * l) = 1 then fw z l else hrL z l
theorem hr_0 (z : Rw) (g b : Int) : hr z g b 0 = z 0 := rfl
theorem hr_1 {z : Rw} {g b : Int} {i : Nat} (h : (i : Int) < z 0) : hr z g b (5 * i + 1) = ch z g b i := by
  have e1 : (5 * i + 1 - 1) / 5 = i := by omega
  have e2 : (5 * i + 1 - 1) % 5 = 0 := by omega
  unfold hr; rw [if_neg (by omega), e1, if_pos h, e2]; rfl
theorem hr_2 {z : Rw} {g b : Int} {i : Nat} (h : (i : Int) < z 0) : hr z g b (5 * i + 2) = cl z (ch z g b i) := by
  have e1 : (5 * i + 2 - 1) / 5 = i := by omega
  have e2 : (5 * i + 2 - 1) % 5 = 1 := by omega
  unfold hr; rw [if_neg (by omega), e1, if_pos h, e2]; rfl
theorem hr_3 {z : Rw} {g b : Int} {i : Nat} (h : (i : Int) < z 0) : hr z g b (5 * i + 3) = z (4 + 3 * i) := by
  have e1 : (5 * i + 3 - 1) / 5 = i := by omega
  have e2 : (5 * i + 3 - 1) % 5 = 2 := by omega
  unfold hr; rw [if_neg (by omega), e1, if_pos h, e2]; rfl
theorem hr_4 {z : Rw} {g b : Int} {i : Nat} (h : (i : Int) < z 0) : hr z g b (5 * i + 4) = z (5 + 3 * i) := by
  have e1 : (5 * i + 4 - 1) / 5 = i := by omega
  have e2 : (5 * i + 4 - 1) % 5 = 3 := by omega
  unfold hr; rw [if_neg (by omega), e1, if_pos h, e2]; rfl
theorem hr_5 {z : Rw} {g b : Int} {i : Nat} (h : (i : Int) < z 0) : hr z g b (5 * i + 5) = z (6 + 3 * i) := by
  have e1 : (5 * i + 5 - 1) / 5 = i := by omega
  have e2 : (5 * i + 5 - 1) % 5 = 4 := by omega
  unfold hr; rw [if_neg (by omega), e1, if_pos h, e2]; rfl
theorem hr_z {z : Rw} {g b : Int} {k : Nat} (h : 5 * z 0 + 1 ≤ (k : Int)) (h0 : 0 ≤ z 0) : hr z g b k = 0 := by
  unfold hr; rw [if_neg (by omega), if_neg (by omega)]
theorem pickR_in {f : Nat → Int} {ok : Int → Bool} : ∀ (k j : Nat), pickR f ok k j = -6 ∨ ∃ i, j ≤ i ∧ i < j + k ∧ pickR f ok k j = f i ∧ ok (f i) = true
  | 0, j => Or.inl rfl
  | k + 1, j => by
    unfold pickR
    split
    · rename_i h; exact Or.inr ⟨j, by omega, by omega, rfl, h⟩
    · rcases pickR_in (f := f) (ok := ok) k (j + 1) with h | ⟨i, h1, h2, h3, h4⟩
      · exact Or.inl h
      · exact Or.inr ⟨i, by omega, by omega, h3, h4⟩
theorem iAnd_r (x y : Int) : inR (iAnd x y) := ⟨Int32.le_toInt _, by have := Int32.toInt_lt (Int32.ofInt x &&& Int32.ofInt y); unfold iAnd; omega⟩
theorem iOr_r (x y : Int) : inR (iOr x y) := ⟨Int32.le_toInt _, by have := Int32.toInt_lt (Int32.ofInt x ||| Int32.ofInt y); unfold iOr; omega⟩
theorem bit_r (x y : Int) : inR (bit x y) := iAnd_r _ _
theorem bit_01 (x k : Int) : bit x k = 0 ∨ bit x k = 1 := by
  unfold bit iAnd
  have e : Int32.ofInt 1 = nI (2 ^ 1 - 1) := rfl
  obtain ⟨j, hj, h⟩ := pk_andE (Int32.ofInt (iShr x k)) (m := Int32.ofInt 1) 1 (by decide)
  rw [h]
  rw [nI_toInt (by omega)]
  omega
/-- a choice in a break is a notice that there is, or none -/
theorem chs_in {z : Rw} {g b : Int} {q : Int × Int} {s : Nat} (hz : IZ z) (hs : (s : Int) < z 0) : chs z g b q s = -6 ∨ (0 ≤ chs z g b q s ∧ chs z g b q s < z 2 ∧ okN z g b q.1 q.2 (chs z g b q s) = true) := by
  unfold chs
  rcases pickR_in (f := fun j => z (77 + 5 * s + j)) (ok := okN z g b q.1 q.2) (z (76 + 5 * s)).toNat 0 with h | ⟨i, h1, h2, h3, h4⟩
  · exact Or.inl h
  · refine Or.inr ?_
    have q1 := hz.2.1 s hs
    have q2 := q1.2.2.2.2 i (by have := q1.2.2.2.1; omega)
    rw [h3]
    exact ⟨q2.1, q2.2, h4⟩
theorem ch_in {z : Rw} {g b : Int} {s : Nat} (hz : IZ z) (hs : (s : Int) < z 0) : ch z g b s = -6 ∨ (0 ≤ ch z g b s ∧ ch z g b s < z 2) := by
  rcases chs_in (g := g) (b := b) (q := rn z g b s) hz hs with h | h
  · exact Or.inl h
  · exact Or.inr ⟨h.1, h.2.1⟩
theorem hr_W {z : Rw} {g b : Int} (hz : IZ z) : WH (hr z g b) := by
  obtain ⟨⟨n1, n2, -, -, n3, n4, -, -⟩, hs, h6, hn, hl⟩ := id hz
  refine ⟨by rw [hr_0]; exact ⟨n1, n2⟩, fun i hi => ?_, ?_, fun k h1 h2 => ?_⟩
  · rw [hr_0] at hi
    rw [hr_1 hi, hr_2 hi, hr_3 hi, hr_4 hi, hr_5 hi]
    obtain ⟨a1, a2, a3, -⟩ := hs i hi
    refine ⟨a1, a2, a3, ?_⟩
    rcases ch_in (g := g) (b := b) hz hi with h | ⟨h1, h2⟩
    · left; rw [h]; exact ⟨rfl, rfl⟩
    · right
      have q := (hn (ch z g b i).toNat (by omega)).1
      unfold cl
      rw [if_neg (by omega)]
      exact ⟨h1, by omega, q.1, q.2⟩
  · have := hr_5 (z := z) (g := g) (b := b) (i := 0) (by omega)
    exact this.trans h6
  · rw [hr_0] at h1
    exact hr_z h1 (by omega)
theorem wO_W {z : Rw} {l : Nat} (hz : IZ z) (hl : (l : Int) < z 3) : WH (wO z l) := by
  unfold wO
  split
  · rename_i h; exact (hz.2.2.2.2 l hl).2.2.2 h
  · exact hr_W hz
def bt (w : Rw) (p : Nat) : Int := sm (fun i => w (5 * i + 4)) p + sm (fun i => w (5 * i + 2)) p
/-- the sum up to a place of what is heard -/
def ht (w : Rw) (p : Nat) : Int := sm (fun i => w (5 * i + 2) + w (5 * i + 4)) p
theorem ht_bt (w : Rw) (p : Nat) : ht w p = bt w p := by
  unfold ht bt; rw [sm_a]; omega
theorem HR.n {w : Rw} {μ : Mem} {h : Nat} (hw : WH w) : ∃ n : Nat, w 0 = (n : Int) ∧ 1 ≤ n ∧ n ≤ 24 := ⟨(w 0).toNat, by have := hw.1; omega, by have := hw.1; omega, by have := hw.1; omega⟩
theorem WH.nt {w : Rw} (hw : WH w) {i : Nat} (hi : (i : Int) < w 0) : 0 ≤ w (5 * i + 2) ∧ w (5 * i + 2) ≤ 120 := by
  have := (hw.2.1 i hi).2.2.2
  omega
theorem WH.no {w : Rw} (hw : WH w) {i : Nat} (hi : (i : Int) < w 0) : -6 ≤ w (5 * i + 1) ∧ w (5 * i + 1) ≤ 7 := by
  have := (hw.2.1 i hi).2.2.2
  omega
theorem HR_f {w : Rw} {μ μ' : Mem} {h : Nat} (hf : ∀ k, h ≤ k → k < h + 7 → μ' k = μ k) (H : HR w μ h) : HR w μ' h := by
  unfold HR at H ⊢
  rw [hf (h + 1) (by omega) (by omega), hf (h + 2) (by omega) (by omega), hf (h + 3) (by omega) (by omega), hf (h + 4) (by omega) (by omega), hf (h + 5) (by omega) (by omega), hf (h + 6) (by omega) (by omega)]
  exact H
theorem RC_f {z : Rw} {μ μ' : Mem} {S : Nat} (hz : z 3 ≤ 6) (hf : ∀ k, S ≤ k → k < S + 55 → μ' k = μ k) (H : RC z μ S) : RC z μ' S := by
  obtain ⟨h1, h2, h3, h4⟩ := H
  unfold RC
  rw [hf S (by omega) (by omega), hf (S + 1) (by omega) (by omega), hf (S + 2) (by omega) (by omega), hf (S + 3) (by omega) (by omega), hf (S + 4) (by omega) (by omega), hf (S + 5) (by omega) (by omega), hf (S + 6) (by omega) (by omega), hf (S + 7) (by omega) (by omega), hf (S + 8) (by omega) (by omega), hf (S + 9) (by omega) (by omega), hf (S + 10) (by omega) (by omega), hf (S + 11) (by omega) (by omega)]
  refine ⟨h1, h2, h3, fun l hl => ?_⟩
  obtain ⟨a1, a2, a3, a4⟩ := h4 l hl
  exact ⟨a1, a2, a3, fun h => HR_f (fun k hk1 hk2 => hf k (by omega) (by omega)) (a4 h)⟩
/-- of a state's cells: sentences, rows and notices alone -/
def R0 (z : Rw) (μ : Mem) (S : Nat) : Prop :=
  (∀ i : Nat, (i : Int) < z 0 → μ (S + 2) i = z (4 + 3 * i) ∧ μ (S + 3) i = z (5 + 3 * i) ∧ μ (S + 4) i = z (6 + 3 * i) ∧ μ (S + 5) i = z (76 + 5 * i) ∧ ∀ j : Nat, (j : Int) < z (76 + 5 * i) → μ (S + 6) (4 * i + j) = z (77 + 5 * i + j)) ∧
  (∀ i : Nat, (i : Int) < z 2 → μ (S + 7) i = z (196 + 2 * i) ∧ μ (S + 8) i = z (197 + 2 * i))
theorem RC.r0 {z : Rw} {μ : Mem} {S : Nat} (h : RC z μ S) : R0 z μ S := ⟨h.2.1, h.2.2.1⟩
theorem R0_f {z : Rw} {μ μ' : Mem} {S : Nat} (hf : ∀ k, S + 2 ≤ k → k < S + 9 → μ' k = μ k) (H : R0 z μ S) : R0 z μ' S := by
  unfold R0
  rw [hf (S + 2) (by omega) (by omega), hf (S + 3) (by omega) (by omega), hf (S + 4) (by omega) (by omega), hf (S + 5) (by omega) (by omega), hf (S + 6) (by omega) (by omega), hf (S + 7) (by omega) (by omega), hf (S + 8) (by omega) (by omega)]
  exact H

