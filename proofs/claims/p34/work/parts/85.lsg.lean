/-! THE LAW: its checks of files, its changes, its loop -/
/-- what the law keeps of a listener -/
def SG (z : Rw) (k : Nat) : Int := F_of z (k : Int) 4 + 7 * F_of z (k : Int) 5 + 31 * F_of z (k : Int) 7
def LK (z : Rw) (μ : Mem) : Prop := ∀ k : Nat, (k : Int) < z 3 → z (214 + 3 * k) = 0 ∨ SG z k = μ 510 k
theorem F_of4 {z : Rw} {k : Nat} (h : (k : Int) < z 3) : F_of z (k : Int) 4 = tot z k := by
  unfold F_of
  rw [if_neg (by omega), Int.toNat_natCast]
  rfl
theorem F_of5 {z : Rw} {k : Nat} (h : (k : Int) < z 3) : F_of z (k : Int) 5 = sm (fun i => bI (wO z k (5 * i + 1) ≠ -6)) (nw z k) := by
  unfold F_of
  rw [if_neg (by omega), Int.toNat_natCast]
  rfl
theorem F_of7 {z : Rw} {k : Nat} (h : (k : Int) < z 3) : F_of z (k : Int) 7 = wO z k 0 := by
  unfold F_of
  rw [if_neg (by omega), Int.toNat_natCast]
  rfl
theorem wO_1 {z : Rw} {k : Nat} (h : z (214 + 3 * k) = 1) : wO z k = fw z k := by unfold wO; rw [if_pos h]
/-- what is told of a hearing is told by its 121 numbers -/
theorem bt_c {w v : Rw} {n : Nat} (hn : n ≤ 24) (h : ∀ j, j < 121 → w j = v j) : bt w n = bt v n := by
  unfold bt
  rw [sm_c (f := fun i => w (5 * i + 4)) (g := fun i => v (5 * i + 4)) (fun i hi => h _ (by omega)), sm_c (f := fun i => w (5 * i + 2)) (g := fun i => v (5 * i + 2)) (fun i hi => h _ (by omega))]
theorem SG_c {z w : Rw} {k : Nat} (hz : IZ z) (h3 : w 3 = z 3) (hk : (k : Int) < z 3) (f1 : z (214 + 3 * k) = 1) (f2 : w (214 + 3 * k) = 1) (h : ∀ j, j < 121 → fw w k j = fw z k j) : SG w k = SG z k := by
  have hn := nw_eq hz hk
  have e0 : nw w k = nw z k := by unfold nw; rw [wO_1 f2, wO_1 f1, h 0 (by omega)]
  unfold SG
  rw [F_of4 hk, F_of5 hk, F_of7 hk, F_of4 (by omega), F_of5 (by omega), F_of7 (by omega)]
  unfold tot
  rw [e0, wO_1 f1, wO_1 f2, h 0 (by omega), bt_c (by omega) h]
  have e5 : sm (fun i => bI (fw w k (5 * i + 1) ≠ -6)) (nw z k) = sm (fun i => bI (fw z k (5 * i + 1) ≠ -6)) (nw z k) := sm_c (fun i hi => by rw [h _ (by omega)])
  rw [e5]
/-- a change below the listeners: the files are as they were -/
theorem LK_lo {z w : Rw} {μ μ' : Mem} (hz : IZ z) (hw : ∀ j, j = 3 ∨ 196 ≤ j → w j = z j) (hμ : ∀ k : Nat, (k : Int) < z 3 → μ 510 k = SG z k) (hk : ∀ k, 510 ≤ k → μ' k = μ k) : LK w μ' := by
  intro k hkk
  have h3 := hw 3 (Or.inl rfl)
  rw [h3] at hkk
  have fl := (hz.2.2.2.2 k hkk).2.2.1
  have f := hw (214 + 3 * k) (by omega)
  rcases (show z (214 + 3 * k) = 0 ∨ z (214 + 3 * k) = 1 by omega) with h | h
  · left; rw [f]; exact h
  · right
    rw [hk 510 (by omega), hμ k hkk]
    exact SG_c hz h3 hkk h (by rw [f]; exact h) (fun j hj => hw _ (by omega))
/-- what is heard now hangs on the sentences, rows and notices alone -/
theorem okN_c {z w : Rw} {g b p q n : Int} (h1 : w (197 + 2 * n.toNat) = z (197 + 2 * n.toNat)) (h2 : w (196 + 2 * n.toNat) = z (196 + 2 * n.toNat)) : okN w g b p q n = okN z g b p q n := by
  unfold okN
  rw [h1, h2]
theorem pickR_c {f f' : Nat → Int} {ok ok' : Int → Bool} : ∀ (j i : Nat), (∀ k, i ≤ k → k < i + j → f' k = f k ∧ ok' (f k) = ok (f k)) → pickR f' ok' j i = pickR f ok j i
  | 0, _, _ => rfl
  | j + 1, i, h => by
    obtain ⟨h1, h2⟩ := h i (Nat.le_refl i) (by omega)
    have ih := pickR_c j (i + 1) (fun k hk1 hk2 => h k (by omega) (by omega))
    unfold pickR
    rw [h1, h2, ih]
theorem ch_c {z w : Rw} {g b : Int} {s : Nat} (hz : IZ z) (hw : ∀ j, j < 212 → w j = z j) (hs : (s : Int) < z 0) (e : rn w g b s = rn z g b s) : ch w g b s = ch z g b s := by
  have q0 := hz.1
  have hr := (hz.2.1 s hs).2.2.2
  have e1 : w (76 + 5 * s) = z (76 + 5 * s) := hw (76 + 5 * s) (by omega)
  unfold ch chs
  rw [e, e1]
  refine pickR_c _ 0 (fun k _ hk => ?_)
  have hn := hr.2 k (by omega)
  have e2 : w (77 + 5 * s + k) = z (77 + 5 * s + k) := hw (77 + 5 * s + k) (by omega)
  have e3 : w (197 + 2 * (z (77 + 5 * s + k)).toNat) = z (197 + 2 * (z (77 + 5 * s + k)).toNat) := hw _ (by omega)
  have e4 : w (196 + 2 * (z (77 + 5 * s + k)).toNat) = z (196 + 2 * (z (77 + 5 * s + k)).toNat) := hw _ (by omega)
  exact ⟨e2, okN_c e3 e4⟩
theorem nxt_c {z w : Rw} {q : Int × Int} {n : Int} (h : n = -6 ∨ w (196 + 2 * n.toNat) = z (196 + 2 * n.toNat)) : nxt w q n = nxt z q n := by
  unfold nxt
  rcases h with h | h
  · rw [if_pos h, if_pos h]
  · rw [h]
theorem rn_c {z w : Rw} {g b : Int} (hz : IZ z) (hw : ∀ j, j < 212 → w j = z j) : ∀ s : Nat, (s : Int) ≤ z 0 → rn w g b s = rn z g b s
  | 0, _ => rfl
  | s + 1, h => by
    have q0 := hz.1
    have i1 := rn_c (g := g) (b := b) hz hw s (by omega)
    have i2 := ch_c (g := g) (b := b) hz hw (s := s) (by omega) i1
    rw [rn_s, rn_s, i1, i2]
    refine nxt_c ?_
    rcases ch_in (g := g) (b := b) hz (show (s : Int) < z 0 by omega) with q | q
    · exact Or.inl q
    · exact Or.inr (hw _ (by omega))
theorem hr_c {z w : Rw} {g b : Int} (hz : IZ z) (hw : ∀ j, j < 212 → w j = z j) : ∀ j, j < 121 → hr w g b j = hr z g b j := by
  intro j hj
  have q0 := hz.1
  unfold hr
  rw [hw 0 (by omega)]
  by_cases h0 : j = 0
  · rw [if_pos h0, if_pos h0]
  · rw [if_neg h0, if_neg h0]
    by_cases h1 : (((j - 1) / 5 : Nat) : Int) < z 0
    · rw [if_pos h1, if_pos h1]
      have hi : (j - 1) / 5 < 24 := by omega
      have ec := ch_c (g := g) (b := b) hz hw h1 (rn_c hz hw _ (by omega))
      have ecl : cl w (ch w g b ((j - 1) / 5)) = cl z (ch z g b ((j - 1) / 5)) := by
        rw [ec]
        unfold cl
        rcases ch_in (g := g) (b := b) hz h1 with q | q
        · rw [if_pos q, if_pos q]
        · rw [if_neg (by omega), if_neg (by omega), hw _ (by omega)]
      rw [ecl, ec, hw (4 + 3 * ((j - 1) / 5)) (by omega), hw (5 + 3 * ((j - 1) / 5)) (by omega), hw (6 + 3 * ((j - 1) / 5)) (by omega)]
    · rw [if_neg h1, if_neg h1]
/-- a file loaded or thrown away -/
theorem ld_tot {z : Rw} {l : Nat} {b : Int} (hz : IZ z) (hl : (l : Int) < z 3) (hb : b = 0 ∨ b = 1) : tot (ldZ z l b) l = bt (hrL z l) (zn z) ∧ old (ldZ z l b) l = 0 ∧ ldZ z l b (214 + 3 * l) = 1 - b ∧ ldZ z l b 3 = z 3 ∧ ldZ z l b 1 = z 1 := by
  have q0 := hz.1
  have ez := zn_eq hz
  have hl6 : l < 6 := by omega
  have lo : ∀ j, j < 212 → ldZ z l b j = z j := fun j hj => ldZ_o z l b (by omega) (by omega)
  have fl : ldZ z l b (214 + 3 * l) = 1 - b := by unfold ldZ; rw [if_pos rfl]
  have eh : ∀ j, j < 121 → hrL (ldZ z l b) l j = hrL z l j := fun j hj => by
    unfold hrL
    have e1 : ldZ z l b (212 + 3 * l) = z (212 + 3 * l) := ldZ_o z l b (by omega) (by omega)
    have e2 : ldZ z l b (213 + 3 * l) = z (213 + 3 * l) := ldZ_o z l b (by omega) (by omega)
    rw [e1, e2]
    exact hr_c hz lo j hj
  refine ⟨?_, ?_, fl, lo 3 (by omega), lo 1 (by omega)⟩
  · have ew : ∀ j, j < 121 → wO (ldZ z l b) l j = hrL z l j := fun j hj => by
      rcases hb with rfl | rfl
      · rw [wO_1 (by rw [fl]; rfl)]
        exact ldZ_f z l hl6 hj
      · unfold wO
        rw [if_neg (by rw [fl]; decide)]
        exact eh j hj
    have en : nw (ldZ z l b) l = zn z := by unfold nw; rw [ew 0 (by omega)]; rfl
    unfold tot
    rw [en, bt_c (by omega) ew]
  · unfold old bI
    rcases hb with rfl | rfl
    · have : eqW (hrL (ldZ z l 0) l) (fw (ldZ z l 0) l) = true := eqW_t (fun k hk => by rw [eh k hk, ldZ_f z l hl6 hk])
      rw [this, if_neg (by rintro ⟨-, h⟩; cases h)]
    · rw [if_neg (by rw [fl]; rintro ⟨h, -⟩; omega)]
theorem LK_ld {z : Rw} {l : Nat} {b : Int} {μ' : Mem} (hz : IZ z) (hl : (l : Int) < z 3) (hb : b = 0 ∨ b = 1) (hμ : ∀ k : Nat, (k : Int) < z 3 → k ≠ l → μ' 510 k = SG z k) (hl2 : μ' 510 l = SG (ldZ z l b) l) : LK (ldZ z l b) μ' := by
  have q0 := hz.1
  have h3 : ldZ z l b 3 = z 3 := ldZ_o z l b (by omega) (by omega)
  intro k hk
  rw [h3] at hk
  by_cases e : k = l
  · subst e; right; exact hl2.symm
  · have fl := (hz.2.2.2.2 k hk).2.2.1
    have f : ldZ z l b (214 + 3 * k) = z (214 + 3 * k) := ldZ_o z l b (by omega) (by omega)
    rcases (show z (214 + 3 * k) = 0 ∨ z (214 + 3 * k) = 1 by omega) with h | h
    · left; rw [f]; exact h
    · right
      rw [hμ k hk e]
      exact SG_c hz h3 hk h (by rw [f]; exact h) (fun j hj => ldZ_g z l (by omega) b e (by omega) hj)
