/-- two rows say the same of all that is there -/
def LV (z w : Rw) : Prop := (∀ k, k < 4 → w k = z k) ∧
  (∀ i : Nat, (i : Int) < z 0 → w (4 + 3 * i) = z (4 + 3 * i) ∧ w (5 + 3 * i) = z (5 + 3 * i) ∧ w (6 + 3 * i) = z (6 + 3 * i) ∧ w (76 + 5 * i) = z (76 + 5 * i) ∧ ∀ j : Nat, (j : Int) < z (76 + 5 * i) → w (77 + 5 * i + j) = z (77 + 5 * i + j)) ∧
  (∀ i : Nat, (i : Int) < z 2 → w (196 + 2 * i) = z (196 + 2 * i) ∧ w (197 + 2 * i) = z (197 + 2 * i)) ∧
  (∀ l : Nat, (l : Int) < z 3 → w (212 + 3 * l) = z (212 + 3 * l) ∧ w (213 + 3 * l) = z (213 + 3 * l) ∧ w (214 + 3 * l) = z (214 + 3 * l) ∧ (z (214 + 3 * l) = 1 → ∀ k, k < 121 → fw w l k = fw z l k))
theorem LV_r (z : Rw) : LV z z := ⟨fun _ _ => rfl, fun _ _ => ⟨rfl, rfl, rfl, rfl, fun _ _ => rfl⟩, fun _ _ => ⟨rfl, rfl⟩, fun _ _ => ⟨rfl, rfl, rfl, fun _ _ _ => rfl⟩⟩
theorem LV_t {z w v : Rw} (h : LV z w) (h2 : LV w v) : LV z v := by
  obtain ⟨a1, a2, a3, a4⟩ := h
  obtain ⟨b1, b2, b3, b4⟩ := h2
  have e0 := a1 0 (by omega)
  have e2 := a1 2 (by omega)
  have e3 := a1 3 (by omega)
  refine ⟨fun k hk => (b1 k hk).trans (a1 k hk), fun i hi => ?_, fun i hi => ?_, fun l hl => ?_⟩
  · obtain ⟨c1, c2, c3, c4, c5⟩ := a2 i hi
    obtain ⟨d1, d2, d3, d4, d5⟩ := b2 i (by omega)
    exact ⟨d1.trans c1, d2.trans c2, d3.trans c3, d4.trans c4, fun j hj => (d5 j (by omega)).trans (c5 j hj)⟩
  · obtain ⟨c1, c2⟩ := a3 i hi
    obtain ⟨d1, d2⟩ := b3 i (by omega)
    exact ⟨d1.trans c1, d2.trans c2⟩
  · obtain ⟨c1, c2, c3, c4⟩ := a4 l hl
    obtain ⟨d1, d2, d3, d4⟩ := b4 l (by omega)
    exact ⟨d1.trans c1, d2.trans c2, d3.trans c3, fun h k hk => (d4 (by omega) k hk).trans (c4 h k hk)⟩
theorem LV_IZ {z w : Rw} (hz : IZ z) (h : LV z w) : IZ w := by
  obtain ⟨a1, a2, a3, a4⟩ := h
  obtain ⟨h1, h2, h3, h5, h6⟩ := hz
  have e0 := a1 0 (by omega)
  have e1 := a1 1 (by omega)
  have e2 := a1 2 (by omega)
  have e3 := a1 3 (by omega)
  have e6 := (a2 0 (by omega)).2.2.1
  have e6 : w 6 = z 6 := e6
  unfold IZ
  rw [e0, e1, e2, e3, e6]
  refine ⟨h1, fun i hi => ?_, h3, fun i hi => ?_, fun l hl => ?_⟩
  · obtain ⟨c1, c2, c3, c4, c5⟩ := a2 i hi
    obtain ⟨b1, b2, b3, b4, b5⟩ := h2 i hi
    rw [c1, c2, c3, c4]
    exact ⟨b1, b2, b3, b4, fun j hj => by rw [c5 j hj]; exact b5 j hj⟩
  · obtain ⟨c1, c2⟩ := a3 i hi
    rw [c1, c2]
    exact h5 i hi
  · obtain ⟨c1, c2, c3, c4⟩ := a4 l hl
    obtain ⟨b1, b2, b3, b4⟩ := h6 l hl
    rw [c1, c2, c3]
    exact ⟨b1, b2, b3, fun h => WH_c (c4 h) (b4 h)⟩
theorem LV_RC {z w : Rw} {μ : Mem} {S : Nat} (hz : IZ z) (h : LV z w) (hR : RC z μ S) : RC w μ S := by
  obtain ⟨a1, a2, a3, a4⟩ := h
  obtain ⟨⟨c0, c1, c2, c3⟩, h2, h5, h6⟩ := hR
  have e0 := a1 0 (by omega)
  have e1 := a1 1 (by omega)
  have e2 := a1 2 (by omega)
  have e3 := a1 3 (by omega)
  unfold RC
  rw [e0, e1, e2, e3]
  refine ⟨⟨c0, c1, c2, c3⟩, fun i hi => ?_, fun i hi => ?_, fun l hl => ?_⟩
  · obtain ⟨c1, c2, c3, c4, c5⟩ := a2 i hi
    obtain ⟨b1, b2, b3, b4, b5⟩ := h2 i hi
    rw [c1, c2, c3, c4]
    exact ⟨b1, b2, b3, b4, fun j hj => by rw [c5 j hj]; exact b5 j hj⟩
  · obtain ⟨c1, c2⟩ := a3 i hi
    rw [c1, c2]
    exact h5 i hi
  · obtain ⟨c1, c2, c3, c4⟩ := a4 l hl
    obtain ⟨b1, b2, b3, b4⟩ := h6 l hl
    rw [c1, c2, c3]
    exact ⟨b1, b2, b3, fun h => HR_c ((hz.2.2.2.2 l hl).2.2.2 h).1.2 (c4 h) (b4 h)⟩
/-- rows that are the same below 956 -/
theorem LV_e {z w : Rw} (hz : IZ z) (h : ∀ k, k < 956 → w k = z k) : LV z w := by
  have q := hz.1
  refine ⟨fun k hk => h k (by omega), fun i hi => ⟨h _ (by omega), h _ (by omega), h _ (by omega), h _ (by omega), fun j hj => h _ ?_⟩, fun i hi => ⟨h _ (by omega), h _ (by omega)⟩, fun l hl => ⟨h _ (by omega), h _ (by omega), h _ (by omega), fun _ k hk => h _ (by omega)⟩⟩
  have := (hz.2.1 i hi).2.2.2.1
  omega
/-- the end of a row -/
def ubZ (z : Rw) (s : Nat) : Rw := uz z (77 + 5 * s + (z (76 + 5 * s)).toNat) 0
theorem LV_ub {z : Rw} {s : Nat} (hz : IZ z) (hs : (s : Int) < z 0) (h4 : z (76 + 5 * s) < 4) : LV z (ubZ z s) := by
  have q := hz.1
  have r := (hz.2.1 s hs).2.2.2.1
  obtain ⟨n, hn⟩ := nat_of r.1
  have bo : ∀ k, k ≠ 77 + 5 * s + n → ubZ z s k = z k := fun k h => by unfold ubZ; rw [hn, Int.toNat_natCast]; exact uz_o z 0 h
  refine ⟨fun k hk => bo k (by omega), fun i hi => ⟨bo _ (by omega), bo _ (by omega), bo _ (by omega), bo _ (by omega), fun j hj => bo _ ?_⟩, fun i hi => ⟨bo _ (by omega), bo _ (by omega)⟩, fun l hl => ⟨bo _ (by omega), bo _ (by omega), bo _ (by omega), fun _ k hk => bo _ (by omega)⟩⟩
  have := (hz.2.1 i hi).2.2.2.1
  intro e
  have : i = s := by omega
  subst this
  omega
theorem LV_book {z w : Rw} {s : Nat} {t : Int} (hz : IZ z) (h : LV z w) (hs : (s : Int) < z 0) (h4 : z (76 + 5 * s) < 4) : LV (bookZ z s t) (bookZ w s t) := by
  have q := hz.1
  have r := (hz.2.1 s hs).2.2.2.1
  obtain ⟨n, hn⟩ := nat_of r.1
  obtain ⟨a1, a2, a3, a4⟩ := h
  have hn2 : w (76 + 5 * s) = (n : Int) := (a2 s hs).2.2.2.1.trans hn
  have bo : ∀ k, k ≠ 76 + 5 * s → k ≠ 77 + 5 * s + n → bookZ z s t k = z k := fun k h1 h2 => bookZ_o z s k t h1 (by rw [hn]; exact h2)
  have bw : ∀ k, k ≠ 76 + 5 * s → k ≠ 77 + 5 * s + n → bookZ w s t k = w k := fun k h1 h2 => bookZ_o w s k t h1 (by rw [hn2]; exact h2)
  unfold LV
  rw [bo 0 (by omega) (by omega), bo 2 (by omega) (by omega), bo 3 (by omega) (by omega)]
  refine ⟨fun k hk => ?_, fun i hi => ?_, fun i hi => ?_, fun l hl => ?_⟩
  · rw [bo k (by omega) (by omega), bw k (by omega) (by omega)]; exact a1 k hk
  · obtain ⟨c1, c2, c3, c4, c5⟩ := a2 i hi
    rw [bo (4 + 3 * i) (by omega) (by omega), bo (5 + 3 * i) (by omega) (by omega), bo (6 + 3 * i) (by omega) (by omega), bw (4 + 3 * i) (by omega) (by omega), bw (5 + 3 * i) (by omega) (by omega), bw (6 + 3 * i) (by omega) (by omega)]
    refine ⟨c1, c2, c3, ?_, fun j hj => ?_⟩
    · by_cases hii : i = s
      · subst hii; rw [bookZ_s, bookZ_s]; omega
      · rw [bo _ (by omega) (by omega), bw _ (by omega) (by omega)]; exact c4
    · by_cases hii : i = s
      · subst hii
        rw [bookZ_s] at hj
        by_cases hjn : j = n
        · subst hjn; rw [bookZ_n z i j t hn, bookZ_n w i j t hn2]
        · rw [bo _ (by omega) (by omega), bw _ (by omega) (by omega)]; exact c5 j (by omega)
      · rw [bo (76 + 5 * i) (by omega) (by omega)] at hj
        have := (hz.2.1 i hi).2.2.2.1
        rw [bo _ (by omega) (by omega), bw _ (by omega) (by omega)]; exact c5 j hj
  · rw [bo (196 + 2 * i) (by omega) (by omega), bo (197 + 2 * i) (by omega) (by omega), bw (196 + 2 * i) (by omega) (by omega), bw (197 + 2 * i) (by omega) (by omega)]; exact a3 i hi
  · rw [bo (212 + 3 * l) (by omega) (by omega), bo (213 + 3 * l) (by omega) (by omega), bo (214 + 3 * l) (by omega) (by omega), bw (212 + 3 * l) (by omega) (by omega), bw (213 + 3 * l) (by omega) (by omega), bw (214 + 3 * l) (by omega) (by omega), fw_book z s t l (by omega) (by omega), fw_book w s t l (by omega) (by omega)]; exact a4 l hl
theorem pickR_c {f f' : Nat → Int} {ok ok' : Int → Bool} : ∀ (k j : Nat), (∀ i, j ≤ i → i < j + k → f i = f' i ∧ ok (f' i) = ok' (f' i)) → pickR f ok k j = pickR f' ok' k j
  | 0, _, _ => rfl
  | k + 1, j, h => by
    rw [pickR_s, pickR_s, (h j (by omega) (by omega)).1, (h j (by omega) (by omega)).2, pickR_c k (j + 1) (fun i a b => h i (by omega) (by omega))]
theorem LV_rn {z w : Rw} {g b : Int} (hz : IZ z) (h : LV z w) : ∀ n : Nat, (n : Int) ≤ z 0 → rn w g b n = rn z g b n
  | 0, _ => rfl
  | n + 1, hn => by
    have ih := LV_rn (g := g) (b := b) hz h n (by omega)
    obtain ⟨a1, a2, a3, a4⟩ := h
    obtain ⟨c1, c2, c3, c4, c5⟩ := a2 n (by omega)
    have r := (hz.2.1 n (by omega)).2.2.2
    have ec : ch w g b n = ch z g b n := by
      unfold ch chs
      rw [ih, c4]
      refine pickR_c _ _ (fun i i1 i2 => ⟨c5 i (by omega), ?_⟩)
      have e := r.2 i (by omega)
      have e2 := a3 (z (77 + 5 * n + i)).toNat (by omega)
      unfold okN
      rw [e2.1, e2.2]
    rw [rn_s, rn_s, ih, ec]
    unfold nxt
    rcases ch_in (g := g) (b := b) hz (show (n : Int) < z 0 by omega) with h6 | ⟨h1, h2⟩
    · rw [if_pos h6, if_pos h6]
    · rw [if_neg (by omega), if_neg (by omega), (a3 (ch z g b n).toNat (by omega)).1]
theorem LV_hrs {z w : Rw} {t : Int} (hz : IZ z) (h : LV z w) : sm (hrs w (zn w) t) (znl w) = sm (hrs z (zn z) t) (znl z) := by
  have e0 : zn w = zn z := by unfold zn; rw [h.1 0 (by omega)]
  have e3 : znl w = znl z := by unfold znl; rw [h.1 3 (by omega)]
  have n0 := zn_eq hz
  have n3 := znl_eq hz
  rw [e0, e3]
  refine sm_c (fun l hl => ?_)
  unfold hrs
  rw [LV_rn hz h (zn z) (by omega), (h.2.2.2 l (by omega)).1, (h.2.2.2 l (by omega)).2.1]
/-- all values are ints -/
def IR (z : Rw) : Prop := ∀ k, k < 956 → inR (z k)
theorem IR_ub {z : Rw} {s : Nat} (h : IR z) : IR (ubZ z s) := fun k hk => by
  unfold ubZ uz
  split
  · unfold inR; omega
  · exact h k hk
theorem IR_e {z w : Rw} (h : IR z) (e : ∀ k, k < 956 → w k = z k) : IR w := fun k hk => by rw [e k hk]; exact h k hk
