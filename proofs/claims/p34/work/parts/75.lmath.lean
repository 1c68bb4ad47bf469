/-! WHAT THE LAW LOOKS AT: marks that are distinct, what a listener without a file hears -/
def MZ (z : Rw) : Prop := (∀ i : Nat, (i : Int) < z 0 → zm z i < z 1) ∧ ∀ i j : Nat, (i : Int) < z 0 → (j : Int) < z 0 → zm z i = zm z j → i = j
def St (z : Rw) (μ : Mem) : Prop := IZ z ∧ MZ z ∧ RC z μ 1 ∧ ∃ a, CRr a μ
def Fz (z : Rw) (μ0 μ : Mem) : Prop := St z μ ∧ ∀ k, 510 ≤ k → μ k = μ0 k
theorem Fz_q {z : Rw} {μ0 μ μ' : Mem} (h : Fz z μ0 μ) (hq : QF z μ μ') : Fz z μ0 μ' ∧ ∀ k, 510 ≤ k → μ' k = μ k := by
  obtain ⟨⟨h1, h2, h3, a, h4⟩, h5⟩ := h
  have hk : ∀ k, 510 ≤ k → μ' k = μ k := fun k hk => hq.1 k (by omega) (by omega) (by omega)
  exact ⟨⟨⟨h1, h2, hq.2, a, CRr_q hq h4⟩, fun k h => (hk k h).trans (h5 k h)⟩, hk⟩
theorem Fz_r {z : Rw} {μ : Mem} (h : St z μ) : Fz z μ μ := ⟨h, fun _ _ => rfl⟩
theorem fsI_a {p : Nat → Bool} {e : Int} {n : Nat} (i : Nat) (hi : i < n) (hp : p i = true) (hm : ∀ j, j < i → p j = false) : fsI p e n = (i : Int) := fsI_s hi hp hm
-- listener l by the state as it is
def nl (z : Rw) (g b : Int) (i : Nat) : Int := cl z (ch z g b i)
theorem cl_b {z : Rw} {g b : Int} {i : Nat} (hz : IZ z) (hi : (i : Int) < z 0) : 0 ≤ nl z g b i ∧ nl z g b i ≤ 120 ∧ (nl z g b i = 0 ↔ ch z g b i = -6) := by
  unfold nl cl
  rcases ch_in (g := g) (b := b) hz hi with h | ⟨h1, h2⟩
  · rw [if_pos h]; omega
  · have q := (hz.2.2.2.1 (ch z g b i).toNat (by omega)).1
    rw [if_neg (by omega)]
    omega
theorem rn_sm {z : Rw} {g b : Int} : ∀ s : Nat, (rn z g b s).2 = sm (nl z g b) s
  | 0 => rfl
  | s + 1 => by
    have ih := rn_sm (z := z) (g := g) (b := b) s
    rw [sm_s, ← ih]
    show (nxt z (rn z g b s) (ch z g b s)).2 = (rn z g b s).2 + cl z (ch z g b s)
    unfold nxt cl
    split <;> simp
theorem rn_b2 {z : Rw} {g b : Int} (hz : IZ z) (hb : -1 ≤ b) : ∀ s : Nat, (s : Int) ≤ z 0 → 0 ≤ (rn z g b s).2 ∧ ((rn z g b s).2 ≤ b ∨ (rn z g b s).2 = 0)
  | 0, _ => ⟨Int.le_refl _, Or.inr rfl⟩
  | s + 1, h => by
    have ih := rn_b2 (g := g) (b := b) hz hb s (by omega)
    rw [rn_s]
    rcases chs_in (g := g) (b := b) (q := rn z g b s) hz (show (s : Int) < z 0 by omega) with q | ⟨q1, q2, q3⟩
    · have q : ch z g b s = -6 := q
      unfold nxt; rw [if_pos q]; exact ih
    · have q1 : 0 ≤ ch z g b s := q1
      have q2 : ch z g b s < z 2 := q2
      have q3 : okN z g b (rn z g b s).1 (rn z g b s).2 (ch z g b s) = true := q3
      unfold okN at q3
      have q3 := of_decide_eq_true q3
      have q4 := (hz.2.2.2.1 (ch z g b s).toNat (by omega)).1
      unfold nxt; rw [if_neg (by omega)]
      show 0 ≤ (rn z g b s).2 + _ ∧ _
      omega
theorem S_b {z : Rw} {g b : Int} (hz : IZ z) (hb : -1 ≤ b ∧ b ≤ 600) {s : Nat} (h : (s : Int) ≤ z 0) : 0 ≤ sm (nl z g b) s ∧ sm (nl z g b) s ≤ 600 := by
  have := rn_b2 (g := g) (b := b) hz hb.1 s h
  rw [rn_sm] at this
  omega
theorem T_b {z : Rw} (hz : IZ z) {s : Nat} (h : (s : Int) ≤ z 0) : (s : Int) ≤ sm (zl z) s ∧ sm (zl z) s ≤ 300 * s := by
  induction s with
  | zero => exact ⟨by simp [sm], by simp [sm]⟩
  | succ s ih =>
    have ih := ih (by omega)
    have q := (hz.2.1 s (by omega)).2.1
    have e : zl z s = z (5 + 3 * s) := rfl
    rw [sm_s]
    omega
theorem zl_b {z : Rw} (hz : IZ z) {s : Nat} (h : (s : Int) < z 0) : 1 ≤ zl z s ∧ zl z s ≤ 300 := (hz.2.1 s h).2.1
theorem zm_b {z : Rw} (hz : IZ z) {s : Nat} (h : (s : Int) < z 0) : 0 ≤ zm z s ∧ zm z s ≤ 99 := (hz.2.1 s h).1
theorem zb_b {z : Rw} (hz : IZ z) {s : Nat} (h : (s : Int) < z 0) : 0 ≤ zb z s ∧ zb z s ≤ 1 := (hz.2.1 s h).2.2.1
theorem B_b {z : Rw} (hz : IZ z) {s : Nat} (h : (s : Int) ≤ z 0) : 0 ≤ sm (zb z) s ∧ sm (zb z) s ≤ s := by
  have := sm_b (f := zb z) (b := 1) (n := s) (fun i hi => zb_b hz (by omega))
  omega
theorem B_1 {z : Rw} (hz : IZ z) {s : Nat} (h : (s : Int) < z 0) : 1 ≤ sm (zb z) (s + 1) := by
  have h1 := sm_mono (f := zb z) (m := 1) (n := s + 1) (by omega) (fun i hi => (zb_b hz (by omega)).1)
  have e : sm (zb z) 1 = z 6 := by rw [sm_s, sm_0]; show 0 + z (6 + 3 * 0) = z 6; simp
  rw [e, hz.2.2.1] at h1
  exact h1
def NF (z : Rw) (l : Nat) : Prop := (l : Int) < z 3 ∧ z (214 + 3 * l) = 0
def gL (z : Rw) (l : Nat) : Int := z (212 + 3 * l)
def bLi (z : Rw) (l : Nat) : Int := z (213 + 3 * l)
theorem bLi_b {z : Rw} {l : Nat} (hz : IZ z) (hl : (l : Int) < z 3) : 0 ≤ bLi z l ∧ bLi z l ≤ 600 := (hz.2.2.2.2 l hl).2.1
theorem NF_w {z : Rw} {l : Nat} (h : NF z l) : wO z l = hr z (gL z l) (bLi z l) := by
  unfold wO; rw [if_neg (by rw [h.2]; decide)]; rfl
theorem NF_n {z : Rw} {l : Nat} (h : NF z l) : nw z l = zn z := by
  unfold nw; rw [NF_w h]; rfl
theorem hw4 {z : Rw} {g b : Int} {p : Nat} (h : (p : Int) ≤ z 0) : sm (wl4 (hr z g b)) p = sm (zl z) p := sm_c (fun i hi => by show hr z g b (5 * i + 4) = _; rw [hr_4 (by omega)]; rfl)
theorem hw2 {z : Rw} {g b : Int} {p : Nat} (h : (p : Int) ≤ z 0) : sm (fun i => hr z g b (5 * i + 2)) p = sm (nl z g b) p := sm_c (fun i hi => by rw [hr_2 (by omega)]; rfl)
theorem hwb {z : Rw} {g b : Int} {p : Nat} (h : (p : Int) ≤ z 0) : sm (wb (hr z g b)) p = sm (zb z) p := sm_c (fun i hi => by show hr z g b (5 * i + 5) = _; rw [hr_5 (by omega)]; rfl)
theorem hbt {z : Rw} {g b : Int} {p : Nat} (h : (p : Int) ≤ z 0) : bt (hr z g b) p = sm (zl z) p + sm (nl z g b) p := by
  unfold bt
  have := hw4 (g := g) (b := b) h
  unfold wl4 at this
  rw [this, hw2 h]
theorem hht {z : Rw} {g b : Int} {p : Nat} (h : (p : Int) ≤ z 0) : ht (hr z g b) p = sm (zl z) p + sm (nl z g b) p := by rw [ht_bt, hbt h]
theorem hsT {z : Rw} {g b : Int} {p : Nat} (h : (p : Int) < z 0) : sT (hr z g b) p = sm (zl z) p + sm (nl z g b) (p + 1) := by
  unfold sT
  rw [hbt (by omega), hr_2 h, sm_s]
  show _ + cl z (ch z g b p) = _ + (_ + nl z g b p)
  unfold nl
  omega
section LNF
variable {z : Rw} {l : Nat}
theorem f_heard {s : Nat} (hz : IZ z) (hn : NF z l) (hs : (s : Int) < z 0) : F_heard z (l : Int) (s : Int) = ch z (gL z l) (bLi z l) s := by
  have e := zn_eq hz
  have q := hn.1
  unfold F_heard
  rw [if_neg (by omega), Int.toNat_natCast, NF_n hn, NF_w hn, if_neg (by omega), Int.toNat_natCast, hr_1 hs]
theorem f_heard_n (hz : IZ z) (hn : NF z l) : F_heard z (l : Int) (zn z : Int) = -1 := by
  have q := hn.1
  unfold F_heard
  rw [if_neg (by omega), Int.toNat_natCast, NF_n hn, if_pos (by omega)]
theorem f_chap {s : Nat} (hz : IZ z) (hn : NF z l) (hs : (s : Int) < z 0) (h1 : zb z s = 1) : F_chapterAt z (l : Int) (sm (zb z) (s + 1) - 1) = sm (zl z) s + sm (nl z (gL z l) (bLi z l)) s := by
  have e := zn_eq hz
  have q := hn.1
  have b1 := B_1 hz hs
  have b2 := sm_mono (f := zb z) (m := s + 1) (n := zn z) (by omega) (fun i hi => (zb_b hz (by omega)).1)
  unfold F_chapterAt
  rw [if_neg (by omega), Int.toNat_natCast, NF_n hn, NF_w hn, hwb (by omega), if_neg (by omega)]
  have e1 : fsI (fun i => decide (sm (zb z) (s + 1) - 1 < sm (wb (hr z (gL z l) (bLi z l))) (i + 1))) 0 (zn z) = (s : Int) := by
    refine fsI_s (by omega) (decide_eq_true (by rw [hwb (by omega)]; omega)) (fun j hj => decide_eq_false ?_)
    rw [hwb (by omega), sm_s (zb z) s, h1]
    have b3 := sm_mono (f := zb z) (m := j + 1) (n := s) (by omega) (fun i hi => (zb_b hz (by omega)).1)
    omega
  rw [e1, Int.toNat_natCast, hbt (by omega)]
theorem f_chap_n {c : Int} (hz : IZ z) (hn : NF z l) (hc : c < 0 ∨ sm (zb z) (zn z) ≤ c) : F_chapterAt z (l : Int) c = -1 := by
  have e := zn_eq hz
  have q := hn.1
  unfold F_chapterAt
  rw [if_neg (by omega), Int.toNat_natCast, NF_n hn, NF_w hn, hwb (by omega), if_pos (by omega)]
theorem f_when {s : Nat} {u : Int} (hz : IZ z) (hn : NF z l) (hs : (s : Int) < z 0) (h0 : 0 ≤ u) (h1 : u < zl z s) : F_whenHeard z (l : Int) (sm (zl z) s + u) = sm (zl z) s + sm (nl z (gL z l) (bLi z l)) (s + 1) + u := by
  have e := zn_eq hz
  have q := hn.1
  have t1 := T_b hz (s := s) (by omega)
  have t2 := zl_b hz hs
  have e1 : pAt (hr z (gL z l) (bLi z l)) (zn z) (sm (zl z) s + u) = (s : Int) := by
    refine fsI_s (by omega) (decide_eq_true (by rw [hw4 (by omega), sm_s]; omega)) (fun j hj => decide_eq_false ?_)
    rw [hw4 (by omega)]
    have b3 := sm_mono (f := zl z) (m := j + 1) (n := s) (by omega) (fun i hi => by have := zl_b hz (s := i) (by omega); omega)
    omega
  unfold F_whenHeard
  rw [if_neg (by omega), Int.toNat_natCast, NF_n hn, NF_w hn, if_neg (by omega), e1, if_neg (by omega), Int.toNat_natCast, hw2 (by omega)]
  omega
theorem f_when_n (hz : IZ z) (hn : NF z l) (h : sm (zl z) (zn z) ≤ 7199) : F_whenHeard z (l : Int) (sm (zl z) (zn z)) = -6 := by
  have e := zn_eq hz
  have q := hn.1
  have t1 := T_b hz (s := zn z) (by omega)
  have e1 : pAt (hr z (gL z l) (bLi z l)) (zn z) (sm (zl z) (zn z)) = -6 := by
    refine fsI_n (fun j hj => decide_eq_false ?_)
    rw [hw4 (by omega)]
    have b3 := sm_mono (f := zl z) (m := j + 1) (n := zn z) (by omega) (fun i hi => by have := zl_b hz (s := i) (by omega); omega)
    omega
  unfold F_whenHeard
  rw [if_neg (by omega), Int.toNat_natCast, NF_n hn, NF_w hn, if_neg (by omega), e1, if_pos rfl]
theorem pMk_e {s : Nat} (hz : IZ z) (hM : MZ z) (hs : (s : Int) < z 0) (g b : Int) : pMk (hr z g b) (zn z) (zm z s) = (s : Int) := by
  have e := zn_eq hz
  refine fsI_s (by omega) (decide_eq_true (by show hr z g b (5 * s + 3) = _; rw [hr_3 hs]; rfl)) (fun j hj => decide_eq_false (fun q => ?_))
  have q1 : hr z g b (5 * j + 3) = zm z s := q
  rw [hr_3 (by omega)] at q1
  have := hM.2 j s (by omega) hs q1
  omega
theorem f_open {s : Nat} {u : Int} (hz : IZ z) (hM : MZ z) (hn : NF z l) (hs : (s : Int) < z 0) (h0 : 0 ≤ u) (h1 : u < zl z s) : F_open z (l : Int) (zm z s) u = sm (zl z) s + sm (nl z (gL z l) (bLi z l)) (s + 1) + u := by
  have q := hn.1
  have t2 := zl_b hz hs
  unfold F_open
  rw [if_neg (by omega), Int.toNat_natCast, NF_n hn, NF_w hn, if_neg (by omega), pMk_e hz hM hs, if_neg (by omega), Int.toNat_natCast, if_neg (by show ¬ hr z _ _ (5 * s + 4) ≤ u; rw [hr_4 hs]; show ¬ zl z s ≤ u; omega), hsT hs]
theorem f_open_n {s : Nat} (hz : IZ z) (hM : MZ z) (hn : NF z l) (hs : (s : Int) < z 0) (h1 : zl z s ≤ 299) : F_open z (l : Int) (zm z s) (zl z s) = -5 := by
  have q := hn.1
  have t2 := zl_b hz hs
  unfold F_open
  rw [if_neg (by omega), Int.toNat_natCast, NF_n hn, NF_w hn, if_neg (by omega), pMk_e hz hM hs, if_neg (by omega), Int.toNat_natCast, if_pos (by show hr z _ _ (5 * s + 4) ≤ _; rw [hr_4 hs]; exact Int.le_refl _)]
theorem pHt_e {s : Nat} {t g b : Int} (hz : IZ z) (hs : (s : Int) < z 0) (h0 : sm (zl z) s + sm (nl z g b) s ≤ t) (h1 : t < sm (zl z) (s + 1) + sm (nl z g b) (s + 1)) : pHt (hr z g b) (zn z) t = (s : Int) := by
  have e := zn_eq hz
  refine fsI_s (by omega) (decide_eq_true (by rw [hht (by omega)]; exact h1)) (fun j hj => decide_eq_false ?_)
  rw [hht (by omega)]
  have b3 := sm_mono (f := zl z) (m := j + 1) (n := s) (by omega) (fun i hi => by have := zl_b hz (s := i) (by omega); omega)
  have b4 := sm_mono (f := nl z g b) (m := j + 1) (n := s) (by omega) (fun i hi => (cl_b hz (by omega)).1)
  omega
/-- a second of a sentence -/
theorem f_at {s : Nat} {u x : Int} (hz : IZ z) (hn : NF z l) (hs : (s : Int) < z 0) (h0 : 0 ≤ u) (h1 : u < zl z s) (hx : 0 ≤ x ∧ x ≤ 3) : F_heardAt z (l : Int) (sm (zl z) s + sm (nl z (gL z l) (bLi z l)) (s + 1) + u) x = if x = 0 then sm (zl z) s + u else if x = 1 then -6 else if x = 2 then (s : Int) else sm (zb z) (s + 1) - 1 := by
  have e := zn_eq hz
  have q := hn.1
  have t1 := T_b hz (s := s) (by omega)
  have t2 := zl_b hz hs
  have s1 := S_b (g := gL z l) (b := bLi z l) hz (by have := bLi_b hz q; omega) (s := s + 1) (by omega)
  have s2 := cl_b (g := gL z l) (b := bLi z l) hz hs
  have e1 := pHt_e (g := gL z l) (b := bLi z l) (t := sm (zl z) s + sm (nl z (gL z l) (bLi z l)) (s + 1) + u) hz hs (by rw [sm_s (nl z (gL z l) (bLi z l))]; omega) (by rw [sm_s (zl z)]; omega)
  unfold F_heardAt
  rw [if_neg (by omega), Int.toNat_natCast, NF_n hn, NF_w hn, if_neg (by omega), e1, if_neg (by omega), Int.toNat_natCast, hsT hs, hwb (by omega), hw4 (by omega)]
  by_cases x0 : x = 0
  · rw [if_pos x0, if_pos x0, if_neg (by omega)]; omega
  · rw [if_neg x0, if_neg x0]
    by_cases x1 : x = 1
    · rw [if_pos x1, if_pos x1, if_neg (by omega)]
    · rw [if_neg x1, if_neg x1]
/-- a second of a notice -/
theorem f_atn {s : Nat} {t x : Int} (hz : IZ z) (hn : NF z l) (hs : (s : Int) < z 0) (h0 : sm (zl z) s + sm (nl z (gL z l) (bLi z l)) s ≤ t) (h1 : t < sm (zl z) s + sm (nl z (gL z l) (bLi z l)) (s + 1)) (hx : 0 ≤ x ∧ x ≤ 3) : F_heardAt z (l : Int) t x = if x = 0 then -6 else if x = 1 then ch z (gL z l) (bLi z l) s else if x = 2 then (s : Int) else sm (zb z) (s + 1) - 1 := by
  have e := zn_eq hz
  have q := hn.1
  have t1 := T_b hz (s := s) (by omega)
  have t2 := zl_b hz hs
  have s0 := S_b (g := gL z l) (b := bLi z l) hz (by have := bLi_b hz q; omega) (s := s) (by omega)
  have s1 := S_b (g := gL z l) (b := bLi z l) hz (by have := bLi_b hz q; omega) (s := s + 1) (by omega)
  have e1 := pHt_e (g := gL z l) (b := bLi z l) (t := t) hz hs h0 (by rw [sm_s (zl z)]; omega)
  unfold F_heardAt
  rw [if_neg (by omega), Int.toNat_natCast, NF_n hn, NF_w hn, if_neg (by omega), e1, if_neg (by omega), Int.toNat_natCast, hsT hs, hwb (by omega), hw4 (by omega)]
  by_cases x0 : x = 0
  · rw [if_pos x0, if_pos x0, if_pos (by omega)]
  · rw [if_neg x0, if_neg x0]
    by_cases x1 : x = 1
    · rw [if_pos x1, if_pos x1, if_pos (by omega), hr_1 hs]
    · rw [if_neg x1, if_neg x1]
theorem f_at_n (hz : IZ z) (hn : NF z l) : F_heardAt z (l : Int) (sm (zl z) (zn z) + sm (nl z (gL z l) (bLi z l)) (zn z)) 2 = -5 := by
  have e := zn_eq hz
  have q := hn.1
  have t1 := T_b hz (s := zn z) (by omega)
  have s1 := S_b (g := gL z l) (b := bLi z l) hz (by have := bLi_b hz q; omega) (s := zn z) (by omega)
  have e1 : pHt (hr z (gL z l) (bLi z l)) (zn z) (sm (zl z) (zn z) + sm (nl z (gL z l) (bLi z l)) (zn z)) = -6 := by
    refine fsI_n (fun j hj => decide_eq_false ?_)
    rw [hht (by omega)]
    have b3 := sm_mono (f := zl z) (m := j + 1) (n := zn z) (by omega) (fun i hi => by have := zl_b hz (s := i) (by omega); omega)
    have b4 := sm_mono (f := nl z (gL z l) (bLi z l)) (m := j + 1) (n := zn z) (by omega) (fun i hi => (cl_b hz (by omega)).1)
    omega
  unfold F_heardAt
  rw [if_neg (by omega), Int.toNat_natCast, NF_n hn, NF_w hn, if_neg (by omega), e1, if_pos rfl]
/-- how many notices up to a place -/
def kN (z : Rw) (g b : Int) (i : Nat) : Int := if ch z g b i < 0 then 0 else 1
theorem f_of3 (hn : NF z l) : F_of z (l : Int) 3 = 0 := by
  have q := hn.1
  unfold F_of
  rw [if_neg (by omega), if_neg (by omega), if_neg (by omega), if_neg (by omega), if_pos rfl, Int.toNat_natCast]
  unfold old bI
  rw [if_neg (by rw [hn.2]; omega)]
theorem f_of4 (hz : IZ z) (hn : NF z l) : F_of z (l : Int) 4 = sm (zl z) (zn z) + sm (nl z (gL z l) (bLi z l)) (zn z) := by
  have e := zn_eq hz
  have q := hn.1
  unfold F_of tot
  rw [if_neg (by omega), if_neg (by omega), if_neg (by omega), if_neg (by omega), if_neg (by omega), if_pos rfl, Int.toNat_natCast, NF_n hn, NF_w hn, hbt (by omega)]
theorem f_of5 (hz : IZ z) (hn : NF z l) : F_of z (l : Int) 5 = sm (kN z (gL z l) (bLi z l)) (zn z) := by
  have e := zn_eq hz
  have q := hn.1
  unfold F_of
  rw [if_neg (by omega), if_neg (by omega), if_neg (by omega), if_neg (by omega), if_neg (by omega), if_neg (by omega), if_pos rfl, Int.toNat_natCast, NF_n hn, NF_w hn]
  refine sm_c (fun i hi => ?_)
  rw [hr_1 (by omega)]
  unfold bI kN
  rcases ch_in (g := gL z l) (b := bLi z l) (s := i) hz (by omega) with h | h
  · rw [h, if_neg (by omega), if_pos (by omega)]
  · rw [if_pos (by omega), if_neg (by omega)]
theorem f_of6 (hz : IZ z) (hn : NF z l) : F_of z (l : Int) 6 = sm (nl z (gL z l) (bLi z l)) (zn z) := by
  have e := zn_eq hz
  have q := hn.1
  unfold F_of
  rw [if_neg (by omega), if_neg (by omega), if_neg (by omega), if_neg (by omega), if_neg (by omega), if_neg (by omega), if_neg (by omega), if_pos rfl, Int.toNat_natCast, NF_n hn, NF_w hn, hw2 (by omega)]
theorem f_of7 (hz : IZ z) (hn : NF z l) : F_of z (l : Int) 7 = (zn z : Int) := by
  have e := zn_eq hz
  have q := hn.1
  unfold F_of
  rw [if_neg (by omega), if_neg (by omega), if_neg (by omega), if_neg (by omega), if_neg (by omega), if_neg (by omega), if_neg (by omega), if_neg (by omega), if_pos rfl, Int.toNat_natCast, NF_w hn, hr_0]
  exact e.1
end LNF
