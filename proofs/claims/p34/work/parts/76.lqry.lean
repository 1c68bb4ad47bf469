/-! THE QUERIES AS THE LAW MEETS THEM: nothing changes but what the object alone sees -/
theorem el_0 {y : Nat → Int} {L d g na : Nat} {len : Nat → Nat} {Q : QT} {μ : Mem} {a0 : Nat} {a1 : Int} (h : wp2 y L 0 (Call2 y L d) 0 Q (0, na, len) 0 [some (.inr (.inr a0)), some (.inl a1)] [] μ) : Call2 y L (d + 1) 0 [.inr (.inr a0), .inl a1] (g, na, len) μ Q := Call2_go rfl (Nat.le_of_ble_eq_true rfl) rfl h
theorem el_1 {y : Nat → Int} {L d g na : Nat} {len : Nat → Nat} {Q : QT} {μ : Mem} {a0 : Int} {a1 : Int} (h : wp2 y L 0 (Call2 y L d) 1 Q (0, na, len) 0 [some (.inl a0), some (.inl a1)] [] μ) : Call2 y L (d + 1) 1 [.inl a0, .inl a1] (g, na, len) μ Q := Call2_go rfl (Nat.le_of_ble_eq_true rfl) rfl h
theorem el_2 {y : Nat → Int} {L d g na : Nat} {len : Nat → Nat} {Q : QT} {μ : Mem} {a0 : Nat} {a1 : Nat} {a2 : Int} {a3 : Int} {a4 : Int} (h : wp2 y L 0 (Call2 y L d) 2 Q (0, na, len) 0 [some (.inr (.inr a0)), some (.inr (.inr a1)), some (.inl a2), some (.inl a3), some (.inl a4), none, none, none, none, none, none, none, none] [] μ) : Call2 y L (d + 1) 2 [.inr (.inr a0), .inr (.inr a1), .inl a2, .inl a3, .inl a4] (g, na, len) μ Q := Call2_go rfl (Nat.le_of_ble_eq_true rfl) rfl h
theorem el_3 {y : Nat → Int} {L d g na : Nat} {len : Nat → Nat} {Q : QT} {μ : Mem} {a0 : Nat} {a1 : Int} {a2 : Int} {a3 : Nat} {a4 : Nat} (h : wp2 y L 0 (Call2 y L d) 3 Q (0, na, len) 0 [some (.inr (.inr a0)), some (.inl a1), some (.inl a2), some (.inr (.inr a3)), some (.inr (.inr a4)), none, none, none, none, none, none, none, none, none] [] μ) : Call2 y L (d + 1) 3 [.inr (.inr a0), .inl a1, .inl a2, .inr (.inr a3), .inr (.inr a4)] (g, na, len) μ Q := Call2_go rfl (Nat.le_of_ble_eq_true rfl) rfl h
theorem el_4 {y : Nat → Int} {L d g na : Nat} {len : Nat → Nat} {Q : QT} {μ : Mem} {a0 : Nat} {a1 : Int} {a2 : Int} (h : wp2 y L 2 (Call2 y L d) 4 Q (0, na, len) 0 [some (.inr (.inr a0)), some (.inl a1), some (.inl a2), none, none, none, none, none, none, none, none, none, none, none, none] [] μ) : Call2 y L (d + 1) 4 [.inr (.inr a0), .inl a1, .inl a2] (g, na, len) μ Q := Call2_go rfl (Nat.le_of_ble_eq_true rfl) rfl h
theorem el_5 {y : Nat → Int} {L d g na : Nat} {len : Nat → Nat} {Q : QT} {μ : Mem} {a0 : Nat} {a1 : Int} (h : wp2 y L 2 (Call2 y L d) 5 Q (0, na, len) 0 [some (.inr (.inr a0)), some (.inl a1), none, none, none, none, none, none, none, none, none] [] μ) : Call2 y L (d + 1) 5 [.inr (.inr a0), .inl a1] (g, na, len) μ Q := Call2_go rfl (Nat.le_of_ble_eq_true rfl) rfl h
theorem el_6 {y : Nat → Int} {L d g na : Nat} {len : Nat → Nat} {Q : QT} {μ : Mem} {a0 : Nat} (h : wp2 y L 2 (Call2 y L d) 6 Q (0, na, len) 0 [some (.inr (.inr a0)), none, none, none, none, none, none, none, none, none] [] μ) : Call2 y L (d + 1) 6 [.inr (.inr a0)] (g, na, len) μ Q := Call2_go rfl (Nat.le_of_ble_eq_true rfl) rfl h
theorem el_7 {y : Nat → Int} {L d g na : Nat} {len : Nat → Nat} {Q : QT} {μ : Mem} {a0 : Nat} {a1 : Int} (h : wp2 y L 26 (Call2 y L d) 7 Q (0, na, len) 0 [some (.inr (.inr a0)), some (.inl a1), none, none, none, none] [] μ) : Call2 y L (d + 1) 7 [.inr (.inr a0), .inl a1] (g, na, len) μ Q := Call2_go rfl (Nat.le_of_ble_eq_true rfl) rfl h

theorem q_cnt0 {Q : QT} {μ0 μ : Mem} {z : Rw}  (hF : Fz z μ0 μ)  (h : ∀ μ', Fz z μ0 μ' → Q (.inl (z 0)) μ') : Call σ1 6 54 [.inr (.inr 0), .inl (0)] μ (fun v μ' => (∀ k, 510 ≤ k → μ' k = μ k) ∧ Q v μ') := by
  have hz := hF.1.1
  have q0 := hz.1
  refine k_NS_count hz hF.1.2.2.1 ⟨by omega, by omega⟩ (fun μ' hq => ?_)
  exact ⟨(Fz_q hF hq).2, h μ' (Fz_q hF hq).1⟩

theorem q_cnt1 {Q : QT} {μ0 μ : Mem} {z : Rw}  (hF : Fz z μ0 μ)  (h : ∀ μ', Fz z μ0 μ' → Q (.inl (sm (zl z) (zn z))) μ') : Call σ1 6 54 [.inr (.inr 0), .inl (1)] μ (fun v μ' => (∀ k, 510 ≤ k → μ' k = μ k) ∧ Q v μ') := by
  have hz := hF.1.1
  have q0 := hz.1
  refine k_NS_count hz hF.1.2.2.1 ⟨by omega, by omega⟩ (fun μ' hq => ?_)
  exact ⟨(Fz_q hF hq).2, h μ' (Fz_q hF hq).1⟩

theorem q_cnt2 {Q : QT} {μ0 μ : Mem} {z : Rw}  (hF : Fz z μ0 μ)  (h : ∀ μ', Fz z μ0 μ' → Q (.inl (sm (zb z) (zn z))) μ') : Call σ1 6 54 [.inr (.inr 0), .inl (2)] μ (fun v μ' => (∀ k, 510 ≤ k → μ' k = μ k) ∧ Q v μ') := by
  have hz := hF.1.1
  have q0 := hz.1
  refine k_NS_count hz hF.1.2.2.1 ⟨by omega, by omega⟩ (fun μ' hq => ?_)
  exact ⟨(Fz_q hF hq).2, h μ' (Fz_q hF hq).1⟩

theorem q_cnt3 {Q : QT} {μ0 μ : Mem} {z : Rw}  (hF : Fz z μ0 μ)  (h : ∀ μ', Fz z μ0 μ' → Q (.inl (z 2)) μ') : Call σ1 6 54 [.inr (.inr 0), .inl (3)] μ (fun v μ' => (∀ k, 510 ≤ k → μ' k = μ k) ∧ Q v μ') := by
  have hz := hF.1.1
  have q0 := hz.1
  refine k_NS_count hz hF.1.2.2.1 ⟨by omega, by omega⟩ (fun μ' hq => ?_)
  exact ⟨(Fz_q hF hq).2, h μ' (Fz_q hF hq).1⟩

theorem q_cnt4 {Q : QT} {μ0 μ : Mem} {z : Rw}  (hF : Fz z μ0 μ)  (h : ∀ μ', Fz z μ0 μ' → Q (.inl (z 3)) μ') : Call σ1 6 54 [.inr (.inr 0), .inl (4)] μ (fun v μ' => (∀ k, 510 ≤ k → μ' k = μ k) ∧ Q v μ') := by
  have hz := hF.1.1
  have q0 := hz.1
  refine k_NS_count hz hF.1.2.2.1 ⟨by omega, by omega⟩ (fun μ' hq => ?_)
  exact ⟨(Fz_q hF hq).2, h μ' (Fz_q hF hq).1⟩

theorem q_cnt5 {Q : QT} {μ0 μ : Mem} {z : Rw}  (hF : Fz z μ0 μ)  (h : ∀ μ', Fz z μ0 μ' → Q (.inl (olds z (znl z))) μ') : Call σ1 6 54 [.inr (.inr 0), .inl (5)] μ (fun v μ' => (∀ k, 510 ≤ k → μ' k = μ k) ∧ Q v μ') := by
  have hz := hF.1.1
  have q0 := hz.1
  refine k_NS_count hz hF.1.2.2.1 ⟨by omega, by omega⟩ (fun μ' hq => ?_)
  exact ⟨(Fz_q hF hq).2, h μ' (Fz_q hF hq).1⟩

theorem q_cnt6 {Q : QT} {μ0 μ : Mem} {z : Rw}  (hF : Fz z μ0 μ)  (h : ∀ μ', Fz z μ0 μ' → Q (.inl ((lng z (znl z)).1)) μ') : Call σ1 6 54 [.inr (.inr 0), .inl (6)] μ (fun v μ' => (∀ k, 510 ≤ k → μ' k = μ k) ∧ Q v μ') := by
  have hz := hF.1.1
  have q0 := hz.1
  refine k_NS_count hz hF.1.2.2.1 ⟨by omega, by omega⟩ (fun μ' hq => ?_)
  exact ⟨(Fz_q hF hq).2, h μ' (Fz_q hF hq).1⟩

theorem q_sen0 {Q : QT} {μ0 μ : Mem} {z : Rw} {s : Nat} (hF : Fz z μ0 μ) (hs : (s : Int) < z 0) (h : ∀ μ', Fz z μ0 μ' → Q (.inl (zm z s)) μ') : Call σ1 6 49 [.inr (.inr 0), .inl ((s : Int)), .inl (0)] μ (fun v μ' => (∀ k, 510 ≤ k → μ' k = μ k) ∧ Q v μ') := by
  have hz := hF.1.1
  have q0 := hz.1
  refine k_NS_sentence hz hF.1.2.2.1 ⟨by omega, by omega⟩ ⟨by omega, by omega⟩ (fun μ' hq => ?_)
  have e : F_sentence z (s : Int) 0 = zm z s := by
    unfold F_sentence
    rw [if_neg (by omega), Int.toNat_natCast]
    rfl
  rw [e]
  exact ⟨(Fz_q hF hq).2, h μ' (Fz_q hF hq).1⟩

theorem q_sen1 {Q : QT} {μ0 μ : Mem} {z : Rw} {s : Nat} (hF : Fz z μ0 μ) (hs : (s : Int) < z 0) (h : ∀ μ', Fz z μ0 μ' → Q (.inl (zl z s)) μ') : Call σ1 6 49 [.inr (.inr 0), .inl ((s : Int)), .inl (1)] μ (fun v μ' => (∀ k, 510 ≤ k → μ' k = μ k) ∧ Q v μ') := by
  have hz := hF.1.1
  have q0 := hz.1
  refine k_NS_sentence hz hF.1.2.2.1 ⟨by omega, by omega⟩ ⟨by omega, by omega⟩ (fun μ' hq => ?_)
  have e : F_sentence z (s : Int) 1 = zl z s := by
    unfold F_sentence
    rw [if_neg (by omega), Int.toNat_natCast]
    rfl
  rw [e]
  exact ⟨(Fz_q hF hq).2, h μ' (Fz_q hF hq).1⟩

theorem q_sen2 {Q : QT} {μ0 μ : Mem} {z : Rw} {s : Nat} (hF : Fz z μ0 μ) (hs : (s : Int) < z 0) (h : ∀ μ', Fz z μ0 μ' → Q (.inl (sm (zl z) s)) μ') : Call σ1 6 49 [.inr (.inr 0), .inl ((s : Int)), .inl (2)] μ (fun v μ' => (∀ k, 510 ≤ k → μ' k = μ k) ∧ Q v μ') := by
  have hz := hF.1.1
  have q0 := hz.1
  refine k_NS_sentence hz hF.1.2.2.1 ⟨by omega, by omega⟩ ⟨by omega, by omega⟩ (fun μ' hq => ?_)
  have e : F_sentence z (s : Int) 2 = sm (zl z) s := by
    unfold F_sentence
    rw [if_neg (by omega), Int.toNat_natCast]
    rfl
  rw [e]
  exact ⟨(Fz_q hF hq).2, h μ' (Fz_q hF hq).1⟩

theorem q_sen3 {Q : QT} {μ0 μ : Mem} {z : Rw} {s : Nat} (hF : Fz z μ0 μ) (hs : (s : Int) < z 0) (h : ∀ μ', Fz z μ0 μ' → Q (.inl (sm (zb z) (s + 1) - 1)) μ') : Call σ1 6 49 [.inr (.inr 0), .inl ((s : Int)), .inl (3)] μ (fun v μ' => (∀ k, 510 ≤ k → μ' k = μ k) ∧ Q v μ') := by
  have hz := hF.1.1
  have q0 := hz.1
  refine k_NS_sentence hz hF.1.2.2.1 ⟨by omega, by omega⟩ ⟨by omega, by omega⟩ (fun μ' hq => ?_)
  have e : F_sentence z (s : Int) 3 = sm (zb z) (s + 1) - 1 := by
    unfold F_sentence
    rw [if_neg (by omega), Int.toNat_natCast]
    rfl
  rw [e]
  exact ⟨(Fz_q hF hq).2, h μ' (Fz_q hF hq).1⟩

theorem q_sen4 {Q : QT} {μ0 μ : Mem} {z : Rw} {s : Nat} (hF : Fz z μ0 μ) (hs : (s : Int) < z 0) (h : ∀ μ', Fz z μ0 μ' → Q (.inl (zb z s)) μ') : Call σ1 6 49 [.inr (.inr 0), .inl ((s : Int)), .inl (4)] μ (fun v μ' => (∀ k, 510 ≤ k → μ' k = μ k) ∧ Q v μ') := by
  have hz := hF.1.1
  have q0 := hz.1
  refine k_NS_sentence hz hF.1.2.2.1 ⟨by omega, by omega⟩ ⟨by omega, by omega⟩ (fun μ' hq => ?_)
  have e : F_sentence z (s : Int) 4 = zb z s := by
    unfold F_sentence
    rw [if_neg (by omega), Int.toNat_natCast]
    rfl
  rw [e]
  exact ⟨(Fz_q hF hq).2, h μ' (Fz_q hF hq).1⟩

theorem q_sen5 {Q : QT} {μ0 μ : Mem} {z : Rw} {s : Nat} (hF : Fz z μ0 μ) (hs : (s : Int) < z 0) (h : ∀ μ', Fz z μ0 μ' → Q (.inl (z (76 + 5 * s))) μ') : Call σ1 6 49 [.inr (.inr 0), .inl ((s : Int)), .inl (5)] μ (fun v μ' => (∀ k, 510 ≤ k → μ' k = μ k) ∧ Q v μ') := by
  have hz := hF.1.1
  have q0 := hz.1
  refine k_NS_sentence hz hF.1.2.2.1 ⟨by omega, by omega⟩ ⟨by omega, by omega⟩ (fun μ' hq => ?_)
  have e : F_sentence z (s : Int) 5 = z (76 + 5 * s) := by
    unfold F_sentence
    rw [if_neg (by omega), Int.toNat_natCast]
    rfl
  rw [e]
  exact ⟨(Fz_q hF hq).2, h μ' (Fz_q hF hq).1⟩

theorem q_bkd {Q : QT} {μ0 μ : Mem} {z : Rw} {s p : Nat} (hF : Fz z μ0 μ) (hs : (s : Int) < z 0) (hp : (p : Int) < z (76 + 5 * s)) (h : ∀ μ', Fz z μ0 μ' → Q (.inl (z (77 + 5 * s + p))) μ') : Call σ1 6 51 [.inr (.inr 0), .inl ((s : Int)), .inl ((p : Int))] μ (fun v μ' => (∀ k, 510 ≤ k → μ' k = μ k) ∧ Q v μ') := by
  have hz := hF.1.1
  have q0 := hz.1
  have q1 := (hz.2.1 s hs).2.2.2.1
  refine k_NS_booked hz hF.1.2.2.1 ⟨by omega, by omega⟩ ⟨by omega, by omega⟩ (fun μ' hq => ?_)
  have e : F_booked z (s : Int) (p : Int) = z (77 + 5 * s + p) := by
    unfold F_booked
    rw [if_neg (by omega), Int.toNat_natCast, if_neg (by omega), Int.toNat_natCast]
  rw [e]
  exact ⟨(Fz_q hF hq).2, h μ' (Fz_q hF hq).1⟩

theorem q_ofN0 {Q : QT} {μ0 μ : Mem} {z : Rw} {t : Nat} (hF : Fz z μ0 μ) (ht : (t : Int) < z 2) (h : ∀ μ', Fz z μ0 μ' → Q (.inl (z (196 + 2 * t))) μ') : Call σ1 6 52 [.inr (.inr 0), .inl ((t : Int)), .inl (0)] μ (fun v μ' => (∀ k, 510 ≤ k → μ' k = μ k) ∧ Q v μ') := by
  have hz := hF.1.1
  have q0 := hz.1
  refine k_NS_ofNotice hz hF.1.2.2.1 ⟨by omega, by omega⟩ ⟨by omega, by omega⟩ (fun μ' hq => ?_)
  have e : F_ofNotice z (t : Int) 0 = z (196 + 2 * t) := by
    unfold F_ofNotice
    rw [if_neg (by omega), Int.toNat_natCast]
    rfl
  rw [e]
  exact ⟨(Fz_q hF hq).2, h μ' (Fz_q hF hq).1⟩

theorem q_ofN1 {Q : QT} {μ0 μ : Mem} {z : Rw} {t : Nat} (hF : Fz z μ0 μ) (ht : (t : Int) < z 2) (h : ∀ μ', Fz z μ0 μ' → Q (.inl (z (197 + 2 * t))) μ') : Call σ1 6 52 [.inr (.inr 0), .inl ((t : Int)), .inl (1)] μ (fun v μ' => (∀ k, 510 ≤ k → μ' k = μ k) ∧ Q v μ') := by
  have hz := hF.1.1
  have q0 := hz.1
  refine k_NS_ofNotice hz hF.1.2.2.1 ⟨by omega, by omega⟩ ⟨by omega, by omega⟩ (fun μ' hq => ?_)
  have e : F_ofNotice z (t : Int) 1 = z (197 + 2 * t) := by
    unfold F_ofNotice
    rw [if_neg (by omega), Int.toNat_natCast]
    rfl
  rw [e]
  exact ⟨(Fz_q hF hq).2, h μ' (Fz_q hF hq).1⟩

theorem q_ofN2 {Q : QT} {μ0 μ : Mem} {z : Rw} {t : Nat} (hF : Fz z μ0 μ) (ht : (t : Int) < z 2) (h : ∀ μ', Fz z μ0 μ' → Q (.inl (sm (brk z t) (zn z))) μ') : Call σ1 6 52 [.inr (.inr 0), .inl ((t : Int)), .inl (2)] μ (fun v μ' => (∀ k, 510 ≤ k → μ' k = μ k) ∧ Q v μ') := by
  have hz := hF.1.1
  have q0 := hz.1
  refine k_NS_ofNotice hz hF.1.2.2.1 ⟨by omega, by omega⟩ ⟨by omega, by omega⟩ (fun μ' hq => ?_)
  have e : F_ofNotice z (t : Int) 2 = sm (brk z t) (zn z) := by
    unfold F_ofNotice
    rw [if_neg (by omega), Int.toNat_natCast]
    rfl
  rw [e]
  exact ⟨(Fz_q hF hq).2, h μ' (Fz_q hF hq).1⟩

theorem q_ofN3 {Q : QT} {μ0 μ : Mem} {z : Rw} {t : Nat} (hF : Fz z μ0 μ) (ht : (t : Int) < z 2) (h : ∀ μ', Fz z μ0 μ' → Q (.inl (sm (hrs z (zn z) t) (znl z))) μ') : Call σ1 6 52 [.inr (.inr 0), .inl ((t : Int)), .inl (3)] μ (fun v μ' => (∀ k, 510 ≤ k → μ' k = μ k) ∧ Q v μ') := by
  have hz := hF.1.1
  have q0 := hz.1
  refine k_NS_ofNotice hz hF.1.2.2.1 ⟨by omega, by omega⟩ ⟨by omega, by omega⟩ (fun μ' hq => ?_)
  have e : F_ofNotice z (t : Int) 3 = sm (hrs z (zn z) t) (znl z) := by
    unfold F_ofNotice
    rw [if_neg (by omega), Int.toNat_natCast]
    rfl
  rw [e]
  exact ⟨(Fz_q hF hq).2, h μ' (Fz_q hF hq).1⟩

theorem q_ofN0i {Q : QT} {μ0 μ : Mem} {z : Rw} {t : Int} (hF : Fz z μ0 μ) (h0 : 0 ≤ t) (ht : t < z 2) (h : ∀ μ', Fz z μ0 μ' → Q (.inl (z (196 + 2 * t.toNat))) μ') : Call σ1 6 52 [.inr (.inr 0), .inl (t), .inl (0)] μ (fun v μ' => (∀ k, 510 ≤ k → μ' k = μ k) ∧ Q v μ') := by
  have hz := hF.1.1
  have q0 := hz.1
  refine k_NS_ofNotice hz hF.1.2.2.1 ⟨by omega, by omega⟩ ⟨by omega, by omega⟩ (fun μ' hq => ?_)
  have e : F_ofNotice z t 0 = z (196 + 2 * t.toNat) := by
    unfold F_ofNotice
    rw [if_neg (by omega)]
    rfl
  rw [e]
  exact ⟨(Fz_q hF hq).2, h μ' (Fz_q hF hq).1⟩

theorem q_ofN1i {Q : QT} {μ0 μ : Mem} {z : Rw} {t : Int} (hF : Fz z μ0 μ) (h0 : 0 ≤ t) (ht : t < z 2) (h : ∀ μ', Fz z μ0 μ' → Q (.inl (z (197 + 2 * t.toNat))) μ') : Call σ1 6 52 [.inr (.inr 0), .inl (t), .inl (1)] μ (fun v μ' => (∀ k, 510 ≤ k → μ' k = μ k) ∧ Q v μ') := by
  have hz := hF.1.1
  have q0 := hz.1
  refine k_NS_ofNotice hz hF.1.2.2.1 ⟨by omega, by omega⟩ ⟨by omega, by omega⟩ (fun μ' hq => ?_)
  have e : F_ofNotice z t 1 = z (197 + 2 * t.toNat) := by
    unfold F_ofNotice
    rw [if_neg (by omega)]
    rfl
  rw [e]
  exact ⟨(Fz_q hF hq).2, h μ' (Fz_q hF hq).1⟩

theorem q_of0 {Q : QT} {μ0 μ : Mem} {z : Rw} {l : Nat} (hF : Fz z μ0 μ) (hl : (l : Int) < z 3) (h : ∀ μ', Fz z μ0 μ' → Q (.inl (gL z l)) μ') : Call σ1 6 53 [.inr (.inr 0), .inl ((l : Int)), .inl (0)] μ (fun v μ' => (∀ k, 510 ≤ k → μ' k = μ k) ∧ Q v μ') := by
  have hz := hF.1.1
  have q0 := hz.1
  refine k_NS_of hz hF.1.2.2.1 ⟨by omega, by omega⟩ ⟨by omega, by omega⟩ (fun μ' hq => ?_)
  have e : F_of z (l : Int) 0 = gL z l := by
    unfold F_of
    rw [if_neg (by omega), Int.toNat_natCast]
    rfl
  rw [e]
  exact ⟨(Fz_q hF hq).2, h μ' (Fz_q hF hq).1⟩

theorem q_of1 {Q : QT} {μ0 μ : Mem} {z : Rw} {l : Nat} (hF : Fz z μ0 μ) (hl : (l : Int) < z 3) (h : ∀ μ', Fz z μ0 μ' → Q (.inl (bLi z l)) μ') : Call σ1 6 53 [.inr (.inr 0), .inl ((l : Int)), .inl (1)] μ (fun v μ' => (∀ k, 510 ≤ k → μ' k = μ k) ∧ Q v μ') := by
  have hz := hF.1.1
  have q0 := hz.1
  refine k_NS_of hz hF.1.2.2.1 ⟨by omega, by omega⟩ ⟨by omega, by omega⟩ (fun μ' hq => ?_)
  have e : F_of z (l : Int) 1 = bLi z l := by
    unfold F_of
    rw [if_neg (by omega), Int.toNat_natCast]
    rfl
  rw [e]
  exact ⟨(Fz_q hF hq).2, h μ' (Fz_q hF hq).1⟩

theorem q_of2 {Q : QT} {μ0 μ : Mem} {z : Rw} {l : Nat} (hF : Fz z μ0 μ) (hl : (l : Int) < z 3) (h : ∀ μ', Fz z μ0 μ' → Q (.inl (z (214 + 3 * l))) μ') : Call σ1 6 53 [.inr (.inr 0), .inl ((l : Int)), .inl (2)] μ (fun v μ' => (∀ k, 510 ≤ k → μ' k = μ k) ∧ Q v μ') := by
  have hz := hF.1.1
  have q0 := hz.1
  refine k_NS_of hz hF.1.2.2.1 ⟨by omega, by omega⟩ ⟨by omega, by omega⟩ (fun μ' hq => ?_)
  have e : F_of z (l : Int) 2 = z (214 + 3 * l) := by
    unfold F_of
    rw [if_neg (by omega), Int.toNat_natCast]
    rfl
  rw [e]
  exact ⟨(Fz_q hF hq).2, h μ' (Fz_q hF hq).1⟩

theorem q_of3 {Q : QT} {μ0 μ : Mem} {z : Rw} {l : Nat} (hF : Fz z μ0 μ) (hl : (l : Int) < z 3) (h : ∀ μ', Fz z μ0 μ' → Q (.inl (old z l)) μ') : Call σ1 6 53 [.inr (.inr 0), .inl ((l : Int)), .inl (3)] μ (fun v μ' => (∀ k, 510 ≤ k → μ' k = μ k) ∧ Q v μ') := by
  have hz := hF.1.1
  have q0 := hz.1
  refine k_NS_of hz hF.1.2.2.1 ⟨by omega, by omega⟩ ⟨by omega, by omega⟩ (fun μ' hq => ?_)
  have e : F_of z (l : Int) 3 = old z l := by
    unfold F_of
    rw [if_neg (by omega), Int.toNat_natCast]
    rfl
  rw [e]
  exact ⟨(Fz_q hF hq).2, h μ' (Fz_q hF hq).1⟩

theorem q_of4 {Q : QT} {μ0 μ : Mem} {z : Rw} {l : Nat} (hF : Fz z μ0 μ) (hl : (l : Int) < z 3) (h : ∀ μ', Fz z μ0 μ' → Q (.inl (tot z l)) μ') : Call σ1 6 53 [.inr (.inr 0), .inl ((l : Int)), .inl (4)] μ (fun v μ' => (∀ k, 510 ≤ k → μ' k = μ k) ∧ Q v μ') := by
  have hz := hF.1.1
  have q0 := hz.1
  refine k_NS_of hz hF.1.2.2.1 ⟨by omega, by omega⟩ ⟨by omega, by omega⟩ (fun μ' hq => ?_)
  have e : F_of z (l : Int) 4 = tot z l := by
    unfold F_of
    rw [if_neg (by omega), Int.toNat_natCast]
    rfl
  rw [e]
  exact ⟨(Fz_q hF hq).2, h μ' (Fz_q hF hq).1⟩

theorem q_of {Q : QT} {μ0 μ : Mem} {z : Rw} {l : Nat} {w : Int} (hF : Fz z μ0 μ) (hl : (l : Int) < z 3) (hw : 0 ≤ w ∧ w ≤ 7) (h : ∀ μ', Fz z μ0 μ' → Q (.inl (F_of z (l : Int) w)) μ') : Call σ1 6 53 [.inr (.inr 0), .inl ((l : Int)), .inl (w)] μ (fun v μ' => (∀ k, 510 ≤ k → μ' k = μ k) ∧ Q v μ') := by
  have hz := hF.1.1
  have q0 := hz.1
  refine k_NS_of hz hF.1.2.2.1 ⟨by omega, by omega⟩ ⟨by omega, by omega⟩ (fun μ' hq => ?_)
  exact ⟨(Fz_q hF hq).2, h μ' (Fz_q hF hq).1⟩

theorem q_heard {Q : QT} {μ0 μ : Mem} {z : Rw} {l x : Int} (hF : Fz z μ0 μ) (hl : inR l) (hx : inR x) (h : ∀ μ', Fz z μ0 μ' → Q (.inl (F_heard z l x)) μ') : Call σ1 6 55 [.inr (.inr 0), .inl (l), .inl (x)] μ (fun v μ' => (∀ k, 510 ≤ k → μ' k = μ k) ∧ Q v μ') := by
  have hz := hF.1.1
  have q0 := hz.1
  refine k_NS_heard hz hF.1.2.2.1 hl hx (fun μ' hq => ?_)
  exact ⟨(Fz_q hF hq).2, h μ' (Fz_q hF hq).1⟩

theorem q_whenHeard {Q : QT} {μ0 μ : Mem} {z : Rw} {l x : Int} (hF : Fz z μ0 μ) (hl : inR l) (hx : inR x) (h : ∀ μ', Fz z μ0 μ' → Q (.inl (F_whenHeard z l x)) μ') : Call σ1 6 56 [.inr (.inr 0), .inl (l), .inl (x)] μ (fun v μ' => (∀ k, 510 ≤ k → μ' k = μ k) ∧ Q v μ') := by
  have hz := hF.1.1
  have q0 := hz.1
  refine k_NS_whenHeard hz hF.1.2.2.1 hl hx (fun μ' hq => ?_)
  exact ⟨(Fz_q hF hq).2, h μ' (Fz_q hF hq).1⟩

theorem q_chapterAt {Q : QT} {μ0 μ : Mem} {z : Rw} {l x : Int} (hF : Fz z μ0 μ) (hl : inR l) (hx : inR x) (h : ∀ μ', Fz z μ0 μ' → Q (.inl (F_chapterAt z l x)) μ') : Call σ1 6 58 [.inr (.inr 0), .inl (l), .inl (x)] μ (fun v μ' => (∀ k, 510 ≤ k → μ' k = μ k) ∧ Q v μ') := by
  have hz := hF.1.1
  have q0 := hz.1
  refine k_NS_chapterAt hz hF.1.2.2.1 hl hx (fun μ' hq => ?_)
  exact ⟨(Fz_q hF hq).2, h μ' (Fz_q hF hq).1⟩

theorem q_heardAt {Q : QT} {μ0 μ : Mem} {z : Rw} {l x w : Int} (hF : Fz z μ0 μ) (hl : inR l) (hx : inR x) (hw : inR w) (h : ∀ μ', Fz z μ0 μ' → Q (.inl (F_heardAt z l x w)) μ') : Call σ1 6 57 [.inr (.inr 0), .inl (l), .inl (x), .inl (w)] μ (fun v μ' => (∀ k, 510 ≤ k → μ' k = μ k) ∧ Q v μ') := by
  have hz := hF.1.1
  have q0 := hz.1
  refine k_NS_heardAt hz hF.1.2.2.1 hl hx hw (fun μ' hq => ?_)
  exact ⟨(Fz_q hF hq).2, h μ' (Fz_q hF hq).1⟩

theorem q_open {Q : QT} {μ0 μ : Mem} {z : Rw} {l x w : Int} (hF : Fz z μ0 μ) (hl : inR l) (hx : inR x) (hw : inR w) (h : ∀ μ', Fz z μ0 μ' → Q (.inl (F_open z l x w)) μ') : Call σ1 6 59 [.inr (.inr 0), .inl (l), .inl (x), .inl (w)] μ (fun v μ' => (∀ k, 510 ≤ k → μ' k = μ k) ∧ Q v μ') := by
  have hz := hF.1.1
  have q0 := hz.1
  refine k_NS_open hz hF.1.2.2.1 hl hx hw (fun μ' hq => ?_)
  exact ⟨(Fz_q hF hq).2, h μ' (Fz_q hF hq).1⟩

theorem q_enough {Q : QT} {μ0 μ : Mem} {z : Rw} {l : Int} (hF : Fz z μ0 μ) (hl : inR l) (h : ∀ μ', Fz z μ0 μ' → Q (.inl (F_enough z l)) μ') : Call σ1 6 60 [.inr (.inr 0), .inl (l)] μ (fun v μ' => (∀ k, 510 ≤ k → μ' k = μ k) ∧ Q v μ') := by
  have hz := hF.1.1
  have q0 := hz.1
  refine k_NS_enough hz hF.1.2.2.1 hl (fun μ' hq => ?_)
  exact ⟨(Fz_q hF hq).2, h μ' (Fz_q hF hq).1⟩

theorem q_marked {Q : QT} {μ0 μ : Mem} {z : Rw} {m : Int} (hF : Fz z μ0 μ) (hm : inR m) (h : ∀ μ', Fz z μ0 μ' → Q (.inl (F_marked z m)) μ') : Call σ1 6 50 [.inr (.inr 0), .inl (m)] μ (fun v μ' => (∀ k, 510 ≤ k → μ' k = μ k) ∧ Q v μ') := by
  have hz := hF.1.1
  have q0 := hz.1
  refine k_NS_marked hz hF.1.2.2.1 hm (fun μ' hq => ?_)
  exact ⟨(Fz_q hF hq).2, h μ' (Fz_q hF hq).1⟩
