/-! THE CLASS AND THE MODEL, call by call -/
def Rel (μ : Mem) : Prop := ∃ a : Hs, IZ (μ 511) ∧ IR (μ 511) ∧ RC (μ 511) μ 1 ∧ CRr a μ ∧ CRm a μ
/-- both are called: they answer alike -/
def Both (xm mm : Nat) (As : List MV) (μ : Mem) : Prop := Call σ1 7 xm (.inr (.inr 0) :: As) μ (fun v μ1 => Call σ1 7 mm (.inr (.inr 510) :: As) μ1 (fun v2 μ2 => v2 = v ∧ Rel μ2))
theorem Rel_q {μ μ1 μ2 : Mem} {a : Hs} (hz : IZ (μ 511)) (hC : CRr a μ) (hM : CRm a μ) (q1 : QF (μ 511) μ μ1) (q2 : QM μ1 μ2) (hL : LV (μ 511) (μ2 511)) (hI : IR (μ2 511)) : Rel μ2 := by
  have q := hz.1
  refine ⟨a, LV_IZ hz hL, hI, LV_RC hz hL (RC_f (by omega) (fun k _ _ => q2.1 k (by omega) (by omega) (by omega) (by omega)) q1.2), CRr_f (fun k hk => q2.1 k (by omega) (by omega) (by omega) (by omega)) (CRr_q q1 hC), CRm_q q2 (CRm_lo (fun k hk => q1.1 k (by omega) (by omega) (by omega)) hM)⟩
theorem Rel_e {μ μ1 μ2 : Mem} {a : Hs} (hz : IZ (μ 511)) (hI : IR (μ 511)) (hC : CRr a μ) (hM : CRm a μ) (q1 : QF (μ 511) μ μ1) (q2 : QM μ1 μ2) (e : μ2 511 = μ 511) : Rel μ2 := Rel_q hz hC hM q1 q2 (by rw [e]; exact LV_r _) (by rw [e]; exact hI)
theorem QF_51 {z : Rw} {μ μ1 : Mem} (h : QF z μ μ1) : μ1 511 = μ 511 := h.1 511 (by omega) (by omega) (by omega)
theorem Rel_g {R : Rw → Prop} {μ1 μ2 : Mem} {a : Hs} (h2 : ∀ w, R w → RC w μ1 1) (h3 : CRr a μ1) (pg : PG R a μ1 μ2) (hz : ∀ w, R w → IZ w) : Rel μ2 := by
  obtain ⟨p1, p2, p3, p4⟩ := pg
  have z2 := hz _ p2
  have q := z2.1
  exact ⟨a, z2, p3, RC_f (by omega) (fun k _ _ => p1 k (by omega)) (h2 _ p2), CRr_f (fun k hk => p1 k (by omega)) h3, p4⟩
theorem Rel_m {z' : Rw} {μ μ1 μ2 : Mem} {a : Hs} (mf : MF z' a μ μ1) (pg : PG (fun w => w = z') a μ1 μ2) (hz : IZ z') : Rel μ2 := Rel_g (R := fun w => w = z') (fun w hw => by rw [hw]; exact mf.2.1) mf.2.2 pg (fun w hw => by rw [hw]; exact hz)
theorem Rel_x {z' : Rw} {μ μ1 μ2 : Mem} {a : Hs} (mf : MF z' a μ μ1) (pg : PG (fun w => ∀ k, k < 956 → w k = z' k) a μ1 μ2) (hz : IZ z') : Rel μ2 := Rel_g (R := fun w => ∀ k, k < 956 → w k = z' k) (fun w hw => LV_RC hz (LV_e hz hw) mf.2.1) mf.2.2 pg (fun w hw => LV_IZ hz (LV_e hz hw))
theorem flt_some {f : Nat → Int} {n : Nat} (h : fltF f n = -6) : ∃ (r c : Nat) (o : Bool), pst f n = some (r, c, o) := by
  cases e : pst f n with
  | none =>
    exfalso
    unfold fltF at h
    rw [e] at h
    rcases fsI_in (fun i => (pst f (i + 1)).isNone) (n : Int) n with h2 | ⟨i, h1, h2, -⟩
    · have : fsI (fun i => (pst f (i + 1)).isNone) (n : Int) n = -6 := h
      omega
    · have : fsI (fun i => (pst f (i + 1)).isNone) (n : Int) n = -6 := h
      omega
  | some s =>
    obtain ⟨r, c, o⟩ := s
    exact ⟨r, c, o, rfl⟩
section BOTHS
variable {μ : Mem} {s w t : Int}
theorem B_sentence (h : Rel μ) (hs : inR s) (hw : inR w) : Both 59 136 [.inl s, .inl w] μ := by
  obtain ⟨a, hz, hI, hR, hC, hM⟩ := h
  refine k_NS_sentence hz hR hs hw (fun μ1 q1 => ?_)
  exact k_Mo_sentence (z := μ 511) (QF_51 q1) hz hs hw (fun μ2 q2 e2 => ⟨rfl, Rel_e hz hI hC hM q1 q2 e2⟩)
theorem B_marked (h : Rel μ) (hs : inR s) : Both 60 137 [.inl s] μ := by
  obtain ⟨a, hz, hI, hR, hC, hM⟩ := h
  refine k_NS_marked hz hR hs (fun μ1 q1 => ?_)
  exact k_Mo_marked (z := μ 511) (QF_51 q1) hz hs ⟨rfl, Rel_e hz hI hC hM q1 (QM_r μ1) (QF_51 q1)⟩
theorem B_booked (h : Rel μ) (hs : inR s) (hw : inR w) : Both 61 138 [.inl s, .inl w] μ := by
  obtain ⟨a, hz, hI, hR, hC, hM⟩ := h
  refine k_NS_booked hz hR hs hw (fun μ1 q1 => ?_)
  exact k_Mo_booked (z := μ 511) (QF_51 q1) hz hs hw (fun μ2 q2 e2 => ⟨rfl, Rel_e hz hI hC hM q1 q2 e2⟩)
theorem B_ofNotice (h : Rel μ) (hs : inR s) (hw : inR w) : Both 62 141 [.inl s, .inl w] μ := by
  obtain ⟨a, hz, hI, hR, hC, hM⟩ := h
  refine k_NS_ofNotice hz hR hs hw (fun μ1 q1 => ?_)
  exact k_Mo_ofNotice (z := μ 511) (QF_51 q1) hz hs hw (fun μ2 q2 e2 => ⟨rfl, Rel_e hz hI hC hM q1 q2 e2⟩)
theorem B_of (h : Rel μ) (hs : inR s) (hw : inR w) : Both 63 142 [.inl s, .inl w] μ := by
  obtain ⟨a, hz, hI, hR, hC, hM⟩ := h
  refine k_NS_of hz hR hs hw (fun μ1 q1 => ?_)
  exact k_Mo_of (z := μ 511) (QF_51 q1) hz hs hw (fun μ2 q2 e2 => ⟨rfl, Rel_e hz hI hC hM q1 q2 e2⟩)
theorem B_heard (h : Rel μ) (hs : inR s) (hw : inR w) : Both 65 146 [.inl s, .inl w] μ := by
  obtain ⟨a, hz, hI, hR, hC, hM⟩ := h
  refine k_NS_heard hz hR hs hw (fun μ1 q1 => ?_)
  exact k_Mo_heard (z := μ 511) (QF_51 q1) hz hs hw (fun μ2 q2 e2 => ⟨rfl, Rel_e hz hI hC hM q1 q2 e2⟩)
theorem B_whenHeard (h : Rel μ) (hs : inR s) (hw : inR w) : Both 66 147 [.inl s, .inl w] μ := by
  obtain ⟨a, hz, hI, hR, hC, hM⟩ := h
  refine k_NS_whenHeard hz hR hs hw (fun μ1 q1 => ?_)
  exact k_Mo_whenHeard (z := μ 511) (QF_51 q1) hz hs hw (fun μ2 q2 e2 => ⟨rfl, Rel_e hz hI hC hM q1 q2 e2⟩)
theorem B_heardAt (h : Rel μ) (hs : inR s) (hw : inR w) (ht : inR t) : Both 67 150 [.inl s, .inl w, .inl t] μ := by
  obtain ⟨a, hz, hI, hR, hC, hM⟩ := h
  refine k_NS_heardAt hz hR hs hw ht (fun μ1 q1 => ?_)
  exact k_Mo_heardAt (z := μ 511) (QF_51 q1) hz hs hw ht (fun μ2 q2 e2 => ⟨rfl, Rel_e hz hI hC hM q1 q2 e2⟩)
theorem B_chapterAt (h : Rel μ) (hs : inR s) (hw : inR w) : Both 68 151 [.inl s, .inl w] μ := by
  obtain ⟨a, hz, hI, hR, hC, hM⟩ := h
  refine k_NS_chapterAt hz hR hs hw (fun μ1 q1 => ?_)
  exact k_Mo_chapterAt (z := μ 511) (QF_51 q1) hz hs hw (fun μ2 q2 e2 => ⟨rfl, Rel_e hz hI hC hM q1 q2 e2⟩)
theorem B_open (h : Rel μ) (hs : inR s) (hw : inR w) (ht : inR t) : Both 69 152 [.inl s, .inl w, .inl t] μ := by
  obtain ⟨a, hz, hI, hR, hC, hM⟩ := h
  refine k_NS_open hz hR hs hw ht (fun μ1 q1 => ?_)
  exact k_Mo_open (z := μ 511) (QF_51 q1) hz hs hw ht (fun μ2 q2 e2 => ⟨rfl, Rel_e hz hI hC hM q1 q2 e2⟩)
theorem B_wrongAt (h : Rel μ) (hs : inR s) (hw : inR w) (ht : inR t) : Both 70 154 [.inl s, .inl w, .inl t] μ := by
  obtain ⟨a, hz, hI, hR, hC, hM⟩ := h
  refine k_NS_wrongAt hz hR hs hw ht (fun μ1 q1 => ?_)
  exact k_Mo_wrongAt (z := μ 511) (QF_51 q1) hz hs hw ht (fun μ2 q2 e2 => ⟨rfl, Rel_e hz hI hC hM q1 q2 e2⟩)
theorem B_enough (h : Rel μ) (hs : inR s) : Both 73 158 [.inl s] μ := by
  obtain ⟨a, hz, hI, hR, hC, hM⟩ := h
  refine k_NS_enough hz hR hs (fun μ1 q1 => ?_)
  exact k_Mo_enough (z := μ 511) (QF_51 q1) hz hs (fun μ2 q2 e2 => ⟨rfl, Rel_e hz hI hC hM q1 q2 e2⟩)
theorem B_ifBooked (h : Rel μ) (hs : inR s) (hw : inR w) : Both 71 156 [.inl s, .inl w] μ := by
  obtain ⟨a, hz, hI, hR, hC, hM⟩ := h
  refine k_NS_ifBooked hz hR hs hw (fun μ1 q1 => ?_)
  exact k_Mo_ifBooked (z := μ 511) (QF_51 q1) hz hI hs hw (fun μ2 q2 e2 e3 => ⟨rfl, Rel_q hz hC hM q1 q2 e2 e3⟩)
theorem B_bestBreak (h : Rel μ) (hs : inR s) (hw : inR w) : Both 72 157 [.inl s, .inl w] μ := by
  obtain ⟨a, hz, hI, hR, hC, hM⟩ := h
  refine k_NS_bestBreak hz hR hs hw (fun μ1 q1 => ?_)
  exact k_Mo_bestBreak (z := μ 511) (QF_51 q1) hz hI hs hw (fun μ2 q2 e2 e3 => ⟨rfl, Rel_q hz hC hM q1 q2 e2 e3⟩)
theorem B_count (h : Rel μ) (hs : inR s) : Both 64 145 [.inl s] μ := by
  obtain ⟨a, hz, hI, hR, hC, hM⟩ := h
  refine k_NS_count hz hR hs (fun μ1 q1 => ?_)
  refine k_Mo_count (z := μ 511) (QF_51 q1) hz hs (fun μ2 q2 e2 => ⟨?_, Rel_e hz hI hC hM q1 q2 e2⟩)
  have c6 : μ1 510 6 = (hsP a : Int) := by rw [q1.1 510 (by omega) (by omega) (by omega)]; exact hM.2.2.1
  have c4 : μ1 510 4 = (hsN a : Int) := by rw [q1.1 510 (by omega) (by omega) (by omega)]; exact hM.1.1
  rw [c6, c4, hC.2.2.2.1, hC.1.2.1]
theorem B_change (h : Rel μ) (hs : inR s) (hw : inR w) : Both 51 122 [.inl s, .inl w] μ := by
  obtain ⟨a, hz, hI, hR, hC, hM⟩ := h
  have q := hz.1
  refine k_NS_change hz hR hC hs hw (fun hc => ?_) (fun hc μ1 mf => ?_)
  · exact k_Mo_change (z := μ 511) rfl hz hI hM hs hw (fun _ => ⟨rfl, a, hz, hI, hR, hC, hM⟩) (fun h0 => absurd h0 (by omega))
  · refine k_Mo_change (z := μ 511) (mf.1 511 (by omega)) hz hI (CRm_lo mf.1 hM) hs hw (fun h0 => absurd h0 (by omega)) (fun _ μ2 pg => ⟨rfl, ?_⟩)
    refine Rel_m mf pg ?_
    unfold c_change at hc
    split at hc
    · omega
    · split at hc
      · omega
      · exact IZ_len hz (by omega) (by omega)
theorem B_chapter (h : Rel μ) (hs : inR s) (hw : 0 ≤ w ∧ w ≤ 1) : Both 52 124 [.inl s, .inl w] μ := by
  obtain ⟨a, hz, hI, hR, hC, hM⟩ := h
  have q := hz.1
  refine k_NS_chapter hz hR hC hs hw (fun hc => ?_) (fun hc μ1 mf => ?_)
  · exact k_Mo_chapter (z := μ 511) rfl hz hI hM hs (by omega) (fun _ => ⟨rfl, a, hz, hI, hR, hC, hM⟩) (fun h0 => absurd h0 (by omega))
  · refine k_Mo_chapter (z := μ 511) (mf.1 511 (by omega)) hz hI (CRm_lo mf.1 hM) hs (by omega) (fun h0 => absurd h0 (by omega)) (fun _ μ2 pg => ⟨rfl, ?_⟩)
    refine Rel_m mf pg ?_
    unfold c_chapter at hc
    split at hc
    · omega
    · split at hc
      · omega
      · rename_i h1 h2
        exact IZ_beg hz (by omega) (fun e => h2 (Or.inl (by omega))) hw
theorem B_notice (h : Rel μ) (hs : inR s) (hw : inR w) : Both 53 125 [.inl s, .inl w] μ := by
  obtain ⟨a, hz, hI, hR, hC, hM⟩ := h
  have q := hz.1
  refine k_NS_notice hz hR hC hs hw (fun hc => ?_) (fun hc μ1 mf => ?_)
  · exact k_Mo_notice (z := μ 511) rfl hz hI hM hs hw (fun _ => ⟨rfl, a, hz, hI, hR, hC, hM⟩) (fun h0 => absurd h0 (by omega))
  · refine k_Mo_notice (z := μ 511) (mf.1 511 (by omega)) hz hI (CRm_lo mf.1 hM) hs hw (fun h0 => absurd h0 (by omega)) (fun _ μ2 pg => ⟨rfl, ?_⟩)
    refine Rel_m mf pg ?_
    unfold c_notice at hc
    split at hc
    · omega
    · split at hc
      · omega
      · exact IZ_nt hz (by omega) (by omega) (by omega)
theorem B_book (h : Rel μ) (hs : inR s) (hw : inR w) : Both 54 129 [.inl s, .inl w] μ := by
  obtain ⟨a, hz, hI, hR, hC, hM⟩ := h
  have q := hz.1
  refine k_NS_book hz hR hC hs hw (fun hc => ?_) (fun hc μ1 mf => ?_)
  · exact k_Mo_book (z := μ 511) rfl hz hI hM hs hw (fun _ => ⟨rfl, a, hz, hI, hR, hC, hM⟩) (fun h0 => absurd h0 (by omega))
  · refine k_Mo_book (z := μ 511) (mf.1 511 (by omega)) hz hI (CRm_lo mf.1 hM) hs hw (fun h0 => absurd h0 (by omega)) (fun _ μ2 pg => ⟨rfl, ?_⟩)
    refine Rel_m mf pg ?_
    unfold c_book at hc
    split at hc
    · omega
    · split at hc
      · omega
      · exact IZ_book hz (by omega) (by omega) (by omega)
theorem B_empty (h : Rel μ) (hs : inR s) : Both 55 131 [.inl s] μ := by
  obtain ⟨a, hz, hI, hR, hC, hM⟩ := h
  have q := hz.1
  refine k_NS_empty hz hR hC hs (fun hc => ?_) (fun hc μ1 mf => ?_)
  · exact k_Mo_empty (z := μ 511) rfl hz hI hM hs (fun _ => ⟨rfl, a, hz, hI, hR, hC, hM⟩) (fun h0 => absurd h0 (by omega))
  · refine k_Mo_empty (z := μ 511) (mf.1 511 (by omega)) hz hI (CRm_lo mf.1 hM) hs (fun h0 => absurd h0 (by omega)) (fun _ μ2 pg => ⟨rfl, ?_⟩)
    refine Rel_m mf pg ?_
    unfold c_sen at hc
    split at hc
    · omega
    · exact IZ_em hz (by omega)
theorem B_listener (h : Rel μ) (hs : inR s) (hw : inR w) : Both 57 132 [.inl s, .inl w] μ := by
  obtain ⟨a, hz, hI, hR, hC, hM⟩ := h
  have q := hz.1
  refine k_NS_listener hz hR hC hs hw (fun hc => ?_) (fun hc μ1 mf => ?_)
  · exact k_Mo_listener (z := μ 511) rfl hz hI hM hs hw (fun _ => ⟨rfl, a, hz, hI, hR, hC, hM⟩) (fun h0 => absurd h0 (by omega))
  · refine k_Mo_listener (z := μ 511) (mf.1 511 (by omega)) hz hI (CRm_lo mf.1 hM) hs hw (fun h0 => absurd h0 (by omega)) (fun _ μ2 pg => ⟨rfl, ?_⟩)
    refine Rel_m mf pg ?_
    unfold c_listener at hc
    split at hc
    · omega
    · split at hc
      · omega
      · exact IZ_ls hz (by omega) (by omega) (by omega)
theorem B_load (h : Rel μ) (hs : inR s) (hw : w = 0 ∨ w = 1) : Both 58 133 [.inl s, .inl w] μ := by
  obtain ⟨a, hz, hI, hR, hC, hM⟩ := h
  have q := hz.1
  refine k_NS_load hz hR hC hs hw (fun hc => ?_) (fun hc μ1 mf => ?_)
  · exact k_Mo_load (z := μ 511) rfl hz hI hM hs hw (fun _ => ⟨rfl, a, hz, hI, hR, hC, hM⟩) (fun h0 => absurd h0 (by omega))
  · refine k_Mo_load (z := μ 511) (mf.1 511 (by omega)) hz hI (CRm_lo mf.1 hM) hs hw (fun h0 => absurd h0 (by omega)) (fun _ μ2 pg => ⟨rfl, ?_⟩)
    refine Rel_m mf pg ?_
    unfold c_load at hc
    split at hc
    · omega
    · split at hc
      · omega
      · exact IZ_ld hz (by omega) hw
theorem B_putIn (h : Rel μ) (hs : inR s) (hw : inR w) : Both 49 120 [.inl s, .inl w] μ := by
  obtain ⟨a, hz, hI, hR, hC, hM⟩ := h
  have q := hz.1
  refine k_NS_putIn hz hR hC hs hw (fun hc => ?_) (fun hc μ1 mf => ?_)
  · exact k_Mo_putIn (z := μ 511) rfl hz hI hM hs hw (fun _ => ⟨rfl, a, hz, hI, hR, hC, hM⟩) (fun h0 => absurd h0 (by omega))
  · refine k_Mo_putIn (z := μ 511) (mf.1 511 (by omega)) hz hI (CRm_lo mf.1 hM) hs hw (fun h0 => absurd h0 (by omega)) (fun _ μ2 pg => ⟨rfl, ?_⟩)
    refine Rel_g mf.2.1 mf.2.2 pg (fun z' hz' => ?_)
    have n0 := zn_eq hz
    unfold c_putIn at hc
    split at hc
    · omega
    · split at hc
      · omega
      · split at hc
        · omega
        · exact IZ_ins hz n0.1 (by omega) (by omega) (by omega) (by omega) hz'
theorem B_cutOut (h : Rel μ) (hs : inR s) : Both 50 121 [.inl s] μ := by
  obtain ⟨a, hz, hI, hR, hC, hM⟩ := h
  have q := hz.1
  refine k_NS_cutOut hz hR hC hs (fun hc => ?_) (fun hc μ1 mf => ?_)
  · exact k_Mo_cutOut (z := μ 511) rfl hz hI hM hs (fun _ => ⟨rfl, a, hz, hI, hR, hC, hM⟩) (fun h0 => absurd h0 (by omega))
  · refine k_Mo_cutOut (z := μ 511) (mf.1 511 (by omega)) hz hI (CRm_lo mf.1 hM) hs (fun h0 => absurd h0 (by omega)) (fun _ μ2 pg => ⟨rfl, ?_⟩)
    refine Rel_g mf.2.1 mf.2.2 pg (fun z' hz' => ?_)
    have n0 := zn_eq hz
    unfold c_cutOut at hc
    split at hc
    · omega
    · split at hc
      · omega
      · exact IZ_del hz (by omega) (by omega) hz'
theorem B_read (h : Rel μ) : Both 56 165 [] μ := by
  obtain ⟨a, hz, hI, hR, hC, hM⟩ := h
  have q := hz.1
  have h60 : hsP a ≤ 60 := hC.2.2.1
  have hch : ∀ i, i < hsP a → 33 ≤ hsC a i ∧ hsC a i ≤ 126 := fun i hi => ⟨(hC.2.2.2.2 i hi).1, (hC.2.2.2.2 i hi).2.1⟩
  refine k_NS_read hz hR hC (fun hc => ?_) (fun hc μ1 mf => ?_)
  · exact k_Mo_read (z := μ 511) rfl hz hI hM h60 hch (fun _ μ2 q2 e2 => ⟨rfl, Rel_e hz hI hC hM (QF_r hR) q2 e2⟩) (fun h0 => absurd h0 (by omega))
  · refine k_Mo_read (z := μ 511) (mf.1 511 (by omega)) hz hI (CRm_lo mf.1 hM) h60 hch (fun h0 => absurd h0 (by omega)) (fun _ μ2 pg => ⟨rfl, ?_⟩)
    refine Rel_m mf pg ?_
    unfold c_read at hc
    split at hc
    · omega
    · split at hc
      · omega
      · rename_i h1 h2
        obtain ⟨r, c, o, e⟩ := flt_some (Classical.byContradiction (fun hn => h1 hn))
        exact (tkF_inv hz (by omega) (by omega) (hsP a) (Nat.le_refl _) r c o e).1
theorem B_put {x : Int64} (h : Rel μ) : Both 74 159 [.inr (.inl x)] μ := by
  obtain ⟨a, hz, hI, hR, hC, hM⟩ := h
  have h60 : hsP a ≤ 60 := hC.2.2.1
  refine k_NS_put hz hR hC (fun hc => ?_) (fun hc μ1 mf => ?_)
  · exact k_Mo_put (z := μ 511) rfl hI hM h60 (fun _ => ⟨rfl, a, hz, hI, hR, hC, hM⟩) (fun h0 => absurd h0 (by omega))
  · exact k_Mo_put (z := μ 511) (mf.1 511 (by omega)) hI (CRm_lo mf.1 hM) h60 (fun h0 => absurd h0 (by omega)) (fun _ μ2 pg => ⟨rfl, Rel_m mf pg hz⟩)
theorem B_wipe (h : Rel μ) : Both 75 160 [] μ := by
  obtain ⟨a, hz, hI, hR, hC, hM⟩ := h
  refine k_NS_wipe hz hR hC (fun μ1 mf => ?_)
  exact k_Mo_wipe (z := μ 511) (mf.1 511 (by omega)) hI (CRm_lo mf.1 hM) (fun μ2 pg => ⟨rfl, Rel_m mf pg hz⟩)
theorem B_fault (h : Rel μ) : Both 76 163 [] μ := by
  obtain ⟨a, hz, hI, hR, hC, hM⟩ := h
  refine k_NS_fault hC ?_
  exact k_Mo_fault hC.2.2.1 hM.2.2.1 (fun i hi => ⟨(hC.2.2.2.2 i hi).1, (hC.2.2.2.2 i hi).2.1, hM.2.2.2 i hi⟩) (fun μ2 f2 => ⟨rfl, Rel_e hz hI hC hM (QF_r hR) (FP_QM f2) (f2.1 511 (by omega) (by omega))⟩)
theorem B_undo (h : Rel μ) : Both 77 107 [] μ := by
  obtain ⟨a, hz, hI, hR, hC, hM⟩ := h
  refine k_NS_undo hC (fun hc => ?_) (fun hc μ1 mf => ?_)
  · exact k_Mo_undoC hM (fun _ => ⟨rfl, a, hz, hI, hR, hC, hM⟩) (fun h0 => absurd hc h0)
  · refine k_Mo_undoC (CRm_lo mf.1 hM) (fun h0 => absurd h0 hc) (fun _ μ2 pg => ⟨rfl, ?_⟩)
    obtain ⟨_, _, nx, _, _, h5⟩ := hC.1
    exact Rel_x mf pg (h5 (hsN a - 1) (by omega)).1
theorem B_save (h : Rel μ) (hs : inR s) : Both 78 108 [.inl s] μ := by
  obtain ⟨a, hz, hI, hR, hC, hM⟩ := h
  refine k_NS_save hz hR hC hs (fun hc => ?_) (fun h1 h2 μ1 mf => ?_)
  · exact k_Mo_saveC (z := μ 511) rfl hI hM hs (fun _ => ⟨rfl, a, hz, hI, hR, hC, hM⟩) (fun h3 h4 => absurd hc (by omega))
  · exact k_Mo_saveC (z := μ 511) (mf.1 511 (by omega)) hI (CRm_lo mf.1 hM) hs (fun h0 => absurd h0 (by omega)) (fun _ _ μ2 pg => ⟨rfl, Rel_m mf pg hz⟩)
theorem B_restore (h : Rel μ) (hs : inR s) : Both 79 109 [.inl s] μ := by
  obtain ⟨a, hz, hI, hR, hC, hM⟩ := h
  have hv : ∀ i : Nat, i < 2 → hsV a i = 0 ∨ hsV a i = 1 := fun i hi => (hC.2.1 i hi).1
  refine k_NS_restore hz hR hC hs (fun hc => ?_) (fun hc μ1 mf => ?_)
  · exact k_Mo_restore (z := μ 511) rfl hI hM hv hs (fun _ => ⟨rfl, a, hz, hI, hR, hC, hM⟩) (fun h0 => absurd h0 (by omega))
  · refine k_Mo_restore (z := μ 511) (mf.1 511 (by omega)) hI (CRm_lo mf.1 hM) hv hs (fun h0 => absurd h0 (by omega)) (fun _ μ2 pg => ⟨rfl, ?_⟩)
    refine Rel_x mf pg ?_
    unfold c_restore at hc
    split at hc
    · omega
    · split at hc
      · omega
      · rename_i h1 h2
        exact ((hC.2.1 s.toNat (by omega)).2.2 (Classical.byContradiction (fun hn => h2 hn))).1
end BOTHS
