theorem isP_x {i a N x : Nat} (h : lay.getD i (999, 0) = (a, N)) (ha : a < 7) (hx : isP i x = true) : 2 ≤ (fks a).getD x 0 := by
  unfold isP at hx
  rw [h, if_pos (by show a < 100; omega)] at hx
  exact of_decide_eq_true hx
theorem lay0 : layAt 0 lay := fun i _ => by rw [Nat.zero_add]
theorem lay_h : ∀ i, i < 2 → lay.getD (400 + 55 * i) (999, 0) = (5, 12) := by decide +kernel
theorem lay_s : ∀ i, i < 2 → ∀ x, x < 55 → 400 + 55 * i + x < 510 ∧ lay.getD (400 + 55 * i + x) (999, 0) = layT.getD x (999, 0) := by decide +kernel
theorem lay_len : lay.length = 510 := by decide +kernel
def f0 : Nat → Nat → Bool := fun _ _ => false
def μ0 : Mem := fun _ _ => 0
def z00 : Rw := fun k => if k = 0 then 1 else if k = 1 then 1 else if k = 5 then 10 else if k = 6 then 1 else 0
def a00 : Hs := (0, fun _ => z00, fun _ => 0, fun _ => z00, 0, fun _ => 0)
def NSI (μ : Mem) : Prop := RC z00 μ 1 ∧ CRr a00 μ ∧ ∀ k, 510 ≤ k → ∀ j, μ k j = 0
def σ4 : Sg := (400, G2 f0 0 388 400 7 0)
theorem st4_h : ∀ l, l < 6 → iHea σ4 (1 + 13 + 7 * l)
  | 0, _ => by unfold iHea iSen; decide +kernel
  | 1, _ => by unfold iHea iSen; decide +kernel
  | 2, _ => by unfold iHea iSen; decide +kernel
  | 3, _ => by unfold iHea iSen; decide +kernel
  | 4, _ => by unfold iHea iSen; decide +kernel
  | 5, _ => by unfold iHea iSen; decide +kernel
  | n + 6, h => absurd h (by omega)
theorem st4 : iSta σ4 1 := ⟨by decide +kernel, by unfold iSen; decide +kernel, by decide +kernel, st4_h, by decide +kernel, by decide +kernel⟩
theorem IZ_00 : IZ z00 := by
  unfold IZ
  have e0 : z00 0 = 1 := rfl
  have e1 : z00 1 = 1 := rfl
  have e2 : z00 2 = 0 := rfl
  have e3 : z00 3 = 0 := rfl
  rw [e0, e1, e2, e3]
  refine ⟨by omega, fun i hi => ?_, rfl, fun i hi => absurd hi (by omega), fun i hi => absurd hi (by omega)⟩
  have : i = 0 := by omega
  subst this
  exact ⟨by decide, by decide, by decide, by decide, fun j hj => absurd (show (j : Int) < 0 from hj) (by omega)⟩
theorem NSI_of {μ' : Mem} (f1 : ∀ k, (k < 1 ∨ 1 + 6 < k) → μ' k = μ0 k) (f2 : ∀ j, j ≠ 9 → μ' 1 j = μ0 1 j) (f3 : μ' 1 9 = μ0 1 9 + 1) (f4 : μ' (1 + 1) 3 = ((0 + 1 : Nat) : Int)) (f5 : μ' (1 + 2) 0 = μ0 1 9) (f6 : μ' (1 + 3) 0 = 10) (f7 : μ' (1 + 4) 0 = bI ((0 : Nat) = 0)) (f8 : μ' (1 + 5) 0 = 0) : NSI μ' := by
  have e0 : z00 0 = 1 := rfl
  have e1 : z00 1 = 1 := rfl
  have e2 : z00 2 = 0 := rfl
  have e3 : z00 3 = 0 := rfl
  refine ⟨?_, ⟨⟨Nat.zero_le 6, by rw [f1 56 (by omega)]; rfl, 0, by omega, by rw [f1 56 (by omega)]; rfl, fun j hj => absurd hj (Nat.not_lt_zero j)⟩, fun s hs => ⟨Or.inl rfl, by rw [f1 389 (by omega)]; rfl, fun h => absurd (show (0 : Int) = 1 from h) (by omega)⟩, Nat.zero_le 60, by rw [f1 390 (by omega)]; rfl, fun i hi => absurd hi (Nat.not_lt_zero i)⟩, fun k hk j => by rw [f1 k (by omega)]; rfl⟩
  unfold RC
  rw [e0, e1, e2, e3]
  refine ⟨⟨f4, f3, f2 10 (by omega), f2 11 (by omega)⟩, fun i hi => ?_, fun i hi => absurd hi (by omega), fun i hi => absurd hi (by omega)⟩
  have : i = 0 := by omega
  subst this
  exact ⟨f5, f6, f7, f8, fun j hj => absurd (show (j : Int) < 0 from hj) (by omega)⟩
def CtNS (l : Launch) (D : va_G) (base : Nat) (cA : Nat → ClassId) : Prop :=
  Met l (yM 39) (wsI 39) ({ frames := 5, cells := 509, slots := 9298, locals := 120 }) (va_Pc [.ref (base + 0)] (WIp D base cA (0 + 1) f0 μ0)) (va_Qv (fun u : Mem => NSI u) (fun u t => WIq D base cA (0 + 510) (setT f0 0 (0 + 510)) u t) (AA base)) 509 9298 (AA base)
set_option maxHeartbeats 4000000 in
theorem NS_loop {p : Program} {l : Launch} {e : Env} {R : Room} {s : State} {m : MethodId} {args : Array Value} {below : List Frame} {meth : Method} {c : Code} {Qf : State → Prop} {D : va_G} {base : Nat} {cA : Nat → ClassId} {k : Nat} {f : Nat → Nat → Bool} {μ : Mem}
    (F : FI p s m args c meth D cA 2 39) (hR : 5 ≤ R.frames ∧ 120 ≤ R.locals ∧ 509 ≤ R.cells ∧ 9298 ≤ R.slots) (hfr : fr f μ (k + 400)) (hla : layAt k lay) (hsz : s.heap.size = base + (k + 1))
    (fin : ∀ (H : Heap) (locs : List Loc) (ls : Array Slot), va_P D vwCl (wl base cA (k + 510, G2 f k (k + 388) (k + 510) 7 2) μ) H → va_S (AA base) s.heap H locs → W p l e R s m args below meth c H locs 509 9298 Qf (F0 m 110 ls [])) :
    ∀ (cn i : Nat), i + cn = 2 → ∀ (H : Heap) (locs : List Loc) (ls : Array Slot), lv_has ls 2 [(1, .int (nI i)), (0, .ref (base + k))] → va_P D vwCl (wl base cA (k + (400 + 55 * i), G2 f k (k + 388) (k + (400 + 55 * i)) 7 i) μ) H → va_S (AA base) s.heap H locs →
      W p l e R s m args below meth c H locs (399 + 55 * i) (7278 + 1010 * i) Qf (F0 m 86 ls []) := by
  have F0 := F
  obtain ⟨hx, hb, hml, hown, hts, hK, hname⟩ := F0
  have hb0 : base ≤ s.heap.size := by omega
  intro cn
  induction cn with
  | zero =>
    intro i hi H locs ls hl hP hS
    have hi6 : i = 2 := by omega
    subst hi6
    refine lv_iload_n hx hb dI39_86 rfl (lv_at hl 0 rfl) ?_
    refine lv_iconst (v := 2) hx hb dI39_87 rfl ?_
    refine lv_icmp_ge (tgt := 110) hx hb dI39_88 (by decide) (fun cc => ?_) (fun cc => ?_)
    · exact fin H locs ls hP hS
    · exact absurd (show (2 : Int32) ≤ nI 2 by decide) cc
  | succ cn ih =>
    intro i hi H locs ls hl hP hS
    have hiN : i < 2 := by omega
    refine lv_iload_n hx hb dI39_86 rfl (lv_at hl 0 rfl) ?_
    refine lv_iconst (v := 2) hx hb dI39_87 rfl ?_
    refine lv_icmp_ge (tgt := 110) hx hb dI39_88 (by decide) (fun cc => ?_) (fun cc => ?_)
    · exact absurd ((nI_leI (by omega) (by omega)).mp (show nI 2 ≤ nI i from cc)) (by omega)
    · refine lv_aload_n hx hb dI39_91 rfl (lv_at hl 1 rfl) ?_
      refine i_getf (n := k + (400 + 55 * i)) (a := 6) (b := 2) (d1 := 388) F ⟨by omega, by omega⟩ ⟨by omega, by omega⟩ (by decide +kernel) (by decide) (by decide) rfl (congrArg Prod.fst (hla 0 (by decide +kernel))) (by omega) (by unfold G2; rw [if_pos rfl]; rfl) dI39_92 hP ?_
      refine lv_iload_n hx hb dI39_95 rfl (lv_at hl 0 rfl) ?_
      refine i_new (base := base) (n := k + (400 + 55 * i)) (a := 5) F (by decide +kernel) (by decide +kernel) (by decide) ((hla (400 + 55 * i) (by rw [lay_len]; omega)).trans (lay_h i hiN)) (g2_fr2 (fr_m hfr (by omega)) (by omega) (by omega)) (by omega) hb0 (by omega) (by show _ + 12 ≤ _; omega) dI39_96 hP hS (fun H1 hP hS => ?_)
      refine lv_dup hx hb dI39_99 rfl ?_
      refine i_ctor (base := base) (k := k + (400 + 55 * i)) (mj := 26) F (Or.inr (by decide +kernel)) (by decide) rfl (by decide +kernel) ⟨by decide +kernel, by decide +kernel, by decide +kernel⟩ (c_Sta l D base cA (g2_fr2 (fr_m hfr (by omega)) (by omega) (by omega)) (layAt_sub hla (400 + 55 * i) (fun x hx => by rw [lay_len]; exact lay_s i hiN x (by rw [← layT_len]; exact hx)))) (by omega) (by omega) ⟨by omega, by show 8 + (2 + 11) + 60 ≤ R.locals; omega⟩ ⟨by show _ + 1 + 54 ≤ _; omega, by show _ + 12 + 998 ≤ _; omega⟩ (lv_room (Nat.le_of_ble_eq_true rfl)) hl.1 dI39_100 hP hS (fun H1 locs1 hP hS => ?_)
      rw [g2_ctor (by omega) (by omega)] at hP
      refine i_aast (base := base) (q0 := k + 388) (qk := k + (400 + 55 * i)) (a := 5) (N := 2) (kd := 105) (i1 := 4) (i := i) (b1 := 12) (c1 := 55) F (by decide) (hla 388 (by decide +kernel)) (by omega) (congrArg Prod.fst ((hla (400 + 55 * i) (by rw [lay_len]; omega)).trans (lay_h i hiN))) (by omega) (by omega) hiN (by decide) dI39_103 hP hS (fun H1 locs1 hP hS => ?_)
      rw [g2_ast (by omega), show k + (400 + 55 * i) + 55 = k + (400 + 55 * (i + 1)) by omega] at hP
      refine lv_iinc (v := nI (i + 1)) (lv' := [(1, .int (nI (i + 1))), (0, .ref (base + k))]) hx hb dI39_104 hl (k := 0) rfl (nI_1 i) (by decide) rfl (fun ls hl => ?_)
      refine lv_goto (tgt := 86) hx hb dI39_107 (by decide) ?_
      exact W.cs (by show _ + 1 + 54 = _; omega) (by show _ + 12 + 998 = _; omega) (ih (i + 1) (by omega) H1 locs1 ls hl hP hS)
set_option maxHeartbeats 4000000 in
theorem c_NS0 (l : Launch) (D : va_G) (base : Nat) (cA : Nat → ClassId) {k : Nat} (hk0 : k = 0) : CtNS l D base cA := by
  have hfr : fr f0 μ0 k := fun _ _ => ⟨fun _ => rfl, fun _ => rfl⟩
  have hla : layAt k lay := by rw [hk0]; exact lay0
  have e0 : CtNS l D base cA = Met l (yM 39) (wsI 39) ({ frames := 5, cells := 509, slots := 9298, locals := 120 }) (va_Pc [.ref (base + k)] (WIp D base cA (k + 1) f0 μ0)) (va_Qv (fun u : Mem => NSI u) (fun u t => WIq D base cA (k + 510) (setT f0 k (k + 510)) u t) (AA base)) 509 9298 (AA base) := by rw [hk0]; rfl
  rw [e0]
  refine Met.ofW (cc := bM 39) (maxL := 2) (ret := none) (by decide +kernel) rfl ?_
  intro p e s m args below meth c s₁ B hml hv
  obtain ⟨rfl, hsz, hP, hK⟩ := hv
  have hx := B.exec
  have hb := B.bytes
  have hts := atoms_spec (ws := wsI 39) B.pre
  have F : FI p s m #[Value.ref (base + k)] c meth D cA 2 39 := ⟨hx, hb, hml, findClass_of_methodNamed B.named, hts, hK, (name_of_methodNamed B.named B.method).1⟩
  have hP : va_P D vwCl (wl base cA (k + 1, f0) μ0) s.heap := hP
  have hS : va_S (AA base) s.heap s.heap [] := va_S.rf
  have hb0 : base ≤ s.heap.size := by omega
  have hl := lv_entry ([.ref (base + k)]) (n := 2) (Nat.le_of_ble_eq_true rfl)
  rw [lg_entry_eq]
  generalize (lg_sl ([.ref (base + k)]) ++ List.replicate (2 - (lg_sl ([.ref (base + k)])).length) Slot.unset).toArray = ls at hl ⊢
  have hl : lv_has ls 2 [(0, .ref (base + k))] := hl
  have hP := hP
  rw [g2_0 (q := (k + 388)) hfr (by omega)] at hP
  refine lv_aload_n hx hb dI39_0 rfl (lv_at hl 0 rfl) ?_
  refine i_obj F (by decide +kernel) ⟨Nat.le_of_ble_eq_true rfl, Nat.le_of_ble_eq_true rfl⟩ hl.1 dI39_1 ?_
  refine lv_aload_n hx hb dI39_4 rfl (lv_at hl 0 rfl) ?_
  refine i_new (base := base) (n := k + 1) (a := 5) F (by decide +kernel) (by decide +kernel) (by decide) (hla 1 (by decide +kernel)) (g2_fr hfr (by omega) (by omega)) (by omega) hb0 (Nat.le_of_ble_eq_true rfl) (Nat.le_of_ble_eq_true rfl) dI39_5 hP hS (fun H1 hP hS => ?_)
  refine lv_dup hx hb dI39_8 rfl ?_
  refine i_ctor (base := base) (k := k + 1) (mj := 26) F (Or.inr (by decide +kernel)) (by decide) rfl (by decide +kernel) ⟨by decide +kernel, by decide +kernel, by decide +kernel⟩ (c_Sta l D base cA (g2_fr hfr (by omega) (by omega)) (layAt_sub hla 1 (by decide +kernel))) (by omega) (by omega) ⟨Nat.le_of_ble_eq_true rfl, Nat.le_of_ble_eq_true rfl⟩ ⟨Nat.le_of_ble_eq_true rfl, Nat.le_of_ble_eq_true rfl⟩ (lv_room (Nat.le_of_ble_eq_true rfl)) hl.1 dI39_9 hP hS (fun H1 locs1 hP hS => ?_)
  rw [g2_ctor (by omega) (by omega)] at hP
  have hP : va_P D vwCl (wl base cA (k + 56, G2 f0 k (k + 388) (k + 56) 0 0) μ0) H1 := hP
  refine i_putP (base := base) (n := k + 56) (a := 6) (b1 := 0) (d1 := 1) (ty := (.object "NoticeShifts$State")) F (by decide +kernel) (by decide) (by decide) rfl rfl rfl (by decide +kernel) (fun _ => rfl) (fun _ => rfl) (congrArg Prod.fst (hla 0 (by decide +kernel))) (by omega) dI39_12 hP hS (fun H1 locs1 hP hS => ?_)
  rw [g2_put] at hP
  have hP : va_P D vwCl (wl base cA (k + 56, G2 f0 k (k + 388) (k + 56) 1 0) μ0) H1 := hP
  refine lv_aload_n hx hb dI39_15 rfl (lv_at hl 0 rfl) ?_
  refine i_new (base := base) (n := k + 56) (a := 2) F (by decide +kernel) (by decide +kernel) (by decide) (hla 56 (by decide +kernel)) (g2_fr hfr (by omega) (by omega)) (by omega) hb0 (Nat.le_of_ble_eq_true rfl) (Nat.le_of_ble_eq_true rfl) dI39_16 hP hS (fun H1 hP hS => ?_)
  refine lv_dup hx hb dI39_19 rfl ?_
  refine i_ctor (base := base) (k := k + 56) (mj := 13) F (Or.inr (by decide +kernel)) (by decide) rfl (by decide +kernel) ⟨by decide +kernel, by decide +kernel, by decide +kernel⟩ (c_His l D base cA (g2_fr hfr (by omega) (by omega)) (layAt_sub hla 56 (by decide +kernel))) (by omega) (by omega) ⟨Nat.le_of_ble_eq_true rfl, Nat.le_of_ble_eq_true rfl⟩ ⟨Nat.le_of_ble_eq_true rfl, Nat.le_of_ble_eq_true rfl⟩ (lv_room (Nat.le_of_ble_eq_true rfl)) hl.1 dI39_20 hP hS (fun H1 locs1 hP hS => ?_)
  rw [g2_ctor (by omega) (by omega)] at hP
  have hP : va_P D vwCl (wl base cA (k + 388, G2 f0 k (k + 388) (k + 388) 1 0) μ0) H1 := hP
  refine i_putP (base := base) (n := k + 388) (a := 6) (b1 := 1) (d1 := 56) (ty := (.object "NoticeShifts$History")) F (by decide +kernel) (by decide) (by decide) rfl rfl rfl (by decide +kernel) (fun _ => rfl) (fun _ => rfl) (congrArg Prod.fst (hla 0 (by decide +kernel))) (by omega) dI39_23 hP hS (fun H1 locs1 hP hS => ?_)
  rw [g2_put] at hP
  have hP : va_P D vwCl (wl base cA (k + 388, G2 f0 k (k + 388) (k + 388) 2 0) μ0) H1 := hP
  refine lv_aload_n hx hb dI39_26 rfl (lv_at hl 0 rfl) ?_
  refine lv_iconst (v := 2) hx hb dI39_27 rfl ?_
  refine i_newq (base := base) (n := k + 388) (i := 4) (N := 2) (a := 5) (kd := 105) F (by decide +kernel) (by decide) (hla 388 (by decide +kernel)) (g2_fr hfr (by omega) (by omega)) (by omega) hb0 (by decide) (by decide) (by decide) (Nat.le_of_ble_eq_true rfl) (Nat.le_of_ble_eq_true rfl) dI39_28 hP hS (fun H1 hP hS => ?_)
  have hP := P_c (g2_arr (by omega) (Or.inl rfl)) hP
  have hP : va_P D vwCl (wl base cA (k + 389, G2 f0 k (k + 388) (k + 389) 2 0) μ0) H1 := hP
  refine i_putP (base := base) (n := k + 389) (a := 6) (b1 := 2) (d1 := 388) (ty := (.array (.object "NoticeShifts$State"))) F (by decide +kernel) (by decide) (by decide) rfl rfl rfl (by decide +kernel) (fun _ => rfl) (fun _ => rfl) (congrArg Prod.fst (hla 0 (by decide +kernel))) (by omega) dI39_31 hP hS (fun H1 locs1 hP hS => ?_)
  rw [g2_put] at hP
  have hP : va_P D vwCl (wl base cA (k + 389, G2 f0 k (k + 388) (k + 389) 3 0) μ0) H1 := hP
  refine lv_aload_n hx hb dI39_34 rfl (lv_at hl 0 rfl) ?_
  refine lv_iconst (v := 2) hx hb dI39_35 rfl ?_
  refine i_newa (base := base) (n := k + 389) (i := 2) (N := 2) (kd := 102) F (by omega) rfl rfl (by decide +kernel) rfl (hla 389 (by decide +kernel)) (g2_fr hfr (by omega) (by omega)) (by omega) hb0 (by decide) (by decide) (by decide) (Nat.le_of_ble_eq_true rfl) (Nat.le_of_ble_eq_true rfl) dI39_36 hP hS (fun H1 hP hS => ?_)
  have hP := P_c (g2_arr (by omega) (Or.inr (fun x => isP_a (hla 389 (by decide +kernel)) (by decide) x))) hP
  have hP : va_P D vwCl (wl base cA (k + 390, G2 f0 k (k + 388) (k + 390) 3 0) μ0) H1 := hP
  refine i_putP (base := base) (n := k + 390) (a := 6) (b1 := 3) (d1 := 389) (ty := (.array .boolean)) F (by decide +kernel) (by decide) (by decide) rfl rfl rfl (by decide +kernel) (fun _ => rfl) (fun _ => rfl) (congrArg Prod.fst (hla 0 (by decide +kernel))) (by omega) dI39_38 hP hS (fun H1 locs1 hP hS => ?_)
  rw [g2_put] at hP
  have hP : va_P D vwCl (wl base cA (k + 390, G2 f0 k (k + 388) (k + 390) 4 0) μ0) H1 := hP
  refine lv_aload_n hx hb dI39_41 rfl (lv_at hl 0 rfl) ?_
  refine i_new (base := base) (n := k + 390) (a := 3) F (by decide +kernel) (by decide +kernel) (by decide) (hla 390 (by decide +kernel)) (g2_fr hfr (by omega) (by omega)) (by omega) hb0 (Nat.le_of_ble_eq_true rfl) (Nat.le_of_ble_eq_true rfl) dI39_42 hP hS (fun H1 hP hS => ?_)
  refine lv_dup hx hb dI39_45 rfl ?_
  refine i_ctor (base := base) (k := k + 390) (mj := 15) F (Or.inl (by decide +kernel)) (by decide) rfl (by decide +kernel) ⟨by decide +kernel, by decide +kernel, by decide +kernel⟩ (c_Pad l D base cA (g2_fr hfr (by omega) (by omega)) (layAt_sub hla 390 (by decide +kernel))) (by omega) (by omega) ⟨Nat.le_of_ble_eq_true rfl, Nat.le_of_ble_eq_true rfl⟩ ⟨Nat.le_of_ble_eq_true rfl, Nat.le_of_ble_eq_true rfl⟩ (lv_room (Nat.le_of_ble_eq_true rfl)) hl.1 dI39_46 hP hS (fun H1 locs1 hP hS => ?_)
  rw [g2_ctor (by omega) (by omega)] at hP
  have hP : va_P D vwCl (wl base cA (k + 392, G2 f0 k (k + 388) (k + 392) 4 0) μ0) H1 := hP
  refine i_putP (base := base) (n := k + 392) (a := 6) (b1 := 4) (d1 := 390) (ty := (.object "NoticeShifts$Pad")) F (by decide +kernel) (by decide) (by decide) rfl rfl rfl (by decide +kernel) (fun _ => rfl) (fun _ => rfl) (congrArg Prod.fst (hla 0 (by decide +kernel))) (by omega) dI39_49 hP hS (fun H1 locs1 hP hS => ?_)
  rw [g2_put] at hP
  have hP : va_P D vwCl (wl base cA (k + 392, G2 f0 k (k + 388) (k + 392) 5 0) μ0) H1 := hP
  refine lv_aload_n hx hb dI39_52 rfl (lv_at hl 0 rfl) ?_
  refine i_new (base := base) (n := k + 392) (a := 0) F (by decide +kernel) (by decide +kernel) (by decide) (hla 392 (by decide +kernel)) (g2_fr hfr (by omega) (by omega)) (by omega) hb0 (Nat.le_of_ble_eq_true rfl) (Nat.le_of_ble_eq_true rfl) dI39_53 hP hS (fun H1 hP hS => ?_)
  refine lv_dup hx hb dI39_56 rfl ?_
  refine i_ctor (base := base) (k := k + 392) (mj := 0) F (Or.inl (by decide +kernel)) (by decide) rfl (by decide +kernel) ⟨by decide +kernel, by decide +kernel, by decide +kernel⟩ (c_Cho l D base cA (g2_fr hfr (by omega) (by omega)) (layAt_sub hla 392 (by decide +kernel))) (by omega) (by omega) ⟨Nat.le_of_ble_eq_true rfl, Nat.le_of_ble_eq_true rfl⟩ ⟨Nat.le_of_ble_eq_true rfl, Nat.le_of_ble_eq_true rfl⟩ (lv_room (Nat.le_of_ble_eq_true rfl)) hl.1 dI39_57 hP hS (fun H1 locs1 hP hS => ?_)
  rw [g2_ctor (by omega) (by omega)] at hP
  have hP : va_P D vwCl (wl base cA (k + 393, G2 f0 k (k + 388) (k + 393) 5 0) μ0) H1 := hP
  refine i_putP (base := base) (n := k + 393) (a := 6) (b1 := 5) (d1 := 392) (ty := (.object "NoticeShifts$Chooser")) F (by decide +kernel) (by decide) (by decide) rfl rfl rfl (by decide +kernel) (fun _ => rfl) (fun _ => rfl) (congrArg Prod.fst (hla 0 (by decide +kernel))) (by omega) dI39_60 hP hS (fun H1 locs1 hP hS => ?_)
  rw [g2_put] at hP
  have hP : va_P D vwCl (wl base cA (k + 393, G2 f0 k (k + 388) (k + 393) 6 0) μ0) H1 := hP
  refine lv_aload_n hx hb dI39_63 rfl (lv_at hl 0 rfl) ?_
  refine i_new (base := base) (n := k + 393) (a := 1) F (by decide +kernel) (by decide +kernel) (by decide) (hla 393 (by decide +kernel)) (g2_fr hfr (by omega) (by omega)) (by omega) hb0 (Nat.le_of_ble_eq_true rfl) (Nat.le_of_ble_eq_true rfl) dI39_64 hP hS (fun H1 hP hS => ?_)
  refine lv_dup hx hb dI39_67 rfl ?_
  refine i_ctor (base := base) (k := k + 393) (mj := 4) F (Or.inl (by decide +kernel)) (by decide) rfl (by decide +kernel) ⟨by decide +kernel, by decide +kernel, by decide +kernel⟩ (c_Hea l D base cA (g2_fr hfr (by omega) (by omega)) (layAt_sub hla 393 (by decide +kernel))) (by omega) (by omega) ⟨Nat.le_of_ble_eq_true rfl, Nat.le_of_ble_eq_true rfl⟩ ⟨Nat.le_of_ble_eq_true rfl, Nat.le_of_ble_eq_true rfl⟩ (lv_room (Nat.le_of_ble_eq_true rfl)) hl.1 dI39_68 hP hS (fun H1 locs1 hP hS => ?_)
  rw [g2_ctor (by omega) (by omega)] at hP
  have hP : va_P D vwCl (wl base cA (k + 400, G2 f0 k (k + 388) (k + 400) 6 0) μ0) H1 := hP
  refine i_putP (base := base) (n := k + 400) (a := 6) (b1 := 6) (d1 := 393) (ty := (.object "NoticeShifts$Hearing")) F (by decide +kernel) (by decide) (by decide) rfl rfl rfl (by decide +kernel) (fun _ => rfl) (fun _ => rfl) (congrArg Prod.fst (hla 0 (by decide +kernel))) (by omega) dI39_71 hP hS (fun H1 locs1 hP hS => ?_)
  rw [g2_put] at hP
  have hP : va_P D vwCl (wl base cA (k + 400, G2 f0 k (k + 388) (k + 400) 7 0) μ0) H1 := hP
  refine lv_aload_n hx hb dI39_74 rfl (lv_at hl 0 rfl) ?_
  refine i_getf (n := k + 400) (a := 6) (b := 0) (d1 := 1) F ⟨Nat.le_of_ble_eq_true rfl, Nat.le_of_ble_eq_true rfl⟩ ⟨Nat.le_of_ble_eq_true rfl, Nat.le_of_ble_eq_true rfl⟩ (by decide +kernel) (by decide) (by decide) rfl (congrArg Prod.fst (hla 0 (by decide +kernel))) (by omega) (by unfold G2; rw [if_pos rfl]; rfl) dI39_75 hP ?_
  refine lv_iconst (v := Int32.ofInt 0) hx hb dI39_78 rfl ?_
  refine lv_bipush (v := Int32.ofInt 10) hx hb dI39_79 rfl ?_
  subst hk0
  have hP : va_P D vwCl (wl base cA σ4 μ0) H1 := hP
  refine W.cs (cells' := 399) (slots' := 7278) rfl rfl ?_
  have FX : Fx p s m #[Value.ref (base + 0)] c 399 7278 (headSpec (wsI 39) ({ frames := 5, cells := 509, slots := 9298, locals := 120 })).room D base cA 2 39 2 σ4 (AA base) := ⟨hx, hb, hml, F.2.2.2.1, fun w hw => by
    rcases List.mem_cons.mp hw with rfl | hw
    · exact hts _ List.mem_cons_self
    · exact hts _ (gW_I hw), hK.1, Nat.le_of_ble_eq_true rfl, Nat.le_of_ble_eq_true rfl, Nat.le_of_ble_eq_true rfl, Nat.le_of_ble_eq_true rfl, fun q h => h.1⟩
  have hLR : LR base 2 [some (.inr (.inr 0)), none] ls := ⟨hl.1, hl.2.1, rfl, fun i v h => by
    match i, h with
    | 0, h =>
      have e : (Sum.inr (Sum.inr 0) : MV) = v := by simpa using h
      rw [← e]; exact lv_at hl 0 rfl
    | 1, h => simp at h
    | i + 2, h => simp at h⟩
  refine s_callV (σ := σ4) (k := 1) (As := [.inl 0, .inl 10]) (rs := []) (a := 35) FX (met_ok l D base cA σ4 2) rfl (by decide +kernel) (by decide +kernel) (by decide +kernel) dI39_81 trivial (by decide +kernel) ?_ hP hS hLR
  refine k_Sta_insertSentence (d := 0) (n := 0) (p := 0) st4 rfl (by omega) (Nat.le_refl 0) (fun μ' f1 f2 f3 f4 _ _ f5 f6 f7 f8 _ _ => ?_)
  intro H locs lsA hP hS hL
  have hI : NSI μ' := NSI_of f1 f2 f3 f4 f5 f6 f7 f8
  have hl : lv_has lsA 2 [(0, .ref (base + 0))] := hL.has
  refine lv_iconst (v := 0) hx hb dI39_84 rfl ?_
  refine lv_istore_n (lv' := [(1, .int (nI 0)), (0, .ref (base + 0))]) hx hb dI39_85 rfl hl (by decide) rfl (fun ls hl => ?_)
  refine NS_loop (k := 0) (f := f0) (μ := μ') F ⟨Nat.le_of_ble_eq_true rfl, Nat.le_of_ble_eq_true rfl, Nat.le_of_ble_eq_true rfl, Nat.le_of_ble_eq_true rfl⟩ (fun k hk => ⟨fun _ => rfl, fun j => by rw [f1 k (by omega)]; rfl⟩) hla hsz (fun H locs ls hP hS => ?_) 2 0 (by omega) _ _ _ hl hP hS
  have hP := P_c (f' := setT f0 0 (0 + 510)) (g2_end (fun x hx => isP_o (hla 0 (by decide +kernel)) 7 (by decide) (by decide) x hx) (fun _ => ⟨by omega, isP_q (hla 388 (by decide +kernel)) (by decide)⟩)) hP
  exact W.vret hx hb B.returns (fun t ht hW => ⟨⟨μ', rfl, hI, by unfold WdH; rw [ht]; exact hP, hK.warm hW⟩, hS.F ht⟩) hS.2.2 dI39_110
