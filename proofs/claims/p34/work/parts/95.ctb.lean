theorem g2_fr2 {f : Nat → Nat → Bool} {μ : Mem} {k q n j i : Nat} (h : fr f μ n) (hk : k < n) (hq : q < n ∨ i = 0) : fr (G2 f k q n j i) μ n := fun c hc => ⟨fun x => by
  unfold G2
  rw [if_neg (by omega)]
  split
  · rename_i e
    have : i = 0 := by omega
    rw [this]; rfl
  · rw [if_neg (by omega)]; exact (h c (by omega)).1 x, (h c (by omega)).2⟩
theorem fr_m {f : Nat → Nat → Bool} {μ : Mem} {k n : Nat} (h : fr f μ k) (hk : k ≤ n) : fr f μ n := fun c hc => h c (by omega)
theorem i_getf {p : Program} {l : Launch} {e : Env} {R : Room} {s : State} {m : MethodId} {args : Array Value} {below : List Frame} {meth : Method} {c : Code} {cells slots : Nat} {Qf : State → Prop} {D : va_G} {base : Nat} {cA : Nat → ClassId} {nL mi : Nat} {H : Heap} {locs : List Loc} {n : Nat} {f : Nat → Nat → Bool} {μ : Mem} {pc : Nat} {lsA : Array Slot} {rest : List Value}
    (F : FI p s m args c meth D cA nL mi) (hR : 1 ≤ R.frames ∧ 36 ≤ R.locals) (hc : cells ≤ R.cells ∧ slots ≤ R.slots) {x a b o d1 : Nat} (hf : (oM mi, x, a, b) ∈ flt) (ha : a < 7) (hbN : b < NX a) (hk : (fks a)[b]? = some (d1 + 2)) (ho : (lay.getD o (999, 0)).1 = a) (hon : o < n) (hset : f o b = true) (hd : decode (bM mi) pc = .ok (.getfield x, 3))
    (hP : va_P D vwCl (wl base cA (n, f) μ) H) (kk : W p l e R s m args below meth c H locs cells slots Qf (F0 m (pc + 3) lsA (.ref (base + (o + d1)) :: rest))) :
    W p l e R s m args below meth c H locs cells slots Qf (F0 m pc lsA (.ref (base + o) :: rest)) := by
  obtain ⟨hx, hb, hml, hown, hts, hK, hname⟩ := F
  have FX : Fx p s m args c cells slots R D base cA nL mi 0 (n, f) (AA base) := ⟨hx, hb, hml, hown, fun w hw => by
    rcases List.mem_cons.mp hw with rfl | hw
    · exact hts _ List.mem_cons_self
    · exact hts _ (gW_I hw), hK.1, hR.1, by omega, hc.1, hc.2, fun q h => h.1⟩
  refine s_getf (σ := (n, f)) FX hf ha hbN hk hd (by unfold shp; rw [if_pos hon]; exact ho) hP ?_
  show W p l e R s m args below meth c H locs cells slots Qf (F0 m (pc + 3) lsA ((if f o b = true then Value.ref (base + (o + d1)) else .null) :: rest))
  rw [if_pos hset]
  exact kk
theorem layT_h : ∀ i, i < 6 → layT.getD (13 + 7 * i) (999, 0) = (1, 3) := by decide
theorem layT_s : ∀ i, i < 6 → ∀ x, x < 7 → 13 + 7 * i + x < 55 ∧ layT.getD (13 + 7 * i + x) (999, 0) = layH.getD x (999, 0) := by decide
theorem layT_len : layT.length = 55 := by decide
theorem layH_len : layH.length = 7 := by decide
def layHis : List (Nat × Nat) := [(2, 3), (104, 6)] ++ (layT ++ (layT ++ (layT ++ (layT ++ (layT ++ layT)))))
theorem layHis_h : ∀ i, i < 6 → layHis.getD (2 + 55 * i) (999, 0) = (5, 12) := by decide
theorem layHis_s : ∀ i, i < 6 → ∀ x, x < 55 → 2 + 55 * i + x < 332 ∧ layHis.getD (2 + 55 * i + x) (999, 0) = layT.getD x (999, 0) := by decide +kernel
theorem layHis_len : layHis.length = 332 := by decide +kernel
set_option maxHeartbeats 4000000 in
theorem Sta_loop {p : Program} {l : Launch} {e : Env} {R : Room} {s : State} {m : MethodId} {args : Array Value} {below : List Frame} {meth : Method} {c : Code} {Qf : State → Prop} {D : va_G} {base : Nat} {cA : Nat → ClassId} {k : Nat} {f : Nat → Nat → Bool} {μ : Mem}
    (F : FI p s m args c meth D cA 2 26) (hR : 3 ≤ R.frames ∧ 60 ≤ R.locals ∧ 54 ≤ R.cells ∧ 998 ≤ R.slots) (hfr : fr f μ (k + 13)) (hla : layAt k layT) (hsz : s.heap.size = base + (k + 1))
    (fin : ∀ (H : Heap) (locs : List Loc) (ls : Array Slot), va_P D vwCl (wl base cA (k + 55, G2 f k (k + 12) (k + 55) 9 6) μ) H → va_S (AA base) s.heap H locs → W p l e R s m args below meth c H locs 54 998 Qf (F0 m 107 ls [])) :
    ∀ (cn i : Nat), i + cn = 6 → ∀ (H : Heap) (locs : List Loc) (ls : Array Slot), lv_has ls 2 [(1, .int (nI i)), (0, .ref (base + k))] → va_P D vwCl (wl base cA (k + (13 + 7 * i), G2 f k (k + 12) (k + (13 + 7 * i)) 9 i) μ) H → va_S (AA base) s.heap H locs →
      W p l e R s m args below meth c H locs (12 + 7 * i) (236 + 127 * i) Qf (F0 m 82 ls []) := by
  have F0 := F
  obtain ⟨hx, hb, hml, hown, hts, hK, hname⟩ := F0
  have hb0 : base ≤ s.heap.size := by omega
  intro cn
  induction cn with
  | zero =>
    intro i hi H locs ls hl hP hS
    have hi6 : i = 6 := by omega
    subst hi6
    refine lv_iload_n hx hb dI26_82 rfl (lv_at hl 0 rfl) ?_
    refine lv_bipush (v := 6) hx hb dI26_83 rfl ?_
    refine lv_icmp_ge (tgt := 107) hx hb dI26_85 (by decide) (fun cc => ?_) (fun cc => ?_)
    · exact fin H locs ls hP hS
    · exact absurd (show (6 : Int32) ≤ nI 6 by decide) cc
  | succ cn ih =>
    intro i hi H locs ls hl hP hS
    have hiN : i < 6 := by omega
    refine lv_iload_n hx hb dI26_82 rfl (lv_at hl 0 rfl) ?_
    refine lv_bipush (v := 6) hx hb dI26_83 rfl ?_
    refine lv_icmp_ge (tgt := 107) hx hb dI26_85 (by decide) (fun cc => ?_) (fun cc => ?_)
    · exact absurd ((nI_leI (by omega) (by omega)).mp (show nI 6 ≤ nI i from cc)) (by omega)
    · refine lv_aload_n hx hb dI26_88 rfl (lv_at hl 1 rfl) ?_
      refine i_getf (n := k + (13 + 7 * i)) (a := 5) (b := 8) (d1 := 12) F ⟨by omega, by omega⟩ ⟨by omega, by omega⟩ (by decide +kernel) (by decide) (by decide) rfl (congrArg Prod.fst (hla 0 (by decide +kernel))) (by omega) (by unfold G2; rw [if_pos rfl]; rfl) dI26_89 hP ?_
      refine lv_iload_n hx hb dI26_92 rfl (lv_at hl 0 rfl) ?_
      refine i_new (base := base) (n := k + (13 + 7 * i)) (a := 1) F (by decide +kernel) (by decide +kernel) (by decide) ((hla (13 + 7 * i) (by rw [layT_len]; omega)).trans (layT_h i hiN)) (g2_fr2 (fr_m hfr (by omega)) (by omega) (by omega)) (by omega) hb0 (by omega) (by show _ + 3 ≤ _; omega) dI26_93 hP hS (fun H1 hP hS => ?_)
      refine lv_dup hx hb dI26_96 rfl ?_
      refine i_ctor (base := base) (k := k + (13 + 7 * i)) (mj := 4) F (Or.inl (by decide +kernel)) (by decide) rfl (by decide +kernel) ⟨by decide +kernel, by decide +kernel, by decide +kernel⟩ (c_Hea l D base cA (g2_fr2 (fr_m hfr (by omega)) (by omega) (by omega)) (layAt_sub hla (13 + 7 * i) (fun x hx => by rw [layT_len]; exact layT_s i hiN x (by rw [← layH_len]; exact hx)))) (by omega) (by omega) ⟨by omega, by show 8 + (1 + 11) + 40 ≤ R.locals; omega⟩ ⟨by show _ + 1 + 6 ≤ _; omega, by show _ + 3 + 124 ≤ _; omega⟩ (lv_room (Nat.le_of_ble_eq_true rfl)) hl.1 dI26_97 hP hS (fun H1 locs1 hP hS => ?_)
      rw [g2_ctor (by omega) (by omega)] at hP
      refine i_aast (base := base) (q0 := k + 12) (qk := k + (13 + 7 * i)) (a := 1) (N := 6) (kd := 103) (i1 := 3) (i := i) (b1 := 1) (c1 := 7) F (by decide) (hla 12 (by decide +kernel)) (by omega) (congrArg Prod.fst ((hla (13 + 7 * i) (by rw [layT_len]; omega)).trans (layT_h i hiN))) (by omega) (by omega) hiN (by decide) dI26_100 hP hS (fun H1 locs1 hP hS => ?_)
      rw [g2_ast (by omega), show k + (13 + 7 * i) + 7 = k + (13 + 7 * (i + 1)) by omega] at hP
      refine lv_iinc (v := nI (i + 1)) (lv' := [(1, .int (nI (i + 1))), (0, .ref (base + k))]) hx hb dI26_101 hl (k := 0) rfl (nI_1 i) (by decide) rfl (fun ls hl => ?_)
      refine lv_goto (tgt := 82) hx hb dI26_104 (by decide) ?_
      exact W.cs (by show _ + 1 + 6 = _; omega) (by show _ + 3 + 124 = _; omega) (ih (i + 1) (by omega) H1 locs1 ls hl hP hS)
set_option maxHeartbeats 4000000 in
theorem c_Sta (l : Launch) (D : va_G) (base : Nat) (cA : Nat → ClassId) {k : Nat} {f : Nat → Nat → Bool} {μ : Mem} (hfr : fr f μ k) (hla : layAt k layT) : CtOk l D base cA 26 55 54 998 3 60 k f μ := by
  refine Met.ofW (cc := bM 26) (maxL := 2) (ret := none) (by decide +kernel) rfl ?_
  intro p e s m args below meth c s₁ B hml hv
  obtain ⟨rfl, hsz, hP, hK⟩ := hv
  have hx := B.exec
  have hb := B.bytes
  have hts := atoms_spec (ws := wsI 26) B.pre
  have F : FI p s m #[Value.ref (base + k)] c meth D cA 2 26 := ⟨hx, hb, hml, findClass_of_methodNamed B.named, hts, hK, (name_of_methodNamed B.named B.method).1⟩
  have hP : va_P D vwCl (wl base cA (k + 1, f) μ) s.heap := hP
  have hS : va_S (AA base) s.heap s.heap [] := va_S.rf
  have hb0 : base ≤ s.heap.size := by omega
  have hl := lv_entry ([.ref (base + k)]) (n := 2) (Nat.le_of_ble_eq_true rfl)
  rw [lg_entry_eq]
  generalize (lg_sl ([.ref (base + k)]) ++ List.replicate (2 - (lg_sl ([.ref (base + k)])).length) Slot.unset).toArray = ls at hl ⊢
  have hl : lv_has ls 2 [(0, .ref (base + k))] := hl
  have hP := hP
  rw [g2_0 (q := (k + 12)) hfr (by omega)] at hP
  refine lv_aload_n hx hb dI26_0 rfl (lv_at hl 0 rfl) ?_
  refine i_obj F (by decide +kernel) ⟨Nat.le_of_ble_eq_true rfl, Nat.le_of_ble_eq_true rfl⟩ hl.1 dI26_1 ?_
  refine lv_aload_n hx hb dI26_4 rfl (lv_at hl 0 rfl) ?_
  refine i_new (base := base) (n := k + 1) (a := 4) F (by decide +kernel) (by decide +kernel) (by decide) (hla 1 (by decide +kernel)) (g2_fr hfr (by omega) (by omega)) (by omega) hb0 (Nat.le_of_ble_eq_true rfl) (Nat.le_of_ble_eq_true rfl) dI26_5 hP hS (fun H1 hP hS => ?_)
  refine lv_dup hx hb dI26_8 rfl ?_
  refine i_ctor (base := base) (k := k + 1) (mj := 16) F (Or.inl (by decide +kernel)) (by decide) rfl (by decide +kernel) ⟨by decide +kernel, by decide +kernel, by decide +kernel⟩ (c_Sen l D base cA (g2_fr hfr (by omega) (by omega)) (layAt_sub hla 1 (by decide))) (by omega) (by omega) ⟨Nat.le_of_ble_eq_true rfl, Nat.le_of_ble_eq_true rfl⟩ ⟨Nat.le_of_ble_eq_true rfl, Nat.le_of_ble_eq_true rfl⟩ (lv_room (Nat.le_of_ble_eq_true rfl)) hl.1 dI26_9 hP hS (fun H1 locs1 hP hS => ?_)
  rw [g2_ctor (by omega) (by omega)] at hP
  have hP : va_P D vwCl (wl base cA (k + 5, G2 f k (k + 12) (k + 5) 0 0) μ) H1 := hP
  refine i_putP (base := base) (n := k + 5) (a := 5) (b1 := 0) (d1 := 1) (ty := (.object "NoticeShifts$Sentences")) F (by decide +kernel) (by decide) (by decide) rfl rfl rfl (by decide +kernel) (fun _ => rfl) (fun _ => rfl) (congrArg Prod.fst (hla 0 (by decide +kernel))) (by omega) dI26_12 hP hS (fun H1 locs1 hP hS => ?_)
  rw [g2_put] at hP
  have hP : va_P D vwCl (wl base cA (k + 5, G2 f k (k + 12) (k + 5) 1 0) μ) H1 := hP
  refine lv_aload_n hx hb dI26_15 rfl (lv_at hl 0 rfl) ?_
  refine lv_bipush (v := 24) hx hb dI26_16 rfl ?_
  refine i_newa (base := base) (n := k + 5) (i := 0) (N := 24) (kd := 100) F (by omega) rfl rfl (by decide +kernel) rfl (hla 5 (by decide +kernel)) (g2_fr hfr (by omega) (by omega)) (by omega) hb0 (by decide) (by decide) (by decide) (Nat.le_of_ble_eq_true rfl) (Nat.le_of_ble_eq_true rfl) dI26_18 hP hS (fun H1 hP hS => ?_)
  have hP := P_c (g2_arr (by omega) (Or.inr (fun x => isP_a (hla 5 (by decide +kernel)) (by decide) x))) hP
  have hP : va_P D vwCl (wl base cA (k + 6, G2 f k (k + 12) (k + 6) 1 0) μ) H1 := hP
  refine i_putP (base := base) (n := k + 6) (a := 5) (b1 := 1) (d1 := 5) (ty := (.array .int)) F (by decide +kernel) (by decide) (by decide) rfl rfl rfl (by decide +kernel) (fun _ => rfl) (fun _ => rfl) (congrArg Prod.fst (hla 0 (by decide +kernel))) (by omega) dI26_20 hP hS (fun H1 locs1 hP hS => ?_)
  rw [g2_put] at hP
  have hP : va_P D vwCl (wl base cA (k + 6, G2 f k (k + 12) (k + 6) 2 0) μ) H1 := hP
  refine lv_aload_n hx hb dI26_23 rfl (lv_at hl 0 rfl) ?_
  refine lv_bipush (v := 96) hx hb dI26_24 rfl ?_
  refine i_newa (base := base) (n := k + 6) (i := 0) (N := 96) (kd := 100) F (by omega) rfl rfl (by decide +kernel) rfl (hla 6 (by decide +kernel)) (g2_fr hfr (by omega) (by omega)) (by omega) hb0 (by decide) (by decide) (by decide) (Nat.le_of_ble_eq_true rfl) (Nat.le_of_ble_eq_true rfl) dI26_26 hP hS (fun H1 hP hS => ?_)
  have hP := P_c (g2_arr (by omega) (Or.inr (fun x => isP_a (hla 6 (by decide +kernel)) (by decide) x))) hP
  have hP : va_P D vwCl (wl base cA (k + 7, G2 f k (k + 12) (k + 7) 2 0) μ) H1 := hP
  refine i_putP (base := base) (n := k + 7) (a := 5) (b1 := 2) (d1 := 6) (ty := (.array .int)) F (by decide +kernel) (by decide) (by decide) rfl rfl rfl (by decide +kernel) (fun _ => rfl) (fun _ => rfl) (congrArg Prod.fst (hla 0 (by decide +kernel))) (by omega) dI26_28 hP hS (fun H1 locs1 hP hS => ?_)
  rw [g2_put] at hP
  have hP : va_P D vwCl (wl base cA (k + 7, G2 f k (k + 12) (k + 7) 3 0) μ) H1 := hP
  refine lv_aload_n hx hb dI26_31 rfl (lv_at hl 0 rfl) ?_
  refine lv_bipush (v := 8) hx hb dI26_32 rfl ?_
  refine i_newa (base := base) (n := k + 7) (i := 0) (N := 8) (kd := 100) F (by omega) rfl rfl (by decide +kernel) rfl (hla 7 (by decide +kernel)) (g2_fr hfr (by omega) (by omega)) (by omega) hb0 (by decide) (by decide) (by decide) (Nat.le_of_ble_eq_true rfl) (Nat.le_of_ble_eq_true rfl) dI26_34 hP hS (fun H1 hP hS => ?_)
  have hP := P_c (g2_arr (by omega) (Or.inr (fun x => isP_a (hla 7 (by decide +kernel)) (by decide) x))) hP
  have hP : va_P D vwCl (wl base cA (k + 8, G2 f k (k + 12) (k + 8) 3 0) μ) H1 := hP
  refine i_putP (base := base) (n := k + 8) (a := 5) (b1 := 3) (d1 := 7) (ty := (.array .int)) F (by decide +kernel) (by decide) (by decide) rfl rfl rfl (by decide +kernel) (fun _ => rfl) (fun _ => rfl) (congrArg Prod.fst (hla 0 (by decide +kernel))) (by omega) dI26_36 hP hS (fun H1 locs1 hP hS => ?_)
  rw [g2_put] at hP
  have hP : va_P D vwCl (wl base cA (k + 8, G2 f k (k + 12) (k + 8) 4 0) μ) H1 := hP
  refine lv_aload_n hx hb dI26_39 rfl (lv_at hl 0 rfl) ?_
  refine lv_bipush (v := 8) hx hb dI26_40 rfl ?_
  refine i_newa (base := base) (n := k + 8) (i := 0) (N := 8) (kd := 100) F (by omega) rfl rfl (by decide +kernel) rfl (hla 8 (by decide +kernel)) (g2_fr hfr (by omega) (by omega)) (by omega) hb0 (by decide) (by decide) (by decide) (Nat.le_of_ble_eq_true rfl) (Nat.le_of_ble_eq_true rfl) dI26_42 hP hS (fun H1 hP hS => ?_)
  have hP := P_c (g2_arr (by omega) (Or.inr (fun x => isP_a (hla 8 (by decide +kernel)) (by decide) x))) hP
  have hP : va_P D vwCl (wl base cA (k + 9, G2 f k (k + 12) (k + 9) 4 0) μ) H1 := hP
  refine i_putP (base := base) (n := k + 9) (a := 5) (b1 := 4) (d1 := 8) (ty := (.array .int)) F (by decide +kernel) (by decide) (by decide) rfl rfl rfl (by decide +kernel) (fun _ => rfl) (fun _ => rfl) (congrArg Prod.fst (hla 0 (by decide +kernel))) (by omega) dI26_44 hP hS (fun H1 locs1 hP hS => ?_)
  rw [g2_put] at hP
  have hP : va_P D vwCl (wl base cA (k + 9, G2 f k (k + 12) (k + 9) 5 0) μ) H1 := hP
  refine lv_aload_n hx hb dI26_47 rfl (lv_at hl 0 rfl) ?_
  refine lv_bipush (v := 6) hx hb dI26_48 rfl ?_
  refine i_newa (base := base) (n := k + 9) (i := 0) (N := 6) (kd := 100) F (by omega) rfl rfl (by decide +kernel) rfl (hla 9 (by decide +kernel)) (g2_fr hfr (by omega) (by omega)) (by omega) hb0 (by decide) (by decide) (by decide) (Nat.le_of_ble_eq_true rfl) (Nat.le_of_ble_eq_true rfl) dI26_50 hP hS (fun H1 hP hS => ?_)
  have hP := P_c (g2_arr (by omega) (Or.inr (fun x => isP_a (hla 9 (by decide +kernel)) (by decide) x))) hP
  have hP : va_P D vwCl (wl base cA (k + 10, G2 f k (k + 12) (k + 10) 5 0) μ) H1 := hP
  refine i_putP (base := base) (n := k + 10) (a := 5) (b1 := 5) (d1 := 9) (ty := (.array .int)) F (by decide +kernel) (by decide) (by decide) rfl rfl rfl (by decide +kernel) (fun _ => rfl) (fun _ => rfl) (congrArg Prod.fst (hla 0 (by decide +kernel))) (by omega) dI26_52 hP hS (fun H1 locs1 hP hS => ?_)
  rw [g2_put] at hP
  have hP : va_P D vwCl (wl base cA (k + 10, G2 f k (k + 12) (k + 10) 6 0) μ) H1 := hP
  refine lv_aload_n hx hb dI26_55 rfl (lv_at hl 0 rfl) ?_
  refine lv_bipush (v := 6) hx hb dI26_56 rfl ?_
  refine i_newa (base := base) (n := k + 10) (i := 0) (N := 6) (kd := 100) F (by omega) rfl rfl (by decide +kernel) rfl (hla 10 (by decide +kernel)) (g2_fr hfr (by omega) (by omega)) (by omega) hb0 (by decide) (by decide) (by decide) (Nat.le_of_ble_eq_true rfl) (Nat.le_of_ble_eq_true rfl) dI26_58 hP hS (fun H1 hP hS => ?_)
  have hP := P_c (g2_arr (by omega) (Or.inr (fun x => isP_a (hla 10 (by decide +kernel)) (by decide) x))) hP
  have hP : va_P D vwCl (wl base cA (k + 11, G2 f k (k + 12) (k + 11) 6 0) μ) H1 := hP
  refine i_putP (base := base) (n := k + 11) (a := 5) (b1 := 6) (d1 := 10) (ty := (.array .int)) F (by decide +kernel) (by decide) (by decide) rfl rfl rfl (by decide +kernel) (fun _ => rfl) (fun _ => rfl) (congrArg Prod.fst (hla 0 (by decide +kernel))) (by omega) dI26_60 hP hS (fun H1 locs1 hP hS => ?_)
  rw [g2_put] at hP
  have hP : va_P D vwCl (wl base cA (k + 11, G2 f k (k + 12) (k + 11) 7 0) μ) H1 := hP
  refine lv_aload_n hx hb dI26_63 rfl (lv_at hl 0 rfl) ?_
  refine lv_bipush (v := 6) hx hb dI26_64 rfl ?_
  refine i_newa (base := base) (n := k + 11) (i := 2) (N := 6) (kd := 102) F (by omega) rfl rfl (by decide +kernel) rfl (hla 11 (by decide +kernel)) (g2_fr hfr (by omega) (by omega)) (by omega) hb0 (by decide) (by decide) (by decide) (Nat.le_of_ble_eq_true rfl) (Nat.le_of_ble_eq_true rfl) dI26_66 hP hS (fun H1 hP hS => ?_)
  have hP := P_c (g2_arr (by omega) (Or.inr (fun x => isP_a (hla 11 (by decide +kernel)) (by decide) x))) hP
  have hP : va_P D vwCl (wl base cA (k + 12, G2 f k (k + 12) (k + 12) 7 0) μ) H1 := hP
  refine i_putP (base := base) (n := k + 12) (a := 5) (b1 := 7) (d1 := 11) (ty := (.array .boolean)) F (by decide +kernel) (by decide) (by decide) rfl rfl rfl (by decide +kernel) (fun _ => rfl) (fun _ => rfl) (congrArg Prod.fst (hla 0 (by decide +kernel))) (by omega) dI26_68 hP hS (fun H1 locs1 hP hS => ?_)
  rw [g2_put] at hP
  have hP : va_P D vwCl (wl base cA (k + 12, G2 f k (k + 12) (k + 12) 8 0) μ) H1 := hP
  refine lv_aload_n hx hb dI26_71 rfl (lv_at hl 0 rfl) ?_
  refine lv_bipush (v := 6) hx hb dI26_72 rfl ?_
  refine i_newq (base := base) (n := k + 12) (i := 3) (N := 6) (a := 1) (kd := 103) F (by decide +kernel) (by decide) (hla 12 (by decide +kernel)) (g2_fr hfr (by omega) (by omega)) (by omega) hb0 (by decide) (by decide) (by decide) (Nat.le_of_ble_eq_true rfl) (Nat.le_of_ble_eq_true rfl) dI26_74 hP hS (fun H1 hP hS => ?_)
  have hP := P_c (g2_arr (by omega) (Or.inl rfl)) hP
  have hP : va_P D vwCl (wl base cA (k + 13, G2 f k (k + 12) (k + 13) 8 0) μ) H1 := hP
  refine i_putP (base := base) (n := k + 13) (a := 5) (b1 := 8) (d1 := 12) (ty := (.array (.object "NoticeShifts$Hearing"))) F (by decide +kernel) (by decide) (by decide) rfl rfl rfl (by decide +kernel) (fun _ => rfl) (fun _ => rfl) (congrArg Prod.fst (hla 0 (by decide +kernel))) (by omega) dI26_77 hP hS (fun H1 locs1 hP hS => ?_)
  rw [g2_put] at hP
  have hP : va_P D vwCl (wl base cA (k + 13, G2 f k (k + 12) (k + 13) 9 0) μ) H1 := hP
  refine lv_iconst (v := 0) hx hb dI26_80 rfl ?_
  refine lv_istore_n (lv' := [(1, .int (nI 0)), (0, .ref (base + k))]) hx hb dI26_81 rfl hl (by decide) rfl (fun ls hl => ?_)
  refine Sta_loop (k := k) F ⟨Nat.le_of_ble_eq_true rfl, Nat.le_of_ble_eq_true rfl, Nat.le_of_ble_eq_true rfl, Nat.le_of_ble_eq_true rfl⟩ (fr_m hfr (by omega)) hla hsz (fun H locs ls hP hS => ?_) 6 0 (by omega) _ _ _ hl hP hS
  have hP := P_c (f' := setT f k (k + 55)) (g2_end (fun x hx => isP_o (hla 0 (by decide +kernel)) 9 (by decide) (by decide) x hx) (fun _ => ⟨by omega, isP_q (hla 12 (by decide +kernel)) (by decide)⟩)) hP
  exact W.vret hx hb B.returns (fun t ht hW => ⟨⟨(), rfl, trivial, by unfold WdH; rw [ht]; exact hP, hK.warm hW⟩, hS.F ht⟩) hS.2.2 dI26_107
set_option maxHeartbeats 4000000 in
theorem His_loop {p : Program} {l : Launch} {e : Env} {R : Room} {s : State} {m : MethodId} {args : Array Value} {below : List Frame} {meth : Method} {c : Code} {Qf : State → Prop} {D : va_G} {base : Nat} {cA : Nat → ClassId} {k : Nat} {f : Nat → Nat → Bool} {μ : Mem}
    (F : FI p s m args c meth D cA 2 13) (hR : 4 ≤ R.frames ∧ 84 ≤ R.locals ∧ 331 ≤ R.cells ∧ 6066 ≤ R.slots) (hfr : fr f μ (k + 2)) (hla : layAt k layHis) (hsz : s.heap.size = base + (k + 1))
    (fin : ∀ (H : Heap) (locs : List Loc) (ls : Array Slot), va_P D vwCl (wl base cA (k + 332, G2 f k (k + 1) (k + 332) 1 6) μ) H → va_S (AA base) s.heap H locs → W p l e R s m args below meth c H locs 331 6066 Qf (F0 m 40 ls [])) :
    ∀ (cn i : Nat), i + cn = 6 → ∀ (H : Heap) (locs : List Loc) (ls : Array Slot), lv_has ls 2 [(1, .int (nI i)), (0, .ref (base + k))] → va_P D vwCl (wl base cA (k + (2 + 55 * i), G2 f k (k + 1) (k + (2 + 55 * i)) 1 i) μ) H → va_S (AA base) s.heap H locs →
      W p l e R s m args below meth c H locs (1 + 55 * i) (6 + 1010 * i) Qf (F0 m 15 ls []) := by
  have F0 := F
  obtain ⟨hx, hb, hml, hown, hts, hK, hname⟩ := F0
  have hb0 : base ≤ s.heap.size := by omega
  intro cn
  induction cn with
  | zero =>
    intro i hi H locs ls hl hP hS
    have hi6 : i = 6 := by omega
    subst hi6
    refine lv_iload_n hx hb dI13_15 rfl (lv_at hl 0 rfl) ?_
    refine lv_bipush (v := 6) hx hb dI13_16 rfl ?_
    refine lv_icmp_ge (tgt := 40) hx hb dI13_18 (by decide) (fun cc => ?_) (fun cc => ?_)
    · exact fin H locs ls hP hS
    · exact absurd (show (6 : Int32) ≤ nI 6 by decide) cc
  | succ cn ih =>
    intro i hi H locs ls hl hP hS
    have hiN : i < 6 := by omega
    refine lv_iload_n hx hb dI13_15 rfl (lv_at hl 0 rfl) ?_
    refine lv_bipush (v := 6) hx hb dI13_16 rfl ?_
    refine lv_icmp_ge (tgt := 40) hx hb dI13_18 (by decide) (fun cc => ?_) (fun cc => ?_)
    · exact absurd ((nI_leI (by omega) (by omega)).mp (show nI 6 ≤ nI i from cc)) (by omega)
    · refine lv_aload_n hx hb dI13_21 rfl (lv_at hl 1 rfl) ?_
      refine i_getf (n := k + (2 + 55 * i)) (a := 2) (b := 0) (d1 := 1) F ⟨by omega, by omega⟩ ⟨by omega, by omega⟩ (by decide +kernel) (by decide) (by decide) rfl (congrArg Prod.fst (hla 0 (by decide +kernel))) (by omega) (by unfold G2; rw [if_pos rfl]; rfl) dI13_22 hP ?_
      refine lv_iload_n hx hb dI13_25 rfl (lv_at hl 0 rfl) ?_
      refine i_new (base := base) (n := k + (2 + 55 * i)) (a := 5) F (by decide +kernel) (by decide +kernel) (by decide) ((hla (2 + 55 * i) (by rw [layHis_len]; omega)).trans (layHis_h i hiN)) (g2_fr2 (fr_m hfr (by omega)) (by omega) (by omega)) (by omega) hb0 (by omega) (by show _ + 12 ≤ _; omega) dI13_26 hP hS (fun H1 hP hS => ?_)
      refine lv_dup hx hb dI13_29 rfl ?_
      refine i_ctor (base := base) (k := k + (2 + 55 * i)) (mj := 26) F (Or.inr (by decide +kernel)) (by decide) rfl (by decide +kernel) ⟨by decide +kernel, by decide +kernel, by decide +kernel⟩ (c_Sta l D base cA (g2_fr2 (fr_m hfr (by omega)) (by omega) (by omega)) (layAt_sub hla (2 + 55 * i) (fun x hx => by rw [layHis_len]; exact layHis_s i hiN x (by rw [← layT_len]; exact hx)))) (by omega) (by omega) ⟨by omega, by show 8 + (2 + 11) + 60 ≤ R.locals; omega⟩ ⟨by show _ + 1 + 54 ≤ _; omega, by show _ + 12 + 998 ≤ _; omega⟩ (lv_room (Nat.le_of_ble_eq_true rfl)) hl.1 dI13_30 hP hS (fun H1 locs1 hP hS => ?_)
      rw [g2_ctor (by omega) (by omega)] at hP
      refine i_aast (base := base) (q0 := k + 1) (qk := k + (2 + 55 * i)) (a := 5) (N := 6) (kd := 104) (i1 := 4) (i := i) (b1 := 1) (c1 := 55) F (by decide) (hla 1 (by decide +kernel)) (by omega) (congrArg Prod.fst ((hla (2 + 55 * i) (by rw [layHis_len]; omega)).trans (layHis_h i hiN))) (by omega) (by omega) hiN (by decide) dI13_33 hP hS (fun H1 locs1 hP hS => ?_)
      rw [g2_ast (by omega), show k + (2 + 55 * i) + 55 = k + (2 + 55 * (i + 1)) by omega] at hP
      refine lv_iinc (v := nI (i + 1)) (lv' := [(1, .int (nI (i + 1))), (0, .ref (base + k))]) hx hb dI13_34 hl (k := 0) rfl (nI_1 i) (by decide) rfl (fun ls hl => ?_)
      refine lv_goto (tgt := 15) hx hb dI13_37 (by decide) ?_
      exact W.cs (by show _ + 1 + 54 = _; omega) (by show _ + 12 + 998 = _; omega) (ih (i + 1) (by omega) H1 locs1 ls hl hP hS)
set_option maxHeartbeats 4000000 in
theorem c_His (l : Launch) (D : va_G) (base : Nat) (cA : Nat → ClassId) {k : Nat} {f : Nat → Nat → Bool} {μ : Mem} (hfr : fr f μ k) (hla : layAt k layHis) : CtOk l D base cA 13 332 331 6066 4 84 k f μ := by
  refine Met.ofW (cc := bM 13) (maxL := 2) (ret := none) (by decide +kernel) rfl ?_
  intro p e s m args below meth c s₁ B hml hv
  obtain ⟨rfl, hsz, hP, hK⟩ := hv
  have hx := B.exec
  have hb := B.bytes
  have hts := atoms_spec (ws := wsI 13) B.pre
  have F : FI p s m #[Value.ref (base + k)] c meth D cA 2 13 := ⟨hx, hb, hml, findClass_of_methodNamed B.named, hts, hK, (name_of_methodNamed B.named B.method).1⟩
  have hP : va_P D vwCl (wl base cA (k + 1, f) μ) s.heap := hP
  have hS : va_S (AA base) s.heap s.heap [] := va_S.rf
  have hb0 : base ≤ s.heap.size := by omega
  have hl := lv_entry ([.ref (base + k)]) (n := 2) (Nat.le_of_ble_eq_true rfl)
  rw [lg_entry_eq]
  generalize (lg_sl ([.ref (base + k)]) ++ List.replicate (2 - (lg_sl ([.ref (base + k)])).length) Slot.unset).toArray = ls at hl ⊢
  have hl : lv_has ls 2 [(0, .ref (base + k))] := hl
  have hP := hP
  rw [g2_0 (q := (k + 1)) hfr (by omega)] at hP
  refine lv_aload_n hx hb dI13_0 rfl (lv_at hl 0 rfl) ?_
  refine i_obj F (by decide +kernel) ⟨Nat.le_of_ble_eq_true rfl, Nat.le_of_ble_eq_true rfl⟩ hl.1 dI13_1 ?_
  refine lv_aload_n hx hb dI13_4 rfl (lv_at hl 0 rfl) ?_
  refine lv_bipush (v := 6) hx hb dI13_5 rfl ?_
  refine i_newq (base := base) (n := k + 1) (i := 4) (N := 6) (a := 5) (kd := 104) F (by decide +kernel) (by decide) (hla 1 (by decide +kernel)) (g2_fr hfr (by omega) (by omega)) (by omega) hb0 (by decide) (by decide) (by decide) (Nat.le_of_ble_eq_true rfl) (Nat.le_of_ble_eq_true rfl) dI13_7 hP hS (fun H1 hP hS => ?_)
  have hP := P_c (g2_arr (by omega) (Or.inl rfl)) hP
  have hP : va_P D vwCl (wl base cA (k + 2, G2 f k (k + 1) (k + 2) 0 0) μ) H1 := hP
  refine i_putP (base := base) (n := k + 2) (a := 2) (b1 := 0) (d1 := 1) (ty := (.array (.object "NoticeShifts$State"))) F (by decide +kernel) (by decide) (by decide) rfl rfl rfl (by decide +kernel) (fun _ => rfl) (fun _ => rfl) (congrArg Prod.fst (hla 0 (by decide +kernel))) (by omega) dI13_10 hP hS (fun H1 locs1 hP hS => ?_)
  rw [g2_put] at hP
  have hP : va_P D vwCl (wl base cA (k + 2, G2 f k (k + 1) (k + 2) 1 0) μ) H1 := hP
  refine lv_iconst (v := 0) hx hb dI13_13 rfl ?_
  refine lv_istore_n (lv' := [(1, .int (nI 0)), (0, .ref (base + k))]) hx hb dI13_14 rfl hl (by decide) rfl (fun ls hl => ?_)
  refine His_loop (k := k) F ⟨Nat.le_of_ble_eq_true rfl, Nat.le_of_ble_eq_true rfl, Nat.le_of_ble_eq_true rfl, Nat.le_of_ble_eq_true rfl⟩ (fr_m hfr (by omega)) hla hsz (fun H locs ls hP hS => ?_) 6 0 (by omega) _ _ _ hl hP hS
  have hP := P_c (f' := setT f k (k + 332)) (g2_end (fun x hx => isP_o (hla 0 (by decide +kernel)) 1 (by decide) (by decide) x hx) (fun _ => ⟨by omega, isP_q (hla 1 (by decide +kernel)) (by decide)⟩)) hP
  exact W.vret hx hb B.returns (fun t ht hW => ⟨⟨(), rfl, trivial, by unfold WdH; rw [ht]; exact hP, hK.warm hW⟩, hS.F ht⟩) hS.2.2 dI13_40
