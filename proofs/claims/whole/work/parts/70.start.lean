/-! THE LAW: its loop, its start -/
theorem inst_in : ∀ a, a < 8 → Cond.instantiable (RX a) (NX a) ∈ gX := by decide +kernel
theorem nestW_in : ∀ w ∈ nestW, w ∈ lw_tbl := by
  intro w hw
  rw [nest_pl] at hw
  obtain ⟨i, -, hi⟩ := List.mem_filterMap.mp hw
  exact List.mem_of_getElem? hi
theorem nestI_in : ∀ w ∈ nestIw, w ∈ lw_tbl := by
  intro w hw
  rw [nestI_pl] at hw
  obtain ⟨i, -, hi⟩ := List.mem_filterMap.mp hw
  exact List.mem_of_getElem? hi
theorem arrP {args : Array Value} {s : State} {ty : FieldType} (h : (Cond.arrayClass ty).before args s = true) (hp : ∀ c, s.vm.findClass ("[" ++ ty.toString) = some c → va_RA s c ty) : ∃ c : ClassId, ArrOfT s c ty ∧ va_RA s c ty := by
  simp only [Cond.before, Cond.holds, Cond.value, beq_iff_eq, Option.map_eq_some_iff, Option.bind_eq_some_iff] at h
  obtain ⟨k, ⟨c, h1, h2⟩, h3⟩ := h
  refine ⟨c, fun n z => ?_, hp c h1⟩
  cases hk : k.kind with
  | array comp t =>
    rw [hk] at h3
    have h3 : t = ty := of_decide_eq_true h3
    subst h3
    exact ⟨fun k h => (by cases h), k, h2, comp, hk⟩
  | _ => rw [hk] at h3; exact absurd (show false = true from h3) Bool.false_ne_true
theorem arrO {args : Array Value} {s : State} {C : String} (h : (Cond.arrayOver (.object C)).before args s = true) : ∃ c : ClassId, ArrOfT s c (.object C) ∧ va_RA s c (.object C) := by
  obtain ⟨comp, c, k, h1, h2, h3, h4, h5⟩ := Cond.arrayOver_spec h
  exact ⟨c, fun n z => ⟨fun k h => (by cases h), k, h3, comp, h4⟩, k, comp, h3, h4, h1, h5⟩
theorem j_new {p : Program} {l : Launch} {e : Env} {s : State} {m : MethodId} {below : List Frame} {meth : Method} {c : Code} {cells slots : Nat} {Qf : State → Prop} {D : va_G} {cA : Nat → ClassId} {b n x a pc : Nat} {f : Nat → Nat → Bool} {μ : Mem} {H : Heap} {locs : List Loc} {lsA : Array Slot} {rest : List Value}
    (hx : p.tables.exec = Jvm.exec) (hb : c.code = code) (hown : s.vm.findClass R_law = some m.cls) (hts : ∀ w ∈ lw_tbl, w.before #[Value.ref b] s = true) (hK : KI D cA s) (hcl : Cond.classLink R_law x (RX a) ∈ lw_tbl) (ha : a < 8) (hlay : lay.getD n (999, 0) = (a, NX a)) (hfr : fr f μ n) (hN : s.heap.size + cells = s.heap.size + n)
    (hcells : cells + 1 ≤ room_1.cells) (hslots : slots + NX a ≤ room_1.slots) (hd : decode code pc = .ok (.new x, 3)) (hP : va_P D vwCl (wl s.heap.size cA (n, f) μ) H) (hS : va_S (AA s.heap.size) s.heap H locs)
    (kk : ∀ H1 : Heap, va_P D vwCl (wl s.heap.size cA (n + 1, f) μ) H1 → va_S (AA s.heap.size) s.heap H1 locs → W p l e room_1 s m #[Value.ref b] below meth c H1 locs (cells + 1) (slots + NX a) Qf (F0 m (pc + 3) lsA (.ref (s.heap.size + n) :: rest))) :
    W p l e room_1 s m #[Value.ref b] below meth c H locs cells slots Qf (F0 m pc lsA rest) := by
  obtain ⟨hc, hu, ⟨ty, hty⟩, -⟩ := cls_ok a ha
  refine va_new (ci := a) (fs := (fks a).map d0) (C := RX a) (T := TX a) (N := NX a) hx hb hts (fun w hw => gW_in _ (hu w hw)) ty hty hown (hts _ hcl) (hts _ (gX_in _ (inst_in a ha))) (hts _ (gW_in _ (ini_in ha))) hK.1.1 hP wl_D hS (AA_ge (Nat.le_refl _)) hc (fun j hj => ?_) hcells hslots hd (fun q H1 hP1 hD1 hS1 => ?_)
  · have := d0_ok a ha j hj
    rw [hty j hj] at this
    exact Option.some.inj this
  · refine W_sz (fun hz => ?_)
    have hq := new_at hD1 hP1 (by omega)
    subst hq
    have e : ent s.heap.size cA (n, f) μ n = .inr (a, (fks a).map d0) := by
      unfold ent entV
      rw [hlay]
      dsimp only
      rw [if_neg (by omega), if_neg (by omega), if_neg (by omega), if_neg (by omega), if_neg (by omega), if_neg (by omega), fld_0 hfr (Nat.le_refl n)]
    exact kk H1 (by rw [wl_push, e]; exact hP1) hS1
theorem Rel_0 {u : Mem} (h : NSI u) : Rel (muMo 510 u) := by
  obtain ⟨h1, h2, h3⟩ := h
  have e511 : muMo 510 u 511 = z00 := by
    funext j
    unfold muMo z00
    simp only [ms_at, Nat.reduceAdd, true_and]
    rw [h3 511 (by omega) j]
    by_cases j6 : j = 6
    · subst j6; rfl
    · by_cases j5 : j = 5
      · subst j5; rfl
      · by_cases j1 : j = 1
        · subst j1; rfl
        · by_cases j0 : j = 0
          · subst j0; rfl
          · rw [if_neg j6, if_neg j5, if_neg j1, if_neg j0, if_neg j0, if_neg j1, if_neg j5, if_neg j6]
  have eo : ∀ k, k ≠ 511 → muMo 510 u k = u k := fun k hk => by
    funext j
    unfold muMo
    simp only [ms_at]
    rw [if_neg (by omega), if_neg (by omega), if_neg (by omega), if_neg (by omega)]
  refine ⟨a00, ?_⟩
  rw [e511]
  refine ⟨IZ_00, fun k hk => ?_, RC_f (by decide) (fun k _ _ => eo k (by omega)) h1, CRr_f (fun k hk => eo k (by omega)) h2, ⟨by rw [eo 510 (by omega), h3 510 (by omega)]; rfl, Nat.zero_le 6, fun j k hj => absurd hj (Nat.not_lt_zero j)⟩, fun i hi => ⟨by rw [eo 514 (by omega), h3 514 (by omega)]; rfl, fun hv => absurd (show (0 : Int) = 1 from hv) (by omega)⟩, by rw [eo 510 (by omega), h3 510 (by omega)]; rfl, fun i hi => absurd hi (Nat.not_lt_zero i)⟩
  unfold z00 inR
  split
  · omega
  · split
    · omega
    · split
      · omega
      · split <;> omega
set_option maxHeartbeats 4000000 in
theorem law_loop {p : Program} {l : Launch} {e : Env} {s : State} {m : MethodId} {below : List Frame} {meth : Method} {c : Code} {D : va_G} {cA : Nat → ClassId} {b L : Nat} {y : Nat → Int} (F : LF p s m c meth D cA b L y) (hr : meth.sig.returnType = ret) (hy : ∀ j, inR (y j)) (hL : L ≤ 2048) :
    ∀ n i : Nat, L ≤ i + 4 * n → i ≤ L + 4 → ∀ (H : Heap) (locs : List Loc) (ls : Array Slot) (μ : Mem), Rel μ → lv_has ls 4 (lvL s.heap.size b i) → va_P D vwCl (wl s.heap.size cA σ1 μ) H → va_S (AA s.heap.size) s.heap H locs → W p l e room_1 s m #[Value.ref b] below meth c H locs 518 18226 (lw_Z below #[Value.ref b] s) (F0 m 18 ls []) := by
  obtain ⟨hx, hb, hml, hown, hts, hX, hbl, hK, hlocks⟩ := id F
  have top : ∀ i : Nat, i ≤ L + 4 → ∀ (H : Heap) (locs : List Loc) (ls : Array Slot) (μ : Mem), lv_has ls 4 (lvL s.heap.size b i) → va_P D vwCl (wl s.heap.size cA σ1 μ) H → va_S (AA s.heap.size) s.heap H locs →
      (i + 3 < L → W p l e room_1 s m #[Value.ref b] below meth c H locs 518 18226 (lw_Z below #[Value.ref b] s) (F0 m 26 ls [])) → W p l e room_1 s m #[Value.ref b] below meth c H locs 518 18226 (lw_Z below #[Value.ref b] s) (F0 m 18 ls []) := by
    intro i hi H locs ls μ hl hP hS body
    refine lv_iload_n hx hb dL_18 rfl (lv_at hl 0 rfl) ?_
    refine lv_aload_n hx hb dL_19 rfl (lv_at hl 3 rfl) ?_
    refine va_slen hx hb hX hbl (bA F) hS dL_20 ?_
    refine lv_iconst (v := nI 4) hx hb dL_21 rfl ?_
    refine lv_isub hx hb dL_22 ?_
    have e1 : (Int32.ofNat L - nI 4).toInt = (L : Int) - 4 := pk_sub_toInt (a := L) (b := 4) (by omega) (by omega)
    have e2 : (nI i).toInt = (i : Int) := nI_toInt (by omega)
    refine lv_icmp_gt (tgt := 1133) hx hb dL_23 (by decide) (fun cc => ?_) (fun cc => ?_)
    · refine lv_iconst (v := 1) hx hb dL_1133 rfl ?_
      refine va_forget hS.2.2 ?_
      refine W.widen (k := 600000) (n := 7302250) (Nat.le_of_ble_eq_true rfl) (Nat.le_of_ble_eq_true rfl) ?_
      exact lw_ret hx hb hr hlocks dL_1134
    · refine body ?_
      rw [Int32.lt_iff_toInt_lt, e1, e2] at cc
      omega
  intro n
  induction n with
  | zero =>
    intro i h1 h2 H locs ls μ hR hl hP hS
    exact top i h2 H locs ls μ hl hP hS (fun h => absurd h (by omega))
  | succ n ih =>
    intro i h1 h2 H locs ls μ hR hl hP hS
    refine top i h2 H locs ls μ hl hP hS (fun hi => ?_)
    have fin : ∀ (H1 : Heap) (locs1 : List Loc) (μ1 : Mem), Rel μ1 → va_P D vwCl (wl s.heap.size cA σ1 μ1) H1 → va_S (AA s.heap.size) s.heap H1 locs1 → W p l e room_1 s m #[Value.ref b] below meth c H1 locs1 518 18226 (lw_Z below #[Value.ref b] s) (F0 m 1127 ls []) := fun H1 locs1 μ1 hR1 hP1 hS1 => by
      refine lv_iinc (v := nI (i + 4)) (lv' := lvL s.heap.size b (i + 4)) hx hb dL_1127 hl (k := 0) rfl (nI_add i 4) (by decide) rfl (fun ls hl => ?_)
      refine lv_goto (tgt := 18) hx hb dL_1130 (by decide) ?_
      exact ih (i + 4) (by omega) (by omega) H1 locs1 ls μ1 hR1 hl hP1 hS1
    refine lv_aload_n hx hb dL_26 rfl (lv_at hl 3 rfl) ?_
    refine lv_iload_n hx hb dL_27 rfl (lv_at hl 0 rfl) ?_
    refine va_sld hx hb hX hbl (bA F) hS (vp_in_nI (show i < L by omega) (by omega)) dL_28 ?_
    refine lv_bipush (v := 31) hx hb dL_29 rfl ?_
    refine lv_iand hx hb dL_31 ?_
    refine lv_topi (fun x ex => ?_)
    obtain ⟨j, hj, ej⟩ := pk_andE (Int32.ofInt (y (nI i).toNatClampNeg)) (m := 31) 5 (by decide)
    have ex : x = nI j := ex.trans ej
    subst ex
    have hj : j < 32 := hj
    rcases (show j = 0 ∨ j = 1 ∨ j = 2 ∨ j = 3 ∨ j = 4 ∨ j = 5 ∨ j = 6 ∨ j = 7 ∨ j = 8 ∨ j = 9 ∨ j = 10 ∨ j = 11 ∨ j = 12 ∨ j = 13 ∨ j = 14 ∨ j = 15 ∨ j = 16 ∨ j = 17 ∨ j = 18 ∨ j = 19 ∨ j = 20 ∨ j = 21 ∨ j = 22 ∨ j = 23 ∨ j = 24 ∨ j = 25 ∨ j = 26 ∨ j = 27 ∨ j = 28 ∨ j = 29 ∨ j = 30 ∨ j = 31 by omega) with rfl | rfl | rfl | rfl | rfl | rfl | rfl | rfl | rfl | rfl | rfl | rfl | rfl | rfl | rfl | rfl | rfl | rfl | rfl | rfl | rfl | rfl | rfl | rfl | rfl | rfl | rfl | rfl | rfl | rfl | rfl | rfl
    · exact lv_tableIn hx hb dL_32 (by decide) (by decide) (off := 140) rfl (tgt := 172) (by decide) (lc_0 F hy hR hP hS hl hi hL (by decide) fin)
    · exact lv_tableIn hx hb dL_32 (by decide) (by decide) (off := 173) rfl (tgt := 205) (by decide) (lc_1 F hy hR hP hS hl hi hL (by decide) fin)
    · exact lv_tableIn hx hb dL_32 (by decide) (by decide) (off := 196) rfl (tgt := 228) (by decide) (lc_2 F hy hR hP hS hl hi hL (by decide) fin)
    · exact lv_tableIn hx hb dL_32 (by decide) (by decide) (off := 229) rfl (tgt := 261) (by decide) (lc_3 F hy hR hP hS hl hi hL (by decide) fin)
    · exact lv_tableIn hx hb dL_32 (by decide) (by decide) (off := 278) rfl (tgt := 310) (by decide) (lc_4 F hy hR hP hS hl hi hL (by decide) fin)
    · exact lv_tableIn hx hb dL_32 (by decide) (by decide) (off := 311) rfl (tgt := 343) (by decide) (lc_5 F hy hR hP hS hl hi hL (by decide) fin)
    · exact lv_tableIn hx hb dL_32 (by decide) (by decide) (off := 344) rfl (tgt := 376) (by decide) (lc_6 F hy hR hP hS hl hi hL (by decide) fin)
    · exact lv_tableIn hx hb dL_32 (by decide) (by decide) (off := 367) rfl (tgt := 399) (by decide) (lc_7 F hy hR hP hS hl hi hL (by decide) fin)
    · exact lv_tableIn hx hb dL_32 (by decide) (by decide) (off := 380) rfl (tgt := 412) (by decide) (lc_8 F hy hR hP hS hl hi hL (by decide) fin)
    · exact lv_tableIn hx hb dL_32 (by decide) (by decide) (off := 413) rfl (tgt := 445) (by decide) (lc_9 F hy hR hP hS hl hi hL (by decide) fin)
    · exact lv_tableIn hx hb dL_32 (by decide) (by decide) (off := 462) rfl (tgt := 494) (by decide) (lc_10 F hy hR hP hS hl hi hL (by decide) fin)
    · exact lv_tableIn hx hb dL_32 (by decide) (by decide) (off := 495) rfl (tgt := 527) (by decide) (lc_11 F hy hR hP hS hl hi hL (by decide) fin)
    · exact lv_tableIn hx hb dL_32 (by decide) (by decide) (off := 518) rfl (tgt := 550) (by decide) (lc_12 F hy hR hP hS hl hi hL (by decide) fin)
    · exact lv_tableIn hx hb dL_32 (by decide) (by decide) (off := 551) rfl (tgt := 583) (by decide) (lc_13 F hy hR hP hS hl hi hL (by decide) fin)
    · exact lv_tableIn hx hb dL_32 (by decide) (by decide) (off := 584) rfl (tgt := 616) (by decide) (lc_14 F hy hR hP hS hl hi hL (by decide) fin)
    · exact lv_tableIn hx hb dL_32 (by decide) (by decide) (off := 617) rfl (tgt := 649) (by decide) (lc_15 F hy hR hP hS hl hi hL (by decide) fin)
    · exact lv_tableIn hx hb dL_32 (by decide) (by decide) (off := 640) rfl (tgt := 672) (by decide) (lc_16 F hy hR hP hS hl hi hL (by decide) fin)
    · exact lv_tableIn hx hb dL_32 (by decide) (by decide) (off := 673) rfl (tgt := 705) (by decide) (lc_17 F hy hR hP hS hl hi hL (by decide) fin)
    · exact lv_tableIn hx hb dL_32 (by decide) (by decide) (off := 706) rfl (tgt := 738) (by decide) (lc_18 F hy hR hP hS hl hi hL (by decide) fin)
    · exact lv_tableIn hx hb dL_32 (by decide) (by decide) (off := 749) rfl (tgt := 781) (by decide) (lc_19 F hy hR hP hS hl hi hL (by decide) fin)
    · exact lv_tableIn hx hb dL_32 (by decide) (by decide) (off := 782) rfl (tgt := 814) (by decide) (lc_20 F hy hR hP hS hl hi hL (by decide) fin)
    · exact lv_tableIn hx hb dL_32 (by decide) (by decide) (off := 825) rfl (tgt := 857) (by decide) (lc_21 F hy hR hP hS hl hi hL (by decide) fin)
    · exact lv_tableIn hx hb dL_32 (by decide) (by decide) (off := 868) rfl (tgt := 900) (by decide) (lc_22 F hy hR hP hS hl hi hL (by decide) fin)
    · exact lv_tableIn hx hb dL_32 (by decide) (by decide) (off := 901) rfl (tgt := 933) (by decide) (lc_23 F hy hR hP hS hl hi hL (by decide) fin)
    · exact lv_tableIn hx hb dL_32 (by decide) (by decide) (off := 934) rfl (tgt := 966) (by decide) (lc_24 F hy hR hP hS hl hi hL (by decide) fin)
    · exact lv_tableIn hx hb dL_32 (by decide) (by decide) (off := 957) rfl (tgt := 989) (by decide) (lc_25 F hy hR hP hS hl hi hL (by decide) fin)
    · exact lv_tableIn hx hb dL_32 (by decide) (by decide) (off := 1010) rfl (tgt := 1042) (by decide) (lc_26 F hy hR hP hS hl hi hL (by decide) fin)
    · exact lv_tableIn hx hb dL_32 (by decide) (by decide) (off := 1023) rfl (tgt := 1055) (by decide) (lc_27 F hy hR hP hS hl hi hL (by decide) fin)
    · exact lv_tableIn hx hb dL_32 (by decide) (by decide) (off := 1036) rfl (tgt := 1068) (by decide) (lc_28 F hy hR hP hS hl hi hL (by decide) fin)
    · exact lv_tableIn hx hb dL_32 (by decide) (by decide) (off := 1049) rfl (tgt := 1081) (by decide) (lc_29 F hy hR hP hS hl hi hL (by decide) fin)
    · exact lv_tableIn hx hb dL_32 (by decide) (by decide) (off := 1072) rfl (tgt := 1104) (by decide) (lc_30 F hy hR hP hS hl hi hL (by decide) fin)
    · exact lv_tableOut hx hb dL_32 (Or.inr (by decide)) (tgt := 1127) (by decide) (fin H locs μ hR hP hS)
set_option maxHeartbeats 4000000 in
set_option maxRecDepth 100000 in
theorem whole_start {p : Program} {e : Env} {s : State} {m : MethodId} {below : List Frame} {meth : Method} {c : Code} (l : Launch) (hflags : l.flags = flags0) {b L : Nat} {xs : Nat → Int32} (hL : L ≤ 2048) (C0 : lw_At p s m meth c b L xs) : W p l e room_1 s m #[Value.ref b] below meth c s.heap [] 0 0 (lw_Z below #[Value.ref b] s) (entryFrame m ([Value.ref b] : List Value).toArray 4) := by
  obtain ⟨hx, hb, hr, hml, hown, hts, hX, hbl, hlocks, hgv⟩ := id C0
  -- the classes, the classes of arrays
  have hcl : ∀ a, a < 8 → ∃ q : ClassId × (Nat → Nat), u_Kn s (RX a) (TX a) (NX a) q.1 q.2 := fun a ha => by
    obtain ⟨c1, i1, h⟩ := u_known (C := RX a) (T := TX a) (N := NX a) (n := NX a) hts (fun w hw => gW_in _ ((cls_ok a ha).2.1 w hw)) (hts _ (gX_in _ (inst_in a ha)))
    exact ⟨(c1, i1), h⟩
  obtain ⟨D, hD⟩ : ∃ D : va_G, ∀ a, a < 8 → u_Kn s (RX a) (TX a) (NX a) (D.1 a) (D.2 a) :=
    ⟨(fun a => if h : a < 8 then (hcl a h).choose.1 else (hcl 0 (by omega)).choose.1, fun a => if h : a < 8 then (hcl a h).choose.2 else fun _ => 0), fun a ha => by
      simp only [dif_pos ha]
      exact (hcl a ha).choose_spec⟩
  obtain ⟨c0, k0⟩ := arrP (ty := .int) (hts _ (gX_in _ (by decide +kernel))) (fun c h => h)
  obtain ⟨c1, k1⟩ := arrP (ty := .char) (hts _ (gX_in _ (by decide +kernel))) (fun c h => h)
  obtain ⟨c2, k2⟩ := arrP (ty := .boolean) (hts _ (gX_in _ (by decide +kernel))) (fun c h => h)
  obtain ⟨c3, k3⟩ := arrO (hts _ ao1_in)
  obtain ⟨c4, k4⟩ := arrO (hts _ ao5_in)
  obtain ⟨cA, ec0, ec1, ec2, ec3, ec4⟩ : ∃ cA : Nat → ClassId, cA 0 = c0 ∧ cA 1 = c1 ∧ cA 2 = c2 ∧ cA 3 = c3 ∧ cA 4 = c4 :=
    ⟨fun i => match i with | 0 => c0 | 1 => c1 | 2 => c2 | 3 => c3 | _ => c4, rfl, rfl, rfl, rfl, rfl⟩
  have hVK : va_K D vwCl (tysA cA) s := by
    refine ⟨fun i q hq => ?_, fun k q hq => ?_⟩
    · have hi : i < 8 := (List.getElem?_eq_some_iff.mp hq).1
      have e := Option.some.inj (hq.symm.trans (cls_ok i hi).1)
      rw [e]
      exact hD i hi
    · unfold tysA at hq
      match k, hq with
      | 0, hq => cases hq; rw [ec0]; exact k0
      | 1, hq => cases hq; rw [ec1]; exact k1
      | 2, hq => cases hq; rw [ec2]; exact k2
      | 3, hq => cases hq; rw [ec3]; exact k3
      | 4, hq => cases hq; rw [ec4]; exact k4
      | k + 5, hq => simp at hq
  have hWK : WdK D cA s := ⟨hVK, fun w hw => va_Nw.of (nest_tab w hw) (hts _ (nestW_in w hw))⟩
  have hK : KI D cA s := ⟨hWK, fun w hw => va_Nw.of (nestI_tab w hw) (hts _ (nestI_in w hw)), va_AO.of (hts _ ao1_in), va_AO.of (hts _ ao5_in)⟩
  have exs : (fun j => Int32.ofInt ((xs j).toInt)) = xs := by funext j; rw [Int32.ofInt_toInt]
  have hX2 : va_X b L (fun j => Int32.ofInt ((xs j).toInt)) s s.heap := by rw [exs]; exact hX
  have hy : ∀ j, inR ((xs j).toInt) := fun j => ⟨Int32.le_toInt _, by have := Int32.toInt_lt (xs j); omega⟩
  have F : LF p s m c meth D cA b L (fun j => (xs j).toInt) := ⟨hx, hb, hml, hown, hts, hX2, hbl, hWK, hlocks⟩
  -- the start
  have hS : va_S (AA s.heap.size) s.heap s.heap [] := va_S.rf
  have hP : va_P D vwCl (wl s.heap.size cA (0, f0) μ0) s.heap := fun k q h => by simp [wl] at h
  have hl := lv_entry ([.ref b]) (n := 4) (Nat.le_of_ble_eq_true rfl)
  rw [lg_entry_eq]
  generalize (lg_sl ([.ref b]) ++ List.replicate (4 - (lg_sl ([.ref b])).length) Slot.unset).toArray = ls at hl ⊢
  have hl : lv_has ls 4 [(0, .ref b)] := hl
  refine j_new (n := 0) (a := 6) (f := f0) (μ := μ0) hx hb hown hts hK lwl_7 (by decide) (by decide +kernel) (fun _ _ => ⟨fun _ => rfl, fun _ => rfl⟩) rfl (Nat.le_of_ble_eq_true rfl) (Nat.le_of_ble_eq_true rfl) dL_0 hP hS (fun H1 hP hS => ?_)
  refine lv_dup hx hb dL_3 rfl ?_
  refine W_sz (fun hz => ?_)
  have hz2 : H1.size = s.heap.size + 1 := by
    have h1 := (hP 0 _ (wl_at (σ := (0 + 1, f0)) (show 0 < 0 + 1 by omega))).lt
    have h1 : s.heap.size + 0 < H1.size := h1
    omega
  refine va_callv (va_runI (As := []) (rest := [.ref (s.heap.size + 0)]) (maxL := lM 48) (bytes := bM 48) (n := 0) ⟨hx, hb, hml, hown, hts⟩ (c_NS0 l D s.heap.size cA rfl)
      (cwI 0 hts (wsI_law (by decide)) (by unfold wsI; rfl) rfl rfl (hts _ (gW_in _ (ini_in (c := 6) (by decide)))) (hts _ lwl_9) (hts _ (gX_in _ (by decide +kernel))) (by decide +kernel) ⟨by decide +kernel, by decide +kernel, by decide +kernel⟩ ⟨Nat.le_of_ble_eq_true rfl, Nat.le_of_ble_eq_true rfl⟩)
      ⟨fun a U g mk h => ⟨h.1, h.2.1, h.2.2.1, KI.moved (u := U) (U := U.calling g mk a) rfl h.2.2.2⟩, fun U hU hW => ⟨rfl, by rw [hU]; exact hz2, by unfold WdH; rw [hU]; exact hP, hK.warm hW⟩⟩ rfl rfl hl.1 rfl (lv_room (Nat.le_of_ble_eq_true rfl)) dL_4 ⟨Nat.le_of_ble_eq_true rfl, Nat.le_of_ble_eq_true rfl⟩) hS (fun q _ h => h) (fun q h => h) (fun u t H2 locs2 ht hvm hw hB hz1 hk1 hS => ?_)
  have hP : va_P D vwCl (wl s.heap.size cA (510, setT f0 0 (0 + 510)) u) H2 := by rw [← ht]; exact hB.1
  refine lv_astore_n (lv' := [(1, .ref (s.heap.size + 0)), (0, .ref b)]) hx hb dL_7 rfl hl (by decide) rfl (fun ls hl => ?_)
  have hfr : fr (setT f0 0 (0 + 510)) u 510 := fun k hk => ⟨fun j => by unfold setT; rw [if_neg (by omega)]; rfl, fun j => hw.2.2 k hk j⟩
  refine j_new (n := 510) (a := 7) (f := setT f0 0 (0 + 510)) (μ := u) hx hb hown hts hK lwl_10 (by decide) (by decide +kernel) hfr rfl (Nat.le_of_ble_eq_true rfl) (Nat.le_of_ble_eq_true rfl) dL_8 hP hS (fun H3 hP hS => ?_)
  refine lv_dup hx hb dL_11 rfl ?_
  refine W_sz (fun hz => ?_)
  have hz3 : H3.size = s.heap.size + 511 := by
    have h1 := (hP 510 _ (wl_at (σ := (510 + 1, setT f0 0 (0 + 510))) (show 510 < 510 + 1 by omega))).lt
    have h1 : s.heap.size + 510 < H3.size := h1
    have h2 : H3.size ≤ s.heap.size + 511 := hz
    omega
  refine va_callv (va_runI (As := []) (rest := [.ref (s.heap.size + 510)]) (maxL := lM 93) (bytes := bM 93) (n := 0) ⟨hx, hb, hml, hown, hts⟩ (c_Mo l D s.heap.size cA hfr (layAt_sub lay0 510 (by decide +kernel)))
      (cwI 0 hts (wsI_law (by decide)) (by unfold wsI; rfl) rfl rfl (hts _ (gW_in _ (ini_in (c := 7) (by decide)))) (hts _ lwl_12) (hts _ (gX_in _ (by decide +kernel))) (by decide +kernel) ⟨by decide +kernel, by decide +kernel, by decide +kernel⟩ ⟨Nat.le_of_ble_eq_true rfl, Nat.le_of_ble_eq_true rfl⟩)
      ⟨fun a U g mk h => ⟨h.1, h.2.1, h.2.2.1, KI.moved (u := U) (U := U.calling g mk a) rfl h.2.2.2⟩, fun U hU hW => ⟨rfl, by rw [hU]; exact hz3, by unfold WdH; rw [hU]; exact hP, hK.warm hW⟩⟩ rfl rfl hl.1 rfl (lv_room (Nat.le_of_ble_eq_true rfl)) dL_12 ⟨Nat.le_of_ble_eq_true rfl, Nat.le_of_ble_eq_true rfl⟩) hS (fun q _ h => h) (fun q h => h) (fun v t H4 locs4 ht4 hvm4 _ hB4 hz4 hk4 hS => ?_)
  have hP : va_P D vwCl (wl s.heap.size cA (518, setT (setT f0 0 (0 + 510)) 510 (510 + 8)) (muMo 510 u)) H4 := by rw [← ht4]; exact hB4.1
  have hP : va_P D vwCl (wl s.heap.size cA σ1 (muMo 510 u)) H4 := P_c (f' := fun _ _ => true) (fun i hi j _ => by
    unfold setT
    by_cases h : 510 ≤ i ∧ i < 510 + 8
    · rw [if_pos h]
    · rw [if_neg h, if_pos (by omega)]) hP
  refine lv_astore_n (lv' := [(2, .ref (s.heap.size + 510)), (1, .ref (s.heap.size + 0)), (0, .ref b)]) hx hb dL_15 rfl hl (by decide) rfl (fun ls hl => ?_)
  refine lv_iconst (v := 0) hx hb dL_16 rfl ?_
  refine lv_istore_n (lv' := lvL s.heap.size b 0) hx hb dL_17 rfl hl (by decide) rfl (fun ls hl => ?_)
  exact W.cs (cells' := 518) (slots' := 18226) rfl rfl (law_loop F hr hy hL L 0 (by omega) (by omega) H4 locs4 ls (muMo 510 u) (Rel_0 hw) hl hP hS)
