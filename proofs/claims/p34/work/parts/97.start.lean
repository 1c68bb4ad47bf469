/-! THE CLAIM OUT OF ONE WALK OF THE LAW'S BODY. Your part is whole_start (and what it stands on); all else here is the same for every law, but numbers. -/
def R_law : String := "NoticeShiftsLaw"
def lw_P (b : Addr) (xs : List Int32) (args : Array Value) (s : State) : Prop := args = #[.ref b] ∧ s.IntsAt b xs ∧ xs.length ≤ 260 ∧ (Jvm.Cond.and given_1 narrow_1).before args s = true
def lw_Q (_ : Array Value) (s : State) (o : Outcome) (t : State) : Prop := o = .returned (some (.int 1)) ∧ Framed s o t [] 600000 7302249
def lw_Z (below : List Frame) (a : Array Value) (s : State) : State → Prop := fun t => ∃ o, t.status = .running ∧ Ended t below o ∧ lw_Q a s o t
/-- the law's own end, with 1 on the stack, nothing written that was there before, its room as the claim has it -/
theorem lw_ret {p : Program} {l : Launch} {e : Env} {s : State} {m : MethodId} {below : List Frame} {meth : Method} {c : Code} {b : Nat} (hx : p.tables.exec = Jvm.exec) (hb : c.code = code) (hr : meth.sig.returnType = ret) (hlocks : meth.locks = false) {pc : Nat} {H : Heap} {ls : Array Slot} (hdg : decode code pc = .ok (.ireturn, 1)) : W p l e room_1 s m #[Value.ref b] below meth c H [] 600000 7302249 (lw_Z below #[Value.ref b] s) (F0 m pc ls [.int 1]) := by
  intro T hT X
  obtain ⟨fs, hret, hrun, hended, hW, hframe⟩ := X.leave (v := some (.int 1)) (hlocks := hlocks) (fun h => by rw [hr] at h; cases h)
  have hmeth' : T.vm.method? m = some meth := X.method'
  refine ⟨T.setFrames fs, ?_, .returned (some (.int 1)), hrun, hended, rfl, ⟨_, rfl⟩, hW, hframe⟩
  jvm_step X.here [X.here.top, hx, hb, hdg, hmeth', hr, ret, narrow_b1]
  (try refine ⟨rfl, ?_⟩); (try refine ⟨rfl, ?_⟩)
  first | (intro acts; rw [hret _ acts rfl rfl rfl]) | rw [hret _ _ rfl rfl rfl]
  exact Steps.refl _
/-- what holds at the law's entry: the machine, the code, the tables' words (any of lw_tbl by 'hts w (by decide +kernel)'), the script of L ints xs at the cell b, what the Statement gives of the start (any of its parts by flat_of_before) -/
def lw_At (p : Program) (s : State) (m : MethodId) (meth : Method) (c : Code) (b L : Nat) (xs : Nat → Int32) : Prop :=
  p.tables.exec = Jvm.exec ∧ c.code = code ∧ meth.sig.returnType = ret ∧ c.maxLocals = 13 ∧ s.vm.findClass R_law = some m.cls ∧ (∀ w ∈ lw_tbl, w.before #[Value.ref b] s = true) ∧ va_X b L xs s s.heap ∧ b < s.heap.size ∧ meth.locks = false ∧ (Jvm.Cond.and given_1 narrow_1).before #[Value.ref b] s = true
set_option maxRecDepth 100000 in
theorem lwl_17 : Cond.classLink R_law 17 RX6 ∈ lw_tbl := List.mem_of_getElem? (i := 17) rfl
set_option maxRecDepth 100000 in
theorem lwl_91 : Cond.methodLink R_law 91 (yM 39) ∈ lw_tbl := List.mem_of_getElem? (i := 19) rfl
theorem dL_0 : decode code 0 = .ok (.new 17, 3) := by decide +kernel
theorem dL_3 : decode code 3 = .ok (.dup, 1) := by decide +kernel
theorem dL_4 : decode code 4 = .ok (.invokespecial 91, 3) := by decide +kernel
theorem dL_7 : decode code 7 = .ok (.astore_n 1, 1) := by decide +kernel
/-! THE LAW: its start -/
theorem inst_in : ∀ a, a < 7 → Cond.instantiable (RX a) (NX a) ∈ gX := by decide +kernel
theorem nestW_in : ∀ w ∈ nestW, w ∈ lw_tbl := by
  intro w hw
  rw [nest_pl] at hw
  obtain ⟨i, -, hi⟩ := List.mem_filterMap.mp hw
  exact List.mem_of_getElem? hi
theorem nestI_in : ∀ w ∈ nestIw, w ∈ lw_tbl := by
  intro w hw
  rw [nestI_pl] at hw
  obtain ⟨i, -, hi⟩ := List.mem_filterMap.mp hw
  exact List.mem_of_getElem? hi
theorem arrP {args : Array Value} {s : State} {ty : FieldType} (h : (Cond.arrayClass ty).before args s = true) (hp : ∀ c, s.vm.findClass ("[" ++ ty.toString) = some c → va_RA s c ty) : ∃ c : ClassId, ArrOfT s c ty ∧ va_RA s c ty := by
  simp only [Cond.before, Cond.holds, Cond.value, beq_iff_eq, Option.map_eq_some_iff, Option.bind_eq_some_iff] at h
  obtain ⟨k, ⟨c, h1, h2⟩, h3⟩ := h
  refine ⟨c, fun n z => ?_, hp c h1⟩
  cases hk : k.kind with
  | array comp t =>
    rw [hk] at h3
    have h3 : t = ty := of_decide_eq_true h3
    subst h3
    exact ⟨fun k h => (by cases h), k, h2, comp, hk⟩
  | _ => rw [hk] at h3; exact absurd (show false = true from h3) Bool.false_ne_true
theorem arrO {args : Array Value} {s : State} {C : String} (h : (Cond.arrayOver (.object C)).before args s = true) : ∃ c : ClassId, ArrOfT s c (.object C) ∧ va_RA s c (.object C) := by
  obtain ⟨comp, c, k, h1, h2, h3, h4, h5⟩ := Cond.arrayOver_spec h
  exact ⟨c, fun n z => ⟨fun k h => (by cases h), k, h3, comp, h4⟩, k, comp, h3, h4, h1, h5⟩
theorem j_new {p : Program} {l : Launch} {e : Env} {s : State} {m : MethodId} {below : List Frame} {meth : Method} {c : Code} {cells slots : Nat} {Qf : State → Prop} {D : va_G} {cA : Nat → ClassId} {b n x a pc : Nat} {f : Nat → Nat → Bool} {μ : Mem} {H : Heap} {locs : List Loc} {lsA : Array Slot} {rest : List Value}
    (hx : p.tables.exec = Jvm.exec) (hb : c.code = code) (hown : s.vm.findClass R_law = some m.cls) (hts : ∀ w ∈ lw_tbl, w.before #[Value.ref b] s = true) (hK : KI D cA s) (hcl : Cond.classLink R_law x (RX a) ∈ lw_tbl) (ha : a < 7) (hlay : lay.getD n (999, 0) = (a, NX a)) (hfr : fr f μ n) (hN : s.heap.size + cells = s.heap.size + n)
    (hcells : cells + 1 ≤ room_1.cells) (hslots : slots + NX a ≤ room_1.slots) (hd : decode code pc = .ok (.new x, 3)) (hP : va_P D vwCl (wl s.heap.size cA (n, f) μ) H) (hS : va_S (AA s.heap.size) s.heap H locs)
    (kk : ∀ H1 : Heap, va_P D vwCl (wl s.heap.size cA (n + 1, f) μ) H1 → va_S (AA s.heap.size) s.heap H1 locs → W p l e room_1 s m #[Value.ref b] below meth c H1 locs (cells + 1) (slots + NX a) Qf (F0 m (pc + 3) lsA (.ref (s.heap.size + n) :: rest))) :
    W p l e room_1 s m #[Value.ref b] below meth c H locs cells slots Qf (F0 m pc lsA rest) := by
  obtain ⟨hc, hu, ⟨ty, hty⟩, -⟩ := cls_ok a ha
  refine va_new (ci := a) (fs := (fks a).map d0) (C := RX a) (T := TX a) (N := NX a) hx hb hts (fun w hw => gW_in _ (hu w hw)) ty hty hown (hts _ hcl) (hts _ (gX_in _ (inst_in a ha))) (hts _ (gW_in _ (ini_in ha))) hK.1.1 hP (wl_D (fun q h => h.1)) hS (AA_ge (Nat.le_refl _)) hc (fun j hj => ?_) hcells hslots hd (fun q H1 hP1 hD1 hS1 => ?_)
  · have := d0_ok a ha j hj
    rw [hty j hj] at this
    exact Option.some.inj this
  · refine W_sz (fun hz => ?_)
    have hq := new_at hD1 hP1 (by omega)
    subst hq
    have e : ent s.heap.size cA (n, f) μ n = .inr (a, (fks a).map d0) := by
      unfold ent entV
      rw [hlay]
      dsimp only
      rw [if_neg (by omega), if_neg (by omega), if_neg (by omega), if_neg (by omega), if_neg (by omega), if_neg (by omega), fld_0 hfr (Nat.le_refl n)]
    exact kk H1 (by rw [wl_push, e]; exact hP1) hS1
theorem MZ_00 : MZ z00 := by
  refine ⟨fun i hi => ?_, fun i j hi hj _ => ?_⟩
  · have hi : (i : Int) < 1 := hi
    obtain rfl : i = 0 := by omega
    show (0 : Int) < 1
    decide
  · have hi : (i : Int) < 1 := hi
    have hj : (j : Int) < 1 := hj
    omega
set_option maxHeartbeats 4000000 in
set_option maxRecDepth 100000 in
theorem whole_start {p : Program} {e : Env} {s : State} {m : MethodId} {below : List Frame} {meth : Method} {c : Code} (l : Launch) (hflags : l.flags = flags0) {b L : Nat} {xs : Nat → Int32} (hL : L ≤ 260) (C0 : lw_At p s m meth c b L xs) : W p l e room_1 s m #[Value.ref b] below meth c s.heap [] 0 0 (lw_Z below #[Value.ref b] s) (entryFrame m ([Value.ref b] : List Value).toArray 13) := by
  obtain ⟨hx, hb, hr, hml, hown, hts, hX, hbl, hlocks, hgv⟩ := id C0
  -- the classes, the classes of arrays
  have hcl : ∀ a, a < 7 → ∃ q : ClassId × (Nat → Nat), u_Kn s (RX a) (TX a) (NX a) q.1 q.2 := fun a ha => by
    obtain ⟨c1, i1, h⟩ := u_known (C := RX a) (T := TX a) (N := NX a) (n := NX a) hts (fun w hw => gW_in _ ((cls_ok a ha).2.1 w hw)) (hts _ (gX_in _ (inst_in a ha)))
    exact ⟨(c1, i1), h⟩
  obtain ⟨D, hD⟩ : ∃ D : va_G, ∀ a, a < 7 → u_Kn s (RX a) (TX a) (NX a) (D.1 a) (D.2 a) :=
    ⟨(fun a => if h : a < 7 then (hcl a h).choose.1 else (hcl 0 (by omega)).choose.1, fun a => if h : a < 7 then (hcl a h).choose.2 else fun _ => 0), fun a ha => by
      simp only [dif_pos ha]
      exact (hcl a ha).choose_spec⟩
  obtain ⟨c0, k0⟩ := arrP (ty := .int) (hts _ (gX_in _ (by decide +kernel))) (fun c h => h)
  obtain ⟨c1, k1⟩ := arrP (ty := .char) (hts _ (gX_in _ (by decide +kernel))) (fun c h => h)
  obtain ⟨c2, k2⟩ := arrP (ty := .boolean) (hts _ (gX_in _ (by decide +kernel))) (fun c h => h)
  obtain ⟨c3, k3⟩ := arrO (hts _ ao1_in)
  obtain ⟨c4, k4⟩ := arrO (hts _ ao5_in)
  obtain ⟨cA, ec0, ec1, ec2, ec3, ec4⟩ : ∃ cA : Nat → ClassId, cA 0 = c0 ∧ cA 1 = c1 ∧ cA 2 = c2 ∧ cA 3 = c3 ∧ cA 4 = c4 :=
    ⟨fun i => match i with | 0 => c0 | 1 => c1 | 2 => c2 | 3 => c3 | _ => c4, rfl, rfl, rfl, rfl, rfl⟩
  have hVK : va_K D vwCl (tysA cA) s := by
    refine ⟨fun i q hq => ?_, fun k q hq => ?_⟩
    · have hi : i < 7 := (List.getElem?_eq_some_iff.mp hq).1
      have e := Option.some.inj (hq.symm.trans (cls_ok i hi).1)
      rw [e]
      exact hD i hi
    · unfold tysA at hq
      match k, hq with
      | 0, hq => cases hq; rw [ec0]; exact k0
      | 1, hq => cases hq; rw [ec1]; exact k1
      | 2, hq => cases hq; rw [ec2]; exact k2
      | 3, hq => cases hq; rw [ec3]; exact k3
      | 4, hq => cases hq; rw [ec4]; exact k4
      | k + 5, hq => simp at hq
  have hWK : WdK D cA s := ⟨hVK, fun w hw => va_Nw.of (nest_tab w hw) (hts _ (nestW_in w hw))⟩
  have hK : KI D cA s := ⟨hWK, fun w hw => va_Nw.of (nestI_tab w hw) (hts _ (nestI_in w hw)), va_AO.of (hts _ ao1_in), va_AO.of (hts _ ao5_in)⟩
  -- the start
  have hS : va_S (AA s.heap.size) s.heap s.heap [] := va_S.rf
  have hP : va_P D vwCl (wl s.heap.size cA (0, f0) μ0) s.heap := fun k q h => by simp [wl] at h
  have hl := lv_entry ([.ref b]) (n := 13) (Nat.le_of_ble_eq_true rfl)
  rw [lg_entry_eq]
  generalize (lg_sl ([.ref b]) ++ List.replicate (13 - (lg_sl ([.ref b])).length) Slot.unset).toArray = ls at hl ⊢
  have hl : lv_has ls 13 [(0, .ref b)] := hl
  refine j_new (n := 0) (a := 6) (f := f0) (μ := μ0) hx hb hown hts hK lwl_17 (by decide) (by decide +kernel) (fun _ _ => ⟨fun _ => rfl, fun _ => rfl⟩) rfl (Nat.le_of_ble_eq_true rfl) (Nat.le_of_ble_eq_true rfl) dL_0 hP hS (fun H1 hP hS => ?_)
  refine lv_dup hx hb dL_3 rfl ?_
  refine W_sz (fun hz => ?_)
  have hz2 : H1.size = s.heap.size + 1 := by
    have h1 := (hP 0 _ (wl_at (σ := (0 + 1, f0)) (show 0 < 0 + 1 by omega))).lt
    have h1 : s.heap.size + 0 < H1.size := h1
    omega
  refine va_callv (va_runI (As := []) (rest := [.ref (s.heap.size + 0)]) (maxL := lM 39) (bytes := bM 39) (n := 0) ⟨hx, hb, hml, hown, hts⟩ (c_NS0 l D s.heap.size cA rfl)
      (cwI 0 hts (wsI_law (by decide)) (by unfold wsI; rfl) rfl rfl (hts _ (gW_in _ (ini_in (c := 6) (by decide)))) (hts _ lwl_91) (hts _ (gX_in _ (by decide +kernel))) (by decide +kernel) ⟨by decide +kernel, by decide +kernel, by decide +kernel⟩ ⟨Nat.le_of_ble_eq_true rfl, Nat.le_of_ble_eq_true rfl⟩)
      ⟨fun a U g mk h => ⟨h.1, h.2.1, h.2.2.1, KI.moved (u := U) (U := U.calling g mk a) rfl h.2.2.2⟩, fun U hU hW => ⟨rfl, by rw [hU]; exact hz2, by unfold WdH; rw [hU]; exact hP, hK.warm hW⟩⟩ rfl rfl hl.1 rfl (lv_room (Nat.le_of_ble_eq_true rfl)) dL_4 ⟨Nat.le_of_ble_eq_true rfl, Nat.le_of_ble_eq_true rfl⟩) hS (fun q _ h => h) (fun q h => h) (fun u t H2 locs2 ht hvm hw hB hz1 hk1 hS => ?_)
  have hP : va_P D vwCl (wl s.heap.size cA (510, setT f0 0 (0 + 510)) u) H2 := by rw [← ht]; exact hB.1
  have hP : va_P D vwCl (wl s.heap.size cA σ1 u) H2 := P_c (f' := fun _ _ => true) (fun i hi j _ => by
    unfold setT
    rw [if_pos (by omega)]) hP
  refine lv_astore_n (lv' := [(1, .ref (s.heap.size + 0)), (0, .ref b)]) hx hb dL_7 rfl hl (by decide) rfl (fun ls hl => ?_)
  refine W.cs (cells' := 510 + (0 : Nat)) (slots' := 9305 + 48 * 0) rfl rfl ?_
  -- the law's small machine
  have FX : Fx2 p s m #[Value.ref b] c room_1 D cA 13 8 3 510 9305 500 s.heap.size b L xs := ⟨hx, hb, hml, hown, fun w hw => hts w (gWL_in hw), hWK, ⟨Nat.le_of_ble_eq_true rfl, Nat.le_of_ble_eq_true rfl⟩, ⟨Nat.le_of_ble_eq_true rfl, Nat.le_of_ble_eq_true rfl⟩, hX, hbl, Nat.le_refl _, hL⟩
  have hret : Rets2 p l e room_1 s m #[Value.ref b] below meth c (lw_Z below #[Value.ref b] s) D cA 8 510 9305 500 s.heap.size b (s.heap.size, b, fun _ => 0) (0, 0, fun _ => 0) (fun v _ => v = .inl 1) := by
    intro δ ν ad H locs lsA pc x hg hok hex hP2 hS hd hn hq
    have ex : x = 1 := by injection hq
    subst ex
    refine va_forget hS.2.2 ?_
    refine W.widen (k := 600000) (n := 7302249) (by omega) (by omega) ?_
    exact lw_ret hx hb hr hlocks hd
  have hSt : St z00 u := ⟨IZ_00, MZ_00, hw.1, a00, hw.2.1⟩
  have hwp := c_law (y := yI xs) (L := L) (d := 0) (len := fun _ => 0) (Q := fun v _ => v = .inl 1) hL hSt rfl rfl rfl rfl rfl rfl (fun _ => rfl)
  refine wp2_s (ρ0 := (s.heap.size, b, fun _ => 0)) (δ0 := (0, 0, fun _ => 0)) FX (met_ok l D s.heap.size cA σ1 6) (met2_ok l D cA hL xs 3) hret (by decide) hwp (fun _ => 0) H2 locs2 ls (Nat.zero_le _) ⟨fun i hi => absurd hi (Nat.not_lt_zero i), fun i j hi => absurd hi (Nat.not_lt_zero i)⟩ ext2_r ?_ hS ⟨hl.1, hl.2.1, rfl, fun i v h => ?_⟩
  · have e : wl2 (s.heap.size, b, fun _ => 0) cA (0, 0, fun _ => 0) u = wl s.heap.size cA σ1 u := List.append_nil _
    rw [e]
    exact hP
  · match i, h with
    | 0, h =>
      have e : (Sum.inr (Sum.inr 1) : MV) = v := by simpa using h
      rw [← e]; exact lv_at hl 1 rfl
    | 1, h =>
      have e : (Sum.inr (Sum.inr 0) : MV) = v := by simpa using h
      rw [← e]; exact lv_at hl 0 rfl
    | i + 2, h =>
      exfalso
      have e : ([some (.inr (.inr 1)), some (.inr (.inr 0)), none, none, none, none, none, none, none, none, none, none, none] : Ls) = some (.inr (.inr 1)) :: some (.inr (.inr 0)) :: List.replicate 11 none := rfl
      rw [e, List.getElem?_cons_succ, List.getElem?_cons_succ, List.getElem?_replicate] at h
      split at h <;> simp at h
