/-! THE SMALL MACHINE IS SOUND: what it comes to, the machine comes to -/
def rmD (d : Nat) : Room := { frames := d, cells := 0, slots := 0, locals := 36 * d }
def WdH (D : va_G) (base : Nat) (cA : Nat → ClassId) (σ : Sg) (μ : Mem) (H : Heap) : Prop := va_P D vwCl (wl base cA σ μ) H
def WdK (D : va_G) (cA : Nat → ClassId) (U : State) : Prop := va_K D vwCl (tysA cA) U ∧ ∀ w ∈ nestW, va_Nw w U
def Wd (D : va_G) (base : Nat) (cA : Nat → ClassId) (σ : Sg) (μ : Mem) (U : State) : Prop := WdH D base cA σ μ U.heap ∧ WdK D cA U
def QcM (D : va_G) (base : Nat) (cA : Nat → ClassId) (σ : Sg) (mi : Nat) (Q : QT) : Array Value → State → Outcome → State → Prop :=
  if kM mi = 0 then va_Qv (fun u : Mem => Q (.inl 0) u) (fun u t => Wd D base cA σ u t) (AC base σ)
  else if kM mi = 1 then va_Qi (fun (r : Int32) (u : Int × Mem) => r = Int32.ofInt u.1 ∧ Q (.inl u.1) u.2) (fun u t => Wd D base cA σ u.2 t) (AC base σ)
  else va_Qr (fun u : Nat × Mem => Q (.inr (.inr u.1)) u.2) (fun u a t => a = base + u.1 ∧ Wd D base cA σ u.2 t) (AC base σ)
def MetOk (l : Launch) (D : va_G) (base : Nat) (cA : Nat → ClassId) (σ : Sg) (d : Nat) : Prop := ∀ (mi : Nat) (vs : List MV) (μ : Mem) (Q : QT), mi < 70 → Call σ d mi vs μ Q →
  Met l (yM mi) (wsM mi) (rmD d) (va_Pc (vs.map (tr base)) (Wd D base cA σ μ)) (QcM D base cA σ mi Q) 0 0 (AC base σ)
theorem nest_tab : ∀ w ∈ nestW, w.onTables = true := by decide +kernel
theorem WdK.moved {D : va_G} {cA : Nat → ClassId} {u U : State} (hvm : u.vm = U.vm) (h : WdK D cA u) : WdK D cA U :=
  ⟨va_K.moved (by rw [hvm]; exact Vm.Alike.refl _) h.1, fun w hw => va_Nw.same (nest_tab w hw) hvm (h.2 w hw)⟩
theorem WdK.warm {D : va_G} {cA : Nat → ClassId} {s U : State} (hW : s.WarmedH U.vm) (h : WdK D cA s) : WdK D cA U := by
  refine ⟨va_K.moved hW.alike h.1, fun w hw => ?_⟩
  obtain ⟨q, -, rfl⟩ := List.mem_map.mp hw
  exact va_Nw.warmM hW (h.2 _ hw)
theorem cls_ok : ∀ a, a < 7 → vwCl[a]? = some (RX a, TX a, NX a) ∧ (∀ w ∈ u_ws (RX a) (TX a) (NX a), w ∈ gW) ∧ (∃ ty : Nat → FieldType, ∀ k, k < NX a → parseFieldDescriptor ((TX a) k).2.2.1 = some (ty k)) ∧ ∀ x, x < NX a → ∀ y, y < NX a → x ≠ y → ((TX a) x).2.1 ≠ ((TX a) y).2.1
  | 0, _ => ⟨rfl, in_gLay0, ⟨tyX0, tyX0_ok⟩, nmX0⟩
  | 1, _ => ⟨rfl, in_gLay1, ⟨tyX1, tyX1_ok⟩, nmX1⟩
  | 2, _ => ⟨rfl, in_gLay2, ⟨tyX2, tyX2_ok⟩, nmX2⟩
  | 3, _ => ⟨rfl, in_gLay3, ⟨tyX3, tyX3_ok⟩, nmX3⟩
  | 4, _ => ⟨rfl, in_gLay4, ⟨tyX4, tyX4_ok⟩, nmX4⟩
  | 5, _ => ⟨rfl, in_gLay5, ⟨tyX5, tyX5_ok⟩, nmX5⟩
  | 6, _ => ⟨rfl, in_gLay6, ⟨tyX6, tyX6_ok⟩, nmX6⟩
  | n + 7, h => absurd h (by omega)
theorem in_gW_ws {mi : Nat} {w : Cond} (h : w ∈ gW) : w ∈ wsM mi := List.mem_cons_of_mem _ h
theorem meth_at {a : Nat} (h : a < 70) : ckMeth a = true := List.all_eq_true.mp meth_ok a (List.mem_range.mpr h)
theorem mt_len : mt.length = 70 := by decide +kernel
theorem code_in {a : Nat} (h : a < 70) : Cond.code (yM a) (bM a) (lM a) (rM a) ∈ gW := by
  refine in_gCode _ (List.mem_map.mpr ⟨mrow a, ?_, rfl⟩)
  have hl : a < mt.length := by rw [mt_len]; exact h
  have e : mrow a = mt[a] := by simp [mrow, List.getD, hl]
  rw [e]
  exact List.getElem_mem hl
theorem ws_good {mi a : Nat} (h : a < 70) : GoodIn (wsM mi) (wsM a) := by
  intro w hw
  rcases List.mem_cons.mp hw with rfl | hw
  · exact ⟨in_gW_ws (code_in h), gW_gd (code_in h)⟩
  · exact ⟨in_gW_ws hw, gW_gd hw⟩
theorem ini_in {c : Nat} (h : c < 7) : Cond.initialized (RX c) ∈ gW := in_gIni _ (List.mem_map.mpr ⟨c, by
  match c, h with
  | 0, _ | 1, _ | 2, _ | 3, _ | 4, _ | 5, _ | 6, _ => decide
  | n + 7, h => exact absurd h (by omega), rfl⟩)
section SND
variable {p : Program} {l : Launch} {e : Env} {R : Room} {s : State} {m : MethodId} {args : Array Value} {below : List Frame} {meth : Method} {c : Code} {cells slots : Nat} {Qf : State → Prop} {D : va_G} {base : Nat} {cA : Nat → ClassId} {σ : Sg} {nL mi d : Nat} {A : Nat → Prop}
def PS (p : Program) (l : Launch) (e : Env) (R : Room) (s : State) (m : MethodId) (args : Array Value) (below : List Frame) (meth : Method) (c : Code) (cells slots : Nat) (Qf : State → Prop) (D : va_G) (base : Nat) (cA : Nat → ClassId) (σ : Sg) (nL : Nat) (A : Nat → Prop) : PT :=
  fun pc ls st μ => ∀ (H : Heap) (locs : List Loc) (lsA : Array Slot), va_P D vwCl (wl base cA σ μ) H → va_S A s.heap H locs → LR base nL ls lsA →
    W p l e R s m args below meth c H locs cells slots Qf (F0 m pc lsA (st.map (tr base)))
/-- what holds through the whole of a method -/
def Fx (p : Program) (s : State) (m : MethodId) (args : Array Value) (c : Code) (cells slots : Nat) (R : Room) (D : va_G) (base : Nat) (cA : Nat → ClassId) (nL mi d : Nat) (σ : Sg) (A : Nat → Prop) : Prop :=
  p.tables.exec = Jvm.exec ∧ c.code = bM mi ∧ c.maxLocals = nL ∧ s.vm.findClass (RX (oM mi)) = some m.cls ∧ (∀ w ∈ wsM mi, w.before args s = true) ∧ WdK D cA s ∧ d + 1 ≤ R.frames ∧ 36 * d + 36 ≤ R.locals ∧ cells ≤ R.cells ∧ slots ≤ R.slots ∧ ∀ q, AC base σ q → A q
theorem s_getf (F : Fx p s m args c cells slots R D base cA nL mi d σ A) {pc x a b c1 o : Nat} {H : Heap} {locs : List Loc} {lsA : Array Slot} {μ : Mem} {rest : List Value}
    (hf : (oM mi, x, a, b) ∈ flt) (ha : a < 7) (hb : b < NX a) (hk : (fks a)[b]? = some c1) (hd : decode (bM mi) pc = .ok (.getfield x, 3)) (ho : (shp σ o).1 = a)
    (hP : va_P D vwCl (wl base cA σ μ) H)
    (kk : W p l e R s m args below meth c H locs cells slots Qf (F0 m (pc + 3) lsA (fldV base σ μ o b c1 :: rest))) :
    W p l e R s m args below meth c H locs cells slots Qf (F0 m pc lsA (.ref (base + o) :: rest)) := by
  obtain ⟨hx, hbc, hml, hown, hts, ⟨hK, hN⟩, hr⟩ := F
  obtain ⟨hc, hu, -, -⟩ := cls_ok a ha
  obtain ⟨h1, h2, -⟩ := shp_of ho (by omega)
  have he : (wl base cA σ μ)[o]? = some (base + o, .inr (a, (fks a).mapIdx (fun j f => fldV base σ μ o j f))) := by
    rw [wl_at h1]
    unfold ent entV
    rw [h2, if_neg (by omega), if_neg (by omega), if_neg (by omega), if_neg (by omega), if_neg (by omega), if_neg (by omega)]
  have hlink : (Cond.fieldLink (RX (oM mi)) x ((TX a) b).1 ((TX a) b).2.1 ((TX a) b).2.2.1).before args s = true := hts _ (in_gW_ws (in_gFld _ (List.mem_map.mpr ⟨_, hf, rfl⟩)))
  exact va_get (own := RX (oM mi)) hx hbc hts (fun w hw => in_gW_ws (hu w hw)) hown hK hP o he hc b hb hlink (fun _ h => h) (by rw [List.getElem?_mapIdx, hk]; rfl) hd kk
theorem s_putf (F : Fx p s m args c cells slots R D base cA nL mi d σ A) {pc x a b c1 o : Nat} {v : Int} {H : Heap} {locs : List Loc} {lsA : Array Slot} {μ : Mem} {rest : List Value}
    (hf : (oM mi, x, a, b) ∈ flt) (ha : a < 7) (hb : b < NX a) (hk : (fks a)[b]? = some c1) (hfin : ((TX a) b).2.2.2 = false) (hty : ((TX a) b).2.2.1 = (if c1 = 0 then "I" else "Z")) (hv : pfv c1 v)
    (hd : decode (bM mi) pc = .ok (.putfield x, 3)) (ho : (shp σ o).1 = a)
    (hP : va_P D vwCl (wl base cA σ μ) H) (hS : va_S A s.heap H locs)
    (kk : ∀ (H1 : Heap) (locs1 : List Loc), va_P D vwCl (wl base cA σ (ms μ o b v)) H1 → va_S A s.heap H1 locs1 → W p l e R s m args below meth c H1 locs1 cells slots Qf (F0 m (pc + 3) lsA rest)) :
    W p l e R s m args below meth c H locs cells slots Qf (F0 m pc lsA (.int (Int32.ofInt v) :: .ref (base + o) :: rest)) := by
  obtain ⟨hx, hbc, hml, hown, hts, ⟨hK, hN⟩, hr⟩ := F
  have hA := hr.2.2.2.2
  obtain ⟨hc, hu, ⟨ty, hty0⟩, hnm⟩ := cls_ok a ha
  obtain ⟨h1, h2, -⟩ := shp_of ho (by omega)
  have hent : ∀ ν : Mem, ent base cA σ ν o = .inr (a, (fks a).mapIdx (fun j f => fldV base σ ν o j f)) := by
    intro ν
    unfold ent entV
    rw [h2, if_neg (by omega), if_neg (by omega), if_neg (by omega), if_neg (by omega), if_neg (by omega), if_neg (by omega)]
  have he : (wl base cA σ μ)[o]? = some (base + o, .inr (a, (fks a).mapIdx (fun j f => fldV base σ μ o j f))) := by rw [wl_at h1, hent]
  have hlink : (Cond.fieldLink (RX (oM mi)) x ((TX a) b).1 ((TX a) b).2.1 ((TX a) b).2.2.1).before args s = true := hts _ (in_gW_ws (in_gFld _ (List.mem_map.mpr ⟨_, hf, rfl⟩)))
  have hbl : b < (fks a).length := (List.getElem?_eq_some_iff.mp hk).1
  have hset : ((fks a).mapIdx (fun j f => fldV base σ μ o j f)).set b (.int (Int32.ofInt v)) = (fks a).mapIdx (fun j f => fldV base σ (ms μ o b v) o j f) := by
    apply List.ext_getElem?
    intro i
    by_cases hib : b = i
    · subst hib
      rw [List.getElem?_set_self (by simpa using hbl), List.getElem?_mapIdx, hk]
      rcases c1 with _ | _ | n
      · simp [fldV, ms]
      · simp [fldV, ms]
      · exact hv.elim
    · rw [List.getElem?_set_ne hib, List.getElem?_mapIdx, List.getElem?_mapIdx]
      cases (fks a)[i]? with
      | none => rfl
      | some f =>
        have hib' : ¬ i = b := fun q => hib q.symm
        match f with
        | 0 => simp [fldV, ms, hib']
        | 1 => simp [fldV, ms, hib']
        | n + 2 => simp [fldV]
  have fin : ∀ (t : FieldType), parseFieldDescriptor ((TX a) b).2.2.1 = some t → narrow t (.int (Int32.ofInt v)) = .int (Int32.ofInt v) → fits t (.int (Int32.ofInt v)) = true →
      W p l e R s m args below meth c H locs cells slots Qf (F0 m pc lsA (.int (Int32.ofInt v) :: .ref (base + o) :: rest)) := by
    intro t ht hn hfit
    refine va_put (own := RX (oM mi)) hx hbc hts (fun w hw => in_gW_ws (hu w hw)) ty hty0 hnm hown hK hP (wl_D hA) hS o he hc b hb hlink (fun _ h => h) hfin ht hn hfit (by simpa using hbl) hd (fun H1 locs1 q1 q2 q3 => ?_)
    rw [hset, wl_set (by rw [hent]) ms_ne] at q1
    exact kk H1 locs1 q1 q3
  rcases c1 with _ | _ | n
  · exact fin .int (by rw [hty]; decide +kernel) rfl rfl
  · rcases hv with rfl | rfl
    · exact fin .boolean (by rw [hty]; decide +kernel) rfl rfl
    · exact fin .boolean (by rw [hty]; decide +kernel) rfl rfl
  · exact hv.elim
theorem ent_a {k kd n : Nat} {μ : Mem} (h1 : (lay.getD k (999, 0)).1 = kd) (h2 : n = (lay.getD k (999, 0)).2) : ent base cA σ μ k = entV base cA σ μ k kd n := by
  unfold ent; rw [h1, h2]
theorem upd_ms {μ : Mem} {o : Nat} {i v : Int} {n : Nat} (h0 : 0 ≤ i) (h1 : i < (n : Int)) (hn : n < 6000) : upd (fun j => Int32.ofInt (μ o j)) (Int32.ofInt i).toNatClampNeg (Int32.ofInt v) = fun j => Int32.ofInt (ms μ o i.toNat v o j) := by
  funext j
  rw [clamp_i h0 h1 hn]
  unfold upd ms
  by_cases hj : j = i.toNat
  · simp [hj]
  · simp [hj]
theorem s_alen {o kd : Nat} (h : (shp σ o).1 = kd) (hk : kd ≠ 999) (μ : Mem) : (wl base cA σ μ)[o]? = some (base + o, entV base cA σ μ o kd (shp σ o).2) ∧ (shp σ o).2 < 6000 ∧ ent base cA σ μ o = entV base cA σ μ o kd (shp σ o).2 := by
  obtain ⟨h1, h2, h3⟩ := shp_of h hk
  exact ⟨by rw [wl_at h1, ent_a h2 h3], shp_small σ o, ent_a h2 h3⟩
theorem nar_c {v : Int} (h : 0 ≤ v ∧ v < 65536) : vp_nar .char (Int32.ofInt v) = Int32.ofInt v := by
  obtain ⟨n, rfl⟩ : ∃ n : Nat, v = (n : Int) := ⟨v.toNat, by omega⟩
  have hn : n < 65536 := by omega
  have e : Int32.ofInt (n : Int) = nI n := by unfold nI; exact (Int32.ofInt_eq_ofNat).symm ▸ rfl
  rw [e]
  have := (pk_charN hn).1
  unfold vp_nar
  rw [this]
theorem nar_z {v : Int} (h : v = 0 ∨ v = 1) : vp_nar .boolean (Int32.ofInt v) = Int32.ofInt v := by
  rcases h with rfl | rfl <;> rfl
end SND
