/-! THE CONSTRUCTORS: the growing world, a row an instruction -/
def KI (D : va_G) (cA : Nat → ClassId) (U : State) : Prop := WdK D cA U ∧ (∀ w ∈ nestIw, va_Nw w U) ∧ va_AO RX1 U ∧ va_AO RX5 U
def WIq (D : va_G) (base : Nat) (cA : Nat → ClassId) (n : Nat) (f : Nat → Nat → Bool) (μ : Mem) (U : State) : Prop := WdH D base cA (n, f) μ U.heap ∧ KI D cA U
def WIp (D : va_G) (base : Nat) (cA : Nat → ClassId) (n : Nat) (f : Nat → Nat → Bool) (μ : Mem) (U : State) : Prop := U.heap.size = base + n ∧ WIq D base cA n f μ U
theorem nestI_tab : ∀ w ∈ nestIw, w.onTables = true := by decide +kernel
theorem KI.moved {D : va_G} {cA : Nat → ClassId} {u U : State} (hvm : u.vm = U.vm) (h : KI D cA u) : KI D cA U :=
  ⟨WdK.moved hvm h.1, fun w hw => va_Nw.same (nestI_tab w hw) hvm (h.2.1 w hw), va_AO.moved (by rw [hvm]; exact Vm.Alike.refl _) h.2.2.1, va_AO.moved (by rw [hvm]; exact Vm.Alike.refl _) h.2.2.2⟩
theorem KI.warm {D : va_G} {cA : Nat → ClassId} {s U : State} (hW : s.WarmedH U.vm) (h : KI D cA s) : KI D cA U := by
  refine ⟨WdK.warm hW h.1, fun w hw => ?_, va_AO.moved hW.alike h.2.2.1, va_AO.moved hW.alike h.2.2.2⟩
  obtain ⟨q, -, rfl⟩ := List.mem_map.mp hw
  exact va_Nw.warmM hW (h.2.1 _ hw)
theorem RA_u {U : State} {a b : ClassId} {ty : FieldType} (h : va_RA U a ty) (h' : va_RA U b ty) : a = b := by
  cases ty with
  | object C =>
    obtain ⟨_, _, _, _, _, h4⟩ := h
    obtain ⟨_, _, _, _, _, h4'⟩ := h'
    exact Option.some.inj (h4.symm.trans h4')
  | _ => exact Option.some.inj (Eq.trans (Eq.symm h) h')
theorem wl_push {base : Nat} {cA : Nat → ClassId} {n : Nat} {f : Nat → Nat → Bool} {μ : Mem} : wl base cA (n + 1, f) μ = wl base cA (n, f) μ ++ [(base + n, ent base cA (n, f) μ n)] := by
  unfold wl
  show (List.range (n + 1)).map _ = (List.range n).map _ ++ _
  rw [List.range_succ, List.map_append]
  rfl
theorem arrV_c (cI : ClassId) {N : Nat} {f g : Nat → Value} (h : ∀ j, j < N → f j = g j) : arrV cI N f = arrV cI N g := by
  unfold arrV
  congr 1
  apply Array.ext
  · simp
  · intro i h1 h2
    simp at h1 h2 ⊢
    exact h i h1
theorem ifB {α : Type} {a b : Bool} (h : a = b) (x y : α) : (if a = true then x else y) = if b = true then x else y := by rw [h]
/-- the places of a cell that hold pointers -/
def isP (i j : Nat) : Bool := if (lay.getD i (999, 0)).1 < 100 then decide (2 ≤ (fks (lay.getD i (999, 0)).1).getD j 0) else decide (103 ≤ (lay.getD i (999, 0)).1 ∧ j < (lay.getD i (999, 0)).2)
theorem fld_c {base : Nat} {n : Nat} {f f' : Nat → Nat → Bool} {μ : Mem} {i a : Nat} (h : ∀ j, 2 ≤ (fks a).getD j 0 → f i j = f' i j) : (fks a).mapIdx (fun j q => fldV base (n, f) μ i j q) = (fks a).mapIdx (fun j q => fldV base (n, f') μ i j q) := by
  apply List.ext_getElem?
  intro j
  rw [List.getElem?_mapIdx, List.getElem?_mapIdx]
  cases hc : (fks a)[j]? with
  | none => rfl
  | some q =>
    match q, hc with
    | 0, _ => rfl
    | 1, _ => rfl
    | q + 2, hc =>
      have := h j (by rw [List.getD_eq_getElem?_getD, hc]; show 2 ≤ q + 2; omega)
      show some (if f i j = true then Value.ref (base + (i + q)) else .null) = some (if f' i j = true then Value.ref (base + (i + q)) else .null)
      rw [this]
theorem P_c {D : va_G} {base : Nat} {cA : Nat → ClassId} {n : Nat} {f f' : Nat → Nat → Bool} {μ : Mem} {H : Heap} (h : ∀ i, i < n → ∀ j, isP i j = true → f i j = f' i j) (hP : va_P D vwCl (wl base cA (n, f) μ) H) : va_P D vwCl (wl base cA (n, f') μ) H := by
  intro k q hq
  obtain ⟨hk, rfl⟩ := wl_of hq
  have hk : k < n := hk
  have h0 := hP k _ (wl_at hk)
  have hh := h k hk
  unfold isP at hh
  revert h0
  unfold ent entV
  generalize hL : lay.getD k (999, 0) = L at hh
  obtain ⟨kd, N⟩ := L
  have ar : ∀ (c : ClassId) (b c1 : Nat), 103 ≤ kd → va_at D vwCl (base + k, .inl (c, N, .inr (.inr (.inr (.inr (ptrs base (n, f) k b c1)))))) H → va_at D vwCl (base + k, .inl (c, N, .inr (.inr (.inr (.inr (ptrs base (n, f') k b c1)))))) H := fun c b c1 h3 h0 => by
    have h0 : H[base + k]? = some (vp_cell c (N, .inr (.inr (.inr (.inr (ptrs base (n, f) k b c1)))))) := h0
    show H[base + k]? = some (vp_cell c (N, .inr (.inr (.inr (.inr (ptrs base (n, f') k b c1))))))
    rw [h0]
    congr 1
    show arrV c N (fun j => va_rf (ptrs base (n, f) k b c1 j)) = arrV c N (fun j => va_rf (ptrs base (n, f') k b c1 j))
    refine arrV_c c (fun j hj => ?_)
    have := hh j (by rw [if_neg (by omega)]; exact decide_eq_true ⟨h3, hj⟩)
    exact congrArg va_rf (ifB this _ _)
  split
  · exact id
  · split
    · exact id
    · split
      · exact id
      · split
        · exact ar _ _ _ (by omega)
        · split
          · exact ar _ _ _ (by omega)
          · split
            · exact ar _ _ _ (by omega)
            · rename_i h1 h2 h3 h4 h5 h6
              intro h0
              have e : (fks kd).mapIdx (fun j q => fldV base (n, f) μ k j q) = (fks kd).mapIdx (fun j q => fldV base (n, f') μ k j q) := by
                by_cases hkd : kd < 100
                · exact fld_c (fun j hj => hh j (by rw [if_pos hkd]; exact decide_eq_true hj))
                · have e2 : fks kd = [] := by
                    match kd, hkd with
                    | 0, q | 1, q | 2, q | 3, q | 4, q | 5, q | 6, q | 7, q => exact absurd (by omega) q
                    | x + 8, _ => rfl
                  rw [e2]; rfl
              rw [← e]
              exact h0
theorem W_sz {p : Program} {l : Launch} {e : Env} {R : Room} {s : State} {m : MethodId} {args : Array Value} {below : List Frame} {meth : Method} {c : Code} {H : Heap} {locs : List Loc} {cells slots : Nat} {Q : State → Prop} {g : JFrame} (k : H.size ≤ s.heap.size + cells → W p l e R s m args below meth c H locs cells slots Q g) : W p l e R s m args below meth c H locs cells slots Q g := by
  intro T hT X
  have h := X.same
  obtain ⟨-, -, h3, -⟩ := h
  exact k (by rw [← hT]; exact h3) T hT X
/-- the address of a cell that was made -/
theorem new_at {D : va_G} {base : Nat} {cA : Nat → ClassId} {n q : Nat} {f : Nat → Nat → Bool} {μ : Mem} {H1 : Heap} {x : va_E} (hD : va_D (AA base) (wl base cA (n, f) μ ++ [(q, x)])) (hP : va_P D vwCl (wl base cA (n, f) μ ++ [(q, x)]) H1) (hz : H1.size ≤ base + n + 1) : q = base + n := by
  have hlen : (wl base cA (n, f) μ).length = n := by simp [wl]
  have hq : (wl base cA (n, f) μ ++ [(q, x)])[n]? = some (q, x) := by rw [List.getElem?_append_right (by omega), hlen, Nat.sub_self]; rfl
  have h1 : q < H1.size := (hP n _ hq).lt
  have h2 : base ≤ q := hD.2 n _ hq
  rcases Nat.lt_or_ge q (base + n) with h3 | h3
  · exfalso
    have hi : (wl base cA (n, f) μ ++ [(q, x)])[q - base]? = some (base + (q - base), ent base cA (n, f) μ (q - base)) := by
      rw [List.getElem?_append_left (by omega)]
      exact wl_at (show q - base < n by omega)
    have := hD.1 (q - base) n _ _ hi hq (by show base + (q - base) = q; omega)
    omega
  · omega
def fr (f : Nat → Nat → Bool) (μ : Mem) (n : Nat) : Prop := ∀ k, n ≤ k → (∀ j, f k j = false) ∧ ∀ j, μ k j = 0
def d0 : Nat → Value := fun c => if c < 2 then .int 0 else .null
theorem fld_0 {base n k a : Nat} {f : Nat → Nat → Bool} {μ : Mem} (h : fr f μ n) (hk : n ≤ k) {n' : Nat} : (fks a).mapIdx (fun j q => fldV base (n', f) μ k j q) = (fks a).map d0 := by
  apply List.ext_getElem?
  intro j
  rw [List.getElem?_mapIdx, List.getElem?_map]
  cases (fks a)[j]? with
  | none => rfl
  | some q =>
    match q with
    | 0 => show some (Value.int (Int32.ofInt (μ k j))) = _; rw [(h k hk).2 j]; rfl
    | 1 => show some (Value.int (Int32.ofInt (μ k j))) = _; rw [(h k hk).2 j]; rfl
    | q + 2 => show some (if f k j = true then Value.ref (base + (k + q)) else .null) = _; rw [(h k hk).1 j]; rfl
theorem d0_ok : ∀ a, a < 7 → ∀ j, j < NX a → (parseFieldDescriptor ((TX a) j).2.2.1).map defaultValue = some (vp_V ((fks a).map d0) j) := by decide +kernel
section CTV
variable {p : Program} {l : Launch} {e : Env} {R : Room} {s : State} {m : MethodId} {args : Array Value} {below : List Frame} {meth : Method} {c : Code} {cells slots : Nat} {Qf : State → Prop} {D : va_G} {base : Nat} {cA : Nat → ClassId} {nL mi : Nat} {H : Heap} {locs : List Loc} {n : Nat} {f : Nat → Nat → Bool} {μ : Mem} {pc : Nat} {lsA : Array Slot} {rest : List Value}
def FI (p : Program) (s : State) (m : MethodId) (args : Array Value) (c : Code) (meth : Method) (D : va_G) (cA : Nat → ClassId) (nL mi : Nat) : Prop :=
  p.tables.exec = Jvm.exec ∧ c.code = bM mi ∧ c.maxLocals = nL ∧ s.vm.findClass (RX (oM mi)) = some m.cls ∧ (∀ w ∈ wsI mi, w.before args s = true) ∧ KI D cA s ∧ meth.name = "<init>"
theorem AA_ge (hb : base ≤ s.heap.size) : ∀ q, s.heap.size ≤ q → AA base q := fun q h => Nat.le_trans hb h
theorem i_new (F : FI p s m args c meth D cA nL mi) {x a : Nat} (hcl : Cond.classLink (RX (oM mi)) x (RX a) ∈ gX) (hin : Cond.instantiable (RX a) (NX a) ∈ gX) (ha : a < 7) (hlay : lay.getD n (999, 0) = (a, NX a)) (hfr : fr f μ n) (hN : s.heap.size + cells = base + n) (hb0 : base ≤ s.heap.size)
    (hcells : cells + 1 ≤ R.cells) (hslots : slots + NX a ≤ R.slots) (hd : decode (bM mi) pc = .ok (.new x, 3)) (hP : va_P D vwCl (wl base cA (n, f) μ) H) (hS : va_S (AA base) s.heap H locs)
    (kk : ∀ H1 : Heap, va_P D vwCl (wl base cA (n + 1, f) μ) H1 → va_S (AA base) s.heap H1 locs → W p l e R s m args below meth c H1 locs (cells + 1) (slots + NX a) Qf (F0 m (pc + 3) lsA (.ref (base + n) :: rest))) :
    W p l e R s m args below meth c H locs cells slots Qf (F0 m pc lsA rest) := by
  obtain ⟨hx, hb, hml, hown, hts, hK, hname⟩ := F
  obtain ⟨hc, hu, ⟨ty, hty⟩, -⟩ := cls_ok a ha
  refine va_new (ci := a) (fs := (fks a).map d0) (C := RX a) (T := TX a) (N := NX a) hx hb hts (fun w hw => gW_I (hu w hw)) ty hty hown (hts _ (gX_I hcl)) (hts _ (gX_I hin)) (hts _ (gW_I (ini_in ha))) hK.1.1 hP (wl_D (fun q h => h.1)) hS (AA_ge hb0) hc (fun j hj => ?_) hcells hslots hd (fun q H1 hP1 hD1 hS1 => ?_)
  · have := d0_ok a ha j hj
    rw [hty j hj] at this
    exact Option.some.inj this
  · refine W_sz (fun hz => ?_)
    have hq := new_at hD1 hP1 (by omega)
    subst hq
    have e : ent base cA (n, f) μ n = .inr (a, (fks a).map d0) := by
      unfold ent entV
      rw [hlay]
      dsimp only
      rw [if_neg (by omega), if_neg (by omega), if_neg (by omega), if_neg (by omega), if_neg (by omega), if_neg (by omega), fld_0 hfr (Nat.le_refl n)]
    exact kk H1 (by rw [wl_push, e]; exact hP1) hS1
theorem i_newa (F : FI p s m args c meth D cA nL mi) {atype : ArrayType} {i N kd : Nat} {v : Int32} (hi : i < 3) (hty : newarray.typeOf atype = ((tysA cA).getD i (0, .int)).2) (hdv : defaultValue (newarray.typeOf atype) = .int 0) (harr : Cond.arrayClass (newarray.typeOf atype) ∈ gX) (hkd : kd = 100 + i) (hlay : lay.getD n (999, 0) = (kd, N)) (hfr : fr f μ n) (hN : s.heap.size + cells = base + n) (hb0 : base ≤ s.heap.size)
    (hv : ¬ v < 0) (hvN : v.toNatClampNeg = N) (hbytes : N * componentBytes (newarray.typeOf atype) ≤ 536870912) (hcells : cells + 1 ≤ R.cells) (hslots : slots + N ≤ R.slots) (hd : decode (bM mi) pc = .ok (.newarray atype, 2)) (hP : va_P D vwCl (wl base cA (n, f) μ) H) (hS : va_S (AA base) s.heap H locs)
    (kk : ∀ H1 : Heap, va_P D vwCl (wl base cA (n + 1, f) μ) H1 → va_S (AA base) s.heap H1 locs → W p l e R s m args below meth c H1 locs (cells + 1) (slots + N) Qf (F0 m (pc + 2) lsA (.ref (base + n) :: rest))) :
    W p l e R s m args below meth c H locs cells slots Qf (F0 m pc lsA (.int v :: rest)) := by
  obtain ⟨hx, hb, hml, hown, hts, hK, hname⟩ := F
  refine va_newa (a0 := (N, .inl (fun _ => 0))) hx hb (hts _ (gX_I harr)) rfl hK.1.1 hP (wl_D (fun q h => h.1)) hS (AA_ge hb0) (fun c1 => ?_) hv hvN hbytes hcells hslots hd (fun q c1 H1 hK1 hP1 hD1 hS1 => ?_)
  · rw [hdv]; rfl
  · refine W_sz (fun hz => ?_)
    have hq := new_at hD1 hP1 (by omega)
    subst hq
    have hc1 : c1 = cA i := by
      have r1 := (hK1.2 5 (c1, newarray.typeOf atype) rfl).2
      rw [hty] at r1
      rcases (show i = 0 ∨ i = 1 ∨ i = 2 by omega) with rfl | rfl | rfl
      · exact RA_u r1 (hK.1.1.2 0 _ rfl).2
      · exact RA_u r1 (hK.1.1.2 1 _ rfl).2
      · exact RA_u r1 (hK.1.1.2 2 _ rfl).2
    have e : ent base cA (n, f) μ n = .inl (c1, N, .inl (fun _ => 0)) := by
      unfold ent entV
      rw [hlay]
      dsimp only
      have ez : (fun j => Int32.ofInt (μ n j)) = fun _ => 0 := by funext j; rw [(hfr n (Nat.le_refl n)).2 j]; rfl
      rw [hkd, hc1]
      rcases (show i = 0 ∨ i = 1 ∨ i = 2 by omega) with rfl | rfl | rfl
      · rw [if_pos rfl, ez]
      · rw [if_neg (by omega), if_pos rfl, ez]
      · rw [if_neg (by omega), if_neg (by omega), if_pos rfl, ez]
    exact kk H1 (by rw [wl_push, e]; exact hP1) hS1
theorem i_newq (F : FI p s m args c meth D cA nL mi) {x i N a kd : Nat} {v : Int32} (hcl : Cond.classLink (RX (oM mi)) x (RX a) ∈ gX) (hi : (i = 3 ∧ a = 1 ∧ kd = 103) ∨ (i = 4 ∧ a = 5 ∧ (kd = 104 ∨ kd = 105))) (hlay : lay.getD n (999, 0) = (kd, N)) (hfr : fr f μ n) (hN : s.heap.size + cells = base + n) (hb0 : base ≤ s.heap.size)
    (hv : ¬ v < 0) (hvN : v.toNatClampNeg = N) (hbytes : N * 4 ≤ 536870912) (hcells : cells + 1 ≤ R.cells) (hslots : slots + N ≤ R.slots) (hd : decode (bM mi) pc = .ok (.anewarray x, 3)) (hP : va_P D vwCl (wl base cA (n, f) μ) H) (hS : va_S (AA base) s.heap H locs)
    (kk : ∀ H1 : Heap, va_P D vwCl (wl base cA (n + 1, f) μ) H1 → va_S (AA base) s.heap H1 locs → W p l e R s m args below meth c H1 locs (cells + 1) (slots + N) Qf (F0 m (pc + 3) lsA (.ref (base + n) :: rest))) :
    W p l e R s m args below meth c H locs cells slots Qf (F0 m pc lsA (.int v :: rest)) := by
  obtain ⟨hx, hb, hml, hown, hts, hK, hname⟩ := F
  have hao : va_AO (RX a) s := by
    rcases hi with ⟨-, rfl, -⟩ | ⟨-, rfl, -⟩
    · exact hK.2.2.1
    · exact hK.2.2.2
  refine va_newq (C := RX a) hx hb hown (hts _ (gX_I hcl)) hao hK.1.1 hP (wl_D (fun q h => h.1)) hS (AA_ge hb0) hv hvN hbytes hcells hslots hd (fun q c1 H1 hK1 hP1 hD1 hS1 => ?_)
  refine W_sz (fun hz => ?_)
  have hq := new_at hD1 hP1 (by omega)
  subst hq
  have hc1 : c1 = cA i := by
    have r1 := (hK1.2 5 (c1, .object (RX a)) rfl).2
    rcases hi with ⟨rfl, rfl, -⟩ | ⟨rfl, rfl, -⟩
    · exact RA_u r1 (hK.1.1.2 3 _ rfl).2
    · exact RA_u r1 (hK.1.1.2 4 _ rfl).2
  have ep : ∀ b1 c2 : Nat, ptrs base (n, f) n b1 c2 = fun _ => none := fun b1 c2 => by
    funext j
    unfold ptrs
    rw [if_neg (by show ¬ f n j = true; rw [(hfr n (Nat.le_refl n)).1 j]; decide)]
  have e : ent base cA (n, f) μ n = .inl (c1, N, .inr (.inr (.inr (.inr (fun _ => none))))) := by
    unfold ent entV
    rw [hlay]
    dsimp only
    rw [hc1]
    rcases hi with ⟨rfl, rfl, rfl⟩ | ⟨rfl, rfl, rfl | rfl⟩
    · rw [if_neg (by omega), if_neg (by omega), if_neg (by omega), if_pos rfl, ep]
    · rw [if_neg (by omega), if_neg (by omega), if_neg (by omega), if_neg (by omega), if_pos rfl, ep]
    · rw [if_neg (by omega), if_neg (by omega), if_neg (by omega), if_neg (by omega), if_neg (by omega), if_pos rfl, ep]
  exact kk H1 (by rw [wl_push, e]; exact hP1) hS1
def upT (f : Nat → Nat → Bool) (k b : Nat) : Nat → Nat → Bool := fun i j => if i = k ∧ j = b then true else f i j
theorem wl_up {k b1 : Nat} {x : va_E} (he : x = ent base cA (n, upT f k b1) μ k) : (wl base cA (n, f) μ).set k (base + k, x) = wl base cA (n, upT f k b1) μ := by
  apply List.ext_getElem?
  intro i
  by_cases hi : i < n
  · by_cases hik : k = i
    · subst hik
      rw [List.getElem?_set_self (by simp [wl, hi]), wl_at (σ := (n, upT f k b1)) hi, he]
    · rw [List.getElem?_set_ne hik, wl_at (σ := (n, f)) hi, wl_at (σ := (n, upT f k b1)) hi]
      have e : ∀ j, f i j = upT f k b1 i j := fun j => by unfold upT; rw [if_neg (fun q => hik q.1.symm)]
      have e2 : (fun j => f i j) = fun j => upT f k b1 i j := funext e
      congr 2
      unfold ent entV fldV ptrs
      simp only [e]
  · have h1 : (wl base cA (n, upT f k b1) μ).length ≤ i := by simp [wl]; omega
    have h2 : ((wl base cA (n, f) μ).set k (base + k, x)).length ≤ i := by simp [wl]; omega
    rw [List.getElem?_eq_none h1, List.getElem?_eq_none h2]
theorem i_putP (F : FI p s m args c meth D cA nL mi) {x a b1 k d1 : Nat} {ty : FieldType} (hf : (oM mi, x, a, b1) ∈ flt) (ha : a < 7) (hbN : b1 < NX a) (hk : (fks a)[b1]? = some (d1 + 2)) (hfin : ((TX a) b1).2.2.2 = true) (hdecl : ((TX a) b1).1 = RX (oM mi)) (hty1 : parseFieldDescriptor ((TX a) b1).2.2.1 = some ty) (hnar : ∀ v, narrow ty (.ref v) = .ref v) (hfit : ∀ v, fits ty (.ref v) = true)
    (hlay : (lay.getD k (999, 0)).1 = a) (hkn : k < n) (hd : decode (bM mi) pc = .ok (.putfield x, 3)) (hP : va_P D vwCl (wl base cA (n, f) μ) H) (hS : va_S (AA base) s.heap H locs)
    (kk : ∀ (H1 : Heap) (locs1 : List Loc), va_P D vwCl (wl base cA (n, upT f k b1) μ) H1 → va_S (AA base) s.heap H1 locs1 → W p l e R s m args below meth c H1 locs1 cells slots Qf (F0 m (pc + 3) lsA rest)) :
    W p l e R s m args below meth c H locs cells slots Qf (F0 m pc lsA (.ref (base + (k + d1)) :: .ref (base + k) :: rest)) := by
  obtain ⟨hx, hb, hml, hown, hts, hK, hname⟩ := F
  obtain ⟨hc, hu, ⟨ty0, hty0⟩, hnm⟩ := cls_ok a ha
  have hent : ∀ g : Nat → Nat → Bool, ent base cA (n, g) μ k = .inr (a, (fks a).mapIdx (fun j q => fldV base (n, g) μ k j q)) := fun g => by
    unfold ent entV
    rw [hlay, if_neg (by omega), if_neg (by omega), if_neg (by omega), if_neg (by omega), if_neg (by omega), if_neg (by omega)]
  have he : (wl base cA (n, f) μ)[k]? = some (base + k, .inr (a, (fks a).mapIdx (fun j q => fldV base (n, f) μ k j q))) := by rw [wl_at (σ := (n, f)) hkn, hent]
  have hlink : (Cond.fieldLink (RX (oM mi)) x ((TX a) b1).1 ((TX a) b1).2.1 ((TX a) b1).2.2.1).before args s = true := hts _ (gW_I (in_gFld _ (List.mem_map.mpr ⟨_, hf, rfl⟩)))
  have hbl : b1 < (fks a).length := (List.getElem?_eq_some_iff.mp hk).1
  have hset : ((fks a).mapIdx (fun j q => fldV base (n, f) μ k j q)).set b1 (.ref (base + (k + d1))) = (fks a).mapIdx (fun j q => fldV base (n, upT f k b1) μ k j q) := by
    apply List.ext_getElem?
    intro i
    by_cases hib : b1 = i
    · subst hib
      rw [List.getElem?_set_self (by simpa using hbl), List.getElem?_mapIdx, hk]
      show _ = some (if upT f k b1 k b1 = true then Value.ref (base + (k + d1)) else .null)
      have eu : upT f k b1 k b1 = true := by unfold upT; exact if_pos ⟨rfl, rfl⟩
      rw [if_pos eu]
    · rw [List.getElem?_set_ne hib, List.getElem?_mapIdx, List.getElem?_mapIdx]
      cases (fks a)[i]? with
      | none => rfl
      | some q =>
        match q with
        | 0 => rfl
        | 1 => rfl
        | q + 2 =>
          show some (if f k i = true then Value.ref (base + (k + q)) else .null) = some (if upT f k b1 k i = true then Value.ref (base + (k + q)) else .null)
          exact congrArg some (ifB (by unfold upT; exact (if_neg (fun q => hib q.2.symm)).symm) _ _)
  refine va_putF (own := RX (oM mi)) (ty := ty) hx hb hts (fun w hw => gW_I (hu w hw)) ty0 hty0 hnm hown hK.1.1 hP (wl_D (fun q h => h.1)) hS k he hc b1 hbN hlink (fun _ h => h) hfin hname hdecl hty1 (hnar _) (hfit _) (by simpa using hbl) hd (fun H1 locs1 q1 q2 q3 => ?_)
  rw [hset, wl_up (by rw [hent])] at q1
  exact kk H1 locs1 q1 q3
theorem i_aast (F : FI p s m args c meth D cA nL mi) {q0 qk a N kd i1 i b1 c1 : Nat} (hi : (i1 = 3 ∧ a = 1 ∧ kd = 103 ∧ b1 = 1 ∧ c1 = 7) ∨ (i1 = 4 ∧ a = 5 ∧ kd = 104 ∧ b1 = 1 ∧ c1 = 55) ∨ (i1 = 4 ∧ a = 5 ∧ kd = 105 ∧ b1 = 12 ∧ c1 = 55)) (hlay : lay.getD q0 (999, 0) = (kd, N)) (hq0 : q0 < n) (hlk : (lay.getD qk (999, 0)).1 = a) (hqk : qk < n) (hqe : qk = q0 + b1 + c1 * i) (hiN : i < N) (hN2 : N < 6000)
    (hd : decode (bM mi) pc = .ok (.aastore, 1)) (hP : va_P D vwCl (wl base cA (n, f) μ) H) (hS : va_S (AA base) s.heap H locs)
    (kk : ∀ (H1 : Heap) (locs1 : List Loc), va_P D vwCl (wl base cA (n, upT f q0 i) μ) H1 → va_S (AA base) s.heap H1 locs1 → W p l e R s m args below meth c H1 locs1 cells slots Qf (F0 m (pc + 1) lsA rest)) :
    W p l e R s m args below meth c H locs cells slots Qf (F0 m pc lsA (.ref (base + qk) :: .int (nI i) :: .ref (base + q0) :: rest)) := by
  obtain ⟨hx, hb, hml, hown, hts, hK, hname⟩ := F
  have ha : a < 7 := by omega
  have hent : ∀ g : Nat → Nat → Bool, ent base cA (n, g) μ q0 = .inl (cA i1, N, .inr (.inr (.inr (.inr (ptrs base (n, g) q0 b1 c1))))) := fun g => by
    unfold ent entV
    rw [hlay]
    dsimp only
    rcases hi with ⟨rfl, rfl, rfl, rfl, rfl⟩ | ⟨rfl, rfl, rfl, rfl, rfl⟩ | ⟨rfl, rfl, rfl, rfl, rfl⟩
    · rw [if_neg (by omega), if_neg (by omega), if_neg (by omega), if_pos rfl]
    · rw [if_neg (by omega), if_neg (by omega), if_neg (by omega), if_neg (by omega), if_pos rfl]
    · rw [if_neg (by omega), if_neg (by omega), if_neg (by omega), if_neg (by omega), if_neg (by omega), if_pos rfl]
  have he : (wl base cA (n, f) μ)[q0]? = some (base + q0, .inl (cA i1, N, .inr (.inr (.inr (.inr (ptrs base (n, f) q0 b1 c1)))))) := by rw [wl_at (σ := (n, f)) hq0, hent]
  have hv : (wl base cA (n, f) μ)[qk]? = some (base + qk, .inr (a, (fks a).mapIdx (fun j q => fldV base (n, f) μ qk j q))) := by
    rw [wl_at (σ := (n, f)) hqk]
    unfold ent entV
    rw [hlk, if_neg (by omega), if_neg (by omega), if_neg (by omega), if_neg (by omega), if_neg (by omega), if_neg (by omega)]
  have hc := (cls_ok a ha).1
  have hin : vp_in (nI i) N := vp_in_nI hiN (by omega)
  have ht : (tysA cA)[i1]? = some (cA i1, .object (RX a)) := by
    rcases hi with ⟨rfl, rfl, -⟩ | ⟨rfl, rfl, -⟩ | ⟨rfl, rfl, -⟩ <;> rfl
  refine va_astq hx hb hK.1.1 hP (wl_D (fun q h => h.1)) hS q0 i1 qk a he ht hv hc hin hd (fun H1 locs1 q1 q2 q3 => ?_)
  have eu : va_up (ptrs base (n, f) q0 b1 c1) (nI i).toNatClampNeg (some (base + qk)) = ptrs base (n, upT f q0 i) q0 b1 c1 := by
    funext j
    rw [nI_clamp (by omega)]
    unfold va_up
    by_cases hj : j = i
    · rw [if_pos hj]
      show some (base + qk) = if upT f q0 i q0 j = true then some (base + (q0 + b1 + c1 * j)) else none
      rw [if_pos (by unfold upT; exact if_pos ⟨rfl, hj⟩), hqe, hj]
    · rw [if_neg hj]
      exact ifB (by unfold upT; exact (if_neg (fun q => hj q.2)).symm) _ _
  rw [eu, wl_up (by rw [hent])] at q1
  exact kk H1 locs1 q1 q3
theorem i_obj (F : FI p s m args c meth D cA nL mi) {x k : Nat} (hl : Cond.methodLink (RX (oM mi)) x objectInit ∈ gX) (hR : 1 ≤ R.frames ∧ 12 ≤ R.locals) (hsz : lsA.size = nL) (hd : decode (bM mi) pc = .ok (.invokespecial x, 3)) (kk : W p l e R s m args below meth c H locs cells slots Qf (F0 m (pc + 3) lsA [])) :
    W p l e R s m args below meth c H locs cells slots Qf (F0 m pc lsA [.ref k]) := by
  obtain ⟨hx, hb, hml, hown, hts, hK, hname⟩ := F
  exact W.objInit hx hb hown (hts _ (gX_I hl)) (hts _ (gX_I (by decide +kernel))) (hts _ (gX_I (List.mem_of_getElem? (i := 8) rfl))) rfl (by rw [hml]; exact hsz) rfl hd hR.1 hR.2 kk
end CTV

