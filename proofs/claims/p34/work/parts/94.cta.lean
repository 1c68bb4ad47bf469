def setT (f : Nat → Nat → Bool) (a b : Nat) : Nat → Nat → Bool := fun i j => if a ≤ i ∧ i < b then true else f i j
/-- while a constructor at cell k runs: j of its fields are set, i places of the array q, all of the cells behind k -/
def G2 (f : Nat → Nat → Bool) (k q n j i : Nat) : Nat → Nat → Bool := fun c x => if c = k then decide (x < j) else if c = q then decide (x < i) else if k < c ∧ c < n then true else f c x
def layAt (k : Nat) (L : List (Nat × Nat)) : Prop := ∀ i, i < L.length → lay.getD (k + i) (999, 0) = L.getD i (999, 0)
theorem layAt_sub {k : Nat} {L L2 : List (Nat × Nat)} (h : layAt k L) (o : Nat) (hs : ∀ i, i < L2.length → o + i < L.length ∧ L.getD (o + i) (999, 0) = L2.getD i (999, 0)) : layAt (k + o) L2 := fun i hi => by
  rw [Nat.add_assoc, h (o + i) (hs i hi).1]
  exact (hs i hi).2
theorem g2_0 {f : Nat → Nat → Bool} {μ : Mem} {k q : Nat} (h : fr f μ k) (hq : k < q) : f = G2 f k q (k + 1) 0 0 := by
  funext c x
  unfold G2
  split
  · rename_i e; rw [e, (h k (Nat.le_refl k)).1 x]; rfl
  · split
    · rename_i e; rw [e, (h q (by omega)).1 x]; rfl
    · rw [if_neg (by omega)]
theorem g2_fr {f : Nat → Nat → Bool} {μ : Mem} {k q n j i : Nat} (h : fr f μ k) (hk : k < n) (hq : q < n ∨ i = 0) : fr (G2 f k q n j i) μ n := fun c hc => ⟨fun x => by
  unfold G2
  rw [if_neg (by omega)]
  split
  · rename_i e
    have : i = 0 := by omega
    rw [this]; rfl
  · rw [if_neg (by omega)]; exact (h c (by omega)).1 x, (h c (by omega)).2⟩
theorem g2_arr {f : Nat → Nat → Bool} {k q n j i : Nat} (hk : k < n) (hp : n = q ∨ ∀ x, isP n x = false) : ∀ c, c < n + 1 → ∀ x, isP c x = true → G2 f k q n j i c x = G2 f k q (n + 1) j i c x := fun c hc x hx => by
  unfold G2
  split
  · rfl
  · split
    · rfl
    · rename_i h1 h2
      rcases Nat.lt_or_ge c n with h | h
      · by_cases h3 : k < c
        · rw [if_pos ⟨h3, h⟩, if_pos ⟨h3, by omega⟩]
        · rw [if_neg (by omega), if_neg (by omega)]
      · have : c = n := by omega
        subst this
        rcases hp with hp | hp
        · exact absurd hp h2
        · rw [hp x] at hx; exact absurd hx (by decide)
theorem g2_put {f : Nat → Nat → Bool} {k q n j i : Nat} : upT (G2 f k q n j i) k j = G2 f k q n (j + 1) i := by
  funext c x
  unfold upT G2
  by_cases hc : c = k
  · rw [if_pos hc, if_pos hc]
    by_cases hx : x = j
    · rw [if_pos ⟨hc, hx⟩]; exact (decide_eq_true (by omega)).symm
    · rw [if_neg (fun q => hx q.2)]
      exact decide_eq_decide.mpr (by omega)
  · rw [if_neg (fun q => hc q.1), if_neg hc, if_neg hc]
theorem g2_ast {f : Nat → Nat → Bool} {k q n j i : Nat} (hq : q ≠ k) : upT (G2 f k q n j i) q i = G2 f k q n j (i + 1) := by
  funext c x
  unfold upT G2
  by_cases hc : c = q
  · have hk : ¬ c = k := fun e => hq (hc.symm.trans e)
    rw [if_neg hk, if_pos hc, if_neg hk, if_pos hc]
    by_cases hx : x = i
    · rw [if_pos (show c = q ∧ x = i from ⟨hc, hx⟩)]; exact (decide_eq_true (by omega)).symm
    · rw [if_neg (show ¬ (c = q ∧ x = i) from fun h => hx h.2)]
      exact decide_eq_decide.mpr (by omega)
  · rw [if_neg (show ¬ (c = q ∧ x = i) from fun h => hc h.1), if_neg hc, if_neg hc]
theorem g2_ctor {f : Nat → Nat → Bool} {k q n j i sz : Nat} (hk : k < n) (hq : q < n ∨ n + sz ≤ q) : setT (G2 f k q n j i) n (n + sz) = G2 f k q (n + sz) j i := by
  funext c x
  unfold setT G2
  by_cases hc : n ≤ c ∧ c < n + sz
  · rw [if_pos hc, if_neg (by omega), if_neg (by omega), if_pos (by omega)]
  · rw [if_neg hc]
    split
    · rfl
    · split
      · rfl
      · by_cases h3 : k < c ∧ c < n
        · rw [if_pos h3, if_pos (by omega)]
        · rw [if_neg h3, if_neg (by omega)]
theorem g2_j {f : Nat → Nat → Bool} {k q n j j' i : Nat} (h : ∀ x, isP k x = true → (x < j ↔ x < j')) : ∀ c, c < n → ∀ x, isP c x = true → G2 f k q n j i c x = G2 f k q n j' i c x := fun c hc x hx => by
  unfold G2
  by_cases e : c = k
  · rw [if_pos e, if_pos e]
    exact decide_eq_decide.mpr (h x (by rw [← e]; exact hx))
  · rw [if_neg e, if_neg e]
theorem g2_end {f : Nat → Nat → Bool} {k q sz j i : Nat} (hJ : ∀ x, isP k x = true → x < j) (hI : q < k + sz → k ≤ q ∧ ∀ x, isP q x = true → x < i) : ∀ c, c < k + sz → ∀ x, isP c x = true → G2 f k q (k + sz) j i c x = setT f k (k + sz) c x := fun c hc x hx => by
  unfold G2 setT
  by_cases e : c = k
  · rw [if_pos e, if_pos (by omega)]
    exact decide_eq_true (hJ x (by rw [← e]; exact hx))
  · rw [if_neg e]
    by_cases e2 : c = q
    · have := hI (by omega)
      rw [if_pos e2, if_pos (by omega)]
      exact decide_eq_true (this.2 x (by rw [← e2]; exact hx))
    · rw [if_neg e2]
      by_cases h3 : k < c ∧ c < k + sz
      · rw [if_pos h3, if_pos (by omega)]
      · rw [if_neg h3, if_neg (by omega)]
theorem isP_a {i kd N : Nat} (h : lay.getD i (999, 0) = (kd, N)) (hk : 100 ≤ kd ∧ kd < 103) (x : Nat) : isP i x = false := by
  unfold isP
  rw [h, if_neg (by show ¬ kd < 100; omega)]
  exact decide_eq_false (by show ¬ (103 ≤ kd ∧ _); omega)
theorem isP_q {i kd N : Nat} (h : lay.getD i (999, 0) = (kd, N)) (hk : 103 ≤ kd) (x : Nat) (hx : isP i x = true) : x < N := by
  unfold isP at hx
  rw [h, if_neg (by show ¬ kd < 100; omega)] at hx
  exact (of_decide_eq_true hx).2
theorem fks_len : ∀ a, a < 8 → (fks a).length ≤ 14 := by decide
theorem isP_o {i a N : Nat} (h : lay.getD i (999, 0) = (a, N)) (J : Nat) (ha : a < 8) (hJ : ∀ x, x < 14 → 2 ≤ (fks a).getD x 0 → x < J) (x : Nat) (hx : isP i x = true) : x < J := by
  unfold isP at hx
  rw [h, if_pos (by show a < 100; omega)] at hx
  have h2 : 2 ≤ (fks a).getD x 0 := of_decide_eq_true hx
  have hl := fks_len a ha
  rcases Nat.lt_or_ge x 14 with h3 | h3
  · exact hJ x h3 h2
  · rw [List.getD_eq_getElem?_getD, List.getElem?_eq_none (by omega)] at h2
    exact absurd h2 (by decide)
/-- what a constructor does to the world -/
def CtOk (l : Launch) (D : va_G) (base : Nat) (cA : Nat → ClassId) (mi sz mc sl frm lo k : Nat) (f : Nat → Nat → Bool) (μ : Mem) : Prop :=
  Met l (yM mi) (wsI mi) ({ frames := frm, cells := mc, slots := sl, locals := lo }) (va_Pc [.ref (base + k)] (WIp D base cA (k + 1) f μ)) (va_Qv (fun _ : Unit => True) (fun _ t => WIq D base cA (k + sz) (setT f k (k + sz)) μ t) (AA base)) mc sl (AA base)
theorem i_ctor {p : Program} {l : Launch} {e : Env} {R : Room} {s : State} {m : MethodId} {args : Array Value} {below : List Frame} {meth : Method} {c : Code} {cells slots : Nat} {Qf : State → Prop} {D : va_G} {base : Nat} {cA : Nat → ClassId} {nL mi : Nat} {H : Heap} {locs : List Loc} {n : Nat} {f : Nat → Nat → Bool} {μ : Mem} {pc : Nat} {lsA : Array Slot} {rest : List Value}
    (F : FI p s m args c meth D cA nL mi) {x mj k sz mc sl frm lo : Nat} (hl : (oM mi, x, mj) ∈ nestI ∨ Cond.methodLink (RX (oM mi)) x (yM mj) ∈ gX) (hj : mj < 70) (hrn : rM mj = none) (hin : Cond.instanceMethod (yM mj) ∈ gX) (hd3 : (yM mj).cls ≠ "java/lang/invoke/MethodHandle" ∧ (yM mj).cls ≠ "java/lang/invoke/VarHandle" ∧ (parseMethodDescriptor (yM mj).desc).map (fun d => d.parameters.length) = some 0 ∧ (yM mj).name = "<init>")
    (hM : CtOk l D base cA mj sz mc sl frm lo k f μ) (hn : n = k + 1) (hN : s.heap.size + cells = base + n) (hR : frm + 1 ≤ R.frames ∧ 8 + (lM mj + 11) + lo ≤ R.locals) (hR2 : cells + mc ≤ R.cells ∧ slots + sl ≤ R.slots) (hW : 2 * (F0 m pc lsA (.ref (base + k) :: rest)).monitorRoom + (rest.map fun v => v.category).sum ≤ 8) (hsz : lsA.size = nL) (hd : decode (bM mi) pc = .ok (.invokespecial x, 3)) (hP : va_P D vwCl (wl base cA (n, f) μ) H) (hS : va_S (AA base) s.heap H locs)
    (kk : ∀ (H1 : Heap) (locs1 : List Loc), va_P D vwCl (wl base cA (k + sz, setT f k (k + sz)) μ) H1 → va_S (AA base) s.heap H1 locs1 → W p l e R s m args below meth c H1 locs1 (cells + mc) (slots + sl) Qf (F0 m (pc + 3) lsA rest)) :
    W p l e R s m args below meth c H locs cells slots Qf (F0 m pc lsA (.ref (base + k) :: rest)) := by
  obtain ⟨hx, hb, hml, hown, hts, hK, hname⟩ := F
  subst hn
  refine W_sz (fun hz => ?_)
  have hz2 : H.size = base + (k + 1) := by
    have h1 := (hP k _ (wl_at (σ := (k + 1, f)) (show k < k + 1 by omega))).lt
    have h1 : base + k < H.size := h1
    omega
  have hini : (Cond.initialized (yM mj).cls).before args s = true := by
    have f7 := meth_f hj
    rw [f7.1]; exact hts _ (gW_I (ini_in f7.2.2.2.2.2.2.1))
  have hp : PreS s H (va_Pc [.ref (base + k)] (WIp D base cA (k + 1) f μ)) [.ref (base + k)] :=
    ⟨fun a U g mk h => ⟨h.1, h.2.1, h.2.2.1, KI.moved (u := U) (U := U.calling g mk a) rfl h.2.2.2⟩, fun U hU hW => ⟨rfl, by rw [hU]; exact hz2, by unfold WdH; rw [hU]; exact hP, hK.warm hW⟩⟩
  have fin : ∀ (u : Unit) (t : State) (H1 : Heap) (locs1 : List Loc), t.heap = H1 → s.vm.Alike t.vm → True → WIq D base cA (k + sz) (setT f k (k + sz)) μ t → H.size ≤ H1.size → (∀ q : Nat, q < H.size → ¬ AA base q → H1[q]? = H[q]?) → va_S (AA base) s.heap H1 locs1 → W p l e R s m args below meth c H1 locs1 (cells + mc) (slots + sl) Qf (F0 m (pc + 3) lsA rest) :=
    fun u t H1 locs1 ht hvm hw hB hz1 hk1 hS1 => kk H1 locs1 (by rw [← ht]; exact hB.1) hS1
  rcases hl with hl | hl
  · exact va_callv (va_runIN (As := []) (rest := rest) (maxL := lM mj) (bytes := bM mj) ⟨hx, hb, hml, hown, hts⟩ hM
      ⟨va_cnB 0 hts (wsI_I hj) (by unfold wsI; rw [hrn]) rfl rfl (hK.2.1 _ (List.mem_map.mpr ⟨_, hl, rfl⟩)) hini ⟨hd3.1, hd3.2.1, hd3.2.2.1⟩ hR, hd3.2.2.2, hts _ (gX_I hin)⟩ hp rfl rfl hsz rfl hW hd hR2) hS (fun q _ h => h) (fun q h => h) fin
  · exact va_callv (va_runI (As := []) (rest := rest) (maxL := lM mj) (bytes := bM mj) ⟨hx, hb, hml, hown, hts⟩ hM
      (cwI 0 hts (wsI_I hj) (by unfold wsI; rw [hrn]) rfl rfl hini (hts _ (gX_I hl)) (hts _ (gX_I hin)) hd3.2.2.2 ⟨hd3.1, hd3.2.1, hd3.2.2.1⟩ hR) hp rfl rfl hsz rfl hW hd hR2) hS (fun q _ h => h) (fun q h => h) fin
set_option maxHeartbeats 4000000 in
theorem c_Sen (l : Launch) (D : va_G) (base : Nat) (cA : Nat → ClassId) {k : Nat} {f : Nat → Nat → Bool} {μ : Mem} (hfr : fr f μ k) (hla : layAt k layS) : CtOk l D base cA 16 4 3 72 1 12 k f μ := by
  have qf : k < k + 1000000 := by omega
  refine Met.ofW (cc := bM 16) (maxL := 1) (ret := none) (by decide +kernel) rfl ?_
  intro p e s m args below meth c s₁ B hml hv
  obtain ⟨rfl, hsz, hP, hK⟩ := hv
  have hx := B.exec
  have hb := B.bytes
  have hts := atoms_spec (ws := wsI 16) B.pre
  have F : FI p s m #[Value.ref (base + k)] c meth D cA 1 16 := ⟨hx, hb, hml, findClass_of_methodNamed B.named, hts, hK, (name_of_methodNamed B.named B.method).1⟩
  have hP : va_P D vwCl (wl base cA (k + 1, f) μ) s.heap := hP
  have hS : va_S (AA base) s.heap s.heap [] := va_S.rf
  have hb0 : base ≤ s.heap.size := by omega
  have hl := lv_entry ([.ref (base + k)]) (n := 1) (Nat.le_of_ble_eq_true rfl)
  rw [lg_entry_eq]
  generalize (lg_sl ([.ref (base + k)]) ++ List.replicate (1 - (lg_sl ([.ref (base + k)])).length) Slot.unset).toArray = ls at hl ⊢
  have hl : lv_has ls 1 [(0, .ref (base + k))] := hl
  have hP := hP
  rw [g2_0 (q := (k + 1000000)) hfr (by omega)] at hP
  refine lv_aload_n hx hb dI16_0 rfl (lv_at hl 0 rfl) ?_
  refine i_obj F (by decide +kernel) ⟨Nat.le_of_ble_eq_true rfl, Nat.le_of_ble_eq_true rfl⟩ hl.1 dI16_1 ?_
  refine lv_aload_n hx hb dI16_4 rfl (lv_at hl 0 rfl) ?_
  refine lv_bipush (v := 24) hx hb dI16_5 rfl ?_
  refine i_newa (base := base) (n := k + 1) (i := 0) (N := 24) (kd := 100) F (by omega) rfl rfl (by decide +kernel) rfl (hla 1 (by decide +kernel)) (g2_fr hfr (by omega) (by omega)) (by omega) hb0 (by decide) (by decide) (by decide) (Nat.le_of_ble_eq_true rfl) (Nat.le_of_ble_eq_true rfl) dI16_7 hP hS (fun H1 hP hS => ?_)
  have hP := P_c (g2_arr (by omega) (Or.inr (fun x => isP_a (hla 1 (by decide +kernel)) (by decide) x))) hP
  have hP : va_P D vwCl (wl base cA (k + 2, G2 f k (k + 1000000) (k + 2) 0 0) μ) H1 := hP
  refine i_putP (base := base) (n := k + 2) (a := 4) (b1 := 0) (d1 := 1) (ty := (.array .int)) F (by decide +kernel) (by decide) (by decide) rfl rfl rfl (by decide +kernel) (fun _ => rfl) (fun _ => rfl) (congrArg Prod.fst (hla 0 (by decide +kernel))) (by omega) dI16_9 hP hS (fun H1 locs1 hP hS => ?_)
  rw [g2_put] at hP
  have hP : va_P D vwCl (wl base cA (k + 2, G2 f k (k + 1000000) (k + 2) 1 0) μ) H1 := hP
  refine lv_aload_n hx hb dI16_12 rfl (lv_at hl 0 rfl) ?_
  refine lv_bipush (v := 24) hx hb dI16_13 rfl ?_
  refine i_newa (base := base) (n := k + 2) (i := 0) (N := 24) (kd := 100) F (by omega) rfl rfl (by decide +kernel) rfl (hla 2 (by decide +kernel)) (g2_fr hfr (by omega) (by omega)) (by omega) hb0 (by decide) (by decide) (by decide) (Nat.le_of_ble_eq_true rfl) (Nat.le_of_ble_eq_true rfl) dI16_15 hP hS (fun H1 hP hS => ?_)
  have hP := P_c (g2_arr (by omega) (Or.inr (fun x => isP_a (hla 2 (by decide +kernel)) (by decide) x))) hP
  have hP : va_P D vwCl (wl base cA (k + 3, G2 f k (k + 1000000) (k + 3) 1 0) μ) H1 := hP
  refine i_putP (base := base) (n := k + 3) (a := 4) (b1 := 1) (d1 := 2) (ty := (.array .int)) F (by decide +kernel) (by decide) (by decide) rfl rfl rfl (by decide +kernel) (fun _ => rfl) (fun _ => rfl) (congrArg Prod.fst (hla 0 (by decide +kernel))) (by omega) dI16_17 hP hS (fun H1 locs1 hP hS => ?_)
  rw [g2_put] at hP
  have hP : va_P D vwCl (wl base cA (k + 3, G2 f k (k + 1000000) (k + 3) 2 0) μ) H1 := hP
  refine lv_aload_n hx hb dI16_20 rfl (lv_at hl 0 rfl) ?_
  refine lv_bipush (v := 24) hx hb dI16_21 rfl ?_
  refine i_newa (base := base) (n := k + 3) (i := 0) (N := 24) (kd := 100) F (by omega) rfl rfl (by decide +kernel) rfl (hla 3 (by decide +kernel)) (g2_fr hfr (by omega) (by omega)) (by omega) hb0 (by decide) (by decide) (by decide) (Nat.le_of_ble_eq_true rfl) (Nat.le_of_ble_eq_true rfl) dI16_23 hP hS (fun H1 hP hS => ?_)
  have hP := P_c (g2_arr (by omega) (Or.inr (fun x => isP_a (hla 3 (by decide +kernel)) (by decide) x))) hP
  have hP : va_P D vwCl (wl base cA (k + 4, G2 f k (k + 1000000) (k + 4) 2 0) μ) H1 := hP
  refine i_putP (base := base) (n := k + 4) (a := 4) (b1 := 2) (d1 := 3) (ty := (.array .int)) F (by decide +kernel) (by decide) (by decide) rfl rfl rfl (by decide +kernel) (fun _ => rfl) (fun _ => rfl) (congrArg Prod.fst (hla 0 (by decide +kernel))) (by omega) dI16_25 hP hS (fun H1 locs1 hP hS => ?_)
  rw [g2_put] at hP
  have hP : va_P D vwCl (wl base cA (k + 4, G2 f k (k + 1000000) (k + 4) 3 0) μ) H1 := hP
  refine W.widen (k := 3) (n := 72) (Nat.le_of_ble_eq_true rfl) (Nat.le_of_ble_eq_true rfl) ?_
  have hP := P_c (f' := setT f k (k + 4)) (g2_end (fun x hx => isP_o (hla 0 (by decide +kernel)) 3 (by decide) (by decide) x hx) (fun h => absurd h (by omega))) hP
  exact W.vret hx hb B.returns (fun t ht hW => ⟨⟨(), rfl, trivial, by unfold WdH; rw [ht]; exact hP, hK.warm hW⟩, hS.F ht⟩) hS.2.2 dI16_28
set_option maxHeartbeats 4000000 in
theorem c_Hea (l : Launch) (D : va_G) (base : Nat) (cA : Nat → ClassId) {k : Nat} {f : Nat → Nat → Bool} {μ : Mem} (hfr : fr f μ k) (hla : layAt k layH) : CtOk l D base cA 4 7 6 124 2 40 k f μ := by
  have qf : k < k + 1000000 := by omega
  refine Met.ofW (cc := bM 4) (maxL := 1) (ret := none) (by decide +kernel) rfl ?_
  intro p e s m args below meth c s₁ B hml hv
  obtain ⟨rfl, hsz, hP, hK⟩ := hv
  have hx := B.exec
  have hb := B.bytes
  have hts := atoms_spec (ws := wsI 4) B.pre
  have F : FI p s m #[Value.ref (base + k)] c meth D cA 1 4 := ⟨hx, hb, hml, findClass_of_methodNamed B.named, hts, hK, (name_of_methodNamed B.named B.method).1⟩
  have hP : va_P D vwCl (wl base cA (k + 1, f) μ) s.heap := hP
  have hS : va_S (AA base) s.heap s.heap [] := va_S.rf
  have hb0 : base ≤ s.heap.size := by omega
  have hl := lv_entry ([.ref (base + k)]) (n := 1) (Nat.le_of_ble_eq_true rfl)
  rw [lg_entry_eq]
  generalize (lg_sl ([.ref (base + k)]) ++ List.replicate (1 - (lg_sl ([.ref (base + k)])).length) Slot.unset).toArray = ls at hl ⊢
  have hl : lv_has ls 1 [(0, .ref (base + k))] := hl
  have hP := hP
  rw [g2_0 (q := (k + 1000000)) hfr (by omega)] at hP
  refine lv_aload_n hx hb dI4_0 rfl (lv_at hl 0 rfl) ?_
  refine i_obj F (by decide +kernel) ⟨Nat.le_of_ble_eq_true rfl, Nat.le_of_ble_eq_true rfl⟩ hl.1 dI4_1 ?_
  refine lv_aload_n hx hb dI4_4 rfl (lv_at hl 0 rfl) ?_
  refine i_new (base := base) (n := k + 1) (a := 4) F (by decide +kernel) (by decide +kernel) (by decide) (hla 1 (by decide +kernel)) (g2_fr hfr (by omega) (by omega)) (by omega) hb0 (Nat.le_of_ble_eq_true rfl) (Nat.le_of_ble_eq_true rfl) dI4_5 hP hS (fun H1 hP hS => ?_)
  refine lv_dup hx hb dI4_8 rfl ?_
  refine i_ctor (base := base) (k := k + 1) (mj := 16) F (Or.inl (by decide +kernel)) (by decide) rfl (by decide +kernel) ⟨by decide +kernel, by decide +kernel, by decide +kernel⟩ (c_Sen l D base cA (g2_fr hfr (by omega) (by omega)) (layAt_sub hla 1 (by decide))) (by omega) (by omega) ⟨Nat.le_of_ble_eq_true rfl, Nat.le_of_ble_eq_true rfl⟩ ⟨Nat.le_of_ble_eq_true rfl, Nat.le_of_ble_eq_true rfl⟩ (lv_room (Nat.le_of_ble_eq_true rfl)) hl.1 dI4_9 hP hS (fun H1 locs1 hP hS => ?_)
  rw [g2_ctor (by omega) (by omega)] at hP
  have hP : va_P D vwCl (wl base cA (k + 5, G2 f k (k + 1000000) (k + 5) 0 0) μ) H1 := hP
  refine i_putP (base := base) (n := k + 5) (a := 1) (b1 := 0) (d1 := 1) (ty := (.object "NoticeShifts$Sentences")) F (by decide +kernel) (by decide) (by decide) rfl rfl rfl (by decide +kernel) (fun _ => rfl) (fun _ => rfl) (congrArg Prod.fst (hla 0 (by decide +kernel))) (by omega) dI4_12 hP hS (fun H1 locs1 hP hS => ?_)
  rw [g2_put] at hP
  have hP : va_P D vwCl (wl base cA (k + 5, G2 f k (k + 1000000) (k + 5) 1 0) μ) H1 := hP
  refine lv_aload_n hx hb dI4_15 rfl (lv_at hl 0 rfl) ?_
  refine lv_bipush (v := 24) hx hb dI4_16 rfl ?_
  refine i_newa (base := base) (n := k + 5) (i := 0) (N := 24) (kd := 100) F (by omega) rfl rfl (by decide +kernel) rfl (hla 5 (by decide +kernel)) (g2_fr hfr (by omega) (by omega)) (by omega) hb0 (by decide) (by decide) (by decide) (Nat.le_of_ble_eq_true rfl) (Nat.le_of_ble_eq_true rfl) dI4_18 hP hS (fun H1 hP hS => ?_)
  have hP := P_c (g2_arr (by omega) (Or.inr (fun x => isP_a (hla 5 (by decide +kernel)) (by decide) x))) hP
  have hP : va_P D vwCl (wl base cA (k + 6, G2 f k (k + 1000000) (k + 6) 1 0) μ) H1 := hP
  refine i_putP (base := base) (n := k + 6) (a := 1) (b1 := 1) (d1 := 5) (ty := (.array .int)) F (by decide +kernel) (by decide) (by decide) rfl rfl rfl (by decide +kernel) (fun _ => rfl) (fun _ => rfl) (congrArg Prod.fst (hla 0 (by decide +kernel))) (by omega) dI4_20 hP hS (fun H1 locs1 hP hS => ?_)
  rw [g2_put] at hP
  have hP : va_P D vwCl (wl base cA (k + 6, G2 f k (k + 1000000) (k + 6) 2 0) μ) H1 := hP
  refine lv_aload_n hx hb dI4_23 rfl (lv_at hl 0 rfl) ?_
  refine lv_bipush (v := 24) hx hb dI4_24 rfl ?_
  refine i_newa (base := base) (n := k + 6) (i := 0) (N := 24) (kd := 100) F (by omega) rfl rfl (by decide +kernel) rfl (hla 6 (by decide +kernel)) (g2_fr hfr (by omega) (by omega)) (by omega) hb0 (by decide) (by decide) (by decide) (Nat.le_of_ble_eq_true rfl) (Nat.le_of_ble_eq_true rfl) dI4_26 hP hS (fun H1 hP hS => ?_)
  have hP := P_c (g2_arr (by omega) (Or.inr (fun x => isP_a (hla 6 (by decide +kernel)) (by decide) x))) hP
  have hP : va_P D vwCl (wl base cA (k + 7, G2 f k (k + 1000000) (k + 7) 2 0) μ) H1 := hP
  refine i_putP (base := base) (n := k + 7) (a := 1) (b1 := 2) (d1 := 6) (ty := (.array .int)) F (by decide +kernel) (by decide) (by decide) rfl rfl rfl (by decide +kernel) (fun _ => rfl) (fun _ => rfl) (congrArg Prod.fst (hla 0 (by decide +kernel))) (by omega) dI4_28 hP hS (fun H1 locs1 hP hS => ?_)
  rw [g2_put] at hP
  have hP : va_P D vwCl (wl base cA (k + 7, G2 f k (k + 1000000) (k + 7) 3 0) μ) H1 := hP
  refine W.widen (k := 6) (n := 124) (Nat.le_of_ble_eq_true rfl) (Nat.le_of_ble_eq_true rfl) ?_
  have hP := P_c (f' := setT f k (k + 7)) (g2_end (fun x hx => isP_o (hla 0 (by decide +kernel)) 3 (by decide) (by decide) x hx) (fun h => absurd h (by omega))) hP
  exact W.vret hx hb B.returns (fun t ht hW => ⟨⟨(), rfl, trivial, by unfold WdH; rw [ht]; exact hP, hK.warm hW⟩, hS.F ht⟩) hS.2.2 dI4_31
set_option maxHeartbeats 4000000 in
theorem c_Cho (l : Launch) (D : va_G) (base : Nat) (cA : Nat → ClassId) {k : Nat} {f : Nat → Nat → Bool} {μ : Mem} (hfr : fr f μ k) (hla : layAt k [(0, 6)]) : CtOk l D base cA 0 1 0 0 1 12 k f μ := by
  have qf : k < k + 1000000 := by omega
  refine Met.ofW (cc := bM 0) (maxL := 1) (ret := none) (by decide +kernel) rfl ?_
  intro p e s m args below meth c s₁ B hml hv
  obtain ⟨rfl, hsz, hP, hK⟩ := hv
  have hx := B.exec
  have hb := B.bytes
  have hts := atoms_spec (ws := wsI 0) B.pre
  have F : FI p s m #[Value.ref (base + k)] c meth D cA 1 0 := ⟨hx, hb, hml, findClass_of_methodNamed B.named, hts, hK, (name_of_methodNamed B.named B.method).1⟩
  have hP : va_P D vwCl (wl base cA (k + 1, f) μ) s.heap := hP
  have hS : va_S (AA base) s.heap s.heap [] := va_S.rf
  have hb0 : base ≤ s.heap.size := by omega
  have hl := lv_entry ([.ref (base + k)]) (n := 1) (Nat.le_of_ble_eq_true rfl)
  rw [lg_entry_eq]
  generalize (lg_sl ([.ref (base + k)]) ++ List.replicate (1 - (lg_sl ([.ref (base + k)])).length) Slot.unset).toArray = ls at hl ⊢
  have hl : lv_has ls 1 [(0, .ref (base + k))] := hl
  have hP := hP
  rw [g2_0 (q := (k + 1000000)) hfr (by omega)] at hP
  refine lv_aload_n hx hb dI0_0 rfl (lv_at hl 0 rfl) ?_
  refine i_obj F (by decide +kernel) ⟨Nat.le_of_ble_eq_true rfl, Nat.le_of_ble_eq_true rfl⟩ hl.1 dI0_1 ?_
  refine W.widen (k := 0) (n := 0) (Nat.le_of_ble_eq_true rfl) (Nat.le_of_ble_eq_true rfl) ?_
  have hP := P_c (f' := setT f k (k + 1)) (g2_end (fun x hx => isP_o (hla 0 (by decide +kernel)) 0 (by decide) (by decide) x hx) (fun h => absurd h (by omega))) hP
  exact W.vret hx hb B.returns (fun t ht hW => ⟨⟨(), rfl, trivial, by unfold WdH; rw [ht]; exact hP, hK.warm hW⟩, hS.F ht⟩) hS.2.2 dI0_4
set_option maxHeartbeats 4000000 in
theorem c_Pad (l : Launch) (D : va_G) (base : Nat) (cA : Nat → ClassId) {k : Nat} {f : Nat → Nat → Bool} {μ : Mem} (hfr : fr f μ k) (hla : layAt k [(3, 2), (101, 60)]) : CtOk l D base cA 15 2 1 60 1 12 k f μ := by
  have qf : k < k + 1000000 := by omega
  refine Met.ofW (cc := bM 15) (maxL := 1) (ret := none) (by decide +kernel) rfl ?_
  intro p e s m args below meth c s₁ B hml hv
  obtain ⟨rfl, hsz, hP, hK⟩ := hv
  have hx := B.exec
  have hb := B.bytes
  have hts := atoms_spec (ws := wsI 15) B.pre
  have F : FI p s m #[Value.ref (base + k)] c meth D cA 1 15 := ⟨hx, hb, hml, findClass_of_methodNamed B.named, hts, hK, (name_of_methodNamed B.named B.method).1⟩
  have hP : va_P D vwCl (wl base cA (k + 1, f) μ) s.heap := hP
  have hS : va_S (AA base) s.heap s.heap [] := va_S.rf
  have hb0 : base ≤ s.heap.size := by omega
  have hl := lv_entry ([.ref (base + k)]) (n := 1) (Nat.le_of_ble_eq_true rfl)
  rw [lg_entry_eq]
  generalize (lg_sl ([.ref (base + k)]) ++ List.replicate (1 - (lg_sl ([.ref (base + k)])).length) Slot.unset).toArray = ls at hl ⊢
  have hl : lv_has ls 1 [(0, .ref (base + k))] := hl
  have hP := hP
  rw [g2_0 (q := (k + 1000000)) hfr (by omega)] at hP
  refine lv_aload_n hx hb dI15_0 rfl (lv_at hl 0 rfl) ?_
  refine i_obj F (by decide +kernel) ⟨Nat.le_of_ble_eq_true rfl, Nat.le_of_ble_eq_true rfl⟩ hl.1 dI15_1 ?_
  refine lv_aload_n hx hb dI15_4 rfl (lv_at hl 0 rfl) ?_
  refine lv_bipush (v := 60) hx hb dI15_5 rfl ?_
  refine i_newa (base := base) (n := k + 1) (i := 1) (N := 60) (kd := 101) F (by omega) rfl rfl (by decide +kernel) rfl (hla 1 (by decide +kernel)) (g2_fr hfr (by omega) (by omega)) (by omega) hb0 (by decide) (by decide) (by decide) (Nat.le_of_ble_eq_true rfl) (Nat.le_of_ble_eq_true rfl) dI15_7 hP hS (fun H1 hP hS => ?_)
  have hP := P_c (g2_arr (by omega) (Or.inr (fun x => isP_a (hla 1 (by decide +kernel)) (by decide) x))) hP
  have hP : va_P D vwCl (wl base cA (k + 2, G2 f k (k + 1000000) (k + 2) 0 0) μ) H1 := hP
  refine i_putP (base := base) (n := k + 2) (a := 3) (b1 := 0) (d1 := 1) (ty := (.array .char)) F (by decide +kernel) (by decide) (by decide) rfl rfl rfl (by decide +kernel) (fun _ => rfl) (fun _ => rfl) (congrArg Prod.fst (hla 0 (by decide +kernel))) (by omega) dI15_9 hP hS (fun H1 locs1 hP hS => ?_)
  rw [g2_put] at hP
  have hP : va_P D vwCl (wl base cA (k + 2, G2 f k (k + 1000000) (k + 2) 1 0) μ) H1 := hP
  refine W.widen (k := 1) (n := 60) (Nat.le_of_ble_eq_true rfl) (Nat.le_of_ble_eq_true rfl) ?_
  have hP := P_c (f' := setT f k (k + 2)) (g2_end (fun x hx => isP_o (hla 0 (by decide +kernel)) 1 (by decide) (by decide) x hx) (fun h => absurd h (by omega))) hP
  exact W.vret hx hb B.returns (fun t ht hW => ⟨⟨(), rfl, trivial, by unfold WdH; rw [ht]; exact hP, hK.warm hW⟩, hS.F ht⟩) hS.2.2 dI15_12
