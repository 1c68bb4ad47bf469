/-! THE LAW'S SMALL MACHINE IS SOUND -/
def yI (xs : Nat → Int32) : Nat → Int := fun j => (xs j).toInt
def Wd2 (D : va_G) (ρ : AdT) (cA : Nat → ClassId) (L : Nat) (xs : Nat → Int32) (δ : Dy) (μ : Mem) (U : State) : Prop := va_P D vwCl (wl2 ρ cA δ μ) U.heap ∧ WdK D cA U ∧ va_X ρ.2.1 L xs U U.heap ∧ ρ.2.1 < ρ.1
def rm2 (d a : Nat) : Room := { frames := 6 + d, cells := mcL a, slots := 48 * mcL a, locals := 216 + 36 * d }
def QcL (D : va_G) (ρ : AdT) (cA : Nat → ClassId) (L : Nat) (xs : Nat → Int32) (δ : Dy) (Q : QT) : Array Value → State → Outcome → State → Prop :=
  va_Qi (fun (r : Int32) (u : Int × Mem) => r = Int32.ofInt u.1 ∧ Q (.inl u.1) u.2) (fun u t => Wd2 D ρ cA L xs δ u.2 t) (AA ρ.1)
def MetOk2 (l : Launch) (D : va_G) (cA : Nat → ClassId) (L : Nat) (xs : Nat → Int32) (d : Nat) : Prop := ∀ (ρ : AdT) (mi : Nat) (vs : List MV) (δ : Dy) (μ : Mem) (Q : QT), mi < 8 → ok2 ρ δ → Call2 (yI xs) L d mi vs δ μ Q →
  Met l (yL mi) (wsL mi) (rm2 d mi) (va_Pc (vs.map (tr2 ρ)) (Wd2 D ρ cA L xs δ μ)) (QcL D ρ cA L xs δ Q) (mcL mi) (48 * mcL mi) (AA ρ.1)
theorem frb2 {D : va_G} {ρ : AdT} {cA : Nat → ClassId} {L : Nat} {xs : Nat → Int32} {δ : Dy} (vs : List MV) (μ : Mem) : FrameBlind (va_Pc (vs.map (tr2 ρ)) (Wd2 D ρ cA L xs δ μ)) := fun a U g mk h => ⟨h.1, h.2.1, WdK.moved (u := U) (U := U.calling g mk a) rfl h.2.2.1, va_X.moved (u := U) (U := U.calling g mk a) (Vm.Alike.refl _) h.2.2.2.1, h.2.2.2.2⟩
theorem methL_f {a : Nat} (h : a < 8) : (yL a).cls = RL ∧ plainName (yL a).cls = true ∧ (yL a).cls ≠ "java/lang/invoke/MethodHandle" ∧ (yL a).cls ≠ "java/lang/invoke/VarHandle" ∧ (parseMethodDescriptor (yL a).desc).map (fun d => d.parameters.length) = some (nL2 a) ∧ lL a ≤ 17 ∧ (rL a = some .int ∨ rL a = some .boolean) := by
  have q := List.all_eq_true.mp methL_ok a (List.mem_range.mpr h)
  unfold ckMeL at q
  simp only [Bool.and_eq_true, Bool.or_eq_true, decide_eq_true_eq] at q
  obtain ⟨⟨⟨⟨⟨⟨q1, q2⟩, q3⟩, q4⟩, q5⟩, q6⟩, q7⟩ := q
  exact ⟨q1, q2, q3, q4, q5, q6, q7⟩
theorem tr2_I {ρ : AdT} : ∀ {As : List MV}, allI As → As.map (tr2 ρ) = As.map (tr ρ.1)
  | [], _ => rfl
  | .inl x :: t, h => by
    rw [List.map_cons, List.map_cons, tr2_I (As := t) h]; rfl
  | .inr x :: t, h => h.elim
theorem RA_uL {U : State} {a b : ClassId} {ty : FieldType} (h : va_RA U a ty) (h' : va_RA U b ty) : a = b := by
  cases ty with
  | object C =>
    obtain ⟨_, _, _, _, _, h4⟩ := h
    obtain ⟨_, _, _, _, _, h4'⟩ := h'
    exact Option.some.inj (h4.symm.trans h4')
  | _ => exact Option.some.inj (Eq.trans (Eq.symm h) h')
theorem tk5_g {n : Nat} {st : List MV} {f : List MV → List MV → Prop} (h : tk5 n st f) : ∃ vs r, st = vs.reverse ++ r ∧ vs.length = n ∧ f vs r := by
  unfold tk5 at h; split at h
  · exact ⟨[_], _, rfl, rfl, h⟩
  · exact ⟨[_, _], _, rfl, rfl, h⟩
  · exact ⟨[_, _, _], _, rfl, rfl, h⟩
  · exact ⟨[_, _, _, _, _], _, rfl, rfl, h⟩
  · exact h.elim
section SL
variable {p : Program} {l : Launch} {e : Env} {R : Room} {s : State} {m : MethodId} {args : Array Value} {below : List Frame} {meth : Method} {c : Code} {Qf : State → Prop} {D : va_G} {cA : Nat → ClassId} {b sc nL mi d C0 S0 L G : Nat} {xs : Nat → Int32} {ρ0 : AdT} {δ0 : Dy}
def PS2 (p : Program) (l : Launch) (e : Env) (R : Room) (s : State) (m : MethodId) (args : Array Value) (below : List Frame) (meth : Method) (c : Code) (Qf : State → Prop) (D : va_G) (cA : Nat → ClassId) (nL C0 S0 G b sc : Nat) (ρ0 : AdT) (δ0 : Dy) : Dy → PT :=
  fun δ pc ls st μ => ∀ (ad : Nat → Nat) (H : Heap) (locs : List Loc) (lsA : Array Slot), δ.1 ≤ G → ok2 (b, sc, ad) δ → ext2 ρ0 δ0 (b, sc, ad) δ → va_P D vwCl (wl2 (b, sc, ad) cA δ μ) H → va_S (AA b) s.heap H locs → LQ (b, sc, ad) nL ls lsA →
    W p l e R s m args below meth c H locs (C0 + δ.1) (S0 + 48 * δ.1) Qf (F0 m pc lsA (st.map (tr2 (b, sc, ad))))
/-- what holds through the whole of a method of the law -/
def Fx2 (p : Program) (s : State) (m : MethodId) (args : Array Value) (c : Code) (R : Room) (D : va_G) (cA : Nat → ClassId) (nL mi d C0 S0 G b sc L : Nat) (xs : Nat → Int32) : Prop :=
  p.tables.exec = Jvm.exec ∧ c.code = bL mi ∧ c.maxLocals = nL ∧ s.vm.findClass RL = some m.cls ∧ (∀ w ∈ gWL, w.before args s = true) ∧ WdK D cA s ∧ (7 + d ≤ R.frames ∧ 252 + 36 * d ≤ R.locals) ∧ (C0 + G ≤ R.cells ∧ S0 + 48 * G ≤ R.slots) ∧ va_X sc L xs s s.heap ∧ sc < b ∧ b ≤ s.heap.size ∧ L ≤ 260
theorem s_call2 (F : Fx2 p s m args c R D cA nL mi d C0 S0 G b sc L xs) (hM : MetOk l D b cA σ1 6) {ad : Nat → Nat} {δ : Dy} {pc x a : Nat} {As rs : List MV} {H : Heap} {locs : List Loc} {lsA : Array Slot} {ls : Ls} {μ : Mem} {K : QT}
    (hg : δ.1 ≤ G) (hok : ok2 (b, sc, ad) δ) (hf : (x, a) ∈ cltL) (hm : mVs.contains a = true) (hn : As.length + 1 = nM a) (hk1 : kM a = 1) (ho : oM a = 6) (hd : decode (bL mi) pc = .ok (.invokevirtual x, 3)) (h4 : lenC 6 rs) (hAs : allI As)
    (hc : Call σ1 6 a (.inr (.inr 0) :: As) μ K) (hP2 : va_P D vwCl (wl2 (b, sc, ad) cA δ μ) H) (hS : va_S (AA b) s.heap H locs) (hL : LQ (b, sc, ad) nL ls lsA)
    (kk : ∀ (v : Int) (μ' : Mem) (H1 : Heap) (locs1 : List Loc), K (.inl v) μ' → va_P D vwCl (wl b cA σ1 μ') H1 → va_P D vwCl (wlA (b, sc, ad) cA δ μ) H1 → va_S (AA b) s.heap H1 locs1 → W p l e R s m args below meth c H1 locs1 (C0 + δ.1) (S0 + 48 * δ.1) Qf (F0 m (pc + 3) lsA (.int (Int32.ofInt v) :: rs.map (tr2 (b, sc, ad))))) :
    W p l e R s m args below meth c H locs (C0 + δ.1) (S0 + 48 * δ.1) Qf (F0 m pc lsA (((As.map (tr b)).reverse) ++ .ref (b + 0) :: rs.map (tr2 (b, sc, ad)))) := by
  obtain ⟨ha, hns⟩ := mV_lt a hm
  obtain ⟨f1, f2, f3, f4, f5, f6, f7, f8, -⟩ := meth_f ha
  obtain ⟨hx, hbc, hml, hown, hts, hKN, ⟨hrf, hrl⟩, ⟨hcl, hsl⟩, hX, hsb, hbs, hL260⟩ := F
  obtain ⟨cl1, cl2, cl3, cl4⟩ := cls_ok (oM a) f7
  have hP := wl2_C hP2
  have h1 : 0 < σ1.1 := by decide
  have he : (wl b cA σ1 μ)[0]? = some (b + 0, .inr (oM a, (fks (oM a)).mapIdx (fun j f => fldV b σ1 μ 0 j f))) := by
    rw [wl_at h1, ho]
    rfl
  have hgood : GoodIn gWL (wsV RL x (yM a).cls (yM a) (wsM a)) := by
    intro w hw
    unfold wsV at hw
    rcases List.mem_append.mp hw with hw | hw
    · have hma : a ∈ mVs := List.contains_iff_mem.mp hm
      simp only [List.mem_cons, List.not_mem_nil, or_false] at hw
      have hw2 : w ∈ gWL := by
        rcases hw with rfl | rfl | rfl | rfl
        · exact la_gWL (in_gl1 _ (List.mem_map.mpr ⟨_, hf, rfl⟩))
        · exact gw_gWL (in_gCv2 _ (List.mem_map.mpr ⟨_, hma, rfl⟩))
        · exact gw_gWL (in_gCv3 _ (List.mem_map.mpr ⟨_, hma, rfl⟩))
        · rw [f1]; exact gw_gWL (ini_in f7)
      exact ⟨hw2, gWL_gd hw2⟩
    · exact wsM_gWL ha w hw
  have hlen : (As.map (tr b)).length = nM a - 1 := by rw [List.length_map]; omega
  have hsz : lsA.size = nL := hL.1
  have hrecv := va_recv hKN.1 hP (ci := oM a) (q0 := 0) cl1 he
  have hr := va_runV (p := p) (l := l) (e := e) (R := R) (s := s) (m := m) (args := args) (below := below) (meth := meth) (c := c) (H := H) (locs := locs) (cells := C0 + δ.1) (slots := S0 + 48 * δ.1) (g := F0 m pc lsA (((As.map (tr b)).reverse) ++ .ref (b + 0) :: rs.map (tr2 (b, sc, ad)))) (As := As.map (tr b)) (rest := rs.map (tr2 (b, sc, ad))) (C := (yM a).cls) (n := nM a - 1) ⟨hx, hbc, hml, hown, hts⟩ (hM a (.inr (.inr 0) :: As) μ K ha hc)
    (cwV (nM a - 1) hts hgood rfl rfl rfl ⟨rfl, f3, f4, by rw [f5, hns]; rfl⟩ ⟨by show 6 + 1 ≤ R.frames; omega, by show 8 + (lM a + 11) + 36 * 6 ≤ R.locals; omega⟩)
    ⟨frb _ μ, by rw [f1]; exact hrecv, fun U hU hW => ⟨rfl, (by unfold WdH; rw [hU]; exact hP), hKN.warm hW⟩⟩ rfl hlen hsz rfl (lv_room (Nat.le_trans (lenC_cat h4) (by omega))) hd ⟨by omega, by omega⟩
  unfold QcM at hr
  rw [if_neg (by omega), if_pos hk1] at hr
  refine va_calli hr hS (fun q _ h => h.1) (fun q h => h.1) (fun r u t H1 locs1 ht hvm hw hB hz1 hk2 hS1 => ?_)
  obtain ⟨rfl, hw⟩ := hw
  refine kk u.1 u.2 H1 locs1 hw (by rw [← ht]; exact hB.1) ?_ hS1
  refine (wl2_A hP2).kept (fun k q hq => ?_)
  obtain ⟨hk3, rfl⟩ := wlA_of hq
  refine hk2 _ ((wl2_A hP2) k _ hq).lt (fun hx2 => ?_)
  have h5 := (hok.1 k hk3).1
  have h6 : ad (510 + k) < b + 510 := hx2.2
  have h7 : b + 510 ≤ ad (510 + k) := h5
  omega
def Rets2 (p : Program) (l : Launch) (e : Env) (R : Room) (s : State) (m : MethodId) (args : Array Value) (below : List Frame) (meth : Method) (c : Code) (Qf : State → Prop) (D : va_G) (cA : Nat → ClassId) (mi C0 S0 G b sc : Nat) (ρ0 : AdT) (δ0 : Dy) (Q : QT) : Prop :=
  ∀ (δ : Dy) (μ : Mem) (ad : Nat → Nat) (H : Heap) (locs : List Loc) (lsA : Array Slot) (pc : Nat) (x : Int), δ.1 ≤ G → ok2 (b, sc, ad) δ → ext2 ρ0 δ0 (b, sc, ad) δ → va_P D vwCl (wl2 (b, sc, ad) cA δ μ) H → va_S (AA b) s.heap H locs →
    decode (bL mi) pc = .ok (.ireturn, 1) → (rL mi = some .int ∨ (rL mi = some .boolean ∧ (x = 0 ∨ x = 1))) → Q (.inl x) μ → W p l e R s m args below meth c H locs (C0 + δ.1) (S0 + 48 * δ.1) Qf (F0 m pc lsA [.int (Int32.ofInt x)])
theorem ckDL_of {pc : Nat} {i : Instr} (h : ckDL mi pc i = true) {n : Nat} (hn : ilenL i = n) : decode (bL mi) pc = .ok (i, n) := by
  unfold ckDL at h
  split at h
  · rename_i j n' hj
    simp only [Bool.and_eq_true, decide_eq_true_eq, beq_iff_eq] at h
    rw [hj, h.1, h.2, hn]
  · cases h
theorem rem_i {x z : Int} (hx : 0 ≤ x ∧ inR x) (hz : 0 < z ∧ inR z) : Int32.ofInt x - Int32.ofInt x / Int32.ofInt z * Int32.ofInt z = Int32.ofInt (x % z) := by
  have ex := inR_toInt hx.2
  have ez := inR_toInt hz.2
  have hq := lg_idiv_nonneg (x := Int32.ofInt x) (y := Int32.ofInt z) (by rw [ex]; exact hx.1) (by rw [ez]; exact hz.1)
  rw [ex, ez] at hq
  have e1 : Int32.ofInt x / Int32.ofInt z = Int32.ofInt (x / z) := by rw [← hq, Int32.ofInt_toInt]
  rw [e1, ← Int32.ofInt_mul, ← Int32.ofInt_sub, Int.emod_def, Int.mul_comm]
theorem div_i {x z : Int} (hx : 0 ≤ x ∧ inR x) (hz : 0 < z ∧ inR z) : Int32.ofInt x / Int32.ofInt z = Int32.ofInt (x / z) := by
  have ex := inR_toInt hx.2
  have ez := inR_toInt hz.2
  have hq := lg_idiv_nonneg (x := Int32.ofInt x) (y := Int32.ofInt z) (by rw [ex]; exact hx.1) (by rw [ez]; exact hz.1)
  rw [ex, ez] at hq
  rw [← hq, Int32.ofInt_toInt]
theorem nz_i {z : Int} (hz : 0 < z ∧ inR z) : ¬ Int32.ofInt z = 0 := fun q => by
  have : (Int32.ofInt z).toInt = 0 := by rw [q]; rfl
  rw [inR_toInt hz.2] at this
  omega
set_option maxHeartbeats 4000000 in
theorem stp2_s (F : Fx2 p s m args c R D cA nL mi d C0 S0 G b sc L xs) (hM : MetOk l D b cA σ1 6) (hM2 : MetOk2 l D cA L xs d) {Q : QT} (hret : Rets2 p l e R s m args below meth c Qf D cA mi C0 S0 G b sc ρ0 δ0 Q)
    {PP : Dy → PT} (hPP : PP = PS2 p l e R s m args below meth c Qf D cA nL C0 S0 G b sc ρ0 δ0) {pc np a b1 : Nat} {i : Instr} {k : Dy → Ls → List MV → Mem → Prop} (hD : ckDL mi pc i = true) (hC : ckIL mi pc i a b1 np = true)
    (hk : ∀ δ ls st μ, k δ ls st μ → PP δ np ls st μ) {δ : Dy} {ls : Ls} {st : List MV} {μ : Mem} (h : stp2 (yI xs) L G PP (Call2 (yI xs) L d) Q pc i a b1 k δ ls st μ) : PP δ pc ls st μ := by
  subst hPP
  have F' := F
  obtain ⟨hx, hb, hml, hown, hts, hKN, ⟨hrf, hrl⟩, ⟨hcl, hsl⟩, hX, hsb, hbs, hL260⟩ := F
  intro ad H locs lsA hg hok hex hP hS hL
  have hll := hL.2.2.1
  have hscz : sc < s.heap.size := by
    obtain ⟨scr, h1, -⟩ := hX
    exact (Array.getElem?_eq_some_iff.mp h1).1
  have hscA : ¬ AA b sc := fun q => by
    have : b ≤ sc := q
    omega
  cases i with
  | iconst n =>
    simp only [stp2] at h
    have hn := eq_of_beq (show (np == pc + 1) = true from hC); subst hn
    exact lv_iconst hx hb (ckDL_of hD rfl) rfl (hk _ _ _ _ h ad H locs lsA hg hok hex hP hS hL)
  | bipush n =>
    simp only [stp2] at h
    simp only [ckIL, Bool.and_eq_true, decide_eq_true_eq, beq_iff_eq] at hC
    obtain ⟨h1, hn⟩ := hC; subst hn
    exact lv_bipush hx hb (ckDL_of hD rfl) h1 (hk _ _ _ _ h ad H locs lsA hg hok hex hP hS hL)
  | sipush n =>
    simp only [stp2] at h
    simp only [ckIL, Bool.and_eq_true, decide_eq_true_eq, beq_iff_eq] at hC
    obtain ⟨h1, hn⟩ := hC; subst hn
    exact lv_sipush hx hb (ckDL_of hD rfl) h1 (hk _ _ _ _ h ad H locs lsA hg hok hex hP hS hL)
  | ldc n =>
    simp only [stp2] at h
    simp only [ckIL, Bool.and_eq_true, beq_iff_eq] at hC
    obtain ⟨h1, hn⟩ := hC; subst hn
    exact lv_ldc hx hb hown (hts _ (la_gWL (in_gl5 _ (List.mem_map.mpr ⟨_, List.contains_iff_mem.mp h1, rfl⟩)))) (ckDL_of hD rfl) (hk _ _ _ _ h ad H locs lsA hg hok hex hP hS hL)
  | iload n =>
    simp only [stp2] at h
    obtain ⟨x, e1, h⟩ := ldI_g h
    have hn := eq_of_beq (show (np == pc + 2) = true from hC); subst hn
    exact lv_iload hx hb (ckDL_of hD rfl) (hL.2.2.2 _ _ e1) (hk _ _ _ _ h ad H locs lsA hg hok hex hP hS hL)
  | iload_n n =>
    simp only [stp2] at h
    obtain ⟨x, e1, h⟩ := ldI_g h
    have hn := eq_of_beq (show (np == pc + 1) = true from hC); subst hn
    exact lv_iload_n hx hb (ckDL_of hD rfl) rfl (hL.2.2.2 _ _ e1) (hk _ _ _ _ h ad H locs lsA hg hok hex hP hS hL)
  | aload n =>
    simp only [stp2] at h
    obtain ⟨x, e1, h⟩ := ldR_g h
    have hn := eq_of_beq (show (np == pc + 2) = true from hC); subst hn
    exact lv_aload hx hb (ckDL_of hD rfl) (hL.2.2.2 _ _ e1) (hk _ _ _ _ h ad H locs lsA hg hok hex hP hS hL)
  | aload_n n =>
    simp only [stp2] at h
    obtain ⟨x, e1, h⟩ := ldR_g h
    have hn := eq_of_beq (show (np == pc + 1) = true from hC); subst hn
    exact lv_aload_n hx hb (ckDL_of hD rfl) rfl (hL.2.2.2 _ _ e1) (hk _ _ _ _ h ad H locs lsA hg hok hex hP hS hL)
  | istore n =>
    simp only [stp2] at h
    obtain ⟨x, r, rfl, hok2, h⟩ := p1_g h
    have hn := eq_of_beq (show (np == pc + 2) = true from hC); subst hn
    exact lv_istore hx hb (ckDL_of hD rfl) hL.has (hll ▸ okS_lt _ _ hok2) rfl (fun ls' hl' => hk _ _ _ _ h ad H locs ls' hg hok hex hP hS (LQ_st hok2 hll hl'))
  | istore_n n =>
    simp only [stp2] at h
    obtain ⟨x, r, rfl, hok2, h⟩ := p1_g h
    have hn := eq_of_beq (show (np == pc + 1) = true from hC); subst hn
    exact lv_istore_n hx hb (ckDL_of hD rfl) rfl hL.has (hll ▸ okS_lt _ _ hok2) rfl (fun ls' hl' => hk _ _ _ _ h ad H locs ls' hg hok hex hP hS (LQ_st hok2 hll hl'))
  | astore n =>
    simp only [stp2] at h
    obtain ⟨x, r, rfl, hok2, h⟩ := pR_g h
    have hn := eq_of_beq (show (np == pc + 2) = true from hC); subst hn
    exact lv_astore hx hb (ckDL_of hD rfl) hL.has (hll ▸ okS_lt _ _ hok2) rfl (fun ls' hl' => hk _ _ _ _ h ad H locs ls' hg hok hex hP hS (LQ_st (v := .inr (.inr x)) hok2 hll hl'))
  | astore_n n =>
    simp only [stp2] at h
    obtain ⟨x, r, rfl, hok2, h⟩ := pR_g h
    have hn := eq_of_beq (show (np == pc + 1) = true from hC); subst hn
    exact lv_astore_n hx hb (ckDL_of hD rfl) rfl hL.has (hll ▸ okS_lt _ _ hok2) rfl (fun ls' hl' => hk _ _ _ _ h ad H locs ls' hg hok hex hP hS (LQ_st (v := .inr (.inr x)) hok2 hll hl'))
  | iinc n dd =>
    simp only [stp2] at h
    obtain ⟨x, e1, hok2, h⟩ := ldI_g h
    have hn := eq_of_beq (show (np == pc + 3) = true from hC); subst hn
    obtain ⟨kk, hkk⟩ := List.getElem?_of_mem (lqk_mem (ρ := (b, sc, ad)) e1)
    exact lv_iinc (v := Int32.ofInt (x + dd)) hx hb (ckDL_of hD rfl) hL.has hkk (Int32.ofInt_add x dd).symm (hll ▸ okS_lt _ _ hok2) rfl (fun ls' hl' => hk _ _ _ _ h ad H locs ls' hg hok hex hP hS (LQ_st (v := .inl (x + dd)) hok2 hll hl'))
  | iadd =>
    simp only [stp2] at h
    obtain ⟨x, z, r, rfl, h⟩ := p2_g h
    have hn := eq_of_beq (show (np == pc + 1) = true from hC); subst hn
    refine lv_iadd hx hb (ckDL_of hD rfl) ?_
    rw [← Int32.ofInt_add]
    exact hk _ _ _ _ h ad H locs lsA hg hok hex hP hS hL
  | isub =>
    simp only [stp2] at h
    obtain ⟨x, z, r, rfl, h⟩ := p2_g h
    have hn := eq_of_beq (show (np == pc + 1) = true from hC); subst hn
    refine lv_isub hx hb (ckDL_of hD rfl) ?_
    rw [← Int32.ofInt_sub]
    exact hk _ _ _ _ h ad H locs lsA hg hok hex hP hS hL
  | imul =>
    simp only [stp2] at h
    obtain ⟨x, z, r, rfl, h⟩ := p2_g h
    have hn := eq_of_beq (show (np == pc + 1) = true from hC); subst hn
    refine lv_imul hx hb (ckDL_of hD rfl) ?_
    rw [← Int32.ofInt_mul]
    exact hk _ _ _ _ h ad H locs lsA hg hok hex hP hS hL
  | idiv =>
    simp only [stp2] at h
    obtain ⟨x, z, r, rfl, h1, h2, h⟩ := p2_g h
    have hn := eq_of_beq (show (np == pc + 1) = true from hC); subst hn
    refine lv_idiv hx hb (ckDL_of hD rfl) (nz_i h2) ?_
    rw [div_i h1 h2]
    exact hk _ _ _ _ h ad H locs lsA hg hok hex hP hS hL
  | irem =>
    simp only [stp2] at h
    obtain ⟨x, z, r, rfl, h1, h2, h⟩ := p2_g h
    have hn := eq_of_beq (show (np == pc + 1) = true from hC); subst hn
    refine lv_irem hx hb (ckDL_of hD rfl) (nz_i h2) ?_
    rw [rem_i h1 h2]
    exact hk _ _ _ _ h ad H locs lsA hg hok hex hP hS hL
  | iand =>
    simp only [stp2] at h
    obtain ⟨x, z, r, rfl, h⟩ := p2_g h
    have hn := eq_of_beq (show (np == pc + 1) = true from hC); subst hn
    refine lv_iand hx hb (ckDL_of hD rfl) ?_
    rw [← Int32.ofInt_toInt (Int32.ofInt x &&& Int32.ofInt z)]
    exact hk _ _ _ _ h ad H locs lsA hg hok hex hP hS hL
  | ior =>
    simp only [stp2] at h
    obtain ⟨x, z, r, rfl, h⟩ := p2_g h
    have hn := eq_of_beq (show (np == pc + 1) = true from hC); subst hn
    refine lv_ior hx hb (ckDL_of hD rfl) ?_
    rw [← Int32.ofInt_toInt (Int32.ofInt x ||| Int32.ofInt z)]
    exact hk _ _ _ _ h ad H locs lsA hg hok hex hP hS hL
  | ishl =>
    simp only [stp2] at h
    obtain ⟨x, z, r, rfl, h⟩ := p2_g h
    have hn := eq_of_beq (show (np == pc + 1) = true from hC); subst hn
    refine lv_ishl hx hb (ckDL_of hD rfl) ?_
    rw [← Int32.ofInt_toInt (Int32.ofInt x <<< (Int32.ofInt z &&& 31))]
    exact hk _ _ _ _ h ad H locs lsA hg hok hex hP hS hL
  | ishr =>
    simp only [stp2] at h
    obtain ⟨x, z, r, rfl, h⟩ := p2_g h
    have hn := eq_of_beq (show (np == pc + 1) = true from hC); subst hn
    refine lv_ishr hx hb (ckDL_of hD rfl) ?_
    rw [← Int32.ofInt_toInt (Int32.ofInt x >>> (Int32.ofInt z &&& 31))]
    exact hk _ _ _ _ h ad H locs lsA hg hok hex hP hS hL
  | pop =>
    simp only [stp2] at h
    obtain ⟨x, r, rfl, h⟩ := p1_g h
    have hn := eq_of_beq (show (np == pc + 1) = true from hC); subst hn
    exact lv_pop hx hb (ckDL_of hD rfl) rfl (hk _ _ _ _ h ad H locs lsA hg hok hex hP hS hL)
  | goto o =>
    simp only [stp2] at h
    simp only [ckIL, decide_eq_true_eq] at hC
    exact lv_goto hx hb (ckDL_of hD rfl) hC (h ad H locs lsA hg hok hex hP hS hL)
  | ifCond cc o =>
    simp only [stp2] at h
    obtain ⟨x, r, rfl, h⟩ := p1_g h
    simp only [ckIL, Bool.and_eq_true, decide_eq_true_eq, beq_iff_eq] at hC
    obtain ⟨h1, hn⟩ := hC; subst hn
    cases cc with
    | eq => have q := cEq_u h; exact lv_if_eq hx hb (ckDL_of hD rfl) h1 (fun z => q.1 z ad H locs lsA hg hok hex hP hS hL) (fun z => hk _ _ _ _ (q.2 z) ad H locs lsA hg hok hex hP hS hL)
    | ne => have q := cEq_u h; exact lv_if_ne hx hb (ckDL_of hD rfl) h1 (fun z => q.2 z ad H locs lsA hg hok hex hP hS hL) (fun z => hk _ _ _ _ (q.1 z) ad H locs lsA hg hok hex hP hS hL)
    | lt => have q := cLt_u h; exact lv_if_lt hx hb (ckDL_of hD rfl) h1 (fun z => q.1 z ad H locs lsA hg hok hex hP hS hL) (fun z => hk _ _ _ _ (q.2 z) ad H locs lsA hg hok hex hP hS hL)
    | ge => have q := cLt_v h; exact lv_if_ge hx hb (ckDL_of hD rfl) h1 (fun z => q.1 z ad H locs lsA hg hok hex hP hS hL) (fun z => hk _ _ _ _ (q.2 z) ad H locs lsA hg hok hex hP hS hL)
    | gt => have q := cLt_u h; exact lv_if_gt hx hb (ckDL_of hD rfl) h1 (fun z => q.1 z ad H locs lsA hg hok hex hP hS hL) (fun z => hk _ _ _ _ (q.2 z) ad H locs lsA hg hok hex hP hS hL)
    | le => have q := cLt_v h; exact lv_if_le hx hb (ckDL_of hD rfl) h1 (fun z => q.1 z ad H locs lsA hg hok hex hP hS hL) (fun z => hk _ _ _ _ (q.2 z) ad H locs lsA hg hok hex hP hS hL)
  | if_icmp cc o =>
    simp only [stp2] at h
    obtain ⟨x, y, r, rfl, h⟩ := p2_g h
    simp only [ckIL, Bool.and_eq_true, decide_eq_true_eq, beq_iff_eq] at hC
    obtain ⟨h1, hn⟩ := hC; subst hn
    cases cc with
    | eq => have q := cEq_u h; exact lv_icmp_eq hx hb (ckDL_of hD rfl) h1 (fun z => q.1 z ad H locs lsA hg hok hex hP hS hL) (fun z => hk _ _ _ _ (q.2 z) ad H locs lsA hg hok hex hP hS hL)
    | ne => have q := cEq_u h; exact lv_icmp_ne hx hb (ckDL_of hD rfl) h1 (fun z => q.2 z ad H locs lsA hg hok hex hP hS hL) (fun z => hk _ _ _ _ (q.1 z) ad H locs lsA hg hok hex hP hS hL)
    | lt => have q := cLt_u h; exact lv_icmp_lt hx hb (ckDL_of hD rfl) h1 (fun z => q.1 z ad H locs lsA hg hok hex hP hS hL) (fun z => hk _ _ _ _ (q.2 z) ad H locs lsA hg hok hex hP hS hL)
    | ge => have q := cLt_v h; exact lv_icmp_ge hx hb (ckDL_of hD rfl) h1 (fun z => q.1 z ad H locs lsA hg hok hex hP hS hL) (fun z => hk _ _ _ _ (q.2 z) ad H locs lsA hg hok hex hP hS hL)
    | gt => have q := cLt_u h; exact lv_icmp_gt hx hb (ckDL_of hD rfl) h1 (fun z => q.1 z ad H locs lsA hg hok hex hP hS hL) (fun z => hk _ _ _ _ (q.2 z) ad H locs lsA hg hok hex hP hS hL)
    | le => have q := cLt_v h; exact lv_icmp_le hx hb (ckDL_of hD rfl) h1 (fun z => q.1 z ad H locs lsA hg hok hex hP hS hL) (fun z => hk _ _ _ _ (q.2 z) ad H locs lsA hg hok hex hP hS hL)
  | arraylength =>
    simp only [stp2] at h
    obtain ⟨o, r, h0, ho, hq⟩ := pR_g h
    subst h0; subst ho
    have hn := eq_of_beq (show (np == pc + 1) = true from hC); subst hn
    refine va_slen hx hb hX hscz hscA hS (ckDL_of hD rfl) ?_
    rw [show Int32.ofNat L = Int32.ofInt (L : Int) from (Int32.ofInt_eq_ofNat).symm]
    exact hk _ _ _ _ hq ad H locs lsA hg hok hex hP hS hL
  | iaload =>
    simp only [stp2] at h
    obtain ⟨o, i, r, hst0, hq⟩ := pA_g h
    subst hst0
    have hn := eq_of_beq (show (np == pc + 1) = true from hC); subst hn
    by_cases ha : a = 1
    · rw [if_pos ha] at hq
      obtain ⟨rfl, h0, h1, hq⟩ := hq
      have hin : vp_in (Int32.ofInt i) L := by
        rw [vp_in_iff, inR_toInt ⟨by omega, by omega⟩]
        exact ⟨h0, h1⟩
      refine va_sld hx hb hX hscz hscA hS hin (ckDL_of hD rfl) ?_
      have ec : (Int32.ofInt i).toNatClampNeg = i.toNat := by
        show (Int32.ofInt i).toInt.toNat = _
        rw [inR_toInt ⟨by omega, by omega⟩]
      rw [ec, ← Int32.ofInt_toInt (xs i.toNat)]
      exact hk _ _ _ _ hq ad H locs lsA hg hok hex hP hS hL
    · rw [if_neg ha] at hq
      obtain ⟨⟨g1, g2⟩, h0, h1, hq⟩ := hq
      obtain ⟨j, rfl⟩ : ∃ j, o = 510 + j := ⟨o - 510, by omega⟩
      have hj : j < δ.2.1 := by omega
      have hlen := (hok.1 j hj).2
      have hv : (.ref (if (510 + j) = 1 then sc else if 510 + j < 510 then b + (510 + j) else ad (510 + j)) : Value) = .ref (ad (510 + j)) := by rw [if_neg (by omega), if_neg (by omega)]
      show W p l e R s m args below meth c H locs _ _ Qf (F0 m pc lsA (.int (Int32.ofInt i) :: .ref (if (510 + j) = 1 then sc else if 510 + j < 510 then b + (510 + j) else ad (510 + j)) :: r.map (tr2 (b, sc, ad))))
      rw [hv]
      refine va_iald hx hb hKN.1 hP (510 + j) 0 (wl2_at hj) rfl (in_i h0 h1 hlen) (ckDL_of hD rfl) ?_
      rw [clamp_i h0 h1 hlen]
      exact hk _ _ _ _ hq ad H locs lsA hg hok hex hP hS hL
  | iastore =>
    simp only [stp2] at h
    obtain ⟨o, i, v, r, rfl, ⟨g1, g2⟩, h0, h1, h⟩ := pAS_g h
    have hn := eq_of_beq (show (np == pc + 1) = true from hC); subst hn
    obtain ⟨j, rfl⟩ : ∃ j, o = 510 + j := ⟨o - 510, by omega⟩
    have hj : j < δ.2.1 := by omega
    have hlen := (hok.1 j hj).2
    have hv : (.ref (if (510 + j) = 1 then sc else if 510 + j < 510 then b + (510 + j) else ad (510 + j)) : Value) = .ref (ad (510 + j)) := by rw [if_neg (by omega), if_neg (by omega)]
    show W p l e R s m args below meth c H locs _ _ Qf (F0 m pc lsA (.int (Int32.ofInt v) :: .int (Int32.ofInt i) :: .ref (if (510 + j) = 1 then sc else if 510 + j < 510 then b + (510 + j) else ad (510 + j)) :: r.map (tr2 (b, sc, ad))))
    rw [hv]
    refine va_iast hx hb hKN.1 hP (wl2_D hok) hS (510 + j) 0 (wl2_at hj) rfl (in_i h0 h1 hlen) (ckDL_of hD rfl) (fun H1 locs1 q1 q2 q3 => ?_)
    rw [upd_ms (μ := μ) (o := 510 + j) h0 h1 hlen] at q1
    have q1 : va_P D vwCl ((wl2 (b, sc, ad) cA δ μ).set (510 + j) (ar2 (b, sc, ad) cA δ (ms μ (510 + j) i.toNat v) j)) H1 := q1
    rw [wl2_set hj rfl ms_ne] at q1
    exact hk _ _ _ _ h ad H1 locs1 lsA hg hok hex q1 q3 hL
  | newarray t =>
    cases t with
    | int =>
      simp only [stp2] at h
      obtain ⟨x, r, rfl, rfl, ⟨h0, h1, h2⟩, hno, h⟩ := p1_g h
      have hn := eq_of_beq (show (np == pc + 2) = true from hC); subst hn
      have hxr : inR x := ⟨by omega, by omega⟩
      refine va_newa (a0 := (x.toNat, .inl (fun _ => 0))) hx hb (hts _ (la_gWL (in_gl6 _ (List.mem_of_getElem? (i := 1) rfl)))) rfl hKN.1 hP (wl2_D hok) hS (fun q hq => Nat.le_trans hbs hq) (fun c1 => rfl) ?_ ?_ ?_ (by omega) ?_ (ckDL_of hD rfl) (fun q c1 H1 hK1 hP1 hD1 hS1 => ?_)
      · intro q
        rw [← i32_zero, i32_lt hxr ⟨by decide, by decide⟩] at q
        omega
      · show (Int32.ofInt x).toInt.toNat = _
        rw [inR_toInt hxr]
      · show x.toNat * 4 ≤ 536870912
        omega
      · omega
      · have hc1 : c1 = cA 0 := by
          have r1 := (hK1.2 5 (c1, FieldType.int) rfl).2
          exact RA_uL r1 (hKN.1.2 0 _ rfl).2
        subst hc1
        have hok' := ok2_push (N := x.toNat) hok (by omega) hD1
        rw [← wl2_push (N := x.toNat)] at hP1
        refine W.widen (k := C0 + (δ.1 + 1)) (n := S0 + 48 * (δ.1 + 1)) (by omega) (by omega) ?_
        have hex' : ext2 ρ0 δ0 (b, sc, upl ad (510 + δ.2.1) q) (δ.1 + 1, δ.2.1 + 1, upl δ.2.2 (510 + δ.2.1) x.toNat) := by
          obtain ⟨e1, e2, e3, e4⟩ := hex
          refine ⟨e1, e2, Nat.le_succ_of_le e3, fun i hi => ?_⟩
          obtain ⟨e5, e6⟩ := e4 i hi
          dsimp only at e5 e6 e3 ⊢
          rw [upl_o (by omega), upl_o (by omega)]
          exact ⟨e5, e6⟩
        have hv : (tr2 (b, sc, upl ad (510 + δ.2.1) q) (.inr (.inr (510 + δ.2.1)))) = .ref q := by
          show Value.ref _ = _
          dsimp only
          rw [if_neg (by omega), if_neg (by omega), upl_s]
        have hfin := hk _ _ _ _ h (upl ad (510 + δ.2.1) q) H1 locs lsA (by show δ.1 + 1 ≤ G; omega) hok' hex' hP1 hS1 (LQ_u hno hL)
        rw [List.map_cons, hv] at hfin
        exact hfin
    | _ => exact (h : False).elim
  | ireturn =>
    simp only [stp2] at h
    obtain ⟨x, r, rfl, rfl, hx1, h⟩ := p1_g h
    simp only [ckIL] at hC
    refine hret δ μ ad H locs lsA pc x hg hok hex hP hS (ckDL_of hD rfl) ?_ h
    by_cases h1 : a = 1
    · rw [if_pos h1] at hC
      exact Or.inr ⟨of_decide_eq_true hC, hx1 h1⟩
    · rw [if_neg h1] at hC
      exact Or.inl (of_decide_eq_true hC)
  | invokevirtual n =>
    simp only [stp2] at h
    obtain ⟨vs, r, h0, hvl, h4, hrc, hq⟩ := tk_g h
    subst h0
    simp only [ckIL, Bool.and_eq_true, beq_iff_eq] at hC
    obtain ⟨⟨⟨⟨⟨h1, h2⟩, h3⟩, h5⟩, h6⟩, hn⟩ := hC
    rcases vs with _ | ⟨v0, As⟩
    · exact (hrc : False).elim
    · rcases v0 with x0 | x0 | kk
      · exact (hrc : False).elim
      · exact (hrc : False).elim
      · obtain ⟨rfl, hAs⟩ := hrc
        have e : List.map (tr2 (b, sc, ad)) ((Sum.inr (Sum.inr 0) :: As).reverse ++ r) = ((As.map (tr b)).reverse) ++ .ref (b + 0) :: r.map (tr2 (b, sc, ad)) := by
          rw [List.reverse_cons, List.map_append, List.map_append, List.map_reverse, tr2_I (ρ := (b, sc, ad)) hAs, List.append_assoc]
          rfl
        rw [e]
        refine s_call2 (As := As) (rs := r) F' hM hg hok (List.contains_iff_mem.mp h1) h2 (by rw [← h3, ← hvl]; rfl) h5 h6 (ckDL_of hD rfl) h4 hAs hq hP hS hL (fun v μ' H1 locs1 hw q1 q2 q3 => ?_)
        obtain ⟨hfr, hw⟩ := hw
        refine hw ad H1 locs1 lsA hg hok hex ?_ q3 hL
        unfold wl2
        refine va_P.app q1 ?_
        have e3 : wlA (b, sc, ad) cA δ μ' = wlA (b, sc, ad) cA δ μ := by
          unfold wlA ar2
          refine List.map_congr_left (fun i _ => ?_)
          rw [hfr (510 + i) (by omega)]
        rw [e3]
        exact q2
  | invokestatic n =>
    simp only [stp2] at h
    obtain ⟨vs, r, rfl, hvl, h4, hG, hc⟩ := tk5_g h
    simp only [ckIL, Bool.and_eq_true, beq_iff_eq, decide_eq_true_eq] at hC
    obtain ⟨⟨⟨h1, ha⟩, h3⟩, hn⟩ := hC
    obtain ⟨f1, f2, f3, f4, f5, f6, f7⟩ := methL_f ha
    have hlen : (vs.map (tr2 (b, sc, ad))).length = nL2 a := by rw [List.length_map]; omega
    have hsz : lsA.size = nL := hL.1
    have hini : (Cond.initialized (yL a).cls).before args s = true := by rw [f1]; exact hts _ (la_gWL (in_gl6 _ (List.mem_of_getElem? (i := 0) rfl)))
    have hst : (Cond.static (yL a)).before args s = true := hts _ (la_gWL (in_gl3 _ (List.mem_map.mpr ⟨a, lt8 ha, rfl⟩)))
    have hl : (Cond.methodLink RL n (yL a)).before args s = true := hts _ (la_gWL (in_gl2 _ (List.mem_map.mpr ⟨_, List.contains_iff_mem.mp h1, rfl⟩)))
    rw [List.map_append, List.map_reverse]
    refine va_calli (va_runS (As := vs.map (tr2 (b, sc, ad))) (rest := r.map (tr2 (b, sc, ad))) (n := nL2 a) ⟨hx, hb, hml, hown, hts⟩ (hM2 (b, sc, ad) a vs δ μ _ ha hok hc)
      ⟨callB_of (nL2 a) hts (wsL_good ha) rfl rfl rfl hini hl ⟨f3, f4, f5⟩ ⟨by show 6 + d + 1 ≤ R.frames; omega, by show 8 + (lL a + 11) + (216 + 36 * d) ≤ R.locals; omega⟩, hst⟩
      ⟨frb2 _ μ, fun U hU hW => ⟨rfl, by rw [hU]; exact hP, hKN.warm hW, va_X.moved hW.alike (by rw [hU]; exact hX.kept (hS.2.1 sc hscz hscA)), hsb⟩⟩ rfl hlen hsz rfl (lv_room (Nat.le_trans (lenC_cat h4) (by omega))) (ckDL_of hD rfl) ⟨by omega, by omega⟩) hS (fun q _ h => h) (fun q h => h) (fun r1 u t H1 locs1 ht hvm hw hB hz1 hk2 hS1 => ?_)
    obtain ⟨rfl, hw⟩ := hw
    refine W.cs (cells' := C0 + (δ.1 + mcL a)) (slots' := S0 + 48 * (δ.1 + mcL a)) (by omega) (by omega) ?_
    exact hw ad H1 locs1 lsA hG hok hex (by rw [← ht]; exact hB.1) hS1 hL
  | _ => exact (h : False).elim
end SL
