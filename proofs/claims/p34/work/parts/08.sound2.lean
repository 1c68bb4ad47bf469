section SN2
variable {p : Program} {l : Launch} {e : Env} {R : Room} {s : State} {m : MethodId} {args : Array Value} {below : List Frame} {meth : Method} {c : Code} {cells slots : Nat} {Qf : State → Prop} {D : va_G} {base : Nat} {cA : Nat → ClassId} {σ : Sg} {nL mi d : Nat} {A : Nat → Prop}
theorem frb (vs : List MV) (μ : Mem) : FrameBlind (va_Pc (vs.map (tr base)) (Wd D base cA σ μ)) := fun a U g mk h => ⟨h.1, h.2.1, WdK.moved (u := U) (U := U.calling g mk a) rfl h.2.2⟩
/-- what comes behind a call -/
theorem s_back {pc : Nat} {a : Nat} {H : Heap} {locs : List Loc} {lsA : Array Slot} {ls : Ls} {as : Array Value} {st0 : List Value} {rs : List MV} {PP : PT}
    (hPP : PP = PS p l e R s m args below meth c cells slots Qf D base cA σ nL A)
    (hr : va_Run p l e R s m args below meth c H locs cells slots 0 0 (F0 m pc lsA st0) (rs.map (tr base)) (QcM D base cA σ a (fun v μ' => PP (pc + 3) ls (psh (kM a) v rs) μ') as) (AC base σ))
    (hk : kM a < 3) (hA : ∀ q, AC base σ q → A q) (hS : va_S A s.heap H locs) (hL : LR base nL ls lsA) : W p l e R s m args below meth c H locs cells slots Qf (F0 m pc lsA st0) := by
  subst hPP
  unfold QcM at hr
  rcases (show kM a = 0 ∨ kM a = 1 ∨ kM a = 2 by omega) with h0 | h0 | h0
  · rw [if_pos h0] at hr
    refine va_callv hr hS (fun q _ h => hA q h) (fun q h => hA q h) (fun u t H1 locs1 ht hvm hw hB hz1 hk1 hS1 => ?_)
    have := hw H1 locs1 lsA (by rw [← ht]; exact hB.1) hS1 hL
    unfold psh at this
    rw [if_pos h0] at this
    exact this
  · rw [if_neg (by omega), if_pos h0] at hr
    refine va_calli hr hS (fun q _ h => hA q h) (fun q h => hA q h) (fun r u t H1 locs1 ht hvm hw hB hz1 hk1 hS1 => ?_)
    obtain ⟨rfl, hw⟩ := hw
    have := hw H1 locs1 lsA (by rw [← ht]; exact hB.1) hS1 hL
    unfold psh at this
    rw [if_neg (by omega)] at this
    exact this
  · rw [if_neg (by omega), if_neg (by omega)] at hr
    refine va_callr hr hS (fun q _ h => hA q h) (fun q h => hA q h) (fun u ra t H1 locs1 ht hvm hw hB hz1 hk1 hS1 => ?_)
    obtain ⟨rfl, hB⟩ := hB
    have := hw H1 locs1 lsA (by rw [← ht]; exact hB.1) hS1 hL
    unfold psh at this
    rw [if_neg (by omega)] at this
    exact this
theorem meth_f {a : Nat} (h : a < 70) : (yM a).cls = RX (oM a) ∧ plainName (yM a).cls = true ∧ (yM a).cls ≠ "java/lang/invoke/MethodHandle" ∧ (yM a).cls ≠ "java/lang/invoke/VarHandle" ∧ (parseMethodDescriptor (yM a).desc).map (fun d => d.parameters.length) = some (if mSs.contains a then nM a else nM a - 1) ∧ lM a ≤ 17 ∧ oM a < 7 ∧ kM a < 3 ∧ (kM a = 0 → rM a = none) ∧ (kM a = 1 → rM a = some .int ∨ rM a = some .boolean ∨ rM a = some .char) ∧ (kM a = 2 → rM a = some (.object RX1)) := by
  have q := meth_at h
  unfold ckMeth at q
  simp only [Bool.and_eq_true, decide_eq_true_eq] at q
  obtain ⟨⟨⟨⟨⟨⟨⟨q1, q2⟩, q3⟩, q4⟩, q5⟩, q6⟩, q7⟩, q8⟩ := q
  have hk3 : kM a < 3 := by
    have : (List.range 70).all (fun a => decide (kM a < 3)) = true := by decide +kernel
    exact of_decide_eq_true (List.all_eq_true.mp this a (List.mem_range.mpr h))
  refine ⟨q1, q2, q3, q4, q5, q6, q7, hk3, fun z => ?_, fun z => ?_, fun z => ?_⟩
  · rw [if_pos z] at q8; exact of_decide_eq_true q8
  · rw [if_neg (by omega), if_pos z] at q8
    simp only [Bool.or_eq_true, decide_eq_true_eq] at q8
    rcases q8 with (q | q) | q
    · exact Or.inl q
    · exact Or.inr (Or.inl q)
    · exact Or.inr (Or.inr q)
  · rw [if_neg (by omega), if_neg (by omega)] at q8; exact of_decide_eq_true q8
theorem mV_lt : ∀ a, mVs.contains a = true → a < 70 ∧ mSs.contains a = false := by
  have h : mVs.all (fun a => decide (a < 70) && !mSs.contains a) = true := by decide +kernel
  intro a ha
  have := List.all_eq_true.mp h a (List.contains_iff_mem.mp ha)
  simp only [Bool.and_eq_true, decide_eq_true_eq, Bool.not_eq_true'] at this
  exact this
theorem mS_lt : ∀ a, mSs.contains a = true → a < 70 := by
  have h : mSs.all (fun a => decide (a < 70)) = true := by decide +kernel
  intro a ha
  exact of_decide_eq_true (List.all_eq_true.mp h a (List.contains_iff_mem.mp ha))
theorem s_callV (F : Fx p s m args c cells slots R D base cA nL mi d σ A) (hM : MetOk l D base cA σ d) {pc x a k : Nat} {As rs : List MV} {H : Heap} {locs : List Loc} {lsA : Array Slot} {ls : Ls} {μ : Mem} {PP : PT}
    (hPP : PP = PS p l e R s m args below meth c cells slots Qf D base cA σ nL A)
    (hf : (oM mi, x, a) ∈ cltV) (hm : mVs.contains a = true) (hn : As.length + 1 = nM a) (hd : decode (bM mi) pc = .ok (.invokevirtual x, 3)) (h4 : len4 rs) (hk : (shp σ k).1 = oM a)
    (hc : Call σ d a (.inr (.inr k) :: As) μ (fun v μ' => PP (pc + 3) ls (psh (kM a) v rs) μ'))
    (hP : va_P D vwCl (wl base cA σ μ) H) (hS : va_S A s.heap H locs) (hL : LR base nL ls lsA) :
    W p l e R s m args below meth c H locs cells slots Qf (F0 m pc lsA (((As.map (tr base)).reverse) ++ .ref (base + k) :: rs.map (tr base))) := by
  obtain ⟨ha, hns⟩ := mV_lt a hm
  obtain ⟨f1, f2, f3, f4, f5, f6, f7, f8, -⟩ := meth_f ha
  obtain ⟨hx, hbc, hml, hown, hts, hKN, hrf, hrl, hcl, hsl, hA⟩ := F
  obtain ⟨cl1, cl2, cl3, cl4⟩ := cls_ok (oM a) f7
  obtain ⟨h1, h2, h3⟩ := shp_of hk (by omega)
  have he : (wl base cA σ μ)[k]? = some (base + k, .inr (oM a, (fks (oM a)).mapIdx (fun j f => fldV base σ μ k j f))) := by
    rw [wl_at h1]
    unfold ent entV
    rw [h2, if_neg (by omega), if_neg (by omega), if_neg (by omega), if_neg (by omega), if_neg (by omega), if_neg (by omega)]
  have hgood : GoodIn (wsM mi) (wsV (RX (oM mi)) x (yM a).cls (yM a) (wsM a)) := by
    intro w hw
    unfold wsV at hw
    rcases List.mem_append.mp hw with hw | hw
    · have : w ∈ gW := by
        have hma : a ∈ mVs := List.contains_iff_mem.mp hm
        simp only [List.mem_cons, List.not_mem_nil, or_false] at hw
        rcases hw with rfl | rfl | rfl | rfl
        · exact in_gCv1 _ (List.mem_map.mpr ⟨_, hf, rfl⟩)
        · exact in_gCv2 _ (List.mem_map.mpr ⟨_, hma, rfl⟩)
        · exact in_gCv3 _ (List.mem_map.mpr ⟨_, hma, rfl⟩)
        · rw [f1]; exact ini_in f7
      exact ⟨in_gW_ws this, gW_gd this⟩
    · exact ws_good ha w hw
  have hlen : (As.map (tr base)).length = nM a - 1 := by rw [List.length_map]; omega
  have hsz : lsA.size = nL := hL.1
  refine s_back (a := a) (rs := rs) (ls := ls) hPP (va_runV (As := As.map (tr base)) (rest := rs.map (tr base)) (C := (yM a).cls) (n := nM a - 1) ⟨hx, hbc, hml, hown, hts⟩ (hM a (.inr (.inr k) :: As) μ _ ha hc)
    (cwV (nM a - 1) hts hgood rfl rfl rfl ⟨rfl, f3, f4, by rw [f5, hns]; rfl⟩ ⟨hrf, by show 8 + (lM a + 11) + 36 * d ≤ R.locals; omega⟩)
    ⟨frb _ μ, ?_, fun U hU hW => ⟨rfl, (by unfold WdH; rw [hU]; exact hP), hKN.warm hW⟩⟩ rfl hlen hsz rfl (lv_room (len4_cat h4)) hd ⟨hcl, hsl⟩) f8 hA hS hL
  have := va_recv hKN.1 hP (ci := oM a) (q0 := k) cl1 he
  rw [f1]
  exact this
theorem s_callS (F : Fx p s m args c cells slots R D base cA nL mi d σ A) (hM : MetOk l D base cA σ d) {pc x a : Nat} {As rs : List MV} {H : Heap} {locs : List Loc} {lsA : Array Slot} {ls : Ls} {μ : Mem} {PP : PT}
    (hPP : PP = PS p l e R s m args below meth c cells slots Qf D base cA σ nL A)
    (hf : (oM mi, x, a) ∈ cltS ∨ (oM mi, x, a) ∈ cltN) (hm : mSs.contains a = true) (hn : As.length = nM a) (hd : decode (bM mi) pc = .ok (.invokestatic x, 3)) (h4 : len4 rs)
    (hc : Call σ d a As μ (fun v μ' => PP (pc + 3) ls (psh (kM a) v rs) μ'))
    (hP : va_P D vwCl (wl base cA σ μ) H) (hS : va_S A s.heap H locs) (hL : LR base nL ls lsA) :
    W p l e R s m args below meth c H locs cells slots Qf (F0 m pc lsA (((As.map (tr base)).reverse) ++ rs.map (tr base))) := by
  have ha := mS_lt a hm
  obtain ⟨f1, f2, f3, f4, f5, f6, f7, f8, -⟩ := meth_f ha
  obtain ⟨hx, hbc, hml, hown, hts, hKN, hrf, hrl, hcl, hsl, hA⟩ := F
  have hlen : (As.map (tr base)).length = nM a := by rw [List.length_map]; omega
  have hsz : lsA.size = nL := hL.1
  have hini : (Cond.initialized (yM a).cls).before args s = true := by rw [f1]; exact hts _ (in_gW_ws (ini_in f7))
  have hst : (Cond.static (yM a)).before args s = true := hts _ (in_gW_ws (in_gCs2 _ (List.mem_map.mpr ⟨a, List.contains_iff_mem.mp hm, rfl⟩)))
  have hpar : (parseMethodDescriptor (yM a).desc).map (fun d => d.parameters.length) = some (nM a) := by rw [f5, hm]; rfl
  have hroom : (rmD d).frames + 1 ≤ R.frames ∧ 8 + (lM a + 11) + (rmD d).locals ≤ R.locals := ⟨hrf, by show 8 + (lM a + 11) + 36 * d ≤ R.locals; omega⟩
  rcases hf with hf | hf
  · have hl : (Cond.methodLink (RX (oM mi)) x (yM a)).before args s = true := hts _ (in_gW_ws (in_gCs1 _ (List.mem_map.mpr ⟨_, hf, rfl⟩)))
    exact s_back (a := a) (rs := rs) (ls := ls) hPP (va_runS (As := As.map (tr base)) (rest := rs.map (tr base)) (n := nM a) ⟨hx, hbc, hml, hown, hts⟩ (hM a As μ _ ha hc)
      ⟨callB_of (nM a) hts (ws_good ha) rfl rfl rfl hini hl ⟨f3, f4, hpar⟩ hroom, hst⟩
      ⟨frb _ μ, fun U hU hW => ⟨rfl, (by unfold WdH; rw [hU]; exact hP), hKN.warm hW⟩⟩ rfl hlen hsz rfl (lv_room (len4_cat h4)) hd ⟨hcl, hsl⟩) f8 hA hS hL
  · have hl : va_Nw (.methodLinkNest (RX (oM mi)) x (yM a) RX6) s := hKN.2 _ (List.mem_map.mpr ⟨_, hf, rfl⟩)
    exact s_back (a := a) (rs := rs) (ls := ls) hPP (va_runSN (As := As.map (tr base)) (rest := rs.map (tr base)) (n := nM a) ⟨hx, hbc, hml, hown, hts⟩ (hM a As μ _ ha hc)
      ⟨va_cnB (nM a) hts (ws_good ha) rfl rfl rfl hl hini ⟨f3, f4, hpar⟩ hroom, hst, trivial⟩
      ⟨frb _ μ, fun U hU hW => ⟨rfl, (by unfold WdH; rw [hU]; exact hP), hKN.warm hW⟩⟩ rfl hlen hsz rfl (lv_room (len4_cat h4)) hd ⟨hcl, hsl⟩) f8 hA hS hL
theorem min_i {x y : Int} (hx : inR x) (hy : inR y) : (if Int32.ofInt y < Int32.ofInt x then Int32.ofInt y else Int32.ofInt x) = Int32.ofInt (if y < x then y else x) := by
  by_cases h : y < x
  · rw [if_pos h, if_pos ((i32_lt hy hx).mpr h)]
  · rw [if_neg h, if_neg (fun q => h ((i32_lt hy hx).mp q))]
theorem max_i {x y : Int} (hx : inR x) (hy : inR y) : (if Int32.ofInt x < Int32.ofInt y then Int32.ofInt y else Int32.ofInt x) = Int32.ofInt (if x < y then y else x) := by
  by_cases h : x < y
  · rw [if_pos h, if_pos ((i32_lt hx hy).mpr h)]
  · rw [if_neg h, if_neg (fun q => h ((i32_lt hx hy).mp q))]
theorem i32_zero : Int32.ofInt 0 = 0 := rfl
theorem abs_i {x : Int} (hx : inR x) : (if 0 ≤ Int32.ofInt x then Int32.ofInt x else 0 - Int32.ofInt x) = Int32.ofInt (if 0 ≤ x then x else 0 - x) := by
  have h0 : inR 0 := ⟨by decide, by decide⟩
  by_cases h : 0 ≤ x
  · rw [if_pos h, if_pos (by have := (i32_le h0 hx).mpr h; rw [i32_zero] at this; exact this)]
  · rw [if_neg h, if_neg (fun q => h ((i32_le h0 hx).mp (by rw [i32_zero]; exact q))), Int32.ofInt_sub, i32_zero]
end SN2
