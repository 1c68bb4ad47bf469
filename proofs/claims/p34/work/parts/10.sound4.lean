section SN4
variable {p : Program} {l : Launch} {e : Env} {R : Room} {s : State} {m : MethodId} {args : Array Value} {below : List Frame} {meth : Method} {c : Code} {cells slots : Nat} {Qf : State → Prop} {D : va_G} {base : Nat} {cA : Nat → ClassId} {σ : Sg} {nL mi d : Nat} {A : Nat → Prop}
theorem seg_s (F : Fx p s m args c cells slots R D base cA nL mi d σ A) (hM : MetOk l D base cA σ d) {Q : QT} (hret : Rets p l e R s m args below meth c cells slots Qf D base cA σ mi Q A)
    {PP : PT} (hPP : PP = PS p l e R s m args below meth c cells slots Qf D base cA σ nL A) {nx : Nat} : ∀ {L : List Ent}, ckL mi L nx = true → ∀ {ls : Ls} {st : List MV} {μ : Mem}, seg σ PP (Call σ d) Q L nx ls st μ → PP (hpc L nx) ls st μ
  | [], _, _, _, _, h => h
  | (pc, i, a, b, c1, e1) :: r, hc, _, _, _, h => by
    simp only [ckL, Bool.and_eq_true] at hc
    exact stp_s F hM hret hPP hc.1.1 hc.1.2 (fun _ _ _ h => seg_s F hM hret hPP hc.2 h) h
theorem wp_s (F : Fx p s m args c cells slots R D base cA nL mi d σ A) (hM : MetOk l D base cA σ d) {Q : QT} (hret : Rets p l e R s m args below meth c cells slots Qf D base cA σ mi Q A) (hmi : mi < 70)
    {pc : Nat} {ls : Ls} {st : List MV} {μ : Mem} (h : wp σ (Call σ d) mi Q pc ls st μ) : PS p l e R s m args below meth c cells slots Qf D base cA σ nL A pc ls st μ := by
  refine h.2 _ (fun pc L nx ls st μ hb hs => ?_)
  unfold blk at hb
  cases hf : (bkOf mi).find? (fun b => b.1 == pc) with
  | none => rw [hf] at hb; cases hb
  | some q =>
    rw [hf] at hb
    have hq := List.mem_of_find?_eq_some hf
    have hp : q.1 = pc := by
      have := List.find?_some hf
      exact eq_of_beq this
    have e : q.2 = (L, nx) := Option.some.inj hb
    have hc := List.all_eq_true.mp (show (bkOf mi).all _ = true from ck_all mi hmi) q hq
    simp only [Bool.and_eq_true, beq_iff_eq, e] at hc
    have := seg_s F hM hret rfl hc.1 hs
    rw [hc.2, hp] at this
    exact this
theorem lg1 {v : Value} (h : v.category = 1) (t : List Value) : lg_sl (v :: t) = .val v :: lg_sl t := by simp [lg_sl, List.flatMap_cons, h]
theorem lg2 {v : Value} (h : v.category = 2) (t : List Value) : lg_sl (v :: t) = .val v :: .second :: lg_sl t := by simp [lg_sl, List.flatMap_cons, h]
theorem argL_sl : ∀ (vs : List MV), (lg_sl (vs.map (tr base))).length = (argL vs).length ∧ ∀ (i : Nat) (v : MV), (argL vs)[i]? = some (some v) → (lg_sl (vs.map (tr base)))[i]? = some (.val (tr base v))
  | [] => ⟨rfl, fun i v h => by simp [argL] at h⟩
  | a :: t => by
    have ih := argL_sl t
    have one : (tr base a).category = 1 → argL (a :: t) = some a :: argL t → (lg_sl ((a :: t).map (tr base))).length = (argL (a :: t)).length ∧ ∀ (i : Nat) (v : MV), (argL (a :: t))[i]? = some (some v) → (lg_sl ((a :: t).map (tr base)))[i]? = some (.val (tr base v)) := by
      intro h1 h2
      rw [h2, List.map_cons, lg1 h1]
      refine ⟨by rw [List.length_cons, List.length_cons, ih.1], fun i v h => ?_⟩
      cases i with
      | zero =>
        have e : a = v := by simpa using h
        rw [e]; rfl
      | succ i => simpa using ih.2 i v (by simpa using h)
    rcases a with x | x | k
    · exact one rfl rfl
    · have h2 : argL (Sum.inr (Sum.inl x) :: t) = some (Sum.inr (Sum.inl x)) :: none :: argL t := rfl
      rw [h2, List.map_cons, lg2 (v := tr base (Sum.inr (Sum.inl x))) rfl]
      refine ⟨by rw [List.length_cons, List.length_cons, List.length_cons, List.length_cons, ih.1], fun i v h => ?_⟩
      match i, h with
      | 0, h =>
        have e : Sum.inr (Sum.inl x) = v := by simpa using h
        rw [← e]; rfl
      | 1, h => simp at h
      | i + 2, h => simpa using ih.2 i v (by simpa using h)
    · exact one rfl rfl
theorem met_ok (l : Launch) (D : va_G) (base : Nat) (cA : Nat → ClassId) (σ : Sg) : ∀ d : Nat, MetOk l D base cA σ d
  | 0, _, _, _, _, _, h => h.elim
  | d + 1, mi, vs, μ, Q, hmi, h => by
    have hM := met_ok l D base cA σ d
    obtain ⟨h1, h2, h3⟩ := h
    obtain ⟨f1, f2, f3, f4, f5, f6, f7, f8, f9, f10, f11⟩ := meth_f hmi
    refine Met.ofW (cc := bM mi) (maxL := lM mi) (ret := rM mi) f2 rfl ?_
    intro p e s m args below meth c s₁ B hml hv
    obtain ⟨rfl, hP, hKN⟩ := hv
    have hx := B.exec
    have hb := B.bytes
    have hr := B.returns
    have hts := atoms_spec (ws := wsM mi) B.pre
    have hown : s.vm.findClass (RX (oM mi)) = some m.cls := by rw [← f1]; exact findClass_of_methodNamed B.named
    have hlocks := B.notSynchronized
    have F : Fx p s m (vs.map (tr base)).toArray c 0 0 (headSpec (wsM mi) (rmD (d + 1))).room D base cA (lM mi) mi d σ (AC base σ) := ⟨hx, hb, hml, hown, hts, hKN, Nat.le_refl _, Nat.le_refl _, Nat.le_refl _, Nat.le_refl _, fun _ h => h⟩
    have hret : Rets p l e (headSpec (wsM mi) (rmD (d + 1))).room s m (vs.map (tr base)).toArray below meth c 0 0 (MQ below (QcM D base cA σ mi Q) (vs.map (tr base)).toArray s 0 0 (AC base σ)) D base cA σ mi Q (AC base σ) := by
      intro ν H locs lsA pc hP2 hS
      refine ⟨fun hd hn hq => ?_, fun x hd hn hq => ?_, fun x hd hn hq => ?_⟩
      · have hk : kM mi = 0 := by
          rcases (show kM mi = 0 ∨ kM mi = 1 ∨ kM mi = 2 by omega) with h0 | h0 | h0
          · exact h0
          · rcases f10 h0 with q | q | q <;> rw [hn] at q <;> cases q
          · have := f11 h0; rw [hn] at this; cases this
        refine W.vret hx hb (hr.trans hn) (fun t ht hW => ?_) hS.2.2 hd
        unfold QcM
        rw [if_pos hk]
        exact ⟨⟨ν, rfl, hq, by unfold WdH; rw [ht]; exact hP2, hKN.warm hW⟩, hS.F ht⟩
      · have hk : kM mi = 2 := by
          rcases (show kM mi = 0 ∨ kM mi = 1 ∨ kM mi = 2 by omega) with h0 | h0 | h0
          · have := f9 h0; rw [hn] at this; cases this
          · rcases f10 h0 with q | q | q <;> rw [hn] at q <;> cases q
          · exact h0
        refine W.aret hx hb (hr.trans hn) (Or.inl ⟨_, rfl⟩) (Or.inr ⟨_, rfl⟩) (fun t ht hW => ?_) hS.2.2 hd
        unfold QcM
        rw [if_neg (by omega), if_neg (by omega)]
        exact ⟨⟨(x, ν), base + x, rfl, hq, rfl, by unfold WdH; rw [ht]; exact hP2, hKN.warm hW⟩, hS.F ht⟩
      · have hk : kM mi = 1 := by
          rcases (show kM mi = 0 ∨ kM mi = 1 ∨ kM mi = 2 by omega) with h0 | h0 | h0
          · have := f9 h0
            rcases hn with q | ⟨q, -⟩ | ⟨q, -⟩ <;> rw [this] at q <;> cases q
          · exact h0
          · have := f11 h0
            rcases hn with q | ⟨q, -⟩ | ⟨q, -⟩ <;> rw [this] at q <;> cases q
        have fin : ∀ t : State, t.heap = H → s.WarmedH t.vm → QcM D base cA σ mi Q (vs.map (tr base)).toArray s (.returned (some (.int (Int32.ofInt x)))) t := by
          intro t ht hW
          unfold QcM
          rw [if_neg (by omega), if_pos hk]
          exact ⟨⟨Int32.ofInt x, (x, ν), rfl, ⟨rfl, hq⟩, by unfold WdH; rw [ht]; exact hP2, hKN.warm hW⟩, hS.F ht⟩
        rcases hn with hn | ⟨hn, h0⟩ | ⟨hn, h0⟩
        · exact W.iret hx hb (hr.trans hn) fin hS.2.2 hd
        · exact W.zret hx hb (hr.trans hn) (by rcases h0 with rfl | rfl <;> rfl) fin hS.2.2 hd
        · refine W.zret hx hb (hr.trans hn) ?_ fin hS.2.2 hd
          obtain ⟨n, rfl⟩ : ∃ n : Nat, x = (n : Int) := ⟨x.toNat, by omega⟩
          have hn2 : n < 65536 := by omega
          have e : Int32.ofInt (n : Int) = nI n := by unfold nI; exact (Int32.ofInt_eq_ofNat).symm ▸ rfl
          rw [e]
          exact (pk_charN hn2).1
    have hle := lv_entry (vs.map (tr base)) (n := lM mi) (by rw [(argL_sl (base := base) vs).1]; exact h2)
    rw [lg_entry_eq]
    refine wp_s F hM hret hmi h3 s.heap [] _ hP va_S.rf ⟨hle.1, hle.2.1, ?_, fun i v hi => ?_⟩
    · unfold iniL
      rw [List.length_append, List.length_replicate]
      omega
    · unfold iniL at hi
      have hlt : i < (argL vs).length := by
        rcases Nat.lt_or_ge i (argL vs).length with q | q
        · exact q
        · rw [List.getElem?_append_right q] at hi
          rw [List.getElem?_replicate] at hi
          split at hi
          · cases hi
          · cases hi
      rw [List.getElem?_append_left hlt] at hi
      have q := (argL_sl (base := base) vs).2 i v hi
      show ((lg_sl (vs.map (tr base))) ++ _).toArray[i]? = _
      rw [List.getElem?_toArray, List.getElem?_append_left (by rw [(argL_sl (base := base) vs).1]; exact hlt)]
      exact q
end SN4
