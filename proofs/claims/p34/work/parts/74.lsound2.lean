section SL2
variable {p : Program} {l : Launch} {e : Env} {R : Room} {s : State} {m : MethodId} {args : Array Value} {below : List Frame} {meth : Method} {c : Code} {Qf : State → Prop} {D : va_G} {cA : Nat → ClassId} {b sc nL mi d C0 S0 L G : Nat} {xs : Nat → Int32} {ρ0 : AdT} {δ0 : Dy}
theorem seg2_s (F : Fx2 p s m args c R D cA nL mi d C0 S0 G b sc L xs) (hM : MetOk l D b cA σ1 6) (hM2 : MetOk2 l D cA L xs d) {Q : QT} (hret : Rets2 p l e R s m args below meth c Qf D cA mi C0 S0 G b sc ρ0 δ0 Q)
    {PP : Dy → PT} (hPP : PP = PS2 p l e R s m args below meth c Qf D cA nL C0 S0 G b sc ρ0 δ0) {nx : Nat} : ∀ {X : List Ent}, ckLL mi X nx = true → ∀ {δ : Dy} {ls : Ls} {st : List MV} {μ : Mem}, seg2 (yI xs) L G PP (Call2 (yI xs) L d) Q X nx δ ls st μ → PP δ (hpc X nx) ls st μ
  | [], _, _, _, _, _, h => h
  | (pc, i, a, b1, c1, e1) :: r, hc, _, _, _, _, h => by
    simp only [ckLL, Bool.and_eq_true] at hc
    exact stp2_s F hM hM2 hret hPP hc.1.1 hc.1.2 (fun _ _ _ _ h => seg2_s F hM hM2 hret hPP hc.2 h) h
theorem wp2_s (F : Fx2 p s m args c R D cA nL mi d C0 S0 G b sc L xs) (hM : MetOk l D b cA σ1 6) (hM2 : MetOk2 l D cA L xs d) {Q : QT} (hret : Rets2 p l e R s m args below meth c Qf D cA mi C0 S0 G b sc ρ0 δ0 Q) (hmi : mi < 9)
    {δ : Dy} {pc : Nat} {ls : Ls} {st : List MV} {μ : Mem} (h : wp2 (yI xs) L G (Call2 (yI xs) L d) mi Q δ pc ls st μ) : PS2 p l e R s m args below meth c Qf D cA nL C0 S0 G b sc ρ0 δ0 δ pc ls st μ := by
  refine h.2 _ (fun pc X nx δ ls st μ hb hs => ?_)
  unfold blkL at hb
  cases hf : (bvOf mi).find? (fun b => b.1 == pc) with
  | none => rw [hf] at hb; cases hb
  | some q =>
    rw [hf] at hb
    have hq := List.mem_of_find?_eq_some hf
    have hp : q.1 = pc := by
      have := List.find?_some hf
      exact eq_of_beq this
    have e : q.2 = (X, nx) := Option.some.inj hb
    have hc := List.all_eq_true.mp (show (bvOf mi).all _ = true from ckl_all mi hmi) q hq
    simp only [Bool.and_eq_true, beq_iff_eq, e] at hc
    have := seg2_s F hM hM2 hret rfl hc.1 hs
    rw [hc.2, hp] at this
    exact this
theorem argL_sl2 {ρ : AdT} : ∀ (vs : List MV), (lg_sl (vs.map (tr2 ρ))).length = (argL vs).length ∧ ∀ (i : Nat) (v : MV), (argL vs)[i]? = some (some v) → (lg_sl (vs.map (tr2 ρ)))[i]? = some (.val (tr2 ρ v))
  | [] => ⟨rfl, fun i v h => by simp [argL] at h⟩
  | a :: t => by
    have ih := argL_sl2 (ρ := ρ) t
    have one : (tr2 ρ a).category = 1 → argL (a :: t) = some a :: argL t → (lg_sl ((a :: t).map (tr2 ρ))).length = (argL (a :: t)).length ∧ ∀ (i : Nat) (v : MV), (argL (a :: t))[i]? = some (some v) → (lg_sl ((a :: t).map (tr2 ρ)))[i]? = some (.val (tr2 ρ v)) := by
      intro h1 h2
      rw [h2, List.map_cons, lg1 h1]
      refine ⟨by rw [List.length_cons, List.length_cons, ih.1], fun i v h => ?_⟩
      cases i with
      | zero =>
        have e : a = v := by simpa using h
        rw [e]; rfl
      | succ i => simpa using ih.2 i v (by simpa using h)
    rcases a with x | x | k
    · exact one rfl rfl
    · have h2 : argL (Sum.inr (Sum.inl x) :: t) = some (Sum.inr (Sum.inl x)) :: none :: argL t := rfl
      rw [h2, List.map_cons, lg2 (v := tr2 ρ (Sum.inr (Sum.inl x))) rfl]
      refine ⟨by rw [List.length_cons, List.length_cons, List.length_cons, List.length_cons, ih.1], fun i v h => ?_⟩
      match i, h with
      | 0, h =>
        have e : Sum.inr (Sum.inl x) = v := by simpa using h
        rw [← e]; rfl
      | 1, h => simp at h
      | i + 2, h => simpa using ih.2 i v (by simpa using h)
    · exact one rfl rfl
theorem met2_ok (l : Launch) (D : va_G) (cA : Nat → ClassId) {L : Nat} (hL : L ≤ 260) (xs : Nat → Int32) : ∀ d : Nat, MetOk2 l D cA L xs d
  | 0, _, _, _, _, _, _, _, _, h => h.elim
  | d + 1, ρ, mi, vs, δ, μ, Q, hmi, hok, h => by
    obtain ⟨b, sc, ad⟩ := ρ
    have hM2 := met2_ok l D cA hL xs d
    have hM := met_ok l D b cA σ1 6
    obtain ⟨h1, h2, h3⟩ := h
    obtain ⟨f1, f2, f3, f4, f5, f6, f7⟩ := methL_f hmi
    refine Met.ofW (cc := bL mi) (maxL := lL mi) (ret := rL mi) f2 rfl ?_
    intro p e s m args below meth c s₁ B hml hv
    obtain ⟨rfl, hP, hKN, hX, hsb⟩ := hv
    have hx := B.exec
    have hb := B.bytes
    have hr := B.returns
    have hts0 := atoms_spec (ws := wsL mi) B.pre
    have hts : ∀ w ∈ gWL, w.before (vs.map (tr2 (b, sc, ad))).toArray s = true := fun w hw => hts0 w (List.mem_cons_of_mem _ hw)
    have hown : s.vm.findClass RL = some m.cls := by rw [← f1]; exact findClass_of_methodNamed B.named
    have hlocks := B.notSynchronized
    have hbs : b ≤ s.heap.size := by
      have h1 : 0 < σ1.1 := by decide
      have := ((wl2_C hP) 0 _ (wl_at (σ := σ1) h1)).lt
      have h2 : b + 0 < s.heap.size := this
      omega
    have hscz : sc < s.heap.size := by
      obtain ⟨scr, h1, -⟩ := hX
      exact (Array.getElem?_eq_some_iff.mp h1).1
    have hscA : ¬ AA b sc := fun q => by
      have q1 : b ≤ sc := q
      have q2 : sc < b := hsb
      omega
    have F : Fx2 p s m (vs.map (tr2 (b, sc, ad))).toArray c (headSpec (wsL mi) (rm2 (d + 1) mi)).room D cA (lL mi) mi d 0 0 (mcL mi) b sc L xs := ⟨hx, hb, hml, hown, hts, hKN, ⟨by show 7 + d ≤ 6 + (d + 1); omega, by show 252 + 36 * d ≤ 216 + 36 * (d + 1); omega⟩, ⟨by show 0 + mcL mi ≤ mcL mi; omega, by show 0 + 48 * mcL mi ≤ 48 * mcL mi; omega⟩, hX, hsb, hbs, hL⟩
    have hret : Rets2 p l e (headSpec (wsL mi) (rm2 (d + 1) mi)).room s m (vs.map (tr2 (b, sc, ad))).toArray below meth c (MQ below (QcL D (b, sc, ad) cA L xs δ Q) (vs.map (tr2 (b, sc, ad))).toArray s (mcL mi) (48 * mcL mi) (AA b)) D cA mi 0 0 (mcL mi) b sc (b, sc, ad) (0, δ.2) Q := by
      intro δ' ν ad' H locs lsA pc x hg hok' hex hP2 hS hd hn hq
      have fin : ∀ t : State, t.heap = H → s.WarmedH t.vm → QcL D (b, sc, ad) cA L xs δ Q (vs.map (tr2 (b, sc, ad))).toArray s (.returned (some (.int (Int32.ofInt x)))) t := by
        intro t ht hW
        refine ⟨⟨Int32.ofInt x, (x, ν), rfl, ⟨rfl, hq⟩, ?_, hKN.warm hW, va_X.moved hW.alike (by rw [ht]; exact hX.kept (hS.2.1 sc hscz hscA)), hsb⟩, hS.F ht⟩
        rw [ht]
        exact wl2_ext hex hP2
      refine W.widen (k := mcL mi) (n := 48 * mcL mi) (by omega) (by omega) ?_
      rcases hn with hn | ⟨hn, h0⟩
      · exact W.iret hx hb (hr.trans hn) fin hS.2.2 hd
      · exact W.zret hx hb (hr.trans hn) (by rcases h0 with rfl | rfl <;> rfl) fin hS.2.2 hd
    have hle := lv_entry (vs.map (tr2 (b, sc, ad))) (n := lL mi) (by rw [(argL_sl2 (ρ := (b, sc, ad)) vs).1]; exact h2)
    rw [lg_entry_eq]
    refine W.cs (cells' := 0 + (0 : Nat)) (slots' := 0 + 48 * 0) rfl rfl ?_
    refine wp2_s (ρ0 := (b, sc, ad)) (δ0 := (0, δ.2)) F hM hM2 hret (by omega) h3 ad s.heap [] _ (Nat.zero_le _) hok ext2_r hP va_S.rf ⟨hle.1, hle.2.1, ?_, fun i v hi => ?_⟩
    · unfold iniL2
      rw [List.length_append, List.length_replicate]
      omega
    · unfold iniL2 at hi
      have hlt : i < (argL vs).length := by
        rcases Nat.lt_or_ge i (argL vs).length with q | q
        · exact q
        · rw [List.getElem?_append_right q] at hi
          rw [List.getElem?_replicate] at hi
          split at hi
          · cases hi
          · cases hi
      rw [List.getElem?_append_left hlt] at hi
      have q := (argL_sl2 (ρ := (b, sc, ad)) vs).2 i v hi
      show ((lg_sl (vs.map (tr2 (b, sc, ad)))) ++ _).toArray[i]? = _
      rw [List.getElem?_toArray, List.getElem?_append_left (by rw [(argL_sl2 (ρ := (b, sc, ad)) vs).1]; exact hlt)]
      exact q
end SL2
