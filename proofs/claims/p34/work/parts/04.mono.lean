theorem p1_m {st : List MV} {f g : Int → List MV → Prop} (h : ∀ x r, f x r → g x r) : p1 st f → p1 st g := by
  unfold p1; split <;> first | exact h _ _ | exact id
theorem p2_m {st : List MV} {f g : Int → Int → List MV → Prop} (h : ∀ x y r, f x y r → g x y r) : p2 st f → p2 st g := by
  unfold p2; split <;> first | exact h _ _ _ | exact id
theorem pR_m {st : List MV} {f g : Nat → List MV → Prop} (h : ∀ x r, f x r → g x r) : pR st f → pR st g := by
  unfold pR; split <;> first | exact h _ _ | exact id
theorem pA_m {st : List MV} {f g : Nat → Int → List MV → Prop} (h : ∀ x y r, f x y r → g x y r) : pA st f → pA st g := by
  unfold pA; split <;> first | exact h _ _ _ | exact id
theorem pAS_m {st : List MV} {f g : Nat → Int → Int → List MV → Prop} (h : ∀ x y z r, f x y z r → g x y z r) : pAS st f → pAS st g := by
  unfold pAS; split <;> first | exact h _ _ _ _ | exact id
theorem pL_m {st : List MV} {f g : Int64 → List MV → Prop} (h : ∀ x r, f x r → g x r) : pL st f → pL st g := by
  unfold pL; split <;> first | exact h _ _ | exact id
theorem pLL_m {st : List MV} {f g : Int64 → Int64 → List MV → Prop} (h : ∀ x y r, f x y r → g x y r) : pLL st f → pLL st g := by
  unfold pLL; split <;> first | exact h _ _ _ | exact id
theorem pLI_m {st : List MV} {f g : Int64 → Int → List MV → Prop} (h : ∀ x y r, f x y r → g x y r) : pLI st f → pLI st g := by
  unfold pLI; split <;> first | exact h _ _ _ | exact id
theorem pD_m {st : List MV} {f g : MV → List MV → Prop} (h : ∀ x r, f x r → g x r) : pD st f → pD st g := by
  unfold pD; split <;> first | exact h _ _ | exact id
theorem pC_m {st : List MV} {f g : Nat → Int → Nat → Int → Int → List MV → Prop} (h : ∀ a b c d e r, f a b c d e r → g a b c d e r) : pC st f → pC st g := by
  unfold pC; split <;> first | exact h _ _ _ _ _ _ | exact id
theorem tk_m {n : Nat} {st : List MV} {f g : List MV → List MV → Prop} (h : ∀ x r, f x r → g x r) : tk n st f → tk n st g := by
  unfold tk; split <;> first | exact h _ _ | exact id
theorem ldI_m {ls : Ls} {f g : Int → Prop} (h : ∀ x, f x → g x) : ∀ {n : Nat}, ldI ls n f → ldI ls n g := by
  induction ls with
  | nil => intro n q; cases n <;> exact q
  | cons a t ih =>
    intro n q
    cases n with
    | zero => revert q; simp only [ldI]; split <;> first | exact h _ | exact id
    | succ n => exact ih (n := n) q
theorem ldL_m {ls : Ls} {f g : Int64 → Prop} (h : ∀ x, f x → g x) : ∀ {n : Nat}, ldL ls n f → ldL ls n g := by
  induction ls with
  | nil => intro n q; cases n <;> exact q
  | cons a t ih =>
    intro n q
    cases n with
    | zero => revert q; simp only [ldL]; split <;> first | exact h _ | exact id
    | succ n => exact ih (n := n) q
theorem ldR_m {ls : Ls} {f g : Nat → Prop} (h : ∀ x, f x → g x) : ∀ {n : Nat}, ldR ls n f → ldR ls n g := by
  induction ls with
  | nil => intro n q; cases n <;> exact q
  | cons a t ih =>
    intro n q
    cases n with
    | zero => revert q; simp only [ldR]; split <;> first | exact h _ | exact id
    | succ n => exact ih (n := n) q
theorem cEq_m {x y : Int} {a b a' b' : Prop} (h1 : a → a') (h2 : b → b') : cEq x y a b → cEq x y a' b' := fun h => ⟨fun q => h1 (h.1 q), fun q => ⟨(h.2 q).1, (h.2 q).2.1, h2 (h.2 q).2.2⟩⟩
theorem cLt_m {x y : Int} {a b a' b' : Prop} (h1 : a → a') (h2 : b → b') : cLt x y a b → cLt x y a' b' := fun h => ⟨h.1, h.2.1, fun q => h1 (h.2.2.1 q), fun q => h2 (h.2.2.2 q)⟩
theorem cnd_m {c : ClassFile.Cond} {x y : Int} {a b a' b' : Prop} (h1 : a → a') (h2 : b → b') : cnd c x y a b → cnd c x y a' b' := by
  cases c
  · exact cEq_m h1 h2
  · exact cEq_m h2 h1
  · exact cLt_m h1 h2
  · exact cLt_m h2 h1
  · exact cLt_m h1 h2
  · exact cLt_m h2 h1
theorem swc_m {pc : Nat} {K K' : Nat → Prop} {x : Int} (h : ∀ t, K t → K' t) : ∀ {os : List Int} {v : Int}, swc pc K x v os → swc pc K' x v os
  | [], _, _ => trivial
  | _ :: _, _, q => ⟨fun e => h _ (q.1 e), swc_m h q.2⟩
def CM (call : CT) : Prop := ∀ mi vs μ (Q Q' : QT), (∀ v μ, Q v μ → Q' v μ) → call mi vs μ Q → call mi vs μ Q'
theorem stp_m {σ : Sg} {P P' : PT} {call : CT} {Q Q' : QT} {pc a b c x1 : Nat} {k k' : Ls → List MV → Mem → Prop} (hP : ∀ pc ls st μ, P pc ls st μ → P' pc ls st μ) (hQ : ∀ v μ, Q v μ → Q' v μ) (hk : ∀ ls st μ, k ls st μ → k' ls st μ) (hc : CM call) {i : Instr} {ls : Ls} {st : List MV} {μ : Mem} :
    stp σ P call Q pc i a b c x1 k ls st μ → stp σ P' call Q' pc i a b c x1 k' ls st μ := by
  intro h
  cases i with
  | iconst n => exact hk _ _ _ h
  | bipush n => exact hk _ _ _ h
  | sipush n => exact hk _ _ _ h
  | lconst n => exact hk _ _ _ h
  | ldc2_w n => exact hk _ _ _ h
  | iload n => exact ldI_m (fun x h => hk _ _ _ h) h
  | iload_n n => exact ldI_m (fun x h => hk _ _ _ h) h
  | lload n => exact ldL_m (fun x h => hk _ _ _ h) h
  | lload_n n => exact ldL_m (fun x h => hk _ _ _ h) h
  | aload n => exact ldR_m (fun x h => hk _ _ _ h) h
  | aload_n n => exact ldR_m (fun x h => hk _ _ _ h) h
  | istore n => exact p1_m (fun x r h => ⟨h.1, hk _ _ _ h.2⟩) h
  | istore_n n => exact p1_m (fun x r h => ⟨h.1, hk _ _ _ h.2⟩) h
  | astore n => exact pR_m (fun x r h => ⟨h.1, hk _ _ _ h.2⟩) h
  | astore_n n => exact pR_m (fun x r h => ⟨h.1, hk _ _ _ h.2⟩) h
  | lstore n => exact pL_m (fun x r h => ⟨h.1, hk _ _ _ h.2⟩) h
  | lstore_n n => exact pL_m (fun x r h => ⟨h.1, hk _ _ _ h.2⟩) h
  | iinc n d => exact ldI_m (fun x h => ⟨h.1, hk _ _ _ h.2⟩) h
  | iadd => exact p2_m (fun x y r h => hk _ _ _ h) h
  | isub => exact p2_m (fun x y r h => hk _ _ _ h) h
  | imul => exact p2_m (fun x y r h => hk _ _ _ h) h
  | iand => exact p2_m (fun x y r h => hk _ _ _ h) h
  | ior => exact p2_m (fun x y r h => hk _ _ _ h) h
  | ishl => exact p2_m (fun x y r h => hk _ _ _ h) h
  | ishr => exact p2_m (fun x y r h => hk _ _ _ h) h
  | i2c => exact p1_m (fun x r h => hk _ _ _ h) h
  | i2l => exact p1_m (fun x r h => hk _ _ _ h) h
  | l2i => exact pL_m (fun x r h => hk _ _ _ h) h
  | land => exact pLL_m (fun x y r h => hk _ _ _ h) h
  | lushr => exact pLI_m (fun x y r h => hk _ _ _ h) h
  | lcmp => exact pLL_m (fun x y r h => hk _ _ _ h) h
  | dup => revert h; simp only [stp]; exact pD_m (fun x r h => hk _ _ _ h)
  | dup2 => revert h; simp only [stp]; exact pD_m (fun x r => pD_m (fun x r h => hk _ _ _ h))
  | pop => revert h; simp only [stp]; exact pD_m (fun x r h => hk _ _ _ h)
  | goto o => exact hP _ _ _ _ h
  | ifCond cc o => exact p1_m (fun x r h => cnd_m (hP _ _ _ _) (hk _ _ _) h) h
  | if_icmp cc o => exact p2_m (fun x y r h => cnd_m (hP _ _ _ _) (hk _ _ _) h) h
  | tableswitch d lo hi offs => exact p1_m (fun x r h => ⟨h.1, swc_m (fun t => hP _ _ _ _) h.2.1, fun q => hP _ _ _ _ (h.2.2 q)⟩) h
  | getfield n =>
    refine pR_m (fun o r h => ⟨h.1, ?_⟩) h
    have h2 := h.2
    revert h2
    split
    · exact hk _ _ _
    · exact hk _ _ _
    · exact fun q => ⟨q.1, hk _ _ _ q.2⟩
  | putfield n =>
    revert h
    simp only [stp]
    split
    · exact fun h => ⟨h.1, h.2.1, hk _ _ _ h.2.2⟩
    · exact id
  | iaload => exact pA_m (fun x y r h => ⟨h.1, h.2.1, h.2.2.1, hk _ _ _ h.2.2.2⟩) h
  | caload => exact pA_m (fun x y r h => ⟨h.1, h.2.1, h.2.2.1, hk _ _ _ h.2.2.2⟩) h
  | baload => exact pA_m (fun x y r h => ⟨h.1, h.2.1, h.2.2.1, hk _ _ _ h.2.2.2⟩) h
  | aaload => exact pA_m (fun x y r h => ⟨h.1, h.2.1, h.2.2.1, h.2.2.2.1, hk _ _ _ h.2.2.2.2⟩) h
  | iastore => exact pAS_m (fun x y z r h => ⟨h.1, h.2.1, h.2.2.1, hk _ _ _ h.2.2.2⟩) h
  | castore => exact pAS_m (fun x y z r h => ⟨h.1, h.2.1, h.2.2.1, h.2.2.2.1, hk _ _ _ h.2.2.2.2⟩) h
  | bastore => exact pAS_m (fun x y z r h => ⟨h.1, h.2.1, h.2.2.1, h.2.2.2.1, hk _ _ _ h.2.2.2.2⟩) h
  | ireturn => exact p1_m (fun x r h => ⟨h.1, h.2.1, hQ _ _ h.2.2⟩) h
  | return_ => exact ⟨h.1, hQ _ _ h.2⟩
  | areturn => exact pR_m (fun x r h => ⟨h.1, hQ _ _ h.2⟩) h
  | invokevirtual n => revert h; simp only [stp]; exact tk_m (fun vs r h => ⟨h.1, h.2.1, hc _ _ _ _ _ (fun v μ h => hP _ _ _ _ h) h.2.2⟩)
  | invokestatic n =>
    revert h
    simp only [stp]
    split
    · exact p2_m (fun x y r h => ⟨h.1, h.2.1, hk _ _ _ h.2.2⟩)
    · exact pC_m (fun a b c d e r h => ⟨h.1, h.2.1, h.2.2.1, hk _ _ _ h.2.2.2⟩)
    · exact tk_m (fun vs r h => ⟨h.1, hc _ _ _ _ _ (fun v μ h => hP _ _ _ _ h) h.2⟩)
  | _ => exact (h : False).elim
theorem seg_m {σ : Sg} {P P' : PT} {call : CT} {Q Q' : QT} (hP : ∀ pc ls st μ, P pc ls st μ → P' pc ls st μ) (hQ : ∀ v μ, Q v μ → Q' v μ) (hc : CM call) : ∀ {l : List Ent} {nx : Nat} {ls : Ls} {st : List MV} {μ : Mem},
    seg σ P call Q l nx ls st μ → seg σ P' call Q' l nx ls st μ
  | [], _, _, _, _, h => hP _ _ _ _ h
  | (_, _, _, _, _, _) :: _, _, _, _, _, h => stp_m hP hQ (fun _ _ _ h => seg_m hP hQ hc h) hc h
theorem wp_m {σ : Sg} {call : CT} {mi : Nat} {Q Q' : QT} (hQ : ∀ v μ, Q v μ → Q' v μ) (hc : CM call) {pc : Nat} {ls : Ls} {st : List MV} {μ : Mem} (h : wp σ call mi Q pc ls st μ) : wp σ call mi Q' pc ls st μ :=
  ⟨trivial, fun P hP => h.2 P fun pc l nx ls st μ hb hs => hP pc l nx ls st μ hb (seg_m (fun _ _ _ _ h => h) hQ hc hs)⟩
theorem Call_m (σ : Sg) : ∀ d : Nat, CM (Call σ d)
  | 0, _, _, _, _, _, _, h => h
  | d + 1, _, _, _, _, _, hQ, h => ⟨h.1, h.2.1, wp_m hQ (Call_m σ d) h.2.2⟩
theorem wp_go {σ : Sg} {d mi : Nat} {Q : QT} {pc : Nat} {l : List Ent} {nx : Nat} {ls : Ls} {st : List MV} {μ : Mem} (hb : blk mi pc = some (l, nx)) (h : seg σ (wp σ (Call σ d) mi Q) (Call σ d) Q l nx ls st μ) : wp σ (Call σ d) mi Q pc ls st μ :=
  ⟨trivial, fun P hP => hP pc l nx ls st μ hb (seg_m (fun _ _ _ _ h => h.2 P hP) (fun _ _ h => h) (Call_m σ d) h)⟩
theorem Call_go {σ : Sg} {d mi : Nat} {vs : List MV} {Q : QT} {ls : Ls} {μ : Mem} (h1 : vs.length = nM mi) (h2 : (argL vs).length ≤ lM mi) (h3 : iniL mi vs = ls) (h : wp σ (Call σ d) mi Q 0 ls [] μ) : Call σ (d + 1) mi vs μ Q := ⟨h1, h2, by rw [h3]; exact h⟩
