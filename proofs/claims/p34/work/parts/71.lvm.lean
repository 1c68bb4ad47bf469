/-! THE LAW'S SMALL MACHINE: the object is the reference 0, the script 1, the arrays from 510 on -/
/-- cells that this frame has made, arrays that are known, their lengths -/
abbrev Dy : Type := Nat × Nat × (Nat → Nat)
abbrev CT2 : Type := Nat → List MV → Dy → Mem → QT → Prop
def upl (f : Nat → Nat) (k v : Nat) : Nat → Nat := fun j => if j = k then v else f j
def zr (μ : Mem) (k : Nat) : Mem := fun k' j => if k' = k then 0 else μ k' j
def lenC : Nat → List MV → Prop
  | _, [] => True
  | n + 1, .inl _ :: t => lenC n t
  | n + 1, .inr (.inr _) :: t => lenC n t
  | _, _ => False
def noR (n : Nat) : Ls → Prop
  | [] => True
  | some (.inr (.inr k)) :: t => k ≠ n ∧ noR n t
  | _ :: t => noR n t
def allI : List MV → Prop
  | [] => True
  | .inl _ :: t => allI t
  | _ => False
def rcv0 : List MV → Prop
  | .inr (.inr k) :: t => k = 0 ∧ allI t
  | _ => False
def tk5 (n : Nat) (st : List MV) (f : List MV → List MV → Prop) : Prop := match n, st with
  | 1, a :: r => f [a] r
  | 2, b :: a :: r => f [a, b] r
  | 3, c :: b :: a :: r => f [a, b, c] r
  | 5, e :: d :: c :: b :: a :: r => f [a, b, c, d, e] r
  | _, _ => False
def stp2 (y : Nat → Int) (L G : Nat) (P : Dy → PT) (call : CT2) (Q : QT) (pc : Nat) (i : Instr) (a b : Nat) (k : Dy → Ls → List MV → Mem → Prop) (δ : Dy) (ls : Ls) (st : List MV) (μ : Mem) : Prop := match i with
  | .iconst n => k δ ls (.inl n :: st) μ
  | .bipush n => k δ ls (.inl n :: st) μ
  | .sipush n => k δ ls (.inl n :: st) μ
  | .ldc _ => k δ ls (.inl (a : Int) :: st) μ
  | .iload n => ldI ls n fun x => k δ ls (.inl x :: st) μ
  | .iload_n n => ldI ls n.val fun x => k δ ls (.inl x :: st) μ
  | .aload n => ldR ls n fun x => k δ ls (.inr (.inr x) :: st) μ
  | .aload_n n => ldR ls n.val fun x => k δ ls (.inr (.inr x) :: st) μ
  | .istore n => p1 st fun x r => okS ls n ∧ k δ (stL ls n (some (.inl x))) r μ
  | .istore_n n => p1 st fun x r => okS ls n.val ∧ k δ (stL ls n.val (some (.inl x))) r μ
  | .astore n => pR st fun x r => okS ls n ∧ k δ (stL ls n (some (.inr (.inr x)))) r μ
  | .astore_n n => pR st fun x r => okS ls n.val ∧ k δ (stL ls n.val (some (.inr (.inr x)))) r μ
  | .iinc n d => ldI ls n fun x => okS ls n ∧ k δ (stL ls n (some (.inl (x + d)))) st μ
  | .iadd => p2 st fun x y r => k δ ls (.inl (x + y) :: r) μ
  | .isub => p2 st fun x y r => k δ ls (.inl (x - y) :: r) μ
  | .imul => p2 st fun x y r => k δ ls (.inl (x * y) :: r) μ
  | .idiv => p2 st fun x y r => (0 ≤ x ∧ inR x) ∧ (0 < y ∧ inR y) ∧ k δ ls (.inl (x / y) :: r) μ
  | .irem => p2 st fun x y r => (0 ≤ x ∧ inR x) ∧ (0 < y ∧ inR y) ∧ k δ ls (.inl (x % y) :: r) μ
  | .iand => p2 st fun x y r => k δ ls (.inl (iAnd x y) :: r) μ
  | .ior => p2 st fun x y r => k δ ls (.inl (iOr x y) :: r) μ
  | .ishl => p2 st fun x y r => k δ ls (.inl (iShl x y) :: r) μ
  | .ishr => p2 st fun x y r => k δ ls (.inl (iShr x y) :: r) μ
  | .pop => p1 st fun _ r => k δ ls r μ
  | .goto _ => P δ a ls st μ
  | .ifCond cc _ => p1 st fun x r => cnd cc x 0 (P δ a ls r μ) (k δ ls r μ)
  | .if_icmp cc _ => p2 st fun x y r => cnd cc x y (P δ a ls r μ) (k δ ls r μ)
  | .arraylength => pR st fun o r => o = 1 ∧ k δ ls (.inl (L : Int) :: r) μ
  | .iaload => pA st fun o i r => if a = 1 then o = 1 ∧ 0 ≤ i ∧ i < (L : Int) ∧ k δ ls (.inl (y i.toNat) :: r) μ else (510 ≤ o ∧ o < 510 + δ.2.1) ∧ 0 ≤ i ∧ i < (δ.2.2 o : Int) ∧ k δ ls (.inl (μ o i.toNat) :: r) μ
  | .iastore => pAS st fun o i v r => (510 ≤ o ∧ o < 510 + δ.2.1) ∧ 0 ≤ i ∧ i < (δ.2.2 o : Int) ∧ k δ ls r (ms μ o i.toNat v)
  | .newarray .int => p1 st fun x r => r = [] ∧ (0 ≤ x ∧ x ≤ 48 ∧ δ.1 < G) ∧ noR (510 + δ.2.1) ls ∧ k (δ.1 + 1, δ.2.1 + 1, upl δ.2.2 (510 + δ.2.1) x.toNat) ls [.inr (.inr (510 + δ.2.1))] (zr μ (510 + δ.2.1))
  | .ireturn => p1 st fun x r => r = [] ∧ (a = 1 → x = 0 ∨ x = 1) ∧ Q (.inl x) μ
  | .invokevirtual _ => tk b st fun vs r => lenC 6 r ∧ rcv0 vs ∧ Call σ1 6 a vs μ fun v μ' => (∀ k, 510 ≤ k → μ' k = μ k) ∧ P δ (pc + 3) ls (v :: r) μ'
  | .invokestatic _ => tk5 b st fun vs r => lenC 6 r ∧ δ.1 + mcL a ≤ G ∧ call a vs δ μ fun v μ' => P (δ.1 + mcL a, δ.2) (pc + 3) ls (v :: r) μ'
  | _ => False
def seg2 (y : Nat → Int) (L G : Nat) (P : Dy → PT) (call : CT2) (Q : QT) : List Ent → Nat → Dy → Ls → List MV → Mem → Prop
  | [], nx, δ, ls, st, μ => P δ nx ls st μ
  | (pc, i, a, b, _, _) :: r, nx, δ, ls, st, μ => stp2 y L G P call Q pc i a b (fun δ ls st μ => seg2 y L G P call Q r nx δ ls st μ) δ ls st μ
def wp2 (y : Nat → Int) (L G : Nat) (call : CT2) (mi : Nat) (Q : QT) (δ : Dy) (pc : Nat) (ls : Ls) (st : List MV) (μ : Mem) : Prop :=
  True ∧ ∀ P : Dy → PT, (∀ pc l nx δ ls st μ, blkL mi pc = some (l, nx) → seg2 y L G P call Q l nx δ ls st μ → P δ pc ls st μ) → P δ pc ls st μ
def iniL2 (mi : Nat) (vs : List MV) : Ls := argL vs ++ List.replicate (lL mi - (argL vs).length) none
def Call2 (y : Nat → Int) (L : Nat) : Nat → CT2
  | 0 => fun _ _ _ _ _ => False
  | d + 1 => fun mi vs δ μ Q => vs.length = nL2 mi ∧ (argL vs).length ≤ lL mi ∧ wp2 y L (mcL mi) (Call2 y L d) mi Q (0, δ.2) 0 (iniL2 mi vs) [] μ
theorem tg_iconst {y : Nat → Int} {L G : Nat} {P : Dy → PT} {call : CT2} {Q : QT} {pc a b c x1 nx : Nat} {r : List Ent} {δ : Dy} {ls : Ls} {st : List MV} {μ : Mem} {n : Int} : seg2 y L G P call Q ((pc, .iconst n, a, b, c, x1) :: r) nx δ ls st μ = (seg2 y L G P call Q r nx δ ls (Sum.inl n :: st) μ) := rfl
theorem tg_bipush {y : Nat → Int} {L G : Nat} {P : Dy → PT} {call : CT2} {Q : QT} {pc a b c x1 nx : Nat} {r : List Ent} {δ : Dy} {ls : Ls} {st : List MV} {μ : Mem} {n : Int} : seg2 y L G P call Q ((pc, .bipush n, a, b, c, x1) :: r) nx δ ls st μ = (seg2 y L G P call Q r nx δ ls (Sum.inl n :: st) μ) := rfl
theorem tg_sipush {y : Nat → Int} {L G : Nat} {P : Dy → PT} {call : CT2} {Q : QT} {pc a b c x1 nx : Nat} {r : List Ent} {δ : Dy} {ls : Ls} {st : List MV} {μ : Mem} {n : Int} : seg2 y L G P call Q ((pc, .sipush n, a, b, c, x1) :: r) nx δ ls st μ = (seg2 y L G P call Q r nx δ ls (Sum.inl n :: st) μ) := rfl
theorem tg_ldc {y : Nat → Int} {L G : Nat} {P : Dy → PT} {call : CT2} {Q : QT} {pc a b c x1 nx : Nat} {r : List Ent} {δ : Dy} {ls : Ls} {st : List MV} {μ : Mem} {n : Nat} : seg2 y L G P call Q ((pc, .ldc n, a, b, c, x1) :: r) nx δ ls st μ = (seg2 y L G P call Q r nx δ ls (Sum.inl (a : Int) :: st) μ) := rfl
theorem tg_iload_0 {y : Nat → Int} {L G : Nat} {P : Dy → PT} {call : CT2} {Q : QT} {pc a b c x1 nx : Nat} {r : List Ent} {δ : Dy} {ls : Ls} {st : List MV} {μ : Mem} {t : Ls} {x : Int} : seg2 y L G P call Q ((pc, .iload_n 0, a, b, c, x1) :: r) nx δ (some (Sum.inl x) :: t) st μ = (seg2 y L G P call Q r nx δ (some (Sum.inl x) :: t) (Sum.inl x :: st) μ) := rfl
theorem tg_iload_1 {y : Nat → Int} {L G : Nat} {P : Dy → PT} {call : CT2} {Q : QT} {pc a b c x1 nx : Nat} {r : List Ent} {δ : Dy} {ls : Ls} {st : List MV} {μ : Mem} {t : Ls} {x : Int} {h0 : Option MV} : seg2 y L G P call Q ((pc, .iload_n 1, a, b, c, x1) :: r) nx δ (h0 :: some (Sum.inl x) :: t) st μ = (seg2 y L G P call Q r nx δ (h0 :: some (Sum.inl x) :: t) (Sum.inl x :: st) μ) := rfl
theorem tg_iload_2 {y : Nat → Int} {L G : Nat} {P : Dy → PT} {call : CT2} {Q : QT} {pc a b c x1 nx : Nat} {r : List Ent} {δ : Dy} {ls : Ls} {st : List MV} {μ : Mem} {t : Ls} {x : Int} {h0 : Option MV} {h1 : Option MV} : seg2 y L G P call Q ((pc, .iload_n 2, a, b, c, x1) :: r) nx δ (h0 :: h1 :: some (Sum.inl x) :: t) st μ = (seg2 y L G P call Q r nx δ (h0 :: h1 :: some (Sum.inl x) :: t) (Sum.inl x :: st) μ) := rfl
theorem tg_iload_3 {y : Nat → Int} {L G : Nat} {P : Dy → PT} {call : CT2} {Q : QT} {pc a b c x1 nx : Nat} {r : List Ent} {δ : Dy} {ls : Ls} {st : List MV} {μ : Mem} {t : Ls} {x : Int} {h0 : Option MV} {h1 : Option MV} {h2 : Option MV} : seg2 y L G P call Q ((pc, .iload_n 3, a, b, c, x1) :: r) nx δ (h0 :: h1 :: h2 :: some (Sum.inl x) :: t) st μ = (seg2 y L G P call Q r nx δ (h0 :: h1 :: h2 :: some (Sum.inl x) :: t) (Sum.inl x :: st) μ) := rfl
theorem tg_aload_0 {y : Nat → Int} {L G : Nat} {P : Dy → PT} {call : CT2} {Q : QT} {pc a b c x1 nx : Nat} {r : List Ent} {δ : Dy} {ls : Ls} {st : List MV} {μ : Mem} {t : Ls} {x : Nat} : seg2 y L G P call Q ((pc, .aload_n 0, a, b, c, x1) :: r) nx δ (some (Sum.inr (Sum.inr x)) :: t) st μ = (seg2 y L G P call Q r nx δ (some (Sum.inr (Sum.inr x)) :: t) (Sum.inr (Sum.inr x) :: st) μ) := rfl
theorem tg_aload_1 {y : Nat → Int} {L G : Nat} {P : Dy → PT} {call : CT2} {Q : QT} {pc a b c x1 nx : Nat} {r : List Ent} {δ : Dy} {ls : Ls} {st : List MV} {μ : Mem} {t : Ls} {x : Nat} {h0 : Option MV} : seg2 y L G P call Q ((pc, .aload_n 1, a, b, c, x1) :: r) nx δ (h0 :: some (Sum.inr (Sum.inr x)) :: t) st μ = (seg2 y L G P call Q r nx δ (h0 :: some (Sum.inr (Sum.inr x)) :: t) (Sum.inr (Sum.inr x) :: st) μ) := rfl
theorem tg_aload_2 {y : Nat → Int} {L G : Nat} {P : Dy → PT} {call : CT2} {Q : QT} {pc a b c x1 nx : Nat} {r : List Ent} {δ : Dy} {ls : Ls} {st : List MV} {μ : Mem} {t : Ls} {x : Nat} {h0 : Option MV} {h1 : Option MV} : seg2 y L G P call Q ((pc, .aload_n 2, a, b, c, x1) :: r) nx δ (h0 :: h1 :: some (Sum.inr (Sum.inr x)) :: t) st μ = (seg2 y L G P call Q r nx δ (h0 :: h1 :: some (Sum.inr (Sum.inr x)) :: t) (Sum.inr (Sum.inr x) :: st) μ) := rfl
theorem tg_aload_3 {y : Nat → Int} {L G : Nat} {P : Dy → PT} {call : CT2} {Q : QT} {pc a b c x1 nx : Nat} {r : List Ent} {δ : Dy} {ls : Ls} {st : List MV} {μ : Mem} {t : Ls} {x : Nat} {h0 : Option MV} {h1 : Option MV} {h2 : Option MV} : seg2 y L G P call Q ((pc, .aload_n 3, a, b, c, x1) :: r) nx δ (h0 :: h1 :: h2 :: some (Sum.inr (Sum.inr x)) :: t) st μ = (seg2 y L G P call Q r nx δ (h0 :: h1 :: h2 :: some (Sum.inr (Sum.inr x)) :: t) (Sum.inr (Sum.inr x) :: st) μ) := rfl
theorem tg_iload {y : Nat → Int} {L G : Nat} {P : Dy → PT} {call : CT2} {Q : QT} {pc a b c x1 nx : Nat} {r : List Ent} {δ : Dy} {ls : Ls} {st : List MV} {μ : Mem} {n : Nat} : seg2 y L G P call Q ((pc, .iload n, a, b, c, x1) :: r) nx δ ls st μ = (ldI ls n fun x => seg2 y L G P call Q r nx δ ls (Sum.inl x :: st) μ) := rfl
theorem tg_aload {y : Nat → Int} {L G : Nat} {P : Dy → PT} {call : CT2} {Q : QT} {pc a b c x1 nx : Nat} {r : List Ent} {δ : Dy} {ls : Ls} {st : List MV} {μ : Mem} {n : Nat} : seg2 y L G P call Q ((pc, .aload n, a, b, c, x1) :: r) nx δ ls st μ = (ldR ls n fun x => seg2 y L G P call Q r nx δ ls (Sum.inr (Sum.inr x) :: st) μ) := rfl
theorem tg_istore_0 {y : Nat → Int} {L G : Nat} {P : Dy → PT} {call : CT2} {Q : QT} {pc a b c x1 nx : Nat} {r : List Ent} {δ : Dy} {ls : Ls} {st : List MV} {μ : Mem} {t : Ls} {x : Int} {h : Option MV} : seg2 y L G P call Q ((pc, .istore_n 0, a, b, c, x1) :: r) nx δ (h :: t) (Sum.inl x :: st) μ = (True ∧ seg2 y L G P call Q r nx δ (some (Sum.inl x) :: t) st μ) := rfl
theorem tg_istore_1 {y : Nat → Int} {L G : Nat} {P : Dy → PT} {call : CT2} {Q : QT} {pc a b c x1 nx : Nat} {r : List Ent} {δ : Dy} {ls : Ls} {st : List MV} {μ : Mem} {t : Ls} {x : Int} {h : Option MV} {h0 : Option MV} : seg2 y L G P call Q ((pc, .istore_n 1, a, b, c, x1) :: r) nx δ (h0 :: h :: t) (Sum.inl x :: st) μ = (nLg h0 ∧ seg2 y L G P call Q r nx δ (h0 :: some (Sum.inl x) :: t) st μ) := rfl
theorem tg_istore_2 {y : Nat → Int} {L G : Nat} {P : Dy → PT} {call : CT2} {Q : QT} {pc a b c x1 nx : Nat} {r : List Ent} {δ : Dy} {ls : Ls} {st : List MV} {μ : Mem} {t : Ls} {x : Int} {h : Option MV} {h0 : Option MV} {h1 : Option MV} : seg2 y L G P call Q ((pc, .istore_n 2, a, b, c, x1) :: r) nx δ (h0 :: h1 :: h :: t) (Sum.inl x :: st) μ = (nLg h1 ∧ seg2 y L G P call Q r nx δ (h0 :: h1 :: some (Sum.inl x) :: t) st μ) := rfl
theorem tg_istore_3 {y : Nat → Int} {L G : Nat} {P : Dy → PT} {call : CT2} {Q : QT} {pc a b c x1 nx : Nat} {r : List Ent} {δ : Dy} {ls : Ls} {st : List MV} {μ : Mem} {t : Ls} {x : Int} {h : Option MV} {h0 : Option MV} {h1 : Option MV} {h2 : Option MV} : seg2 y L G P call Q ((pc, .istore_n 3, a, b, c, x1) :: r) nx δ (h0 :: h1 :: h2 :: h :: t) (Sum.inl x :: st) μ = (nLg h2 ∧ seg2 y L G P call Q r nx δ (h0 :: h1 :: h2 :: some (Sum.inl x) :: t) st μ) := rfl
theorem tg_istore {y : Nat → Int} {L G : Nat} {P : Dy → PT} {call : CT2} {Q : QT} {pc a b c x1 nx : Nat} {r : List Ent} {δ : Dy} {ls : Ls} {st : List MV} {μ : Mem} {n : Nat} {x : Int} : seg2 y L G P call Q ((pc, .istore n, a, b, c, x1) :: r) nx δ ls (Sum.inl x :: st) μ = (okS ls n ∧ seg2 y L G P call Q r nx δ (stL ls n (some (Sum.inl x))) st μ) := rfl
theorem tg_astore_0 {y : Nat → Int} {L G : Nat} {P : Dy → PT} {call : CT2} {Q : QT} {pc a b c x1 nx : Nat} {r : List Ent} {δ : Dy} {ls : Ls} {st : List MV} {μ : Mem} {t : Ls} {x : Nat} {h : Option MV} : seg2 y L G P call Q ((pc, .astore_n 0, a, b, c, x1) :: r) nx δ (h :: t) (Sum.inr (Sum.inr x) :: st) μ = (True ∧ seg2 y L G P call Q r nx δ (some (Sum.inr (Sum.inr x)) :: t) st μ) := rfl
theorem tg_astore_1 {y : Nat → Int} {L G : Nat} {P : Dy → PT} {call : CT2} {Q : QT} {pc a b c x1 nx : Nat} {r : List Ent} {δ : Dy} {ls : Ls} {st : List MV} {μ : Mem} {t : Ls} {x : Nat} {h : Option MV} {h0 : Option MV} : seg2 y L G P call Q ((pc, .astore_n 1, a, b, c, x1) :: r) nx δ (h0 :: h :: t) (Sum.inr (Sum.inr x) :: st) μ = (nLg h0 ∧ seg2 y L G P call Q r nx δ (h0 :: some (Sum.inr (Sum.inr x)) :: t) st μ) := rfl
theorem tg_astore_2 {y : Nat → Int} {L G : Nat} {P : Dy → PT} {call : CT2} {Q : QT} {pc a b c x1 nx : Nat} {r : List Ent} {δ : Dy} {ls : Ls} {st : List MV} {μ : Mem} {t : Ls} {x : Nat} {h : Option MV} {h0 : Option MV} {h1 : Option MV} : seg2 y L G P call Q ((pc, .astore_n 2, a, b, c, x1) :: r) nx δ (h0 :: h1 :: h :: t) (Sum.inr (Sum.inr x) :: st) μ = (nLg h1 ∧ seg2 y L G P call Q r nx δ (h0 :: h1 :: some (Sum.inr (Sum.inr x)) :: t) st μ) := rfl
theorem tg_astore_3 {y : Nat → Int} {L G : Nat} {P : Dy → PT} {call : CT2} {Q : QT} {pc a b c x1 nx : Nat} {r : List Ent} {δ : Dy} {ls : Ls} {st : List MV} {μ : Mem} {t : Ls} {x : Nat} {h : Option MV} {h0 : Option MV} {h1 : Option MV} {h2 : Option MV} : seg2 y L G P call Q ((pc, .astore_n 3, a, b, c, x1) :: r) nx δ (h0 :: h1 :: h2 :: h :: t) (Sum.inr (Sum.inr x) :: st) μ = (nLg h2 ∧ seg2 y L G P call Q r nx δ (h0 :: h1 :: h2 :: some (Sum.inr (Sum.inr x)) :: t) st μ) := rfl
theorem tg_astore {y : Nat → Int} {L G : Nat} {P : Dy → PT} {call : CT2} {Q : QT} {pc a b c x1 nx : Nat} {r : List Ent} {δ : Dy} {ls : Ls} {st : List MV} {μ : Mem} {n : Nat} {x : Nat} : seg2 y L G P call Q ((pc, .astore n, a, b, c, x1) :: r) nx δ ls (Sum.inr (Sum.inr x) :: st) μ = (okS ls n ∧ seg2 y L G P call Q r nx δ (stL ls n (some (Sum.inr (Sum.inr x)))) st μ) := rfl
theorem tg_iinc {y : Nat → Int} {L G : Nat} {P : Dy → PT} {call : CT2} {Q : QT} {pc a b c x1 nx : Nat} {r : List Ent} {δ : Dy} {ls : Ls} {st : List MV} {μ : Mem} {n : Nat} {d : Int} : seg2 y L G P call Q ((pc, .iinc n d, a, b, c, x1) :: r) nx δ ls st μ = (ldI ls n fun x => okS ls n ∧ seg2 y L G P call Q r nx δ (stL ls n (some (Sum.inl (x + d)))) st μ) := rfl
theorem tg_iadd {y : Nat → Int} {L G : Nat} {P : Dy → PT} {call : CT2} {Q : QT} {pc a b c x1 nx : Nat} {r : List Ent} {δ : Dy} {ls : Ls} {st : List MV} {μ : Mem} {x z : Int} : seg2 y L G P call Q ((pc, .iadd, a, b, c, x1) :: r) nx δ ls (Sum.inl z :: Sum.inl x :: st) μ = (seg2 y L G P call Q r nx δ ls (Sum.inl (x + z) :: st) μ) := rfl
theorem tg_isub {y : Nat → Int} {L G : Nat} {P : Dy → PT} {call : CT2} {Q : QT} {pc a b c x1 nx : Nat} {r : List Ent} {δ : Dy} {ls : Ls} {st : List MV} {μ : Mem} {x z : Int} : seg2 y L G P call Q ((pc, .isub, a, b, c, x1) :: r) nx δ ls (Sum.inl z :: Sum.inl x :: st) μ = (seg2 y L G P call Q r nx δ ls (Sum.inl (x - z) :: st) μ) := rfl
theorem tg_imul {y : Nat → Int} {L G : Nat} {P : Dy → PT} {call : CT2} {Q : QT} {pc a b c x1 nx : Nat} {r : List Ent} {δ : Dy} {ls : Ls} {st : List MV} {μ : Mem} {x z : Int} : seg2 y L G P call Q ((pc, .imul, a, b, c, x1) :: r) nx δ ls (Sum.inl z :: Sum.inl x :: st) μ = (seg2 y L G P call Q r nx δ ls (Sum.inl (x * z) :: st) μ) := rfl
theorem tg_iand {y : Nat → Int} {L G : Nat} {P : Dy → PT} {call : CT2} {Q : QT} {pc a b c x1 nx : Nat} {r : List Ent} {δ : Dy} {ls : Ls} {st : List MV} {μ : Mem} {x z : Int} : seg2 y L G P call Q ((pc, .iand, a, b, c, x1) :: r) nx δ ls (Sum.inl z :: Sum.inl x :: st) μ = (seg2 y L G P call Q r nx δ ls (Sum.inl (iAnd x z) :: st) μ) := rfl
theorem tg_ior {y : Nat → Int} {L G : Nat} {P : Dy → PT} {call : CT2} {Q : QT} {pc a b c x1 nx : Nat} {r : List Ent} {δ : Dy} {ls : Ls} {st : List MV} {μ : Mem} {x z : Int} : seg2 y L G P call Q ((pc, .ior, a, b, c, x1) :: r) nx δ ls (Sum.inl z :: Sum.inl x :: st) μ = (seg2 y L G P call Q r nx δ ls (Sum.inl (iOr x z) :: st) μ) := rfl
theorem tg_ishl {y : Nat → Int} {L G : Nat} {P : Dy → PT} {call : CT2} {Q : QT} {pc a b c x1 nx : Nat} {r : List Ent} {δ : Dy} {ls : Ls} {st : List MV} {μ : Mem} {x z : Int} : seg2 y L G P call Q ((pc, .ishl, a, b, c, x1) :: r) nx δ ls (Sum.inl z :: Sum.inl x :: st) μ = (seg2 y L G P call Q r nx δ ls (Sum.inl (iShl x z) :: st) μ) := rfl
theorem tg_ishr {y : Nat → Int} {L G : Nat} {P : Dy → PT} {call : CT2} {Q : QT} {pc a b c x1 nx : Nat} {r : List Ent} {δ : Dy} {ls : Ls} {st : List MV} {μ : Mem} {x z : Int} : seg2 y L G P call Q ((pc, .ishr, a, b, c, x1) :: r) nx δ ls (Sum.inl z :: Sum.inl x :: st) μ = (seg2 y L G P call Q r nx δ ls (Sum.inl (iShr x z) :: st) μ) := rfl
theorem tg_idiv {y : Nat → Int} {L G : Nat} {P : Dy → PT} {call : CT2} {Q : QT} {pc a b c x1 nx : Nat} {r : List Ent} {δ : Dy} {ls : Ls} {st : List MV} {μ : Mem} {x z : Int} : seg2 y L G P call Q ((pc, .idiv, a, b, c, x1) :: r) nx δ ls (Sum.inl z :: Sum.inl x :: st) μ = ((0 ≤ x ∧ inR x) ∧ (0 < z ∧ inR z) ∧ seg2 y L G P call Q r nx δ ls (Sum.inl (x / z) :: st) μ) := rfl
theorem tg_irem {y : Nat → Int} {L G : Nat} {P : Dy → PT} {call : CT2} {Q : QT} {pc a b c x1 nx : Nat} {r : List Ent} {δ : Dy} {ls : Ls} {st : List MV} {μ : Mem} {x z : Int} : seg2 y L G P call Q ((pc, .irem, a, b, c, x1) :: r) nx δ ls (Sum.inl z :: Sum.inl x :: st) μ = ((0 ≤ x ∧ inR x) ∧ (0 < z ∧ inR z) ∧ seg2 y L G P call Q r nx δ ls (Sum.inl (x % z) :: st) μ) := rfl
theorem tg_pop {y : Nat → Int} {L G : Nat} {P : Dy → PT} {call : CT2} {Q : QT} {pc a b c x1 nx : Nat} {r : List Ent} {δ : Dy} {ls : Ls} {st : List MV} {μ : Mem} {x : Int} : seg2 y L G P call Q ((pc, .pop, a, b, c, x1) :: r) nx δ ls (Sum.inl x :: st) μ = (seg2 y L G P call Q r nx δ ls st μ) := rfl
theorem tg_goto {y : Nat → Int} {L G : Nat} {P : Dy → PT} {call : CT2} {Q : QT} {pc a b c x1 nx : Nat} {r : List Ent} {δ : Dy} {ls : Ls} {st : List MV} {μ : Mem} {n : Int} : seg2 y L G P call Q ((pc, .goto n, a, b, c, x1) :: r) nx δ ls st μ = (P δ a ls st μ) := rfl
theorem tg_if_eq {y : Nat → Int} {L G : Nat} {P : Dy → PT} {call : CT2} {Q : QT} {pc a b c x1 nx : Nat} {r : List Ent} {δ : Dy} {ls : Ls} {st : List MV} {μ : Mem} {n x : Int} : seg2 y L G P call Q ((pc, .ifCond .eq n, a, b, c, x1) :: r) nx δ ls (Sum.inl x :: st) μ = ((x = 0 → P δ a ls st μ) ∧ (x ≠ 0 → inR x ∧ inR 0 ∧ seg2 y L G P call Q r nx δ ls st μ)) := rfl
theorem tg_ic_eq {y : Nat → Int} {L G : Nat} {P : Dy → PT} {call : CT2} {Q : QT} {pc a b c x1 nx : Nat} {r : List Ent} {δ : Dy} {ls : Ls} {st : List MV} {μ : Mem} {n x z : Int} : seg2 y L G P call Q ((pc, .if_icmp .eq n, a, b, c, x1) :: r) nx δ ls (Sum.inl z :: Sum.inl x :: st) μ = ((x = z → P δ a ls st μ) ∧ (x ≠ z → inR x ∧ inR z ∧ seg2 y L G P call Q r nx δ ls st μ)) := rfl
theorem tg_if_ne {y : Nat → Int} {L G : Nat} {P : Dy → PT} {call : CT2} {Q : QT} {pc a b c x1 nx : Nat} {r : List Ent} {δ : Dy} {ls : Ls} {st : List MV} {μ : Mem} {n x : Int} : seg2 y L G P call Q ((pc, .ifCond .ne n, a, b, c, x1) :: r) nx δ ls (Sum.inl x :: st) μ = ((x = 0 → seg2 y L G P call Q r nx δ ls st μ) ∧ (x ≠ 0 → inR x ∧ inR 0 ∧ P δ a ls st μ)) := rfl
theorem tg_ic_ne {y : Nat → Int} {L G : Nat} {P : Dy → PT} {call : CT2} {Q : QT} {pc a b c x1 nx : Nat} {r : List Ent} {δ : Dy} {ls : Ls} {st : List MV} {μ : Mem} {n x z : Int} : seg2 y L G P call Q ((pc, .if_icmp .ne n, a, b, c, x1) :: r) nx δ ls (Sum.inl z :: Sum.inl x :: st) μ = ((x = z → seg2 y L G P call Q r nx δ ls st μ) ∧ (x ≠ z → inR x ∧ inR z ∧ P δ a ls st μ)) := rfl
theorem tg_if_lt {y : Nat → Int} {L G : Nat} {P : Dy → PT} {call : CT2} {Q : QT} {pc a b c x1 nx : Nat} {r : List Ent} {δ : Dy} {ls : Ls} {st : List MV} {μ : Mem} {n x : Int} : seg2 y L G P call Q ((pc, .ifCond .lt n, a, b, c, x1) :: r) nx δ ls (Sum.inl x :: st) μ = (inR x ∧ inR 0 ∧ (x < 0 → P δ a ls st μ) ∧ (0 ≤ x → seg2 y L G P call Q r nx δ ls st μ)) := rfl
theorem tg_ic_lt {y : Nat → Int} {L G : Nat} {P : Dy → PT} {call : CT2} {Q : QT} {pc a b c x1 nx : Nat} {r : List Ent} {δ : Dy} {ls : Ls} {st : List MV} {μ : Mem} {n x z : Int} : seg2 y L G P call Q ((pc, .if_icmp .lt n, a, b, c, x1) :: r) nx δ ls (Sum.inl z :: Sum.inl x :: st) μ = (inR x ∧ inR z ∧ (x < z → P δ a ls st μ) ∧ (z ≤ x → seg2 y L G P call Q r nx δ ls st μ)) := rfl
theorem tg_if_ge {y : Nat → Int} {L G : Nat} {P : Dy → PT} {call : CT2} {Q : QT} {pc a b c x1 nx : Nat} {r : List Ent} {δ : Dy} {ls : Ls} {st : List MV} {μ : Mem} {n x : Int} : seg2 y L G P call Q ((pc, .ifCond .ge n, a, b, c, x1) :: r) nx δ ls (Sum.inl x :: st) μ = (inR x ∧ inR 0 ∧ (x < 0 → seg2 y L G P call Q r nx δ ls st μ) ∧ (0 ≤ x → P δ a ls st μ)) := rfl
theorem tg_ic_ge {y : Nat → Int} {L G : Nat} {P : Dy → PT} {call : CT2} {Q : QT} {pc a b c x1 nx : Nat} {r : List Ent} {δ : Dy} {ls : Ls} {st : List MV} {μ : Mem} {n x z : Int} : seg2 y L G P call Q ((pc, .if_icmp .ge n, a, b, c, x1) :: r) nx δ ls (Sum.inl z :: Sum.inl x :: st) μ = (inR x ∧ inR z ∧ (x < z → seg2 y L G P call Q r nx δ ls st μ) ∧ (z ≤ x → P δ a ls st μ)) := rfl
theorem tg_if_gt {y : Nat → Int} {L G : Nat} {P : Dy → PT} {call : CT2} {Q : QT} {pc a b c x1 nx : Nat} {r : List Ent} {δ : Dy} {ls : Ls} {st : List MV} {μ : Mem} {n x : Int} : seg2 y L G P call Q ((pc, .ifCond .gt n, a, b, c, x1) :: r) nx δ ls (Sum.inl x :: st) μ = (inR 0 ∧ inR x ∧ (0 < x → P δ a ls st μ) ∧ (x ≤ 0 → seg2 y L G P call Q r nx δ ls st μ)) := rfl
theorem tg_ic_gt {y : Nat → Int} {L G : Nat} {P : Dy → PT} {call : CT2} {Q : QT} {pc a b c x1 nx : Nat} {r : List Ent} {δ : Dy} {ls : Ls} {st : List MV} {μ : Mem} {n x z : Int} : seg2 y L G P call Q ((pc, .if_icmp .gt n, a, b, c, x1) :: r) nx δ ls (Sum.inl z :: Sum.inl x :: st) μ = (inR z ∧ inR x ∧ (z < x → P δ a ls st μ) ∧ (x ≤ z → seg2 y L G P call Q r nx δ ls st μ)) := rfl
theorem tg_if_le {y : Nat → Int} {L G : Nat} {P : Dy → PT} {call : CT2} {Q : QT} {pc a b c x1 nx : Nat} {r : List Ent} {δ : Dy} {ls : Ls} {st : List MV} {μ : Mem} {n x : Int} : seg2 y L G P call Q ((pc, .ifCond .le n, a, b, c, x1) :: r) nx δ ls (Sum.inl x :: st) μ = (inR 0 ∧ inR x ∧ (0 < x → seg2 y L G P call Q r nx δ ls st μ) ∧ (x ≤ 0 → P δ a ls st μ)) := rfl
theorem tg_ic_le {y : Nat → Int} {L G : Nat} {P : Dy → PT} {call : CT2} {Q : QT} {pc a b c x1 nx : Nat} {r : List Ent} {δ : Dy} {ls : Ls} {st : List MV} {μ : Mem} {n x z : Int} : seg2 y L G P call Q ((pc, .if_icmp .le n, a, b, c, x1) :: r) nx δ ls (Sum.inl z :: Sum.inl x :: st) μ = (inR z ∧ inR x ∧ (z < x → seg2 y L G P call Q r nx δ ls st μ) ∧ (x ≤ z → P δ a ls st μ)) := rfl
theorem tg_alen {y : Nat → Int} {L G : Nat} {P : Dy → PT} {call : CT2} {Q : QT} {pc a b c x1 nx : Nat} {r : List Ent} {δ : Dy} {ls : Ls} {st : List MV} {μ : Mem} {o : Nat} : seg2 y L G P call Q ((pc, .arraylength, a, b, c, x1) :: r) nx δ ls (Sum.inr (Sum.inr o) :: st) μ = (o = 1 ∧ seg2 y L G P call Q r nx δ ls (Sum.inl (L : Int) :: st) μ) := rfl
theorem tg_sld {y : Nat → Int} {L G : Nat} {P : Dy → PT} {call : CT2} {Q : QT} {pc b c x1 nx : Nat} {r : List Ent} {δ : Dy} {ls : Ls} {st : List MV} {μ : Mem} {i : Int} {o : Nat} : seg2 y L G P call Q ((pc, .iaload, 1, b, c, x1) :: r) nx δ ls (Sum.inl i :: Sum.inr (Sum.inr o) :: st) μ = (o = 1 ∧ 0 ≤ i ∧ i < (L : Int) ∧ seg2 y L G P call Q r nx δ ls (Sum.inl (y i.toNat) :: st) μ) := rfl
theorem tg_iaload {y : Nat → Int} {L G : Nat} {P : Dy → PT} {call : CT2} {Q : QT} {pc b c x1 nx : Nat} {r : List Ent} {δ : Dy} {ls : Ls} {st : List MV} {μ : Mem} {i : Int} {o : Nat} : seg2 y L G P call Q ((pc, .iaload, 0, b, c, x1) :: r) nx δ ls (Sum.inl i :: Sum.inr (Sum.inr o) :: st) μ = ((510 ≤ o ∧ o < 510 + δ.2.1) ∧ 0 ≤ i ∧ i < (δ.2.2 o : Int) ∧ seg2 y L G P call Q r nx δ ls (Sum.inl (μ o i.toNat) :: st) μ) := rfl
theorem tg_iastore {y : Nat → Int} {L G : Nat} {P : Dy → PT} {call : CT2} {Q : QT} {pc a b c x1 nx : Nat} {r : List Ent} {δ : Dy} {ls : Ls} {st : List MV} {μ : Mem} {v i : Int} {o : Nat} : seg2 y L G P call Q ((pc, .iastore, a, b, c, x1) :: r) nx δ ls (Sum.inl v :: Sum.inl i :: Sum.inr (Sum.inr o) :: st) μ = ((510 ≤ o ∧ o < 510 + δ.2.1) ∧ 0 ≤ i ∧ i < (δ.2.2 o : Int) ∧ seg2 y L G P call Q r nx δ ls st (ms μ o i.toNat v)) := rfl
theorem tg_newa {y : Nat → Int} {L G : Nat} {P : Dy → PT} {call : CT2} {Q : QT} {pc a b c x1 nx : Nat} {r : List Ent} {δ : Dy} {ls : Ls} {st : List MV} {μ : Mem} {x : Int} : seg2 y L G P call Q ((pc, .newarray .int, a, b, c, x1) :: r) nx δ ls [Sum.inl x] μ = (([] : List MV) = [] ∧ (0 ≤ x ∧ x ≤ 48 ∧ δ.1 < G) ∧ noR (510 + δ.2.1) ls ∧ seg2 y L G P call Q r nx (δ.1 + 1, δ.2.1 + 1, upl δ.2.2 (510 + δ.2.1) x.toNat) ls [Sum.inr (Sum.inr (510 + δ.2.1))] (zr μ (510 + δ.2.1))) := rfl
theorem tg_iret0 {y : Nat → Int} {L G : Nat} {P : Dy → PT} {call : CT2} {Q : QT} {pc b c x1 nx : Nat} {r : List Ent} {δ : Dy} {ls : Ls} {μ : Mem} {x : Int} : seg2 y L G P call Q ((pc, .ireturn, 0, b, c, x1) :: r) nx δ ls [Sum.inl x] μ = (Q (Sum.inl x) μ) := by
  show (([] : List MV) = [] ∧ ((0 : Nat) = 1 → x = 0 ∨ x = 1) ∧ Q (.inl x) μ) = _
  simp
theorem tg_iret1 {y : Nat → Int} {L G : Nat} {P : Dy → PT} {call : CT2} {Q : QT} {pc b c x1 nx : Nat} {r : List Ent} {δ : Dy} {ls : Ls} {μ : Mem} {x : Int} : seg2 y L G P call Q ((pc, .ireturn, 1, b, c, x1) :: r) nx δ ls [Sum.inl x] μ = ((x = 0 ∨ x = 1) ∧ Q (Sum.inl x) μ) := by
  show (([] : List MV) = [] ∧ ((1 : Nat) = 1 → x = 0 ∨ x = 1) ∧ Q (.inl x) μ) = _
  simp
theorem tg_iv1 {y : Nat → Int} {L G : Nat} {P : Dy → PT} {call : CT2} {Q : QT} {pc a c x1 nx : Nat} {r : List Ent} {δ : Dy} {ls : Ls} {st : List MV} {μ : Mem} {n o : Nat} : seg2 y L G P call Q ((pc, .invokevirtual n, a, 1, c, x1) :: r) nx δ ls (Sum.inr (Sum.inr o) :: st) μ = (lenC 6 st ∧ (o = 0 ∧ True) ∧ Call σ1 6 a [Sum.inr (Sum.inr o)] μ fun v μ' => (∀ k, 510 ≤ k → μ' k = μ k) ∧ P δ (pc + 3) ls (v :: st) μ') := rfl
theorem tg_iv2 {y : Nat → Int} {L G : Nat} {P : Dy → PT} {call : CT2} {Q : QT} {pc a c x1 nx : Nat} {r : List Ent} {δ : Dy} {ls : Ls} {st : List MV} {μ : Mem} {n o : Nat} {v1 : Int} : seg2 y L G P call Q ((pc, .invokevirtual n, a, 2, c, x1) :: r) nx δ ls (Sum.inl v1 :: Sum.inr (Sum.inr o) :: st) μ = (lenC 6 st ∧ (o = 0 ∧ True) ∧ Call σ1 6 a [Sum.inr (Sum.inr o), Sum.inl v1] μ fun v μ' => (∀ k, 510 ≤ k → μ' k = μ k) ∧ P δ (pc + 3) ls (v :: st) μ') := rfl
theorem tg_iv3 {y : Nat → Int} {L G : Nat} {P : Dy → PT} {call : CT2} {Q : QT} {pc a c x1 nx : Nat} {r : List Ent} {δ : Dy} {ls : Ls} {st : List MV} {μ : Mem} {n o : Nat} {v1 v2 : Int} : seg2 y L G P call Q ((pc, .invokevirtual n, a, 3, c, x1) :: r) nx δ ls (Sum.inl v2 :: Sum.inl v1 :: Sum.inr (Sum.inr o) :: st) μ = (lenC 6 st ∧ (o = 0 ∧ True) ∧ Call σ1 6 a [Sum.inr (Sum.inr o), Sum.inl v1, Sum.inl v2] μ fun v μ' => (∀ k, 510 ≤ k → μ' k = μ k) ∧ P δ (pc + 3) ls (v :: st) μ') := rfl
theorem tg_iv4 {y : Nat → Int} {L G : Nat} {P : Dy → PT} {call : CT2} {Q : QT} {pc a c x1 nx : Nat} {r : List Ent} {δ : Dy} {ls : Ls} {st : List MV} {μ : Mem} {n o : Nat} {v1 v2 v3 : Int} : seg2 y L G P call Q ((pc, .invokevirtual n, a, 4, c, x1) :: r) nx δ ls (Sum.inl v3 :: Sum.inl v2 :: Sum.inl v1 :: Sum.inr (Sum.inr o) :: st) μ = (lenC 6 st ∧ (o = 0 ∧ True) ∧ Call σ1 6 a [Sum.inr (Sum.inr o), Sum.inl v1, Sum.inl v2, Sum.inl v3] μ fun v μ' => (∀ k, 510 ≤ k → μ' k = μ k) ∧ P δ (pc + 3) ls (v :: st) μ') := rfl
theorem tg_is1 {y : Nat → Int} {L G : Nat} {P : Dy → PT} {call : CT2} {Q : QT} {pc a c x1 nx : Nat} {r : List Ent} {δ : Dy} {ls : Ls} {st : List MV} {μ : Mem} {n : Nat} {v0 : MV} : seg2 y L G P call Q ((pc, .invokestatic n, a, 1, c, x1) :: r) nx δ ls (v0 :: st) μ = (lenC 6 st ∧ δ.1 + mcL a ≤ G ∧ call a [v0] δ μ fun v μ' => P (δ.1 + mcL a, δ.2) (pc + 3) ls (v :: st) μ') := rfl
theorem tg_is2 {y : Nat → Int} {L G : Nat} {P : Dy → PT} {call : CT2} {Q : QT} {pc a c x1 nx : Nat} {r : List Ent} {δ : Dy} {ls : Ls} {st : List MV} {μ : Mem} {n : Nat} {v0 v1 : MV} : seg2 y L G P call Q ((pc, .invokestatic n, a, 2, c, x1) :: r) nx δ ls (v1 :: v0 :: st) μ = (lenC 6 st ∧ δ.1 + mcL a ≤ G ∧ call a [v0, v1] δ μ fun v μ' => P (δ.1 + mcL a, δ.2) (pc + 3) ls (v :: st) μ') := rfl
theorem tg_is3 {y : Nat → Int} {L G : Nat} {P : Dy → PT} {call : CT2} {Q : QT} {pc a c x1 nx : Nat} {r : List Ent} {δ : Dy} {ls : Ls} {st : List MV} {μ : Mem} {n : Nat} {v0 v1 v2 : MV} : seg2 y L G P call Q ((pc, .invokestatic n, a, 3, c, x1) :: r) nx δ ls (v2 :: v1 :: v0 :: st) μ = (lenC 6 st ∧ δ.1 + mcL a ≤ G ∧ call a [v0, v1, v2] δ μ fun v μ' => P (δ.1 + mcL a, δ.2) (pc + 3) ls (v :: st) μ') := rfl
theorem tg_is5 {y : Nat → Int} {L G : Nat} {P : Dy → PT} {call : CT2} {Q : QT} {pc a c x1 nx : Nat} {r : List Ent} {δ : Dy} {ls : Ls} {st : List MV} {μ : Mem} {n : Nat} {v0 v1 v2 v3 v4 : MV} : seg2 y L G P call Q ((pc, .invokestatic n, a, 5, c, x1) :: r) nx δ ls (v4 :: v3 :: v2 :: v1 :: v0 :: st) μ = (lenC 6 st ∧ δ.1 + mcL a ≤ G ∧ call a [v0, v1, v2, v3, v4] δ μ fun v μ' => P (δ.1 + mcL a, δ.2) (pc + 3) ls (v :: st) μ') := rfl
theorem tg_nil {y : Nat → Int} {L G : Nat} {P : Dy → PT} {call : CT2} {Q : QT} {nx : Nat} {δ : Dy} {ls : Ls} {st : List MV} {μ : Mem} : seg2 y L G P call Q [] nx δ ls st μ = P δ nx ls st μ := rfl
theorem lc0n : lenC 0 [] = True := rfl
theorem lc1n : lenC 1 [] = True := rfl
theorem lc1i {x : Int} {t : List MV} : lenC 1 (Sum.inl x :: t) = lenC 0 t := rfl
theorem lc1r {x : Nat} {t : List MV} : lenC 1 (Sum.inr (Sum.inr x) :: t) = lenC 0 t := rfl
theorem lc2n : lenC 2 [] = True := rfl
theorem lc2i {x : Int} {t : List MV} : lenC 2 (Sum.inl x :: t) = lenC 1 t := rfl
theorem lc2r {x : Nat} {t : List MV} : lenC 2 (Sum.inr (Sum.inr x) :: t) = lenC 1 t := rfl
theorem lc3n : lenC 3 [] = True := rfl
theorem lc3i {x : Int} {t : List MV} : lenC 3 (Sum.inl x :: t) = lenC 2 t := rfl
theorem lc3r {x : Nat} {t : List MV} : lenC 3 (Sum.inr (Sum.inr x) :: t) = lenC 2 t := rfl
theorem lc4n : lenC 4 [] = True := rfl
theorem lc4i {x : Int} {t : List MV} : lenC 4 (Sum.inl x :: t) = lenC 3 t := rfl
theorem lc4r {x : Nat} {t : List MV} : lenC 4 (Sum.inr (Sum.inr x) :: t) = lenC 3 t := rfl
theorem lc5n : lenC 5 [] = True := rfl
theorem lc5i {x : Int} {t : List MV} : lenC 5 (Sum.inl x :: t) = lenC 4 t := rfl
theorem lc5r {x : Nat} {t : List MV} : lenC 5 (Sum.inr (Sum.inr x) :: t) = lenC 4 t := rfl
theorem lc6n : lenC 6 [] = True := rfl
theorem lc6i {x : Int} {t : List MV} : lenC 6 (Sum.inl x :: t) = lenC 5 t := rfl
theorem lc6r {x : Nat} {t : List MV} : lenC 6 (Sum.inr (Sum.inr x) :: t) = lenC 5 t := rfl
theorem mc_0 : mcL 0 = 0 := rfl
theorem mc_1 : mcL 1 = 0 := rfl
theorem mc_2 : mcL 2 = 0 := rfl
theorem mc_3 : mcL 3 = 0 := rfl
theorem mc_4 : mcL 4 = 2 := rfl
theorem mc_5 : mcL 5 = 2 := rfl
theorem mc_6 : mcL 6 = 2 := rfl
theorem mc_7 : mcL 7 = 26 := rfl
theorem noR_0 {n : Nat} : noR n [] = True := rfl
theorem noR_r {n k : Nat} {t : Ls} : noR n (some (Sum.inr (Sum.inr k)) :: t) = (k ≠ n ∧ noR n t) := rfl
theorem noR_i {n : Nat} {x : Int} {t : Ls} : noR n (some (Sum.inl x) :: t) = noR n t := rfl
theorem noR_n {n : Nat} {t : Ls} : noR n (none :: t) = noR n t := rfl
theorem zr_o {μ : Mem} {k k' : Nat} (h : k' ≠ k) : zr μ k k' = μ k' := by funext j; unfold zr; rw [if_neg h]
theorem zr_s {μ : Mem} {k j : Nat} : zr μ k k j = 0 := by unfold zr; rw [if_pos rfl]
theorem upl_s {f : Nat → Nat} {k v : Nat} : upl f k v k = v := by unfold upl; rw [if_pos rfl]
theorem upl_o {f : Nat → Nat} {k v j : Nat} (h : j ≠ k) : upl f k v j = f j := by unfold upl; rw [if_neg h]
theorem tk5_m {n : Nat} {st : List MV} {f g : List MV → List MV → Prop} (h : ∀ x r, f x r → g x r) : tk5 n st f → tk5 n st g := by
  unfold tk5; split <;> first | exact h _ _ | exact id
def CM2 (call : CT2) : Prop := ∀ mi vs δ μ (Q Q' : QT), (∀ v μ, Q v μ → Q' v μ) → call mi vs δ μ Q → call mi vs δ μ Q'
theorem stp2_m {y : Nat → Int} {L G : Nat} {P P' : Dy → PT} {call : CT2} {Q Q' : QT} {pc a b : Nat} {k k' : Dy → Ls → List MV → Mem → Prop} (hP : ∀ δ pc ls st μ, P δ pc ls st μ → P' δ pc ls st μ) (hQ : ∀ v μ, Q v μ → Q' v μ) (hk : ∀ δ ls st μ, k δ ls st μ → k' δ ls st μ) (hc : CM2 call) {i : Instr} {δ : Dy} {ls : Ls} {st : List MV} {μ : Mem} :
    stp2 y L G P call Q pc i a b k δ ls st μ → stp2 y L G P' call Q' pc i a b k' δ ls st μ := by
  intro h
  cases i with
  | iconst n => exact hk _ _ _ _ h
  | bipush n => exact hk _ _ _ _ h
  | sipush n => exact hk _ _ _ _ h
  | ldc n => exact hk _ _ _ _ h
  | iload n => exact ldI_m (fun x h => hk _ _ _ _ h) h
  | iload_n n => exact ldI_m (fun x h => hk _ _ _ _ h) h
  | aload n => exact ldR_m (fun x h => hk _ _ _ _ h) h
  | aload_n n => exact ldR_m (fun x h => hk _ _ _ _ h) h
  | istore n => exact p1_m (fun x r h => ⟨h.1, hk _ _ _ _ h.2⟩) h
  | istore_n n => exact p1_m (fun x r h => ⟨h.1, hk _ _ _ _ h.2⟩) h
  | astore n => exact pR_m (fun x r h => ⟨h.1, hk _ _ _ _ h.2⟩) h
  | astore_n n => exact pR_m (fun x r h => ⟨h.1, hk _ _ _ _ h.2⟩) h
  | iinc n d => exact ldI_m (fun x h => ⟨h.1, hk _ _ _ _ h.2⟩) h
  | iadd => exact p2_m (fun x y r h => hk _ _ _ _ h) h
  | isub => exact p2_m (fun x y r h => hk _ _ _ _ h) h
  | imul => exact p2_m (fun x y r h => hk _ _ _ _ h) h
  | idiv => exact p2_m (fun x y r h => ⟨h.1, h.2.1, hk _ _ _ _ h.2.2⟩) h
  | irem => exact p2_m (fun x y r h => ⟨h.1, h.2.1, hk _ _ _ _ h.2.2⟩) h
  | iand => exact p2_m (fun x y r h => hk _ _ _ _ h) h
  | ior => exact p2_m (fun x y r h => hk _ _ _ _ h) h
  | ishl => exact p2_m (fun x y r h => hk _ _ _ _ h) h
  | ishr => exact p2_m (fun x y r h => hk _ _ _ _ h) h
  | pop => exact p1_m (fun x r h => hk _ _ _ _ h) h
  | goto o => exact hP _ _ _ _ _ h
  | ifCond cc o => exact p1_m (fun x r h => cnd_m (hP _ _ _ _ _) (hk _ _ _ _) h) h
  | if_icmp cc o => exact p2_m (fun x y r h => cnd_m (hP _ _ _ _ _) (hk _ _ _ _) h) h
  | arraylength => exact pR_m (fun x r h => ⟨h.1, hk _ _ _ _ h.2⟩) h
  | iaload =>
    revert h
    simp only [stp2]
    refine pA_m (fun o i r => ?_)
    split
    · exact fun h => ⟨h.1, h.2.1, h.2.2.1, hk _ _ _ _ h.2.2.2⟩
    · exact fun h => ⟨h.1, h.2.1, h.2.2.1, hk _ _ _ _ h.2.2.2⟩
  | iastore => exact pAS_m (fun x y z r h => ⟨h.1, h.2.1, h.2.2.1, hk _ _ _ _ h.2.2.2⟩) h
  | newarray t =>
    cases t with
    | int => exact p1_m (fun x r h => ⟨h.1, h.2.1, h.2.2.1, hk _ _ _ _ h.2.2.2⟩) h
    | _ => exact (h : False).elim
  | ireturn => exact p1_m (fun x r h => ⟨h.1, h.2.1, hQ _ _ h.2.2⟩) h
  | invokevirtual n => revert h; simp only [stp2]; exact tk_m (fun vs r h => ⟨h.1, h.2.1, Call_m σ1 6 _ _ _ _ _ (fun v μ h => ⟨h.1, hP _ _ _ _ _ h.2⟩) h.2.2⟩)
  | invokestatic n => revert h; simp only [stp2]; exact tk5_m (fun vs r h => ⟨h.1, h.2.1, hc _ _ _ _ _ _ (fun v μ h => hP _ _ _ _ _ h) h.2.2⟩)
  | _ => exact (h : False).elim
theorem seg2_m {y : Nat → Int} {L G : Nat} {P P' : Dy → PT} {call : CT2} {Q Q' : QT} (hP : ∀ δ pc ls st μ, P δ pc ls st μ → P' δ pc ls st μ) (hQ : ∀ v μ, Q v μ → Q' v μ) (hc : CM2 call) : ∀ {l : List Ent} {nx : Nat} {δ : Dy} {ls : Ls} {st : List MV} {μ : Mem},
    seg2 y L G P call Q l nx δ ls st μ → seg2 y L G P' call Q' l nx δ ls st μ
  | [], _, _, _, _, _, h => hP _ _ _ _ _ h
  | (_, _, _, _, _, _) :: _, _, _, _, _, _, h => stp2_m hP hQ (fun _ _ _ _ h => seg2_m hP hQ hc h) hc h
theorem wp2_m {y : Nat → Int} {L G : Nat} {call : CT2} {mi : Nat} {Q Q' : QT} (hQ : ∀ v μ, Q v μ → Q' v μ) (hc : CM2 call) {δ : Dy} {pc : Nat} {ls : Ls} {st : List MV} {μ : Mem} (h : wp2 y L G call mi Q δ pc ls st μ) : wp2 y L G call mi Q' δ pc ls st μ :=
  ⟨trivial, fun P hP => h.2 P fun pc l nx δ ls st μ hb hs => hP pc l nx δ ls st μ hb (seg2_m (fun _ _ _ _ _ h => h) hQ hc hs)⟩
theorem Call2_m (y : Nat → Int) (L : Nat) : ∀ d : Nat, CM2 (Call2 y L d)
  | 0, _, _, _, _, _, _, _, h => h
  | d + 1, _, _, _, _, _, _, hQ, h => ⟨h.1, h.2.1, wp2_m hQ (Call2_m y L d) h.2.2⟩
theorem wp2_go {y : Nat → Int} {L G d mi : Nat} {Q : QT} {pc : Nat} {l : List Ent} {nx : Nat} {δ : Dy} {ls : Ls} {st : List MV} {μ : Mem} (hb : blkL mi pc = some (l, nx)) (h : seg2 y L G (wp2 y L G (Call2 y L d) mi Q) (Call2 y L d) Q l nx δ ls st μ) : wp2 y L G (Call2 y L d) mi Q δ pc ls st μ :=
  ⟨trivial, fun P hP => hP pc l nx δ ls st μ hb (seg2_m (fun _ _ _ _ _ h => h.2 P hP) (fun _ _ h => h) (Call2_m y L d) h)⟩
theorem Call2_go {y : Nat → Int} {L d mi : Nat} {vs : List MV} {Q : QT} {ls : Ls} {δ : Dy} {μ : Mem} (h1 : vs.length = nL2 mi) (h2 : (argL vs).length ≤ lL mi) (h3 : iniL2 mi vs = ls) (h : wp2 y L (mcL mi) (Call2 y L d) mi Q (0, δ.2) 0 ls [] μ) : Call2 y L (d + 1) mi vs δ μ Q := ⟨h1, h2, by rw [h3]; exact h⟩
