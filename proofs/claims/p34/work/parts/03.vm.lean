/-! A SMALL MACHINE over the same instructions: ints are integers, a reference is the number of a cell, the heap is a function from cell and place to an integer; pointers never change (layout 'lay'). -/
abbrev MV : Type := Sum Int (Sum Int64 Nat)
abbrev vI (x : Int) : MV := Sum.inl x
abbrev vL (x : Int64) : MV := Sum.inr (Sum.inl x)
abbrev vR (k : Nat) : MV := Sum.inr (Sum.inr k)
abbrev Mem : Type := Nat → Nat → Int
abbrev Ls : Type := List (Option MV)
/-- how many cells are made, which pointers are set -/
abbrev Sg : Type := Nat × (Nat → Nat → Bool)
def inR (x : Int) : Prop := -2147483648 ≤ x ∧ x ≤ 2147483647
def ms (μ : Mem) (k j : Nat) (v : Int) : Mem := fun k' j' => if k' = k ∧ j' = j then v else μ k' j'
def mcp (μ : Mem) (k0 sp k1 dp n : Nat) : Mem := fun k j => if k = k1 ∧ dp ≤ j ∧ j < dp + n then μ k0 (sp + (j - dp)) else μ k j
-- the layout: kind and size of each cell; kinds 0 to 7 objects (the class), 100 int[], 101 char[], 102 boolean[], 103 Hearing[], 104 State[] of the history, 105 State[] of the slots
def layS : List (Nat × Nat) := [(4, 4), (100, 24), (100, 24), (100, 24)]
def layH : List (Nat × Nat) := [(1, 3), (4, 4), (100, 24), (100, 24), (100, 24), (100, 24), (100, 24)]
def layT : List (Nat × Nat) := [(5, 12), (4, 4), (100, 24), (100, 24), (100, 24), (100, 24), (100, 96), (100, 8), (100, 8), (100, 6), (100, 6), (102, 6), (103, 6)] ++ (layH ++ (layH ++ (layH ++ (layH ++ (layH ++ layH)))))
def lay : List (Nat × Nat) := [(6, 7)] ++ (layT ++ ([(2, 3), (104, 6)] ++ (layT ++ (layT ++ (layT ++ (layT ++ (layT ++ (layT ++ ([(105, 2), (102, 2), (3, 2), (101, 60), (0, 6)] ++ (layH ++ (layT ++ layT)))))))))))
def shp (σ : Sg) (k : Nat) : Nat × Nat := if k < σ.1 then lay.getD k (999, 0) else (999, 0)
/-- an object's fields: 0 int, 1 boolean, n + 2 a pointer to the cell n further on -/
def fks (c : Nat) : List Nat := match c with
  | 0 => [0, 0, 0, 0, 0, 0]
  | 1 => [3, 7, 8]
  | 2 => [3, 0, 0]
  | 3 => [3, 0]
  | 4 => [3, 4, 5, 0]
  | 5 => [3, 7, 8, 9, 10, 11, 12, 13, 14, 0, 0, 0]
  | 6 => [3, 58, 390, 391, 392, 394, 395]
  | _ => []
/-- an array of references: the cell that its place i points to is so much further on -/
def aks (c : Nat) : Nat × Nat := match c with
  | 103 => (1, 7)
  | 104 => (1, 55)
  | _ => (12, 55)
-- operands
def p1 (st : List MV) (f : Int → List MV → Prop) : Prop := match st with | .inl x :: r => f x r | _ => False
def p2 (st : List MV) (f : Int → Int → List MV → Prop) : Prop := match st with | .inl y :: .inl x :: r => f x y r | _ => False
def pR (st : List MV) (f : Nat → List MV → Prop) : Prop := match st with | .inr (.inr k) :: r => f k r | _ => False
def pA (st : List MV) (f : Nat → Int → List MV → Prop) : Prop := match st with | .inl i :: .inr (.inr k) :: r => f k i r | _ => False
def pAS (st : List MV) (f : Nat → Int → Int → List MV → Prop) : Prop := match st with | .inl v :: .inl i :: .inr (.inr k) :: r => f k i v r | _ => False
def pL (st : List MV) (f : Int64 → List MV → Prop) : Prop := match st with | .inr (.inl x) :: r => f x r | _ => False
def pLL (st : List MV) (f : Int64 → Int64 → List MV → Prop) : Prop := match st with | .inr (.inl y) :: .inr (.inl x) :: r => f x y r | _ => False
def pLI (st : List MV) (f : Int64 → Int → List MV → Prop) : Prop := match st with | .inl y :: .inr (.inl x) :: r => f x y r | _ => False
def pD (st : List MV) (f : MV → List MV → Prop) : Prop := match st with | .inl x :: r => f (.inl x) r | .inr (.inr k) :: r => f (.inr (.inr k)) r | _ => False
def pC (st : List MV) (f : Nat → Int → Nat → Int → Int → List MV → Prop) : Prop := match st with | .inl n :: .inl dp :: .inr (.inr k1) :: .inl sp :: .inr (.inr k0) :: r => f k0 sp k1 dp n r | _ => False
-- locals
def ldI : Ls → Nat → (Int → Prop) → Prop
  | [], _, _ => False
  | h :: _, 0, f => (match h with | some (.inl x) => f x | _ => False)
  | _ :: t, n + 1, f => ldI t n f
def ldL : Ls → Nat → (Int64 → Prop) → Prop
  | [], _, _ => False
  | h :: _, 0, f => (match h with | some (.inr (.inl x)) => f x | _ => False)
  | _ :: t, n + 1, f => ldL t n f
def ldR : Ls → Nat → (Nat → Prop) → Prop
  | [], _, _ => False
  | h :: _, 0, f => (match h with | some (.inr (.inr x)) => f x | _ => False)
  | _ :: t, n + 1, f => ldR t n f
def stL : Ls → Nat → Option MV → Ls
  | _ :: t, 0, v => v :: t
  | h :: t, n + 1, v => h :: stL t n v
  | [], _, _ => []
def nLg : Option MV → Prop
  | some (.inr (.inl _)) => False
  | _ => True
/-- a store at place n of one word: there is such a place, and no long ends there -/
def okS : Ls → Nat → Prop
  | _ :: _, 0 => True
  | h :: _ :: _, 1 => nLg h
  | _ :: t, n + 2 => okS t (n + 1)
  | _, _ => False
def okS2 : Ls → Nat → Prop
  | _ :: _ :: _, 0 => True
  | h :: _ :: _ :: _, 1 => nLg h
  | _ :: t, n + 2 => okS2 t (n + 1)
  | _, _ => False
-- arithmetic that is not the integers' own
def iAnd (x y : Int) : Int := (Int32.ofInt x &&& Int32.ofInt y).toInt
def iOr (x y : Int) : Int := (Int32.ofInt x ||| Int32.ofInt y).toInt
def iShl (x y : Int) : Int := (Int32.ofInt x <<< (Int32.ofInt y &&& 31)).toInt
def iShr (x y : Int) : Int := (Int32.ofInt x >>> (Int32.ofInt y &&& 31)).toInt
def iI2c (x : Int) : Int := ((Int32.ofInt x).toUInt32 % 65536).toInt32.toInt
def lUshr (x : Int64) (y : Int) : Int64 := (x.toUInt64 >>> ((Int32.ofInt y).toInt64.toUInt64 &&& Int64.toUInt64 63)).toInt64
def lCmp (x y : Int64) : Int := (lg_cmp x y).toInt
/-- the stack below a call's arguments is short -/
def len4 : List MV → Prop
  | [] => True
  | [_] => True
  | [_, _] => True
  | [_, _, _] => True
  | [_, _, _, _] => True
  | _ => False
-- branches
def cEq (x y : Int) (a b : Prop) : Prop := (x = y → a) ∧ (x ≠ y → inR x ∧ inR y ∧ b)
def cLt (x y : Int) (a b : Prop) : Prop := inR x ∧ inR y ∧ (x < y → a) ∧ (y ≤ x → b)
def cnd (c : ClassFile.Cond) (x y : Int) (a b : Prop) : Prop := match c with
  | .eq => cEq x y a b
  | .ne => cEq x y b a
  | .lt => cLt x y a b
  | .ge => cLt x y b a
  | .gt => cLt y x a b
  | .le => cLt y x b a
/-- a switch by its rows: at value v goes to pc + o -/
def swc (pc : Nat) (K : Nat → Prop) (x : Int) : Int → List Int → Prop
  | _, [] => True
  | v, o :: os => (x = v → K ((pc : Int) + o).toNat) ∧ swc pc K x (v + 1) os
def tk (n : Nat) (st : List MV) (f : List MV → List MV → Prop) : Prop := match n, st with
  | 0, r => f [] r
  | 1, a :: r => f [a] r
  | 2, b :: a :: r => f [a, b] r
  | 3, c :: b :: a :: r => f [a, b, c] r
  | 4, d :: c :: b :: a :: r => f [a, b, c, d] r
  | _, _ => False
abbrev PT : Type := Nat → Ls → List MV → Mem → Prop
abbrev QT : Type := MV → Mem → Prop
abbrev CT : Type := Nat → List MV → Mem → QT → Prop
/-- what a call pushes: nothing of a void method -/
def psh (k : Nat) (v : MV) (r : List MV) : List MV := if k = 0 then r else v :: r
/-- what may be put into a field: a boolean is 0 or 1 -/
def pfv (c : Nat) (v : Int) : Prop := match c with
  | 0 => True
  | 1 => v = 0 ∨ v = 1
  | _ => False
/-- the receiver is an object of class e -/
def rcv (σ : Sg) (e : Nat) : List MV → Prop
  | .inr (.inr k) :: _ => (shp σ k).1 = e
  | _ => False
def stp (σ : Sg) (P : PT) (call : CT) (Q : QT) (pc : Nat) (i : Instr) (a b c x1 : Nat) (k : Ls → List MV → Mem → Prop) (ls : Ls) (st : List MV) (μ : Mem) : Prop := match i with
  | .iconst n => k ls (.inl n :: st) μ
  | .bipush n => k ls (.inl n :: st) μ
  | .sipush n => k ls (.inl n :: st) μ
  | .lconst n => k ls (.inr (.inl (Int64.ofNat n.val)) :: st) μ
  | .ldc2_w _ => k ls (.inr (.inl (Int64.ofNat a)) :: st) μ
  | .iload n => ldI ls n fun x => k ls (.inl x :: st) μ
  | .iload_n n => ldI ls n.val fun x => k ls (.inl x :: st) μ
  | .lload n => ldL ls n fun x => k ls (.inr (.inl x) :: st) μ
  | .lload_n n => ldL ls n.val fun x => k ls (.inr (.inl x) :: st) μ
  | .aload n => ldR ls n fun x => k ls (.inr (.inr x) :: st) μ
  | .aload_n n => ldR ls n.val fun x => k ls (.inr (.inr x) :: st) μ
  | .istore n => p1 st fun x r => okS ls n ∧ k (stL ls n (some (.inl x))) r μ
  | .istore_n n => p1 st fun x r => okS ls n.val ∧ k (stL ls n.val (some (.inl x))) r μ
  | .astore n => pR st fun x r => okS ls n ∧ k (stL ls n (some (.inr (.inr x)))) r μ
  | .astore_n n => pR st fun x r => okS ls n.val ∧ k (stL ls n.val (some (.inr (.inr x)))) r μ
  | .lstore n => pL st fun x r => okS2 ls n ∧ k (stL (stL ls n (some (.inr (.inl x)))) (n + 1) none) r μ
  | .lstore_n n => pL st fun x r => okS2 ls n.val ∧ k (stL (stL ls n.val (some (.inr (.inl x)))) (n.val + 1) none) r μ
  | .iinc n d => ldI ls n fun x => okS ls n ∧ k (stL ls n (some (.inl (x + d)))) st μ
  | .iadd => p2 st fun x y r => k ls (.inl (x + y) :: r) μ
  | .isub => p2 st fun x y r => k ls (.inl (x - y) :: r) μ
  | .imul => p2 st fun x y r => k ls (.inl (x * y) :: r) μ
  | .iand => p2 st fun x y r => k ls (.inl (iAnd x y) :: r) μ
  | .ior => p2 st fun x y r => k ls (.inl (iOr x y) :: r) μ
  | .ishl => p2 st fun x y r => k ls (.inl (iShl x y) :: r) μ
  | .ishr => p2 st fun x y r => k ls (.inl (iShr x y) :: r) μ
  | .i2c => p1 st fun x r => k ls (.inl (iI2c x) :: r) μ
  | .i2l => p1 st fun x r => k ls (.inr (.inl (Int32.ofInt x).toInt64) :: r) μ
  | .l2i => pL st fun x r => k ls (.inl x.toInt32.toInt :: r) μ
  | .land => pLL st fun x y r => k ls (.inr (.inl (x &&& y)) :: r) μ
  | .lushr => pLI st fun x y r => k ls (.inr (.inl (lUshr x y)) :: r) μ
  | .lcmp => pLL st fun x y r => k ls (.inl (lCmp x y) :: r) μ
  | .dup => pD st fun v r => k ls (v :: v :: r) μ
  | .dup2 => pD st fun v r => pD r fun w r2 => k ls (v :: w :: v :: w :: r2) μ
  | .pop => pD st fun _ r => k ls r μ
  | .goto _ => P a ls st μ
  | .ifCond cc _ => p1 st fun x r => cnd cc x 0 (P a ls r μ) (k ls r μ)
  | .if_icmp cc _ => p2 st fun x y r => cnd cc x y (P a ls r μ) (k ls r μ)
  | .tableswitch d lo hi offs => p1 st fun x r => inR x ∧ swc pc (fun t => P t ls r μ) x lo offs.toList ∧ (x < lo ∨ hi < x → P ((pc : Int) + d).toNat ls r μ)
  | .getfield _ => pR st fun o r => (shp σ o).1 = a ∧ (match c with | 0 => k ls (.inl (μ o b) :: r) μ | 1 => k ls (.inl (μ o b) :: r) μ | n + 2 => σ.2 o b = true ∧ k ls (.inr (.inr (o + n)) :: r) μ)
  | .putfield _ => match st with
    | .inl v :: .inr (.inr o) :: r => (shp σ o).1 = a ∧ pfv c v ∧ k ls r (ms μ o b v)
    | _ => False
  | .iaload => pA st fun o i r => (shp σ o).1 = 100 ∧ 0 ≤ i ∧ i < ((shp σ o).2 : Int) ∧ k ls (.inl (μ o i.toNat) :: r) μ
  | .caload => pA st fun o i r => (shp σ o).1 = 101 ∧ 0 ≤ i ∧ i < ((shp σ o).2 : Int) ∧ k ls (.inl (μ o i.toNat) :: r) μ
  | .baload => pA st fun o i r => (shp σ o).1 = 102 ∧ 0 ≤ i ∧ i < ((shp σ o).2 : Int) ∧ k ls (.inl (μ o i.toNat) :: r) μ
  | .aaload => pA st fun o i r => (shp σ o).1 = a ∧ 0 ≤ i ∧ i < ((shp σ o).2 : Int) ∧ σ.2 o i.toNat = true ∧ k ls (.inr (.inr (o + b + c * i.toNat)) :: r) μ
  | .iastore => pAS st fun o i v r => (shp σ o).1 = 100 ∧ 0 ≤ i ∧ i < ((shp σ o).2 : Int) ∧ k ls r (ms μ o i.toNat v)
  | .castore => pAS st fun o i v r => (shp σ o).1 = 101 ∧ 0 ≤ i ∧ i < ((shp σ o).2 : Int) ∧ (0 ≤ v ∧ v < 65536) ∧ k ls r (ms μ o i.toNat v)
  | .bastore => pAS st fun o i v r => (shp σ o).1 = 102 ∧ 0 ≤ i ∧ i < ((shp σ o).2 : Int) ∧ (v = 0 ∨ v = 1) ∧ k ls r (ms μ o i.toNat v)
  | .ireturn => p1 st fun x r => r = [] ∧ (if a = 1 then x = 0 ∨ x = 1 else if a = 2 then 0 ≤ x ∧ x < 65536 else True) ∧ Q (.inl x) μ
  | .return_ => st = [] ∧ Q (.inl 0) μ
  | .areturn => pR st fun x r => r = [] ∧ Q (.inr (.inr x)) μ
  | .invokevirtual _ => tk b st fun vs r => len4 r ∧ rcv σ x1 vs ∧ call a vs μ fun v μ' => P (pc + 3) ls (psh c v r) μ'
  | .invokestatic _ => match c with
    | 10 => p2 st fun x y r => (len4 r ∧ inR x) ∧ inR y ∧ k ls (.inl (if y < x then y else x) :: r) μ
    | 13 => pC st fun k0 sp k1 dp n r => (len4 r ∧ (shp σ k0).1 = 100 ∧ (shp σ k1).1 = 100) ∧ (0 ≤ sp ∧ 0 ≤ dp ∧ 0 ≤ n) ∧ (sp + n ≤ ((shp σ k0).2 : Int) ∧ dp + n ≤ ((shp σ k1).2 : Int)) ∧ k ls r (mcp μ k0 sp.toNat k1 dp.toNat n.toNat)
    | _ => tk b st fun vs r => len4 r ∧ call a vs μ fun v μ' => P (pc + 3) ls (v :: r) μ'
  | _ => False
def seg (σ : Sg) (P : PT) (call : CT) (Q : QT) : List Ent → Nat → Ls → List MV → Mem → Prop
  | [], nx, ls, st, μ => P nx ls st μ
  | (pc, i, a, b, c, x1) :: r, nx, ls, st, μ => stp σ P call Q pc i a b c x1 (fun ls st μ => seg σ P call Q r nx ls st μ) ls st μ
/-- from block to block: the least predicate that is closed under the blocks of method mi -/
def wp (σ : Sg) (call : CT) (mi : Nat) (Q : QT) (pc : Nat) (ls : Ls) (st : List MV) (μ : Mem) : Prop :=
  True ∧ ∀ P : PT, (∀ pc l nx ls st μ, blk mi pc = some (l, nx) → seg σ P call Q l nx ls st μ → P pc ls st μ) → P pc ls st μ
def argL : List MV → Ls
  | [] => []
  | .inr (.inl x) :: t => some (.inr (.inl x)) :: none :: argL t
  | v :: t => some v :: argL t
def iniL (mi : Nat) (vs : List MV) : Ls := argL vs ++ List.replicate (lM mi - (argL vs).length) none
/-- a call of method mi, at most d calls deep -/
def Call (σ : Sg) : Nat → CT
  | 0 => fun _ _ _ _ => False
  | d + 1 => fun mi vs μ Q => vs.length = nM mi ∧ (argL vs).length ≤ lM mi ∧ wp σ (Call σ d) mi Q 0 (iniL mi vs) [] μ
theorem sg_iconst {σ : Sg} {P : PT} {call : CT} {Q : QT} {pc a b c x1 nx : Nat} {r : List Ent} {ls : Ls} {st : List MV} {μ : Mem} {n : Int} : seg σ P call Q ((pc, .iconst n, a, b, c, x1) :: r) nx ls st μ = (seg σ P call Q r nx ls (Sum.inl n :: st) μ) := rfl
theorem sg_bipush {σ : Sg} {P : PT} {call : CT} {Q : QT} {pc a b c x1 nx : Nat} {r : List Ent} {ls : Ls} {st : List MV} {μ : Mem} {n : Int} : seg σ P call Q ((pc, .bipush n, a, b, c, x1) :: r) nx ls st μ = (seg σ P call Q r nx ls (Sum.inl n :: st) μ) := rfl
theorem sg_sipush {σ : Sg} {P : PT} {call : CT} {Q : QT} {pc a b c x1 nx : Nat} {r : List Ent} {ls : Ls} {st : List MV} {μ : Mem} {n : Int} : seg σ P call Q ((pc, .sipush n, a, b, c, x1) :: r) nx ls st μ = (seg σ P call Q r nx ls (Sum.inl n :: st) μ) := rfl
theorem sg_lconst {σ : Sg} {P : PT} {call : CT} {Q : QT} {pc a b c x1 nx : Nat} {r : List Ent} {ls : Ls} {st : List MV} {μ : Mem} {n : Fin 2} : seg σ P call Q ((pc, .lconst n, a, b, c, x1) :: r) nx ls st μ = (seg σ P call Q r nx ls (Sum.inr (Sum.inl (Int64.ofNat n.val)) :: st) μ) := rfl
theorem sg_ldc2 {σ : Sg} {P : PT} {call : CT} {Q : QT} {pc a b c x1 nx : Nat} {r : List Ent} {ls : Ls} {st : List MV} {μ : Mem} {n : Nat} : seg σ P call Q ((pc, .ldc2_w n, a, b, c, x1) :: r) nx ls st μ = (seg σ P call Q r nx ls (Sum.inr (Sum.inl (Int64.ofNat a)) :: st) μ) := rfl
theorem sg_iload_0 {σ : Sg} {P : PT} {call : CT} {Q : QT} {pc a b c x1 nx : Nat} {r : List Ent} {ls : Ls} {st : List MV} {μ : Mem} {t : Ls} {x : Int} : seg σ P call Q ((pc, .iload_n 0, a, b, c, x1) :: r) nx (some (Sum.inl x) :: t) st μ = (seg σ P call Q r nx (some (Sum.inl x) :: t) (Sum.inl x :: st) μ) := rfl
theorem sg_iload_1 {σ : Sg} {P : PT} {call : CT} {Q : QT} {pc a b c x1 nx : Nat} {r : List Ent} {ls : Ls} {st : List MV} {μ : Mem} {t : Ls} {x : Int} {h0 : Option MV} : seg σ P call Q ((pc, .iload_n 1, a, b, c, x1) :: r) nx (h0 :: some (Sum.inl x) :: t) st μ = (seg σ P call Q r nx (h0 :: some (Sum.inl x) :: t) (Sum.inl x :: st) μ) := rfl
theorem sg_iload_2 {σ : Sg} {P : PT} {call : CT} {Q : QT} {pc a b c x1 nx : Nat} {r : List Ent} {ls : Ls} {st : List MV} {μ : Mem} {t : Ls} {x : Int} {h0 : Option MV} {h1 : Option MV} : seg σ P call Q ((pc, .iload_n 2, a, b, c, x1) :: r) nx (h0 :: h1 :: some (Sum.inl x) :: t) st μ = (seg σ P call Q r nx (h0 :: h1 :: some (Sum.inl x) :: t) (Sum.inl x :: st) μ) := rfl
theorem sg_iload_3 {σ : Sg} {P : PT} {call : CT} {Q : QT} {pc a b c x1 nx : Nat} {r : List Ent} {ls : Ls} {st : List MV} {μ : Mem} {t : Ls} {x : Int} {h0 : Option MV} {h1 : Option MV} {h2 : Option MV} : seg σ P call Q ((pc, .iload_n 3, a, b, c, x1) :: r) nx (h0 :: h1 :: h2 :: some (Sum.inl x) :: t) st μ = (seg σ P call Q r nx (h0 :: h1 :: h2 :: some (Sum.inl x) :: t) (Sum.inl x :: st) μ) := rfl
theorem sg_aload_0 {σ : Sg} {P : PT} {call : CT} {Q : QT} {pc a b c x1 nx : Nat} {r : List Ent} {ls : Ls} {st : List MV} {μ : Mem} {t : Ls} {x : Nat} : seg σ P call Q ((pc, .aload_n 0, a, b, c, x1) :: r) nx (some (Sum.inr (Sum.inr x)) :: t) st μ = (seg σ P call Q r nx (some (Sum.inr (Sum.inr x)) :: t) (Sum.inr (Sum.inr x) :: st) μ) := rfl
theorem sg_aload_1 {σ : Sg} {P : PT} {call : CT} {Q : QT} {pc a b c x1 nx : Nat} {r : List Ent} {ls : Ls} {st : List MV} {μ : Mem} {t : Ls} {x : Nat} {h0 : Option MV} : seg σ P call Q ((pc, .aload_n 1, a, b, c, x1) :: r) nx (h0 :: some (Sum.inr (Sum.inr x)) :: t) st μ = (seg σ P call Q r nx (h0 :: some (Sum.inr (Sum.inr x)) :: t) (Sum.inr (Sum.inr x) :: st) μ) := rfl
theorem sg_aload_2 {σ : Sg} {P : PT} {call : CT} {Q : QT} {pc a b c x1 nx : Nat} {r : List Ent} {ls : Ls} {st : List MV} {μ : Mem} {t : Ls} {x : Nat} {h0 : Option MV} {h1 : Option MV} : seg σ P call Q ((pc, .aload_n 2, a, b, c, x1) :: r) nx (h0 :: h1 :: some (Sum.inr (Sum.inr x)) :: t) st μ = (seg σ P call Q r nx (h0 :: h1 :: some (Sum.inr (Sum.inr x)) :: t) (Sum.inr (Sum.inr x) :: st) μ) := rfl
theorem sg_aload_3 {σ : Sg} {P : PT} {call : CT} {Q : QT} {pc a b c x1 nx : Nat} {r : List Ent} {ls : Ls} {st : List MV} {μ : Mem} {t : Ls} {x : Nat} {h0 : Option MV} {h1 : Option MV} {h2 : Option MV} : seg σ P call Q ((pc, .aload_n 3, a, b, c, x1) :: r) nx (h0 :: h1 :: h2 :: some (Sum.inr (Sum.inr x)) :: t) st μ = (seg σ P call Q r nx (h0 :: h1 :: h2 :: some (Sum.inr (Sum.inr x)) :: t) (Sum.inr (Sum.inr x) :: st) μ) := rfl
theorem sg_lload_0 {σ : Sg} {P : PT} {call : CT} {Q : QT} {pc a b c x1 nx : Nat} {r : List Ent} {ls : Ls} {st : List MV} {μ : Mem} {t : Ls} {x : Int64} : seg σ P call Q ((pc, .lload_n 0, a, b, c, x1) :: r) nx (some (Sum.inr (Sum.inl x)) :: t) st μ = (seg σ P call Q r nx (some (Sum.inr (Sum.inl x)) :: t) (Sum.inr (Sum.inl x) :: st) μ) := rfl
theorem sg_lload_1 {σ : Sg} {P : PT} {call : CT} {Q : QT} {pc a b c x1 nx : Nat} {r : List Ent} {ls : Ls} {st : List MV} {μ : Mem} {t : Ls} {x : Int64} {h0 : Option MV} : seg σ P call Q ((pc, .lload_n 1, a, b, c, x1) :: r) nx (h0 :: some (Sum.inr (Sum.inl x)) :: t) st μ = (seg σ P call Q r nx (h0 :: some (Sum.inr (Sum.inl x)) :: t) (Sum.inr (Sum.inl x) :: st) μ) := rfl
theorem sg_lload_2 {σ : Sg} {P : PT} {call : CT} {Q : QT} {pc a b c x1 nx : Nat} {r : List Ent} {ls : Ls} {st : List MV} {μ : Mem} {t : Ls} {x : Int64} {h0 : Option MV} {h1 : Option MV} : seg σ P call Q ((pc, .lload_n 2, a, b, c, x1) :: r) nx (h0 :: h1 :: some (Sum.inr (Sum.inl x)) :: t) st μ = (seg σ P call Q r nx (h0 :: h1 :: some (Sum.inr (Sum.inl x)) :: t) (Sum.inr (Sum.inl x) :: st) μ) := rfl
theorem sg_lload_3 {σ : Sg} {P : PT} {call : CT} {Q : QT} {pc a b c x1 nx : Nat} {r : List Ent} {ls : Ls} {st : List MV} {μ : Mem} {t : Ls} {x : Int64} {h0 : Option MV} {h1 : Option MV} {h2 : Option MV} : seg σ P call Q ((pc, .lload_n 3, a, b, c, x1) :: r) nx (h0 :: h1 :: h2 :: some (Sum.inr (Sum.inl x)) :: t) st μ = (seg σ P call Q r nx (h0 :: h1 :: h2 :: some (Sum.inr (Sum.inl x)) :: t) (Sum.inr (Sum.inl x) :: st) μ) := rfl
theorem sg_iload {σ : Sg} {P : PT} {call : CT} {Q : QT} {pc a b c x1 nx : Nat} {r : List Ent} {ls : Ls} {st : List MV} {μ : Mem} {n : Nat} : seg σ P call Q ((pc, .iload n, a, b, c, x1) :: r) nx ls st μ = (ldI ls n fun x => seg σ P call Q r nx ls (Sum.inl x :: st) μ) := rfl
theorem sg_lload {σ : Sg} {P : PT} {call : CT} {Q : QT} {pc a b c x1 nx : Nat} {r : List Ent} {ls : Ls} {st : List MV} {μ : Mem} {n : Nat} : seg σ P call Q ((pc, .lload n, a, b, c, x1) :: r) nx ls st μ = (ldL ls n fun x => seg σ P call Q r nx ls (Sum.inr (Sum.inl x) :: st) μ) := rfl
theorem sg_aload {σ : Sg} {P : PT} {call : CT} {Q : QT} {pc a b c x1 nx : Nat} {r : List Ent} {ls : Ls} {st : List MV} {μ : Mem} {n : Nat} : seg σ P call Q ((pc, .aload n, a, b, c, x1) :: r) nx ls st μ = (ldR ls n fun x => seg σ P call Q r nx ls (Sum.inr (Sum.inr x) :: st) μ) := rfl
theorem sg_istore_0 {σ : Sg} {P : PT} {call : CT} {Q : QT} {pc a b c x1 nx : Nat} {r : List Ent} {ls : Ls} {st : List MV} {μ : Mem} {t : Ls} {x : Int} {h : Option MV} : seg σ P call Q ((pc, .istore_n 0, a, b, c, x1) :: r) nx (h :: t) (Sum.inl x :: st) μ = (True ∧ seg σ P call Q r nx (some (Sum.inl x) :: t) st μ) := rfl
theorem sg_istore_1 {σ : Sg} {P : PT} {call : CT} {Q : QT} {pc a b c x1 nx : Nat} {r : List Ent} {ls : Ls} {st : List MV} {μ : Mem} {t : Ls} {x : Int} {h : Option MV} {h0 : Option MV} : seg σ P call Q ((pc, .istore_n 1, a, b, c, x1) :: r) nx (h0 :: h :: t) (Sum.inl x :: st) μ = (nLg h0 ∧ seg σ P call Q r nx (h0 :: some (Sum.inl x) :: t) st μ) := rfl
theorem sg_istore_2 {σ : Sg} {P : PT} {call : CT} {Q : QT} {pc a b c x1 nx : Nat} {r : List Ent} {ls : Ls} {st : List MV} {μ : Mem} {t : Ls} {x : Int} {h : Option MV} {h0 : Option MV} {h1 : Option MV} : seg σ P call Q ((pc, .istore_n 2, a, b, c, x1) :: r) nx (h0 :: h1 :: h :: t) (Sum.inl x :: st) μ = (nLg h1 ∧ seg σ P call Q r nx (h0 :: h1 :: some (Sum.inl x) :: t) st μ) := rfl
theorem sg_istore_3 {σ : Sg} {P : PT} {call : CT} {Q : QT} {pc a b c x1 nx : Nat} {r : List Ent} {ls : Ls} {st : List MV} {μ : Mem} {t : Ls} {x : Int} {h : Option MV} {h0 : Option MV} {h1 : Option MV} {h2 : Option MV} : seg σ P call Q ((pc, .istore_n 3, a, b, c, x1) :: r) nx (h0 :: h1 :: h2 :: h :: t) (Sum.inl x :: st) μ = (nLg h2 ∧ seg σ P call Q r nx (h0 :: h1 :: h2 :: some (Sum.inl x) :: t) st μ) := rfl
theorem sg_istore {σ : Sg} {P : PT} {call : CT} {Q : QT} {pc a b c x1 nx : Nat} {r : List Ent} {ls : Ls} {st : List MV} {μ : Mem} {n : Nat} {x : Int} : seg σ P call Q ((pc, .istore n, a, b, c, x1) :: r) nx ls (Sum.inl x :: st) μ = (okS ls n ∧ seg σ P call Q r nx (stL ls n (some (Sum.inl x))) st μ) := rfl
theorem sg_astore_0 {σ : Sg} {P : PT} {call : CT} {Q : QT} {pc a b c x1 nx : Nat} {r : List Ent} {ls : Ls} {st : List MV} {μ : Mem} {t : Ls} {x : Nat} {h : Option MV} : seg σ P call Q ((pc, .astore_n 0, a, b, c, x1) :: r) nx (h :: t) (Sum.inr (Sum.inr x) :: st) μ = (True ∧ seg σ P call Q r nx (some (Sum.inr (Sum.inr x)) :: t) st μ) := rfl
theorem sg_astore_1 {σ : Sg} {P : PT} {call : CT} {Q : QT} {pc a b c x1 nx : Nat} {r : List Ent} {ls : Ls} {st : List MV} {μ : Mem} {t : Ls} {x : Nat} {h : Option MV} {h0 : Option MV} : seg σ P call Q ((pc, .astore_n 1, a, b, c, x1) :: r) nx (h0 :: h :: t) (Sum.inr (Sum.inr x) :: st) μ = (nLg h0 ∧ seg σ P call Q r nx (h0 :: some (Sum.inr (Sum.inr x)) :: t) st μ) := rfl
theorem sg_astore_2 {σ : Sg} {P : PT} {call : CT} {Q : QT} {pc a b c x1 nx : Nat} {r : List Ent} {ls : Ls} {st : List MV} {μ : Mem} {t : Ls} {x : Nat} {h : Option MV} {h0 : Option MV} {h1 : Option MV} : seg σ P call Q ((pc, .astore_n 2, a, b, c, x1) :: r) nx (h0 :: h1 :: h :: t) (Sum.inr (Sum.inr x) :: st) μ = (nLg h1 ∧ seg σ P call Q r nx (h0 :: h1 :: some (Sum.inr (Sum.inr x)) :: t) st μ) := rfl
theorem sg_astore_3 {σ : Sg} {P : PT} {call : CT} {Q : QT} {pc a b c x1 nx : Nat} {r : List Ent} {ls : Ls} {st : List MV} {μ : Mem} {t : Ls} {x : Nat} {h : Option MV} {h0 : Option MV} {h1 : Option MV} {h2 : Option MV} : seg σ P call Q ((pc, .astore_n 3, a, b, c, x1) :: r) nx (h0 :: h1 :: h2 :: h :: t) (Sum.inr (Sum.inr x) :: st) μ = (nLg h2 ∧ seg σ P call Q r nx (h0 :: h1 :: h2 :: some (Sum.inr (Sum.inr x)) :: t) st μ) := rfl
theorem sg_astore {σ : Sg} {P : PT} {call : CT} {Q : QT} {pc a b c x1 nx : Nat} {r : List Ent} {ls : Ls} {st : List MV} {μ : Mem} {n : Nat} {x : Nat} : seg σ P call Q ((pc, .astore n, a, b, c, x1) :: r) nx ls (Sum.inr (Sum.inr x) :: st) μ = (okS ls n ∧ seg σ P call Q r nx (stL ls n (some (Sum.inr (Sum.inr x)))) st μ) := rfl
theorem sg_lstore {σ : Sg} {P : PT} {call : CT} {Q : QT} {pc a b c x1 nx : Nat} {r : List Ent} {ls : Ls} {st : List MV} {μ : Mem} {n : Nat} {x : Int64} : seg σ P call Q ((pc, .lstore n, a, b, c, x1) :: r) nx ls (Sum.inr (Sum.inl x) :: st) μ = (okS2 ls n ∧ seg σ P call Q r nx (stL (stL ls n (some (Sum.inr (Sum.inl x)))) (n + 1) none) st μ) := rfl
theorem sg_lstore_n {σ : Sg} {P : PT} {call : CT} {Q : QT} {pc a b c x1 nx : Nat} {r : List Ent} {ls : Ls} {st : List MV} {μ : Mem} {n : Fin 4} {x : Int64} : seg σ P call Q ((pc, .lstore_n n, a, b, c, x1) :: r) nx ls (Sum.inr (Sum.inl x) :: st) μ = (okS2 ls n.val ∧ seg σ P call Q r nx (stL (stL ls n.val (some (Sum.inr (Sum.inl x)))) (n.val + 1) none) st μ) := rfl
theorem sg_iinc {σ : Sg} {P : PT} {call : CT} {Q : QT} {pc a b c x1 nx : Nat} {r : List Ent} {ls : Ls} {st : List MV} {μ : Mem} {n : Nat} {d : Int} : seg σ P call Q ((pc, .iinc n d, a, b, c, x1) :: r) nx ls st μ = (ldI ls n fun x => okS ls n ∧ seg σ P call Q r nx (stL ls n (some (Sum.inl (x + d)))) st μ) := rfl
theorem sg_iadd {σ : Sg} {P : PT} {call : CT} {Q : QT} {pc a b c x1 nx : Nat} {r : List Ent} {ls : Ls} {st : List MV} {μ : Mem} {x y : Int} : seg σ P call Q ((pc, .iadd, a, b, c, x1) :: r) nx ls (Sum.inl y :: Sum.inl x :: st) μ = (seg σ P call Q r nx ls (Sum.inl (x + y) :: st) μ) := rfl
theorem sg_isub {σ : Sg} {P : PT} {call : CT} {Q : QT} {pc a b c x1 nx : Nat} {r : List Ent} {ls : Ls} {st : List MV} {μ : Mem} {x y : Int} : seg σ P call Q ((pc, .isub, a, b, c, x1) :: r) nx ls (Sum.inl y :: Sum.inl x :: st) μ = (seg σ P call Q r nx ls (Sum.inl (x - y) :: st) μ) := rfl
theorem sg_imul {σ : Sg} {P : PT} {call : CT} {Q : QT} {pc a b c x1 nx : Nat} {r : List Ent} {ls : Ls} {st : List MV} {μ : Mem} {x y : Int} : seg σ P call Q ((pc, .imul, a, b, c, x1) :: r) nx ls (Sum.inl y :: Sum.inl x :: st) μ = (seg σ P call Q r nx ls (Sum.inl (x * y) :: st) μ) := rfl
theorem sg_iand {σ : Sg} {P : PT} {call : CT} {Q : QT} {pc a b c x1 nx : Nat} {r : List Ent} {ls : Ls} {st : List MV} {μ : Mem} {x y : Int} : seg σ P call Q ((pc, .iand, a, b, c, x1) :: r) nx ls (Sum.inl y :: Sum.inl x :: st) μ = (seg σ P call Q r nx ls (Sum.inl (iAnd x y) :: st) μ) := rfl
theorem sg_ior {σ : Sg} {P : PT} {call : CT} {Q : QT} {pc a b c x1 nx : Nat} {r : List Ent} {ls : Ls} {st : List MV} {μ : Mem} {x y : Int} : seg σ P call Q ((pc, .ior, a, b, c, x1) :: r) nx ls (Sum.inl y :: Sum.inl x :: st) μ = (seg σ P call Q r nx ls (Sum.inl (iOr x y) :: st) μ) := rfl
theorem sg_ishl {σ : Sg} {P : PT} {call : CT} {Q : QT} {pc a b c x1 nx : Nat} {r : List Ent} {ls : Ls} {st : List MV} {μ : Mem} {x y : Int} : seg σ P call Q ((pc, .ishl, a, b, c, x1) :: r) nx ls (Sum.inl y :: Sum.inl x :: st) μ = (seg σ P call Q r nx ls (Sum.inl (iShl x y) :: st) μ) := rfl
theorem sg_ishr {σ : Sg} {P : PT} {call : CT} {Q : QT} {pc a b c x1 nx : Nat} {r : List Ent} {ls : Ls} {st : List MV} {μ : Mem} {x y : Int} : seg σ P call Q ((pc, .ishr, a, b, c, x1) :: r) nx ls (Sum.inl y :: Sum.inl x :: st) μ = (seg σ P call Q r nx ls (Sum.inl (iShr x y) :: st) μ) := rfl
theorem sg_i2c {σ : Sg} {P : PT} {call : CT} {Q : QT} {pc a b c x1 nx : Nat} {r : List Ent} {ls : Ls} {st : List MV} {μ : Mem} {x : Int} : seg σ P call Q ((pc, .i2c, a, b, c, x1) :: r) nx ls (Sum.inl x :: st) μ = (seg σ P call Q r nx ls (Sum.inl (iI2c x) :: st) μ) := rfl
theorem sg_i2l {σ : Sg} {P : PT} {call : CT} {Q : QT} {pc a b c x1 nx : Nat} {r : List Ent} {ls : Ls} {st : List MV} {μ : Mem} {x : Int} : seg σ P call Q ((pc, .i2l, a, b, c, x1) :: r) nx ls (Sum.inl x :: st) μ = (seg σ P call Q r nx ls (Sum.inr (Sum.inl (Int32.ofInt x).toInt64) :: st) μ) := rfl
theorem sg_l2i {σ : Sg} {P : PT} {call : CT} {Q : QT} {pc a b c x1 nx : Nat} {r : List Ent} {ls : Ls} {st : List MV} {μ : Mem} {x : Int64} : seg σ P call Q ((pc, .l2i, a, b, c, x1) :: r) nx ls (Sum.inr (Sum.inl x) :: st) μ = (seg σ P call Q r nx ls (Sum.inl x.toInt32.toInt :: st) μ) := rfl
theorem sg_land {σ : Sg} {P : PT} {call : CT} {Q : QT} {pc a b c x1 nx : Nat} {r : List Ent} {ls : Ls} {st : List MV} {μ : Mem} {x y : Int64} : seg σ P call Q ((pc, .land, a, b, c, x1) :: r) nx ls (Sum.inr (Sum.inl y) :: Sum.inr (Sum.inl x) :: st) μ = (seg σ P call Q r nx ls (Sum.inr (Sum.inl (x &&& y)) :: st) μ) := rfl
theorem sg_lushr {σ : Sg} {P : PT} {call : CT} {Q : QT} {pc a b c x1 nx : Nat} {r : List Ent} {ls : Ls} {st : List MV} {μ : Mem} {x : Int64} {y : Int} : seg σ P call Q ((pc, .lushr, a, b, c, x1) :: r) nx ls (Sum.inl y :: Sum.inr (Sum.inl x) :: st) μ = (seg σ P call Q r nx ls (Sum.inr (Sum.inl (lUshr x y)) :: st) μ) := rfl
theorem sg_lcmp {σ : Sg} {P : PT} {call : CT} {Q : QT} {pc a b c x1 nx : Nat} {r : List Ent} {ls : Ls} {st : List MV} {μ : Mem} {x y : Int64} : seg σ P call Q ((pc, .lcmp, a, b, c, x1) :: r) nx ls (Sum.inr (Sum.inl y) :: Sum.inr (Sum.inl x) :: st) μ = (seg σ P call Q r nx ls (Sum.inl (lCmp x y) :: st) μ) := rfl
theorem sg_dup_i {σ : Sg} {P : PT} {call : CT} {Q : QT} {pc a b c x1 nx : Nat} {r : List Ent} {ls : Ls} {st : List MV} {μ : Mem} {x : Int} : seg σ P call Q ((pc, .dup, a, b, c, x1) :: r) nx ls (Sum.inl x :: st) μ = (seg σ P call Q r nx ls (Sum.inl x :: Sum.inl x :: st) μ) := rfl
theorem sg_dup_r {σ : Sg} {P : PT} {call : CT} {Q : QT} {pc a b c x1 nx : Nat} {r : List Ent} {ls : Ls} {st : List MV} {μ : Mem} {x : Nat} : seg σ P call Q ((pc, .dup, a, b, c, x1) :: r) nx ls (Sum.inr (Sum.inr x) :: st) μ = (seg σ P call Q r nx ls (Sum.inr (Sum.inr x) :: Sum.inr (Sum.inr x) :: st) μ) := rfl
theorem sg_dup2 {σ : Sg} {P : PT} {call : CT} {Q : QT} {pc a b c x1 nx : Nat} {r : List Ent} {ls : Ls} {st : List MV} {μ : Mem} {x : Nat} {y : Int} : seg σ P call Q ((pc, .dup2, a, b, c, x1) :: r) nx ls (Sum.inl y :: Sum.inr (Sum.inr x) :: st) μ = (seg σ P call Q r nx ls (Sum.inl y :: Sum.inr (Sum.inr x) :: Sum.inl y :: Sum.inr (Sum.inr x) :: st) μ) := rfl
theorem sg_pop_i {σ : Sg} {P : PT} {call : CT} {Q : QT} {pc a b c x1 nx : Nat} {r : List Ent} {ls : Ls} {st : List MV} {μ : Mem} {x : Int} : seg σ P call Q ((pc, .pop, a, b, c, x1) :: r) nx ls (Sum.inl x :: st) μ = (seg σ P call Q r nx ls st μ) := rfl
theorem sg_pop_r {σ : Sg} {P : PT} {call : CT} {Q : QT} {pc a b c x1 nx : Nat} {r : List Ent} {ls : Ls} {st : List MV} {μ : Mem} {x : Nat} : seg σ P call Q ((pc, .pop, a, b, c, x1) :: r) nx ls (Sum.inr (Sum.inr x) :: st) μ = (seg σ P call Q r nx ls st μ) := rfl
theorem sg_goto {σ : Sg} {P : PT} {call : CT} {Q : QT} {pc a b c x1 nx : Nat} {r : List Ent} {ls : Ls} {st : List MV} {μ : Mem} {n : Int} : seg σ P call Q ((pc, .goto n, a, b, c, x1) :: r) nx ls st μ = (P a ls st μ) := rfl
theorem sg_if_eq {σ : Sg} {P : PT} {call : CT} {Q : QT} {pc a b c x1 nx : Nat} {r : List Ent} {ls : Ls} {st : List MV} {μ : Mem} {n x : Int} : seg σ P call Q ((pc, .ifCond .eq n, a, b, c, x1) :: r) nx ls (Sum.inl x :: st) μ = ((x = 0 → P a ls st μ) ∧ (x ≠ 0 → inR x ∧ inR 0 ∧ seg σ P call Q r nx ls st μ)) := rfl
theorem sg_ic_eq {σ : Sg} {P : PT} {call : CT} {Q : QT} {pc a b c x1 nx : Nat} {r : List Ent} {ls : Ls} {st : List MV} {μ : Mem} {n x y : Int} : seg σ P call Q ((pc, .if_icmp .eq n, a, b, c, x1) :: r) nx ls (Sum.inl y :: Sum.inl x :: st) μ = ((x = y → P a ls st μ) ∧ (x ≠ y → inR x ∧ inR y ∧ seg σ P call Q r nx ls st μ)) := rfl
theorem sg_if_ne {σ : Sg} {P : PT} {call : CT} {Q : QT} {pc a b c x1 nx : Nat} {r : List Ent} {ls : Ls} {st : List MV} {μ : Mem} {n x : Int} : seg σ P call Q ((pc, .ifCond .ne n, a, b, c, x1) :: r) nx ls (Sum.inl x :: st) μ = ((x = 0 → seg σ P call Q r nx ls st μ) ∧ (x ≠ 0 → inR x ∧ inR 0 ∧ P a ls st μ)) := rfl
theorem sg_ic_ne {σ : Sg} {P : PT} {call : CT} {Q : QT} {pc a b c x1 nx : Nat} {r : List Ent} {ls : Ls} {st : List MV} {μ : Mem} {n x y : Int} : seg σ P call Q ((pc, .if_icmp .ne n, a, b, c, x1) :: r) nx ls (Sum.inl y :: Sum.inl x :: st) μ = ((x = y → seg σ P call Q r nx ls st μ) ∧ (x ≠ y → inR x ∧ inR y ∧ P a ls st μ)) := rfl
theorem sg_if_lt {σ : Sg} {P : PT} {call : CT} {Q : QT} {pc a b c x1 nx : Nat} {r : List Ent} {ls : Ls} {st : List MV} {μ : Mem} {n x : Int} : seg σ P call Q ((pc, .ifCond .lt n, a, b, c, x1) :: r) nx ls (Sum.inl x :: st) μ = (inR x ∧ inR 0 ∧ (x < 0 → P a ls st μ) ∧ (0 ≤ x → seg σ P call Q r nx ls st μ)) := rfl
theorem sg_ic_lt {σ : Sg} {P : PT} {call : CT} {Q : QT} {pc a b c x1 nx : Nat} {r : List Ent} {ls : Ls} {st : List MV} {μ : Mem} {n x y : Int} : seg σ P call Q ((pc, .if_icmp .lt n, a, b, c, x1) :: r) nx ls (Sum.inl y :: Sum.inl x :: st) μ = (inR x ∧ inR y ∧ (x < y → P a ls st μ) ∧ (y ≤ x → seg σ P call Q r nx ls st μ)) := rfl
theorem sg_if_ge {σ : Sg} {P : PT} {call : CT} {Q : QT} {pc a b c x1 nx : Nat} {r : List Ent} {ls : Ls} {st : List MV} {μ : Mem} {n x : Int} : seg σ P call Q ((pc, .ifCond .ge n, a, b, c, x1) :: r) nx ls (Sum.inl x :: st) μ = (inR x ∧ inR 0 ∧ (x < 0 → seg σ P call Q r nx ls st μ) ∧ (0 ≤ x → P a ls st μ)) := rfl
theorem sg_ic_ge {σ : Sg} {P : PT} {call : CT} {Q : QT} {pc a b c x1 nx : Nat} {r : List Ent} {ls : Ls} {st : List MV} {μ : Mem} {n x y : Int} : seg σ P call Q ((pc, .if_icmp .ge n, a, b, c, x1) :: r) nx ls (Sum.inl y :: Sum.inl x :: st) μ = (inR x ∧ inR y ∧ (x < y → seg σ P call Q r nx ls st μ) ∧ (y ≤ x → P a ls st μ)) := rfl
theorem sg_if_gt {σ : Sg} {P : PT} {call : CT} {Q : QT} {pc a b c x1 nx : Nat} {r : List Ent} {ls : Ls} {st : List MV} {μ : Mem} {n x : Int} : seg σ P call Q ((pc, .ifCond .gt n, a, b, c, x1) :: r) nx ls (Sum.inl x :: st) μ = (inR 0 ∧ inR x ∧ (0 < x → P a ls st μ) ∧ (x ≤ 0 → seg σ P call Q r nx ls st μ)) := rfl
theorem sg_ic_gt {σ : Sg} {P : PT} {call : CT} {Q : QT} {pc a b c x1 nx : Nat} {r : List Ent} {ls : Ls} {st : List MV} {μ : Mem} {n x y : Int} : seg σ P call Q ((pc, .if_icmp .gt n, a, b, c, x1) :: r) nx ls (Sum.inl y :: Sum.inl x :: st) μ = (inR y ∧ inR x ∧ (y < x → P a ls st μ) ∧ (x ≤ y → seg σ P call Q r nx ls st μ)) := rfl
theorem sg_if_le {σ : Sg} {P : PT} {call : CT} {Q : QT} {pc a b c x1 nx : Nat} {r : List Ent} {ls : Ls} {st : List MV} {μ : Mem} {n x : Int} : seg σ P call Q ((pc, .ifCond .le n, a, b, c, x1) :: r) nx ls (Sum.inl x :: st) μ = (inR 0 ∧ inR x ∧ (0 < x → seg σ P call Q r nx ls st μ) ∧ (x ≤ 0 → P a ls st μ)) := rfl
theorem sg_ic_le {σ : Sg} {P : PT} {call : CT} {Q : QT} {pc a b c x1 nx : Nat} {r : List Ent} {ls : Ls} {st : List MV} {μ : Mem} {n x y : Int} : seg σ P call Q ((pc, .if_icmp .le n, a, b, c, x1) :: r) nx ls (Sum.inl y :: Sum.inl x :: st) μ = (inR y ∧ inR x ∧ (y < x → seg σ P call Q r nx ls st μ) ∧ (x ≤ y → P a ls st μ)) := rfl
theorem sg_tsw {σ : Sg} {P : PT} {call : CT} {Q : QT} {pc a b c x1 nx : Nat} {r : List Ent} {ls : Ls} {st : List MV} {μ : Mem} {d lo hi x : Int} {offs : Array Int} : seg σ P call Q ((pc, .tableswitch d lo hi offs, a, b, c, x1) :: r) nx ls (Sum.inl x :: st) μ = (inR x ∧ swc pc (fun t => P t ls st μ) x lo offs.toList ∧ (x < lo ∨ hi < x → P ((pc : Int) + d).toNat ls st μ)) := rfl
theorem sg_getf0 {σ : Sg} {P : PT} {call : CT} {Q : QT} {pc a b c x1 nx : Nat} {r : List Ent} {ls : Ls} {st : List MV} {μ : Mem} {n o : Nat} : seg σ P call Q ((pc, .getfield n, a, b, 0, x1) :: r) nx ls (Sum.inr (Sum.inr o) :: st) μ = ((shp σ o).1 = a ∧ seg σ P call Q r nx ls (Sum.inl (μ o b) :: st) μ) := rfl
theorem sg_getf1 {σ : Sg} {P : PT} {call : CT} {Q : QT} {pc a b c x1 nx : Nat} {r : List Ent} {ls : Ls} {st : List MV} {μ : Mem} {n o : Nat} : seg σ P call Q ((pc, .getfield n, a, b, 1, x1) :: r) nx ls (Sum.inr (Sum.inr o) :: st) μ = ((shp σ o).1 = a ∧ seg σ P call Q r nx ls (Sum.inl (μ o b) :: st) μ) := rfl
theorem sg_getfp {σ : Sg} {P : PT} {call : CT} {Q : QT} {pc a b c x1 nx : Nat} {r : List Ent} {ls : Ls} {st : List MV} {μ : Mem} {n o w : Nat} : seg σ P call Q ((pc, .getfield n, a, b, w + 2, x1) :: r) nx ls (Sum.inr (Sum.inr o) :: st) μ = ((shp σ o).1 = a ∧ σ.2 o b = true ∧ seg σ P call Q r nx ls (Sum.inr (Sum.inr (o + w)) :: st) μ) := rfl
theorem sg_putf0 {σ : Sg} {P : PT} {call : CT} {Q : QT} {pc a b c x1 nx : Nat} {r : List Ent} {ls : Ls} {st : List MV} {μ : Mem} {n o : Nat} {v : Int} : seg σ P call Q ((pc, .putfield n, a, b, 0, x1) :: r) nx ls (Sum.inl v :: Sum.inr (Sum.inr o) :: st) μ = ((shp σ o).1 = a ∧ True ∧ seg σ P call Q r nx ls st (ms μ o b v)) := rfl
theorem sg_putf1 {σ : Sg} {P : PT} {call : CT} {Q : QT} {pc a b c x1 nx : Nat} {r : List Ent} {ls : Ls} {st : List MV} {μ : Mem} {n o : Nat} {v : Int} : seg σ P call Q ((pc, .putfield n, a, b, 1, x1) :: r) nx ls (Sum.inl v :: Sum.inr (Sum.inr o) :: st) μ = ((shp σ o).1 = a ∧ (v = 0 ∨ v = 1) ∧ seg σ P call Q r nx ls st (ms μ o b v)) := rfl
theorem sg_iaload {σ : Sg} {P : PT} {call : CT} {Q : QT} {pc a b c x1 nx : Nat} {r : List Ent} {ls : Ls} {st : List MV} {μ : Mem} {i : Int} {o : Nat} : seg σ P call Q ((pc, .iaload, a, b, c, x1) :: r) nx ls (Sum.inl i :: Sum.inr (Sum.inr o) :: st) μ = ((shp σ o).1 = 100 ∧ 0 ≤ i ∧ i < ((shp σ o).2 : Int) ∧ seg σ P call Q r nx ls (Sum.inl (μ o i.toNat) :: st) μ) := rfl
theorem sg_caload {σ : Sg} {P : PT} {call : CT} {Q : QT} {pc a b c x1 nx : Nat} {r : List Ent} {ls : Ls} {st : List MV} {μ : Mem} {i : Int} {o : Nat} : seg σ P call Q ((pc, .caload, a, b, c, x1) :: r) nx ls (Sum.inl i :: Sum.inr (Sum.inr o) :: st) μ = ((shp σ o).1 = 101 ∧ 0 ≤ i ∧ i < ((shp σ o).2 : Int) ∧ seg σ P call Q r nx ls (Sum.inl (μ o i.toNat) :: st) μ) := rfl
theorem sg_baload {σ : Sg} {P : PT} {call : CT} {Q : QT} {pc a b c x1 nx : Nat} {r : List Ent} {ls : Ls} {st : List MV} {μ : Mem} {i : Int} {o : Nat} : seg σ P call Q ((pc, .baload, a, b, c, x1) :: r) nx ls (Sum.inl i :: Sum.inr (Sum.inr o) :: st) μ = ((shp σ o).1 = 102 ∧ 0 ≤ i ∧ i < ((shp σ o).2 : Int) ∧ seg σ P call Q r nx ls (Sum.inl (μ o i.toNat) :: st) μ) := rfl
theorem sg_aaload {σ : Sg} {P : PT} {call : CT} {Q : QT} {pc a b c x1 nx : Nat} {r : List Ent} {ls : Ls} {st : List MV} {μ : Mem} {i : Int} {o : Nat} : seg σ P call Q ((pc, .aaload, a, b, c, x1) :: r) nx ls (Sum.inl i :: Sum.inr (Sum.inr o) :: st) μ = ((shp σ o).1 = a ∧ 0 ≤ i ∧ i < ((shp σ o).2 : Int) ∧ σ.2 o i.toNat = true ∧ seg σ P call Q r nx ls (Sum.inr (Sum.inr (o + b + c * i.toNat)) :: st) μ) := rfl
theorem sg_iastore {σ : Sg} {P : PT} {call : CT} {Q : QT} {pc a b c x1 nx : Nat} {r : List Ent} {ls : Ls} {st : List MV} {μ : Mem} {v i : Int} {o : Nat} : seg σ P call Q ((pc, .iastore, a, b, c, x1) :: r) nx ls (Sum.inl v :: Sum.inl i :: Sum.inr (Sum.inr o) :: st) μ = ((shp σ o).1 = 100 ∧ 0 ≤ i ∧ i < ((shp σ o).2 : Int) ∧ seg σ P call Q r nx ls st (ms μ o i.toNat v)) := rfl
theorem sg_castore {σ : Sg} {P : PT} {call : CT} {Q : QT} {pc a b c x1 nx : Nat} {r : List Ent} {ls : Ls} {st : List MV} {μ : Mem} {v i : Int} {o : Nat} : seg σ P call Q ((pc, .castore, a, b, c, x1) :: r) nx ls (Sum.inl v :: Sum.inl i :: Sum.inr (Sum.inr o) :: st) μ = ((shp σ o).1 = 101 ∧ 0 ≤ i ∧ i < ((shp σ o).2 : Int) ∧ (0 ≤ v ∧ v < 65536) ∧ seg σ P call Q r nx ls st (ms μ o i.toNat v)) := rfl
theorem sg_bastore {σ : Sg} {P : PT} {call : CT} {Q : QT} {pc a b c x1 nx : Nat} {r : List Ent} {ls : Ls} {st : List MV} {μ : Mem} {v i : Int} {o : Nat} : seg σ P call Q ((pc, .bastore, a, b, c, x1) :: r) nx ls (Sum.inl v :: Sum.inl i :: Sum.inr (Sum.inr o) :: st) μ = ((shp σ o).1 = 102 ∧ 0 ≤ i ∧ i < ((shp σ o).2 : Int) ∧ (v = 0 ∨ v = 1) ∧ seg σ P call Q r nx ls st (ms μ o i.toNat v)) := rfl
theorem sg_iret0 {σ : Sg} {P : PT} {call : CT} {Q : QT} {pc b c x1 nx : Nat} {r : List Ent} {ls : Ls} {μ : Mem} {x : Int} : seg σ P call Q ((pc, .ireturn, 0, b, c, x1) :: r) nx ls [Sum.inl x] μ = (Q (Sum.inl x) μ) := by
  show (([] : List MV) = [] ∧ (if 0 = 1 then x = 0 ∨ x = 1 else if 0 = 2 then 0 ≤ x ∧ x < 65536 else True) ∧ Q (.inl x) μ) = _
  simp
theorem sg_iret1 {σ : Sg} {P : PT} {call : CT} {Q : QT} {pc b c x1 nx : Nat} {r : List Ent} {ls : Ls} {μ : Mem} {x : Int} : seg σ P call Q ((pc, .ireturn, 1, b, c, x1) :: r) nx ls [Sum.inl x] μ = ((x = 0 ∨ x = 1) ∧ Q (Sum.inl x) μ) := by
  show (([] : List MV) = [] ∧ (if 1 = 1 then x = 0 ∨ x = 1 else if 1 = 2 then 0 ≤ x ∧ x < 65536 else True) ∧ Q (.inl x) μ) = _
  simp
theorem sg_iret2 {σ : Sg} {P : PT} {call : CT} {Q : QT} {pc b c x1 nx : Nat} {r : List Ent} {ls : Ls} {μ : Mem} {x : Int} : seg σ P call Q ((pc, .ireturn, 2, b, c, x1) :: r) nx ls [Sum.inl x] μ = ((0 ≤ x ∧ x < 65536) ∧ Q (Sum.inl x) μ) := by
  show (([] : List MV) = [] ∧ (if 2 = 1 then x = 0 ∨ x = 1 else if 2 = 2 then 0 ≤ x ∧ x < 65536 else True) ∧ Q (.inl x) μ) = _
  simp
theorem sg_ret {σ : Sg} {P : PT} {call : CT} {Q : QT} {pc a b c x1 nx : Nat} {r : List Ent} {ls : Ls} {μ : Mem} : seg σ P call Q ((pc, .return_, a, b, c, x1) :: r) nx ls [] μ = (Q (Sum.inl 0) μ) := by
  show (([] : List MV) = [] ∧ Q (.inl 0) μ) = _
  simp
theorem sg_aret {σ : Sg} {P : PT} {call : CT} {Q : QT} {pc a b c x1 nx : Nat} {r : List Ent} {ls : Ls} {μ : Mem} {x : Nat} : seg σ P call Q ((pc, .areturn, a, b, c, x1) :: r) nx ls [Sum.inr (Sum.inr x)] μ = (Q (Sum.inr (Sum.inr x)) μ) := by
  show (([] : List MV) = [] ∧ Q (.inr (.inr x)) μ) = _
  simp
theorem sg_iv1_v {σ : Sg} {P : PT} {call : CT} {Q : QT} {pc a b c x1 nx : Nat} {r : List Ent} {ls : Ls} {st : List MV} {μ : Mem} {n o : Nat} : seg σ P call Q ((pc, .invokevirtual n, a, 1, 0, x1) :: r) nx ls (Sum.inr (Sum.inr o) :: st) μ = (len4 st ∧ (shp σ o).1 = x1 ∧ call a [Sum.inr (Sum.inr o)] μ fun _ μ' => P (pc + 3) ls st μ') := rfl
theorem sg_iv1_i {σ : Sg} {P : PT} {call : CT} {Q : QT} {pc a b c x1 nx : Nat} {r : List Ent} {ls : Ls} {st : List MV} {μ : Mem} {n o : Nat} : seg σ P call Q ((pc, .invokevirtual n, a, 1, 1, x1) :: r) nx ls (Sum.inr (Sum.inr o) :: st) μ = (len4 st ∧ (shp σ o).1 = x1 ∧ call a [Sum.inr (Sum.inr o)] μ fun v μ' => P (pc + 3) ls (v :: st) μ') := rfl
theorem sg_iv1_r {σ : Sg} {P : PT} {call : CT} {Q : QT} {pc a b c x1 nx : Nat} {r : List Ent} {ls : Ls} {st : List MV} {μ : Mem} {n o : Nat} : seg σ P call Q ((pc, .invokevirtual n, a, 1, 2, x1) :: r) nx ls (Sum.inr (Sum.inr o) :: st) μ = (len4 st ∧ (shp σ o).1 = x1 ∧ call a [Sum.inr (Sum.inr o)] μ fun v μ' => P (pc + 3) ls (v :: st) μ') := rfl
theorem sg_is1_1 {σ : Sg} {P : PT} {call : CT} {Q : QT} {pc a b c x1 nx : Nat} {r : List Ent} {ls : Ls} {st : List MV} {μ : Mem} {n : Nat} {v0 : MV} : seg σ P call Q ((pc, .invokestatic n, a, 1, 1, x1) :: r) nx ls (v0 :: st) μ = (len4 st ∧ call a [v0] μ fun v μ' => P (pc + 3) ls (v :: st) μ') := rfl
theorem sg_is1_2 {σ : Sg} {P : PT} {call : CT} {Q : QT} {pc a b c x1 nx : Nat} {r : List Ent} {ls : Ls} {st : List MV} {μ : Mem} {n : Nat} {v0 : MV} : seg σ P call Q ((pc, .invokestatic n, a, 1, 2, x1) :: r) nx ls (v0 :: st) μ = (len4 st ∧ call a [v0] μ fun v μ' => P (pc + 3) ls (v :: st) μ') := rfl
theorem sg_iv2_v {σ : Sg} {P : PT} {call : CT} {Q : QT} {pc a b c x1 nx : Nat} {r : List Ent} {ls : Ls} {st : List MV} {μ : Mem} {n o : Nat} {v1 : MV} : seg σ P call Q ((pc, .invokevirtual n, a, 2, 0, x1) :: r) nx ls (v1 :: Sum.inr (Sum.inr o) :: st) μ = (len4 st ∧ (shp σ o).1 = x1 ∧ call a [Sum.inr (Sum.inr o), v1] μ fun _ μ' => P (pc + 3) ls st μ') := rfl
theorem sg_iv2_i {σ : Sg} {P : PT} {call : CT} {Q : QT} {pc a b c x1 nx : Nat} {r : List Ent} {ls : Ls} {st : List MV} {μ : Mem} {n o : Nat} {v1 : MV} : seg σ P call Q ((pc, .invokevirtual n, a, 2, 1, x1) :: r) nx ls (v1 :: Sum.inr (Sum.inr o) :: st) μ = (len4 st ∧ (shp σ o).1 = x1 ∧ call a [Sum.inr (Sum.inr o), v1] μ fun v μ' => P (pc + 3) ls (v :: st) μ') := rfl
theorem sg_iv2_r {σ : Sg} {P : PT} {call : CT} {Q : QT} {pc a b c x1 nx : Nat} {r : List Ent} {ls : Ls} {st : List MV} {μ : Mem} {n o : Nat} {v1 : MV} : seg σ P call Q ((pc, .invokevirtual n, a, 2, 2, x1) :: r) nx ls (v1 :: Sum.inr (Sum.inr o) :: st) μ = (len4 st ∧ (shp σ o).1 = x1 ∧ call a [Sum.inr (Sum.inr o), v1] μ fun v μ' => P (pc + 3) ls (v :: st) μ') := rfl
theorem sg_is2_1 {σ : Sg} {P : PT} {call : CT} {Q : QT} {pc a b c x1 nx : Nat} {r : List Ent} {ls : Ls} {st : List MV} {μ : Mem} {n : Nat} {v0 v1 : MV} : seg σ P call Q ((pc, .invokestatic n, a, 2, 1, x1) :: r) nx ls (v1 :: v0 :: st) μ = (len4 st ∧ call a [v0, v1] μ fun v μ' => P (pc + 3) ls (v :: st) μ') := rfl
theorem sg_is2_2 {σ : Sg} {P : PT} {call : CT} {Q : QT} {pc a b c x1 nx : Nat} {r : List Ent} {ls : Ls} {st : List MV} {μ : Mem} {n : Nat} {v0 v1 : MV} : seg σ P call Q ((pc, .invokestatic n, a, 2, 2, x1) :: r) nx ls (v1 :: v0 :: st) μ = (len4 st ∧ call a [v0, v1] μ fun v μ' => P (pc + 3) ls (v :: st) μ') := rfl
theorem sg_iv3_v {σ : Sg} {P : PT} {call : CT} {Q : QT} {pc a b c x1 nx : Nat} {r : List Ent} {ls : Ls} {st : List MV} {μ : Mem} {n o : Nat} {v1 v2 : MV} : seg σ P call Q ((pc, .invokevirtual n, a, 3, 0, x1) :: r) nx ls (v2 :: v1 :: Sum.inr (Sum.inr o) :: st) μ = (len4 st ∧ (shp σ o).1 = x1 ∧ call a [Sum.inr (Sum.inr o), v1, v2] μ fun _ μ' => P (pc + 3) ls st μ') := rfl
theorem sg_iv3_i {σ : Sg} {P : PT} {call : CT} {Q : QT} {pc a b c x1 nx : Nat} {r : List Ent} {ls : Ls} {st : List MV} {μ : Mem} {n o : Nat} {v1 v2 : MV} : seg σ P call Q ((pc, .invokevirtual n, a, 3, 1, x1) :: r) nx ls (v2 :: v1 :: Sum.inr (Sum.inr o) :: st) μ = (len4 st ∧ (shp σ o).1 = x1 ∧ call a [Sum.inr (Sum.inr o), v1, v2] μ fun v μ' => P (pc + 3) ls (v :: st) μ') := rfl
theorem sg_iv3_r {σ : Sg} {P : PT} {call : CT} {Q : QT} {pc a b c x1 nx : Nat} {r : List Ent} {ls : Ls} {st : List MV} {μ : Mem} {n o : Nat} {v1 v2 : MV} : seg σ P call Q ((pc, .invokevirtual n, a, 3, 2, x1) :: r) nx ls (v2 :: v1 :: Sum.inr (Sum.inr o) :: st) μ = (len4 st ∧ (shp σ o).1 = x1 ∧ call a [Sum.inr (Sum.inr o), v1, v2] μ fun v μ' => P (pc + 3) ls (v :: st) μ') := rfl
theorem sg_is3_1 {σ : Sg} {P : PT} {call : CT} {Q : QT} {pc a b c x1 nx : Nat} {r : List Ent} {ls : Ls} {st : List MV} {μ : Mem} {n : Nat} {v0 v1 v2 : MV} : seg σ P call Q ((pc, .invokestatic n, a, 3, 1, x1) :: r) nx ls (v2 :: v1 :: v0 :: st) μ = (len4 st ∧ call a [v0, v1, v2] μ fun v μ' => P (pc + 3) ls (v :: st) μ') := rfl
theorem sg_is3_2 {σ : Sg} {P : PT} {call : CT} {Q : QT} {pc a b c x1 nx : Nat} {r : List Ent} {ls : Ls} {st : List MV} {μ : Mem} {n : Nat} {v0 v1 v2 : MV} : seg σ P call Q ((pc, .invokestatic n, a, 3, 2, x1) :: r) nx ls (v2 :: v1 :: v0 :: st) μ = (len4 st ∧ call a [v0, v1, v2] μ fun v μ' => P (pc + 3) ls (v :: st) μ') := rfl
theorem sg_iv4_v {σ : Sg} {P : PT} {call : CT} {Q : QT} {pc a b c x1 nx : Nat} {r : List Ent} {ls : Ls} {st : List MV} {μ : Mem} {n o : Nat} {v1 v2 v3 : MV} : seg σ P call Q ((pc, .invokevirtual n, a, 4, 0, x1) :: r) nx ls (v3 :: v2 :: v1 :: Sum.inr (Sum.inr o) :: st) μ = (len4 st ∧ (shp σ o).1 = x1 ∧ call a [Sum.inr (Sum.inr o), v1, v2, v3] μ fun _ μ' => P (pc + 3) ls st μ') := rfl
theorem sg_iv4_i {σ : Sg} {P : PT} {call : CT} {Q : QT} {pc a b c x1 nx : Nat} {r : List Ent} {ls : Ls} {st : List MV} {μ : Mem} {n o : Nat} {v1 v2 v3 : MV} : seg σ P call Q ((pc, .invokevirtual n, a, 4, 1, x1) :: r) nx ls (v3 :: v2 :: v1 :: Sum.inr (Sum.inr o) :: st) μ = (len4 st ∧ (shp σ o).1 = x1 ∧ call a [Sum.inr (Sum.inr o), v1, v2, v3] μ fun v μ' => P (pc + 3) ls (v :: st) μ') := rfl
theorem sg_iv4_r {σ : Sg} {P : PT} {call : CT} {Q : QT} {pc a b c x1 nx : Nat} {r : List Ent} {ls : Ls} {st : List MV} {μ : Mem} {n o : Nat} {v1 v2 v3 : MV} : seg σ P call Q ((pc, .invokevirtual n, a, 4, 2, x1) :: r) nx ls (v3 :: v2 :: v1 :: Sum.inr (Sum.inr o) :: st) μ = (len4 st ∧ (shp σ o).1 = x1 ∧ call a [Sum.inr (Sum.inr o), v1, v2, v3] μ fun v μ' => P (pc + 3) ls (v :: st) μ') := rfl
theorem sg_min {σ : Sg} {P : PT} {call : CT} {Q : QT} {pc a b c x1 nx : Nat} {r : List Ent} {ls : Ls} {st : List MV} {μ : Mem} {n : Nat} {x y : Int} : seg σ P call Q ((pc, .invokestatic n, a, b, 10, x1) :: r) nx ls (Sum.inl y :: Sum.inl x :: st) μ = ((len4 st ∧ inR x) ∧ inR y ∧ seg σ P call Q r nx ls (Sum.inl (if y < x then y else x) :: st) μ) := rfl
theorem sg_acopy {σ : Sg} {P : PT} {call : CT} {Q : QT} {pc a b c x1 nx : Nat} {r : List Ent} {ls : Ls} {st : List MV} {μ : Mem} {n k0 k1 : Nat} {n1 sp dp : Int} : seg σ P call Q ((pc, .invokestatic n, a, b, 13, x1) :: r) nx ls (Sum.inl n1 :: Sum.inl dp :: Sum.inr (Sum.inr k1) :: Sum.inl sp :: Sum.inr (Sum.inr k0) :: st) μ = ((len4 st ∧ (shp σ k0).1 = 100 ∧ (shp σ k1).1 = 100) ∧ (0 ≤ sp ∧ 0 ≤ dp ∧ 0 ≤ n1) ∧ (sp + n1 ≤ ((shp σ k0).2 : Int) ∧ dp + n1 ≤ ((shp σ k1).2 : Int)) ∧ seg σ P call Q r nx ls st (mcp μ k0 sp.toNat k1 dp.toNat n1.toNat)) := rfl
theorem sg_nil {σ : Sg} {P : PT} {call : CT} {Q : QT} {nx : Nat} {ls : Ls} {st : List MV} {μ : Mem} : seg σ P call Q [] nx ls st μ = P nx ls st μ := rfl
theorem ldI_z {x : Int} {t : Ls} {f : Int → Prop} : ldI (some (Sum.inl x) :: t) 0 f = f x := rfl
theorem ldI_s {h : Option MV} {t : Ls} {n : Nat} {f : Int → Prop} : ldI (h :: t) (n + 1) f = ldI t n f := by simp [ldI]
theorem ldL_z {x : Int64} {t : Ls} {f : Int64 → Prop} : ldL (some (Sum.inr (Sum.inl x)) :: t) 0 f = f x := rfl
theorem ldL_s {h : Option MV} {t : Ls} {n : Nat} {f : Int64 → Prop} : ldL (h :: t) (n + 1) f = ldL t n f := by simp [ldL]
theorem ldR_z {x : Nat} {t : Ls} {f : Nat → Prop} : ldR (some (Sum.inr (Sum.inr x)) :: t) 0 f = f x := rfl
theorem ldR_s {h : Option MV} {t : Ls} {n : Nat} {f : Nat → Prop} : ldR (h :: t) (n + 1) f = ldR t n f := by simp [ldR]
theorem stL_z {h v : Option MV} {t : Ls} : stL (h :: t) 0 v = v :: t := rfl
theorem stL_s {h v : Option MV} {t : Ls} {n : Nat} : stL (h :: t) (n + 1) v = h :: stL t n v := rfl
theorem nLg_n : nLg none = True := rfl
theorem nLg_i {x : Int} : nLg (some (Sum.inl x)) = True := rfl
theorem nLg_r {x : Nat} : nLg (some (Sum.inr (Sum.inr x))) = True := rfl
theorem okS_z {h : Option MV} {t : Ls} : okS (h :: t) 0 = True := rfl
theorem okS_1 {h h1 : Option MV} {t : Ls} : okS (h :: h1 :: t) 1 = nLg h := rfl
theorem okS_s {h : Option MV} {t : Ls} {n : Nat} : okS (h :: t) (n + 2) = okS t (n + 1) := by cases t <;> rfl
theorem okS2_z {h h1 : Option MV} {t : Ls} : okS2 (h :: h1 :: t) 0 = True := rfl
theorem okS2_1 {h h1 h2 : Option MV} {t : Ls} : okS2 (h :: h1 :: h2 :: t) 1 = nLg h := rfl
theorem okS2_s {h : Option MV} {t : Ls} {n : Nat} : okS2 (h :: t) (n + 2) = okS2 t (n + 1) := by cases t with | nil => rfl | cons a t => cases t <;> rfl
theorem swc_n {pc : Nat} {K : Nat → Prop} {x v : Int} : swc pc K x v [] = True := rfl
theorem swc_c {pc : Nat} {K : Nat → Prop} {x v o : Int} {os : List Int} : swc pc K x v (o :: os) = ((x = v → K ((pc : Int) + o).toNat) ∧ swc pc K x (v + 1) os) := rfl
theorem ms_at (μ : Mem) (k j : Nat) (v : Int) (k' j' : Nat) : ms μ k j v k' j' = if k' = k ∧ j' = j then v else μ k' j' := rfl
theorem mcp_at (μ : Mem) (k0 sp k1 dp n k j : Nat) : mcp μ k0 sp k1 dp n k j = if k = k1 ∧ dp ≤ j ∧ j < dp + n then μ k0 (sp + (j - dp)) else μ k j := rfl
theorem ldI_1 {h0 : Option MV} {x : Int} {t : Ls} {f : Int → Prop} : ldI (h0 :: some (Sum.inl x) :: t) 1 f = f x := rfl
theorem ldL_1 {h0 : Option MV} {x : Int64} {t : Ls} {f : Int64 → Prop} : ldL (h0 :: some (Sum.inr (Sum.inl x)) :: t) 1 f = f x := rfl
theorem ldR_1 {h0 : Option MV} {x : Nat} {t : Ls} {f : Nat → Prop} : ldR (h0 :: some (Sum.inr (Sum.inr x)) :: t) 1 f = f x := rfl
theorem stL_1 {h0 : Option MV} {h v : Option MV} {t : Ls} : stL (h0 :: h :: t) 1 v = h0 :: v :: t := rfl
theorem ldI_2 {h0 h1 : Option MV} {x : Int} {t : Ls} {f : Int → Prop} : ldI (h0 :: h1 :: some (Sum.inl x) :: t) 2 f = f x := rfl
theorem ldL_2 {h0 h1 : Option MV} {x : Int64} {t : Ls} {f : Int64 → Prop} : ldL (h0 :: h1 :: some (Sum.inr (Sum.inl x)) :: t) 2 f = f x := rfl
theorem ldR_2 {h0 h1 : Option MV} {x : Nat} {t : Ls} {f : Nat → Prop} : ldR (h0 :: h1 :: some (Sum.inr (Sum.inr x)) :: t) 2 f = f x := rfl
theorem stL_2 {h0 h1 : Option MV} {h v : Option MV} {t : Ls} : stL (h0 :: h1 :: h :: t) 2 v = h0 :: h1 :: v :: t := rfl
theorem okS_2 {h0 h1 : Option MV} {h : Option MV} {t : Ls} : okS (h0 :: h1 :: h :: t) 2 = nLg h1 := rfl
theorem okS2_2 {h0 h1 : Option MV} {h h' : Option MV} {t : Ls} : okS2 (h0 :: h1 :: h :: h' :: t) 2 = nLg h1 := rfl
theorem ldI_3 {h0 h1 h2 : Option MV} {x : Int} {t : Ls} {f : Int → Prop} : ldI (h0 :: h1 :: h2 :: some (Sum.inl x) :: t) 3 f = f x := rfl
theorem ldL_3 {h0 h1 h2 : Option MV} {x : Int64} {t : Ls} {f : Int64 → Prop} : ldL (h0 :: h1 :: h2 :: some (Sum.inr (Sum.inl x)) :: t) 3 f = f x := rfl
theorem ldR_3 {h0 h1 h2 : Option MV} {x : Nat} {t : Ls} {f : Nat → Prop} : ldR (h0 :: h1 :: h2 :: some (Sum.inr (Sum.inr x)) :: t) 3 f = f x := rfl
theorem stL_3 {h0 h1 h2 : Option MV} {h v : Option MV} {t : Ls} : stL (h0 :: h1 :: h2 :: h :: t) 3 v = h0 :: h1 :: h2 :: v :: t := rfl
theorem okS_3 {h0 h1 h2 : Option MV} {h : Option MV} {t : Ls} : okS (h0 :: h1 :: h2 :: h :: t) 3 = nLg h2 := rfl
theorem okS2_3 {h0 h1 h2 : Option MV} {h h' : Option MV} {t : Ls} : okS2 (h0 :: h1 :: h2 :: h :: h' :: t) 3 = nLg h2 := rfl
theorem ldI_4 {h0 h1 h2 h3 : Option MV} {x : Int} {t : Ls} {f : Int → Prop} : ldI (h0 :: h1 :: h2 :: h3 :: some (Sum.inl x) :: t) 4 f = f x := rfl
theorem ldL_4 {h0 h1 h2 h3 : Option MV} {x : Int64} {t : Ls} {f : Int64 → Prop} : ldL (h0 :: h1 :: h2 :: h3 :: some (Sum.inr (Sum.inl x)) :: t) 4 f = f x := rfl
theorem ldR_4 {h0 h1 h2 h3 : Option MV} {x : Nat} {t : Ls} {f : Nat → Prop} : ldR (h0 :: h1 :: h2 :: h3 :: some (Sum.inr (Sum.inr x)) :: t) 4 f = f x := rfl
theorem stL_4 {h0 h1 h2 h3 : Option MV} {h v : Option MV} {t : Ls} : stL (h0 :: h1 :: h2 :: h3 :: h :: t) 4 v = h0 :: h1 :: h2 :: h3 :: v :: t := rfl
theorem okS_4 {h0 h1 h2 h3 : Option MV} {h : Option MV} {t : Ls} : okS (h0 :: h1 :: h2 :: h3 :: h :: t) 4 = nLg h3 := rfl
theorem okS2_4 {h0 h1 h2 h3 : Option MV} {h h' : Option MV} {t : Ls} : okS2 (h0 :: h1 :: h2 :: h3 :: h :: h' :: t) 4 = nLg h3 := rfl
theorem ldI_5 {h0 h1 h2 h3 h4 : Option MV} {x : Int} {t : Ls} {f : Int → Prop} : ldI (h0 :: h1 :: h2 :: h3 :: h4 :: some (Sum.inl x) :: t) 5 f = f x := rfl
theorem ldL_5 {h0 h1 h2 h3 h4 : Option MV} {x : Int64} {t : Ls} {f : Int64 → Prop} : ldL (h0 :: h1 :: h2 :: h3 :: h4 :: some (Sum.inr (Sum.inl x)) :: t) 5 f = f x := rfl
theorem ldR_5 {h0 h1 h2 h3 h4 : Option MV} {x : Nat} {t : Ls} {f : Nat → Prop} : ldR (h0 :: h1 :: h2 :: h3 :: h4 :: some (Sum.inr (Sum.inr x)) :: t) 5 f = f x := rfl
theorem stL_5 {h0 h1 h2 h3 h4 : Option MV} {h v : Option MV} {t : Ls} : stL (h0 :: h1 :: h2 :: h3 :: h4 :: h :: t) 5 v = h0 :: h1 :: h2 :: h3 :: h4 :: v :: t := rfl
theorem okS_5 {h0 h1 h2 h3 h4 : Option MV} {h : Option MV} {t : Ls} : okS (h0 :: h1 :: h2 :: h3 :: h4 :: h :: t) 5 = nLg h4 := rfl
theorem okS2_5 {h0 h1 h2 h3 h4 : Option MV} {h h' : Option MV} {t : Ls} : okS2 (h0 :: h1 :: h2 :: h3 :: h4 :: h :: h' :: t) 5 = nLg h4 := rfl
theorem ldI_6 {h0 h1 h2 h3 h4 h5 : Option MV} {x : Int} {t : Ls} {f : Int → Prop} : ldI (h0 :: h1 :: h2 :: h3 :: h4 :: h5 :: some (Sum.inl x) :: t) 6 f = f x := rfl
theorem ldL_6 {h0 h1 h2 h3 h4 h5 : Option MV} {x : Int64} {t : Ls} {f : Int64 → Prop} : ldL (h0 :: h1 :: h2 :: h3 :: h4 :: h5 :: some (Sum.inr (Sum.inl x)) :: t) 6 f = f x := rfl
theorem ldR_6 {h0 h1 h2 h3 h4 h5 : Option MV} {x : Nat} {t : Ls} {f : Nat → Prop} : ldR (h0 :: h1 :: h2 :: h3 :: h4 :: h5 :: some (Sum.inr (Sum.inr x)) :: t) 6 f = f x := rfl
theorem stL_6 {h0 h1 h2 h3 h4 h5 : Option MV} {h v : Option MV} {t : Ls} : stL (h0 :: h1 :: h2 :: h3 :: h4 :: h5 :: h :: t) 6 v = h0 :: h1 :: h2 :: h3 :: h4 :: h5 :: v :: t := rfl
theorem okS_6 {h0 h1 h2 h3 h4 h5 : Option MV} {h : Option MV} {t : Ls} : okS (h0 :: h1 :: h2 :: h3 :: h4 :: h5 :: h :: t) 6 = nLg h5 := rfl
theorem okS2_6 {h0 h1 h2 h3 h4 h5 : Option MV} {h h' : Option MV} {t : Ls} : okS2 (h0 :: h1 :: h2 :: h3 :: h4 :: h5 :: h :: h' :: t) 6 = nLg h5 := rfl
theorem ldI_7 {h0 h1 h2 h3 h4 h5 h6 : Option MV} {x : Int} {t : Ls} {f : Int → Prop} : ldI (h0 :: h1 :: h2 :: h3 :: h4 :: h5 :: h6 :: some (Sum.inl x) :: t) 7 f = f x := rfl
theorem ldL_7 {h0 h1 h2 h3 h4 h5 h6 : Option MV} {x : Int64} {t : Ls} {f : Int64 → Prop} : ldL (h0 :: h1 :: h2 :: h3 :: h4 :: h5 :: h6 :: some (Sum.inr (Sum.inl x)) :: t) 7 f = f x := rfl
theorem ldR_7 {h0 h1 h2 h3 h4 h5 h6 : Option MV} {x : Nat} {t : Ls} {f : Nat → Prop} : ldR (h0 :: h1 :: h2 :: h3 :: h4 :: h5 :: h6 :: some (Sum.inr (Sum.inr x)) :: t) 7 f = f x := rfl
theorem stL_7 {h0 h1 h2 h3 h4 h5 h6 : Option MV} {h v : Option MV} {t : Ls} : stL (h0 :: h1 :: h2 :: h3 :: h4 :: h5 :: h6 :: h :: t) 7 v = h0 :: h1 :: h2 :: h3 :: h4 :: h5 :: h6 :: v :: t := rfl
theorem okS_7 {h0 h1 h2 h3 h4 h5 h6 : Option MV} {h : Option MV} {t : Ls} : okS (h0 :: h1 :: h2 :: h3 :: h4 :: h5 :: h6 :: h :: t) 7 = nLg h6 := rfl
theorem okS2_7 {h0 h1 h2 h3 h4 h5 h6 : Option MV} {h h' : Option MV} {t : Ls} : okS2 (h0 :: h1 :: h2 :: h3 :: h4 :: h5 :: h6 :: h :: h' :: t) 7 = nLg h6 := rfl
theorem ldI_8 {h0 h1 h2 h3 h4 h5 h6 h7 : Option MV} {x : Int} {t : Ls} {f : Int → Prop} : ldI (h0 :: h1 :: h2 :: h3 :: h4 :: h5 :: h6 :: h7 :: some (Sum.inl x) :: t) 8 f = f x := rfl
theorem ldL_8 {h0 h1 h2 h3 h4 h5 h6 h7 : Option MV} {x : Int64} {t : Ls} {f : Int64 → Prop} : ldL (h0 :: h1 :: h2 :: h3 :: h4 :: h5 :: h6 :: h7 :: some (Sum.inr (Sum.inl x)) :: t) 8 f = f x := rfl
theorem ldR_8 {h0 h1 h2 h3 h4 h5 h6 h7 : Option MV} {x : Nat} {t : Ls} {f : Nat → Prop} : ldR (h0 :: h1 :: h2 :: h3 :: h4 :: h5 :: h6 :: h7 :: some (Sum.inr (Sum.inr x)) :: t) 8 f = f x := rfl
theorem stL_8 {h0 h1 h2 h3 h4 h5 h6 h7 : Option MV} {h v : Option MV} {t : Ls} : stL (h0 :: h1 :: h2 :: h3 :: h4 :: h5 :: h6 :: h7 :: h :: t) 8 v = h0 :: h1 :: h2 :: h3 :: h4 :: h5 :: h6 :: h7 :: v :: t := rfl
theorem okS_8 {h0 h1 h2 h3 h4 h5 h6 h7 : Option MV} {h : Option MV} {t : Ls} : okS (h0 :: h1 :: h2 :: h3 :: h4 :: h5 :: h6 :: h7 :: h :: t) 8 = nLg h7 := rfl
theorem okS2_8 {h0 h1 h2 h3 h4 h5 h6 h7 : Option MV} {h h' : Option MV} {t : Ls} : okS2 (h0 :: h1 :: h2 :: h3 :: h4 :: h5 :: h6 :: h7 :: h :: h' :: t) 8 = nLg h7 := rfl
theorem ldI_9 {h0 h1 h2 h3 h4 h5 h6 h7 h8 : Option MV} {x : Int} {t : Ls} {f : Int → Prop} : ldI (h0 :: h1 :: h2 :: h3 :: h4 :: h5 :: h6 :: h7 :: h8 :: some (Sum.inl x) :: t) 9 f = f x := rfl
theorem ldL_9 {h0 h1 h2 h3 h4 h5 h6 h7 h8 : Option MV} {x : Int64} {t : Ls} {f : Int64 → Prop} : ldL (h0 :: h1 :: h2 :: h3 :: h4 :: h5 :: h6 :: h7 :: h8 :: some (Sum.inr (Sum.inl x)) :: t) 9 f = f x := rfl
theorem ldR_9 {h0 h1 h2 h3 h4 h5 h6 h7 h8 : Option MV} {x : Nat} {t : Ls} {f : Nat → Prop} : ldR (h0 :: h1 :: h2 :: h3 :: h4 :: h5 :: h6 :: h7 :: h8 :: some (Sum.inr (Sum.inr x)) :: t) 9 f = f x := rfl
theorem stL_9 {h0 h1 h2 h3 h4 h5 h6 h7 h8 : Option MV} {h v : Option MV} {t : Ls} : stL (h0 :: h1 :: h2 :: h3 :: h4 :: h5 :: h6 :: h7 :: h8 :: h :: t) 9 v = h0 :: h1 :: h2 :: h3 :: h4 :: h5 :: h6 :: h7 :: h8 :: v :: t := rfl
theorem okS_9 {h0 h1 h2 h3 h4 h5 h6 h7 h8 : Option MV} {h : Option MV} {t : Ls} : okS (h0 :: h1 :: h2 :: h3 :: h4 :: h5 :: h6 :: h7 :: h8 :: h :: t) 9 = nLg h8 := rfl
theorem okS2_9 {h0 h1 h2 h3 h4 h5 h6 h7 h8 : Option MV} {h h' : Option MV} {t : Ls} : okS2 (h0 :: h1 :: h2 :: h3 :: h4 :: h5 :: h6 :: h7 :: h8 :: h :: h' :: t) 9 = nLg h8 := rfl
theorem ldI_10 {h0 h1 h2 h3 h4 h5 h6 h7 h8 h9 : Option MV} {x : Int} {t : Ls} {f : Int → Prop} : ldI (h0 :: h1 :: h2 :: h3 :: h4 :: h5 :: h6 :: h7 :: h8 :: h9 :: some (Sum.inl x) :: t) 10 f = f x := rfl
theorem ldL_10 {h0 h1 h2 h3 h4 h5 h6 h7 h8 h9 : Option MV} {x : Int64} {t : Ls} {f : Int64 → Prop} : ldL (h0 :: h1 :: h2 :: h3 :: h4 :: h5 :: h6 :: h7 :: h8 :: h9 :: some (Sum.inr (Sum.inl x)) :: t) 10 f = f x := rfl
theorem ldR_10 {h0 h1 h2 h3 h4 h5 h6 h7 h8 h9 : Option MV} {x : Nat} {t : Ls} {f : Nat → Prop} : ldR (h0 :: h1 :: h2 :: h3 :: h4 :: h5 :: h6 :: h7 :: h8 :: h9 :: some (Sum.inr (Sum.inr x)) :: t) 10 f = f x := rfl
theorem stL_10 {h0 h1 h2 h3 h4 h5 h6 h7 h8 h9 : Option MV} {h v : Option MV} {t : Ls} : stL (h0 :: h1 :: h2 :: h3 :: h4 :: h5 :: h6 :: h7 :: h8 :: h9 :: h :: t) 10 v = h0 :: h1 :: h2 :: h3 :: h4 :: h5 :: h6 :: h7 :: h8 :: h9 :: v :: t := rfl
theorem okS_10 {h0 h1 h2 h3 h4 h5 h6 h7 h8 h9 : Option MV} {h : Option MV} {t : Ls} : okS (h0 :: h1 :: h2 :: h3 :: h4 :: h5 :: h6 :: h7 :: h8 :: h9 :: h :: t) 10 = nLg h9 := rfl
theorem okS2_10 {h0 h1 h2 h3 h4 h5 h6 h7 h8 h9 : Option MV} {h h' : Option MV} {t : Ls} : okS2 (h0 :: h1 :: h2 :: h3 :: h4 :: h5 :: h6 :: h7 :: h8 :: h9 :: h :: h' :: t) 10 = nLg h9 := rfl
theorem ldI_11 {h0 h1 h2 h3 h4 h5 h6 h7 h8 h9 h10 : Option MV} {x : Int} {t : Ls} {f : Int → Prop} : ldI (h0 :: h1 :: h2 :: h3 :: h4 :: h5 :: h6 :: h7 :: h8 :: h9 :: h10 :: some (Sum.inl x) :: t) 11 f = f x := rfl
theorem ldL_11 {h0 h1 h2 h3 h4 h5 h6 h7 h8 h9 h10 : Option MV} {x : Int64} {t : Ls} {f : Int64 → Prop} : ldL (h0 :: h1 :: h2 :: h3 :: h4 :: h5 :: h6 :: h7 :: h8 :: h9 :: h10 :: some (Sum.inr (Sum.inl x)) :: t) 11 f = f x := rfl
theorem ldR_11 {h0 h1 h2 h3 h4 h5 h6 h7 h8 h9 h10 : Option MV} {x : Nat} {t : Ls} {f : Nat → Prop} : ldR (h0 :: h1 :: h2 :: h3 :: h4 :: h5 :: h6 :: h7 :: h8 :: h9 :: h10 :: some (Sum.inr (Sum.inr x)) :: t) 11 f = f x := rfl
theorem stL_11 {h0 h1 h2 h3 h4 h5 h6 h7 h8 h9 h10 : Option MV} {h v : Option MV} {t : Ls} : stL (h0 :: h1 :: h2 :: h3 :: h4 :: h5 :: h6 :: h7 :: h8 :: h9 :: h10 :: h :: t) 11 v = h0 :: h1 :: h2 :: h3 :: h4 :: h5 :: h6 :: h7 :: h8 :: h9 :: h10 :: v :: t := rfl
theorem okS_11 {h0 h1 h2 h3 h4 h5 h6 h7 h8 h9 h10 : Option MV} {h : Option MV} {t : Ls} : okS (h0 :: h1 :: h2 :: h3 :: h4 :: h5 :: h6 :: h7 :: h8 :: h9 :: h10 :: h :: t) 11 = nLg h10 := rfl
theorem okS2_11 {h0 h1 h2 h3 h4 h5 h6 h7 h8 h9 h10 : Option MV} {h h' : Option MV} {t : Ls} : okS2 (h0 :: h1 :: h2 :: h3 :: h4 :: h5 :: h6 :: h7 :: h8 :: h9 :: h10 :: h :: h' :: t) 11 = nLg h10 := rfl
theorem ldI_12 {h0 h1 h2 h3 h4 h5 h6 h7 h8 h9 h10 h11 : Option MV} {x : Int} {t : Ls} {f : Int → Prop} : ldI (h0 :: h1 :: h2 :: h3 :: h4 :: h5 :: h6 :: h7 :: h8 :: h9 :: h10 :: h11 :: some (Sum.inl x) :: t) 12 f = f x := rfl
theorem ldL_12 {h0 h1 h2 h3 h4 h5 h6 h7 h8 h9 h10 h11 : Option MV} {x : Int64} {t : Ls} {f : Int64 → Prop} : ldL (h0 :: h1 :: h2 :: h3 :: h4 :: h5 :: h6 :: h7 :: h8 :: h9 :: h10 :: h11 :: some (Sum.inr (Sum.inl x)) :: t) 12 f = f x := rfl
theorem ldR_12 {h0 h1 h2 h3 h4 h5 h6 h7 h8 h9 h10 h11 : Option MV} {x : Nat} {t : Ls} {f : Nat → Prop} : ldR (h0 :: h1 :: h2 :: h3 :: h4 :: h5 :: h6 :: h7 :: h8 :: h9 :: h10 :: h11 :: some (Sum.inr (Sum.inr x)) :: t) 12 f = f x := rfl
theorem stL_12 {h0 h1 h2 h3 h4 h5 h6 h7 h8 h9 h10 h11 : Option MV} {h v : Option MV} {t : Ls} : stL (h0 :: h1 :: h2 :: h3 :: h4 :: h5 :: h6 :: h7 :: h8 :: h9 :: h10 :: h11 :: h :: t) 12 v = h0 :: h1 :: h2 :: h3 :: h4 :: h5 :: h6 :: h7 :: h8 :: h9 :: h10 :: h11 :: v :: t := rfl
theorem okS_12 {h0 h1 h2 h3 h4 h5 h6 h7 h8 h9 h10 h11 : Option MV} {h : Option MV} {t : Ls} : okS (h0 :: h1 :: h2 :: h3 :: h4 :: h5 :: h6 :: h7 :: h8 :: h9 :: h10 :: h11 :: h :: t) 12 = nLg h11 := rfl
theorem okS2_12 {h0 h1 h2 h3 h4 h5 h6 h7 h8 h9 h10 h11 : Option MV} {h h' : Option MV} {t : Ls} : okS2 (h0 :: h1 :: h2 :: h3 :: h4 :: h5 :: h6 :: h7 :: h8 :: h9 :: h10 :: h11 :: h :: h' :: t) 12 = nLg h11 := rfl
theorem ldI_13 {h0 h1 h2 h3 h4 h5 h6 h7 h8 h9 h10 h11 h12 : Option MV} {x : Int} {t : Ls} {f : Int → Prop} : ldI (h0 :: h1 :: h2 :: h3 :: h4 :: h5 :: h6 :: h7 :: h8 :: h9 :: h10 :: h11 :: h12 :: some (Sum.inl x) :: t) 13 f = f x := rfl
theorem ldL_13 {h0 h1 h2 h3 h4 h5 h6 h7 h8 h9 h10 h11 h12 : Option MV} {x : Int64} {t : Ls} {f : Int64 → Prop} : ldL (h0 :: h1 :: h2 :: h3 :: h4 :: h5 :: h6 :: h7 :: h8 :: h9 :: h10 :: h11 :: h12 :: some (Sum.inr (Sum.inl x)) :: t) 13 f = f x := rfl
theorem ldR_13 {h0 h1 h2 h3 h4 h5 h6 h7 h8 h9 h10 h11 h12 : Option MV} {x : Nat} {t : Ls} {f : Nat → Prop} : ldR (h0 :: h1 :: h2 :: h3 :: h4 :: h5 :: h6 :: h7 :: h8 :: h9 :: h10 :: h11 :: h12 :: some (Sum.inr (Sum.inr x)) :: t) 13 f = f x := rfl
theorem stL_13 {h0 h1 h2 h3 h4 h5 h6 h7 h8 h9 h10 h11 h12 : Option MV} {h v : Option MV} {t : Ls} : stL (h0 :: h1 :: h2 :: h3 :: h4 :: h5 :: h6 :: h7 :: h8 :: h9 :: h10 :: h11 :: h12 :: h :: t) 13 v = h0 :: h1 :: h2 :: h3 :: h4 :: h5 :: h6 :: h7 :: h8 :: h9 :: h10 :: h11 :: h12 :: v :: t := rfl
theorem okS_13 {h0 h1 h2 h3 h4 h5 h6 h7 h8 h9 h10 h11 h12 : Option MV} {h : Option MV} {t : Ls} : okS (h0 :: h1 :: h2 :: h3 :: h4 :: h5 :: h6 :: h7 :: h8 :: h9 :: h10 :: h11 :: h12 :: h :: t) 13 = nLg h12 := rfl
theorem okS2_13 {h0 h1 h2 h3 h4 h5 h6 h7 h8 h9 h10 h11 h12 : Option MV} {h h' : Option MV} {t : Ls} : okS2 (h0 :: h1 :: h2 :: h3 :: h4 :: h5 :: h6 :: h7 :: h8 :: h9 :: h10 :: h11 :: h12 :: h :: h' :: t) 13 = nLg h12 := rfl
theorem ldI_14 {h0 h1 h2 h3 h4 h5 h6 h7 h8 h9 h10 h11 h12 h13 : Option MV} {x : Int} {t : Ls} {f : Int → Prop} : ldI (h0 :: h1 :: h2 :: h3 :: h4 :: h5 :: h6 :: h7 :: h8 :: h9 :: h10 :: h11 :: h12 :: h13 :: some (Sum.inl x) :: t) 14 f = f x := rfl
theorem ldL_14 {h0 h1 h2 h3 h4 h5 h6 h7 h8 h9 h10 h11 h12 h13 : Option MV} {x : Int64} {t : Ls} {f : Int64 → Prop} : ldL (h0 :: h1 :: h2 :: h3 :: h4 :: h5 :: h6 :: h7 :: h8 :: h9 :: h10 :: h11 :: h12 :: h13 :: some (Sum.inr (Sum.inl x)) :: t) 14 f = f x := rfl
theorem ldR_14 {h0 h1 h2 h3 h4 h5 h6 h7 h8 h9 h10 h11 h12 h13 : Option MV} {x : Nat} {t : Ls} {f : Nat → Prop} : ldR (h0 :: h1 :: h2 :: h3 :: h4 :: h5 :: h6 :: h7 :: h8 :: h9 :: h10 :: h11 :: h12 :: h13 :: some (Sum.inr (Sum.inr x)) :: t) 14 f = f x := rfl
theorem stL_14 {h0 h1 h2 h3 h4 h5 h6 h7 h8 h9 h10 h11 h12 h13 : Option MV} {h v : Option MV} {t : Ls} : stL (h0 :: h1 :: h2 :: h3 :: h4 :: h5 :: h6 :: h7 :: h8 :: h9 :: h10 :: h11 :: h12 :: h13 :: h :: t) 14 v = h0 :: h1 :: h2 :: h3 :: h4 :: h5 :: h6 :: h7 :: h8 :: h9 :: h10 :: h11 :: h12 :: h13 :: v :: t := rfl
theorem okS_14 {h0 h1 h2 h3 h4 h5 h6 h7 h8 h9 h10 h11 h12 h13 : Option MV} {h : Option MV} {t : Ls} : okS (h0 :: h1 :: h2 :: h3 :: h4 :: h5 :: h6 :: h7 :: h8 :: h9 :: h10 :: h11 :: h12 :: h13 :: h :: t) 14 = nLg h13 := rfl
theorem okS2_14 {h0 h1 h2 h3 h4 h5 h6 h7 h8 h9 h10 h11 h12 h13 : Option MV} {h h' : Option MV} {t : Ls} : okS2 (h0 :: h1 :: h2 :: h3 :: h4 :: h5 :: h6 :: h7 :: h8 :: h9 :: h10 :: h11 :: h12 :: h13 :: h :: h' :: t) 14 = nLg h13 := rfl
theorem ldI_15 {h0 h1 h2 h3 h4 h5 h6 h7 h8 h9 h10 h11 h12 h13 h14 : Option MV} {x : Int} {t : Ls} {f : Int → Prop} : ldI (h0 :: h1 :: h2 :: h3 :: h4 :: h5 :: h6 :: h7 :: h8 :: h9 :: h10 :: h11 :: h12 :: h13 :: h14 :: some (Sum.inl x) :: t) 15 f = f x := rfl
theorem ldL_15 {h0 h1 h2 h3 h4 h5 h6 h7 h8 h9 h10 h11 h12 h13 h14 : Option MV} {x : Int64} {t : Ls} {f : Int64 → Prop} : ldL (h0 :: h1 :: h2 :: h3 :: h4 :: h5 :: h6 :: h7 :: h8 :: h9 :: h10 :: h11 :: h12 :: h13 :: h14 :: some (Sum.inr (Sum.inl x)) :: t) 15 f = f x := rfl
theorem ldR_15 {h0 h1 h2 h3 h4 h5 h6 h7 h8 h9 h10 h11 h12 h13 h14 : Option MV} {x : Nat} {t : Ls} {f : Nat → Prop} : ldR (h0 :: h1 :: h2 :: h3 :: h4 :: h5 :: h6 :: h7 :: h8 :: h9 :: h10 :: h11 :: h12 :: h13 :: h14 :: some (Sum.inr (Sum.inr x)) :: t) 15 f = f x := rfl
theorem stL_15 {h0 h1 h2 h3 h4 h5 h6 h7 h8 h9 h10 h11 h12 h13 h14 : Option MV} {h v : Option MV} {t : Ls} : stL (h0 :: h1 :: h2 :: h3 :: h4 :: h5 :: h6 :: h7 :: h8 :: h9 :: h10 :: h11 :: h12 :: h13 :: h14 :: h :: t) 15 v = h0 :: h1 :: h2 :: h3 :: h4 :: h5 :: h6 :: h7 :: h8 :: h9 :: h10 :: h11 :: h12 :: h13 :: h14 :: v :: t := rfl
theorem okS_15 {h0 h1 h2 h3 h4 h5 h6 h7 h8 h9 h10 h11 h12 h13 h14 : Option MV} {h : Option MV} {t : Ls} : okS (h0 :: h1 :: h2 :: h3 :: h4 :: h5 :: h6 :: h7 :: h8 :: h9 :: h10 :: h11 :: h12 :: h13 :: h14 :: h :: t) 15 = nLg h14 := rfl
theorem okS2_15 {h0 h1 h2 h3 h4 h5 h6 h7 h8 h9 h10 h11 h12 h13 h14 : Option MV} {h h' : Option MV} {t : Ls} : okS2 (h0 :: h1 :: h2 :: h3 :: h4 :: h5 :: h6 :: h7 :: h8 :: h9 :: h10 :: h11 :: h12 :: h13 :: h14 :: h :: h' :: t) 15 = nLg h14 := rfl
theorem len4_0 : len4 [] = True := rfl
theorem len4_1 {v0 : MV} : len4 [v0] = True := rfl
theorem len4_2 {v0 v1 : MV} : len4 [v0, v1] = True := rfl
theorem len4_3 {v0 v1 v2 : MV} : len4 [v0, v1, v2] = True := rfl
theorem len4_4 {v0 v1 v2 v3 : MV} : len4 [v0, v1, v2, v3] = True := rfl
theorem tc_c (a b : Nat) : (a : Int) + (b : Int) = ((a + b : Nat) : Int) := (Int.natCast_add a b).symm
theorem tc_l (a b : Nat) : (a : Int) + no_index (OfNat.ofNat b : Int) = ((a + OfNat.ofNat b : Nat) : Int) := rfl
theorem tc_r (a b : Nat) : no_index (OfNat.ofNat a : Int) + (b : Int) = ((OfNat.ofNat a + b : Nat) : Int) := (Int.natCast_add (OfNat.ofNat a) b).symm
theorem tc_m (a b : Nat) : (a : Int) * no_index (OfNat.ofNat b : Int) = ((a * OfNat.ofNat b : Nat) : Int) := rfl
theorem tc_n (a b : Nat) : no_index (OfNat.ofNat a : Int) * (b : Int) = ((OfNat.ofNat a * b : Nat) : Int) := rfl
theorem tc_o (n : Nat) : ((no_index (OfNat.ofNat n : Nat) : Nat) : Int) = (OfNat.ofNat n : Int) := rfl
theorem lit_a (a m n : Nat) : a + no_index (OfNat.ofNat m) + no_index (OfNat.ofNat n) = a + (OfNat.ofNat m + OfNat.ofNat n) := Nat.add_assoc _ _ _
theorem tc_0 (a : Nat) : (0 ≤ (a : Int)) = True := by simp
