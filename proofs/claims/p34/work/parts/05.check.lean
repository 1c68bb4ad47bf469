/-! the tables of the code against the bytes and the words -/
def ilen (i : Instr) : Nat := match i with
  | .iload _ => 2 | .lload _ => 2 | .aload _ => 2 | .istore _ => 2 | .lstore _ => 2 | .astore _ => 2 | .bipush _ => 2
  | .sipush _ => 3 | .ldc2_w _ => 3 | .iinc _ _ => 3 | .goto _ => 3 | .ifCond _ _ => 3 | .if_icmp _ _ => 3 | .getfield _ => 3 | .putfield _ => 3 | .invokevirtual _ => 3 | .invokestatic _ => 3
  | _ => 1
def isTsw (i : Instr) : Bool := match i with
  | .tableswitch _ _ _ _ => true
  | _ => false
def ckD (mi pc : Nat) (i : Instr) : Bool := match decode (bM mi) pc with
  | .ok (j, n) => decide (j = i) && (isTsw i || n == ilen i)
  | _ => false
def ckI (mi pc : Nat) (i : Instr) (a b c e np : Nat) : Bool := match i with
  | .bipush n => decide ((Int8.ofInt n).toInt32 = Int32.ofInt n) && np == pc + 2
  | .sipush n => decide ((Int16.ofInt n).toInt32 = Int32.ofInt n) && np == pc + 3
  | .goto o => decide ((pc : Int) + o = (a : Int))
  | .ifCond _ o => decide ((pc : Int) + o = (a : Int)) && np == pc + 3
  | .if_icmp _ o => decide ((pc : Int) + o = (a : Int)) && np == pc + 3
  | .tableswitch d lo hi offs => decide (0 ≤ (pc : Int) + d) && offs.toList.all (fun o => decide (0 ≤ (pc : Int) + o)) && decide (lo + offs.size = hi + 1)
  | .getfield x => flt.contains (oM mi, x, a, b) && decide (a < 7) && decide (b < NX a) && decide ((fks a)[b]? = some c) && np == pc + 3
  | .putfield x => flt.contains (oM mi, x, a, b) && decide (a < 7) && decide (b < NX a) && decide ((fks a)[b]? = some c) && np == pc + 3 && decide (((TX a) b).2.2.2 = false) && decide (((TX a) b).2.2.1 = (if c = 0 then "I" else "Z"))
  | .aaload => [(103, 1, 7), (104, 1, 55), (105, 12, 55)].contains (a, b, c) && np == pc + 1
  | .ireturn => if a = 0 then decide (rM mi = some .int) else if a = 1 then decide (rM mi = some .boolean) else decide (a = 2) && decide (rM mi = some .char)
  | .return_ => decide (rM mi = none)
  | .areturn => decide (rM mi = some (.object RX1))
  | .invokevirtual x => cltV.contains (oM mi, x, a) && mVs.contains a && b == nM a && c == kM a && e == oM a && np == pc + 3
  | .invokestatic x => (match c with
    | 10 => clt4.contains (oM mi, x, c)
    | 13 => clt4.contains (oM mi, x, c)
    | 1 => cltS.contains (oM mi, x, a) && mSs.contains a && b == nM a && kM a == 1
    | 2 => cltN.contains (oM mi, x, a) && mSs.contains a && b == nM a && kM a == 1
    | _ => false) && np == pc + 3
  | .ldc2_w x => cklt.contains (oM mi, x, a) && np == pc + 3
  | i => np == pc + ilen i
def hpc : List Ent → Nat → Nat
  | [], nx => nx
  | q :: _, _ => q.1
def ckL (mi : Nat) : List Ent → Nat → Bool
  | [], _ => true
  | (pc, i, a, b, c, e) :: r, nx => ckD mi pc i && ckI mi pc i a b c e (hpc r nx) && ckL mi r nx
def ckM (mi : Nat) : Bool := (bkOf mi).all (fun q => ckL mi q.2.1 q.2.2 && hpc q.2.1 q.2.2 == q.1)
theorem ck0 : ckM 0 = true := by decide +kernel
theorem ck1 : ckM 1 = true := by decide +kernel
theorem ck2 : ckM 2 = true := by decide +kernel
theorem ck3 : ckM 3 = true := by decide +kernel
theorem ck4 : ckM 4 = true := by decide +kernel
theorem ck5 : ckM 5 = true := by decide +kernel
theorem ck6 : ckM 6 = true := by decide +kernel
theorem ck7 : ckM 7 = true := by decide +kernel
theorem ck8 : ckM 8 = true := by decide +kernel
theorem ck9 : ckM 9 = true := by decide +kernel
theorem ck10 : ckM 10 = true := by decide +kernel
theorem ck11 : ckM 11 = true := by decide +kernel
theorem ck12 : ckM 12 = true := by decide +kernel
theorem ck13 : ckM 13 = true := by decide +kernel
theorem ck14 : ckM 14 = true := by decide +kernel
theorem ck15 : ckM 15 = true := by decide +kernel
theorem ck16 : ckM 16 = true := by decide +kernel
theorem ck17 : ckM 17 = true := by decide +kernel
theorem ck18 : ckM 18 = true := by decide +kernel
theorem ck19 : ckM 19 = true := by decide +kernel
theorem ck20 : ckM 20 = true := by decide +kernel
theorem ck21 : ckM 21 = true := by decide +kernel
theorem ck22 : ckM 22 = true := by decide +kernel
theorem ck23 : ckM 23 = true := by decide +kernel
theorem ck24 : ckM 24 = true := by decide +kernel
theorem ck25 : ckM 25 = true := by decide +kernel
theorem ck26 : ckM 26 = true := by decide +kernel
theorem ck27 : ckM 27 = true := by decide +kernel
theorem ck28 : ckM 28 = true := by decide +kernel
theorem ck29 : ckM 29 = true := by decide +kernel
theorem ck30 : ckM 30 = true := by decide +kernel
theorem ck31 : ckM 31 = true := by decide +kernel
theorem ck32 : ckM 32 = true := by decide +kernel
theorem ck33 : ckM 33 = true := by decide +kernel
theorem ck34 : ckM 34 = true := by decide +kernel
theorem ck35 : ckM 35 = true := by decide +kernel
theorem ck36 : ckM 36 = true := by decide +kernel
theorem ck37 : ckM 37 = true := by decide +kernel
theorem ck38 : ckM 38 = true := by decide +kernel
theorem ck39 : ckM 39 = true := by decide +kernel
theorem ck40 : ckM 40 = true := by decide +kernel
theorem ck41 : ckM 41 = true := by decide +kernel
theorem ck42 : ckM 42 = true := by decide +kernel
theorem ck43 : ckM 43 = true := by decide +kernel
theorem ck44 : ckM 44 = true := by decide +kernel
theorem ck45 : ckM 45 = true := by decide +kernel
theorem ck46 : ckM 46 = true := by decide +kernel
theorem ck47 : ckM 47 = true := by decide +kernel
theorem ck48 : ckM 48 = true := by decide +kernel
theorem ck49 : ckM 49 = true := by decide +kernel
theorem ck50 : ckM 50 = true := by decide +kernel
theorem ck51 : ckM 51 = true := by decide +kernel
theorem ck52 : ckM 52 = true := by decide +kernel
theorem ck53 : ckM 53 = true := by decide +kernel
theorem ck54 : ckM 54 = true := by decide +kernel
theorem ck55 : ckM 55 = true := by decide +kernel
theorem ck56 : ckM 56 = true := by decide +kernel
theorem ck57 : ckM 57 = true := by decide +kernel
theorem ck58 : ckM 58 = true := by decide +kernel
theorem ck59 : ckM 59 = true := by decide +kernel
theorem ck60 : ckM 60 = true := by decide +kernel
theorem ck61 : ckM 61 = true := by decide +kernel
theorem ck62 : ckM 62 = true := by decide +kernel
theorem ck63 : ckM 63 = true := by decide +kernel
theorem ck64 : ckM 64 = true := by decide +kernel
theorem ck65 : ckM 65 = true := by decide +kernel
theorem ck66 : ckM 66 = true := by decide +kernel
theorem ck67 : ckM 67 = true := by decide +kernel
theorem ck68 : ckM 68 = true := by decide +kernel
theorem ck69 : ckM 69 = true := by decide +kernel
theorem ck_all : ∀ k, k < 70 → ckM k = true := by
  intro k hk
  match k, hk with
  | 0, _ => exact ck0
  | 1, _ => exact ck1
  | 2, _ => exact ck2
  | 3, _ => exact ck3
  | 4, _ => exact ck4
  | 5, _ => exact ck5
  | 6, _ => exact ck6
  | 7, _ => exact ck7
  | 8, _ => exact ck8
  | 9, _ => exact ck9
  | 10, _ => exact ck10
  | 11, _ => exact ck11
  | 12, _ => exact ck12
  | 13, _ => exact ck13
  | 14, _ => exact ck14
  | 15, _ => exact ck15
  | 16, _ => exact ck16
  | 17, _ => exact ck17
  | 18, _ => exact ck18
  | 19, _ => exact ck19
  | 20, _ => exact ck20
  | 21, _ => exact ck21
  | 22, _ => exact ck22
  | 23, _ => exact ck23
  | 24, _ => exact ck24
  | 25, _ => exact ck25
  | 26, _ => exact ck26
  | 27, _ => exact ck27
  | 28, _ => exact ck28
  | 29, _ => exact ck29
  | 30, _ => exact ck30
  | 31, _ => exact ck31
  | 32, _ => exact ck32
  | 33, _ => exact ck33
  | 34, _ => exact ck34
  | 35, _ => exact ck35
  | 36, _ => exact ck36
  | 37, _ => exact ck37
  | 38, _ => exact ck38
  | 39, _ => exact ck39
  | 40, _ => exact ck40
  | 41, _ => exact ck41
  | 42, _ => exact ck42
  | 43, _ => exact ck43
  | 44, _ => exact ck44
  | 45, _ => exact ck45
  | 46, _ => exact ck46
  | 47, _ => exact ck47
  | 48, _ => exact ck48
  | 49, _ => exact ck49
  | 50, _ => exact ck50
  | 51, _ => exact ck51
  | 52, _ => exact ck52
  | 53, _ => exact ck53
  | 54, _ => exact ck54
  | 55, _ => exact ck55
  | 56, _ => exact ck56
  | 57, _ => exact ck57
  | 58, _ => exact ck58
  | 59, _ => exact ck59
  | 60, _ => exact ck60
  | 61, _ => exact ck61
  | 62, _ => exact ck62
  | 63, _ => exact ck63
  | 64, _ => exact ck64
  | 65, _ => exact ck65
  | 66, _ => exact ck66
  | 67, _ => exact ck67
  | 68, _ => exact ck68
  | 69, _ => exact ck69
  | n + 70, h => exact absurd h (by omega)
def ckMeth (k : Nat) : Bool := decide ((yM k).cls = RX (oM k)) && decide (plainName (yM k).cls = true) && decide ((yM k).cls ≠ "java/lang/invoke/MethodHandle") && decide ((yM k).cls ≠ "java/lang/invoke/VarHandle") && decide ((parseMethodDescriptor (yM k).desc).map (fun d => d.parameters.length) = some (if mSs.contains k then nM k else nM k - 1)) && decide (lM k ≤ 17) && decide (oM k < 7) && (if kM k = 0 then decide (rM k = none) else if kM k = 1 then decide (rM k = some .int) || decide (rM k = some .boolean) || decide (rM k = some .char) else decide (rM k = some (.object RX1)))
theorem meth_ok : (List.range 70).all ckMeth = true := by decide +kernel
