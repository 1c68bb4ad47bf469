/-! the tables of the code against the bytes and the words -/
def ilen (i : Instr) : Nat := match i with
  | .iload _ => 2 | .lload _ => 2 | .aload _ => 2 | .istore _ => 2 | .lstore _ => 2 | .astore _ => 2 | .bipush _ => 2
  | .sipush _ => 3 | .ldc2_w _ => 3 | .iinc _ _ => 3 | .goto _ => 3 | .ifCond _ _ => 3 | .if_icmp _ _ => 3 | .getfield _ => 3 | .putfield _ => 3 | .invokevirtual _ => 3 | .invokestatic _ => 3
  | _ => 1
def isTsw (i : Instr) : Bool := match i with
  | .tableswitch _ _ _ _ => true
  | _ => false
def ckD (mi pc : Nat) (i : Instr) : Bool := match decode (bM mi) pc with
  | .ok (j, n) => decide (j = i) && (isTsw i || n == ilen i)
  | _ => false
def ckI (mi pc : Nat) (i : Instr) (a b c e np : Nat) : Bool := match i with
  | .bipush n => decide ((Int8.ofInt n).toInt32 = Int32.ofInt n) && np == pc + 2
  | .sipush n => decide ((Int16.ofInt n).toInt32 = Int32.ofInt n) && np == pc + 3
  | .goto o => decide ((pc : Int) + o = (a : Int))
  | .ifCond _ o => decide ((pc : Int) + o = (a : Int)) && np == pc + 3
  | .if_icmp _ o => decide ((pc : Int) + o = (a : Int)) && np == pc + 3
  | .tableswitch d lo hi offs => decide (0 ≤ (pc : Int) + d) && offs.toList.all (fun o => decide (0 ≤ (pc : Int) + o)) && decide (lo + offs.size = hi + 1)
  | .getfield x => flt.contains (oM mi, x, a, b) && decide (a < 8) && decide (b < NX a) && decide ((fks a)[b]? = some c) && np == pc + 3
  | .putfield x => flt.contains (oM mi, x, a, b) && decide (a < 8) && decide (b < NX a) && decide ((fks a)[b]? = some c) && np == pc + 3 && decide (((TX a) b).2.2.2 = false) && decide (((TX a) b).2.2.1 = (if c = 0 then "I" else "Z"))
  | .aaload => [(103, 1, 7), (104, 1, 55), (105, 12, 55)].contains (a, b, c) && np == pc + 1
  | .ireturn => if a = 0 then decide (rM mi = some .int) else if a = 1 then decide (rM mi = some .boolean) else decide (a = 2) && decide (rM mi = some .char)
  | .return_ => decide (rM mi = none)
  | .areturn => decide (rM mi = some (.object RX1))
  | .invokevirtual x => cltV.contains (oM mi, x, a) && mVs.contains a && b == nM a && c == kM a && e == oM a && np == pc + 3
  | .invokestatic x => (match c with
    | 10 => clt4.contains (oM mi, x, c)
    | 11 => clt4.contains (oM mi, x, c)
    | 12 => clt4.contains (oM mi, x, c)
    | 13 => clt4.contains (oM mi, x, c)
    | 1 => cltS.contains (oM mi, x, a) && mSs.contains a && b == nM a && kM a == 1
    | 2 => cltN.contains (oM mi, x, a) && mSs.contains a && b == nM a && kM a == 1
    | _ => false) && np == pc + 3
  | .ldc2_w x => cklt.contains (oM mi, x, a) && np == pc + 3
  | i => np == pc + ilen i
def hpc : List Ent → Nat → Nat
  | [], nx => nx
  | q :: _, _ => q.1
def ckL (mi : Nat) : List Ent → Nat → Bool
  | [], _ => true
  | (pc, i, a, b, c, e) :: r, nx => ckD mi pc i && ckI mi pc i a b c e (hpc r nx) && ckL mi r nx
def ckM (mi : Nat) : Bool := (bkOf mi).all (fun q => ckL mi q.2.1 q.2.2 && hpc q.2.1 q.2.2 == q.1)
theorem ck0 : ckM 0 = true := by decide +kernel
theorem ck1 : ckM 1 = true := by decide +kernel
theorem ck2 : ckM 2 = true := by decide +kernel
theorem ck3 : ckM 3 = true := by decide +kernel
theorem ck4 : ckM 4 = true := by decide +kernel
theorem ck5 : ckM 5 = true := by decide +kernel
theorem ck6 : ckM 6 = true := by decide +kernel
theorem ck7 : ckM 7 = true := by decide +kernel
theorem ck8 : ckM 8 = true := by decide +kernel
theorem ck9 : ckM 9 = true := by decide +kernel
theorem ck10 : ckM 10 = true := by decide +kernel
theorem ck11 : ckM 11 = true := by decide +kernel
theorem ck12 : ckM 12 = true := by decide +kernel
theorem ck13 : ckM 13 = true := by decide +kernel
theorem ck14 : ckM 14 = true := by decide +kernel
theorem ck15 : ckM 15 = true := by decide +kernel
theorem ck16 : ckM 16 = true := by decide +kernel
theorem ck17 : ckM 17 = true := by decide +kernel
theorem ck18 : ckM 18 = true := by decide +kernel
theorem ck19 : ckM 19 = true := by decide +kernel
theorem ck20 : ckM 20 = true := by decide +kernel
theorem ck21 : ckM 21 = true := by decide +kernel
theorem ck22 : ckM 22 = true := by decide +kernel
theorem ck23 : ckM 23 = true := by decide +kernel
theorem ck24 : ckM 24 = true := by decide +kernel
theorem ck25 : ckM 25 = true := by decide +kernel
theorem ck26 : ckM 26 = true := by decide +kernel
theorem ck27 : ckM 27 = true := by decide +kernel
theorem ck28 : ckM 28 = true := by decide +kernel
theorem ck29 : ckM 29 = true := by decide +kernel
theorem ck30 : ckM 30 = true := by decide +kernel
theorem ck31 : ckM 31 = true := by decide +kernel
theorem ck32 : ckM 32 = true := by decide +kernel
theorem ck33 : ckM 33 = true := by decide +kernel
theorem ck34 : ckM 34 = true := by decide +kernel
theorem ck35 : ckM 35 = true := by decide +kernel
theorem ck36 : ckM 36 = true := by decide +kernel
theorem ck37 : ckM 37 = true := by decide +kernel
theorem ck38 : ckM 38 = true := by decide +kernel
theorem ck39 : ckM 39 = true := by decide +kernel
theorem ck40 : ckM 40 = true := by decide +kernel
theorem ck41 : ckM 41 = true := by decide +kernel
theorem ck42 : ckM 42 = true := by decide +kernel
theorem ck43 : ckM 43 = true := by decide +kernel
theorem ck44 : ckM 44 = true := by decide +kernel
theorem ck45 : ckM 45 = true := by decide +kernel
theorem ck46 : ckM 46 = true := by decide +kernel
theorem ck47 : ckM 47 = true := by decide +kernel
theorem ck48 : ckM 48 = true := by decide +kernel
theorem ck49 : ckM 49 = true := by decide +kernel
theorem ck50 : ckM 50 = true := by decide +kernel
theorem ck51 : ckM 51 = true := by decide +kernel
theorem ck52 : ckM 52 = true := by decide +kernel
theorem ck53 : ckM 53 = true := by decide +kernel
theorem ck54 : ckM 54 = true := by decide +kernel
theorem ck55 : ckM 55 = true := by decide +kernel
theorem ck56 : ckM 56 = true := by decide +kernel
theorem ck57 : ckM 57 = true := by decide +kernel
theorem ck58 : ckM 58 = true := by decide +kernel
theorem ck59 : ckM 59 = true := by decide +kernel
theorem ck60 : ckM 60 = true := by decide +kernel
theorem ck61 : ckM 61 = true := by decide +kernel
theorem ck62 : ckM 62 = true := by decide +kernel
theorem ck63 : ckM 63 = true := by decide +kernel
theorem ck64 : ckM 64 = true := by decide +kernel
theorem ck65 : ckM 65 = true := by decide +kernel
theorem ck66 : ckM 66 = true := by decide +kernel
theorem ck67 : ckM 67 = true := by decide +kernel
theorem ck68 : ckM 68 = true := by decide +kernel
theorem ck69 : ckM 69 = true := by decide +kernel
theorem ck70 : ckM 70 = true := by decide +kernel
theorem ck71 : ckM 71 = true := by decide +kernel
theorem ck72 : ckM 72 = true := by decide +kernel
theorem ck73 : ckM 73 = true := by decide +kernel
theorem ck74 : ckM 74 = true := by decide +kernel
theorem ck75 : ckM 75 = true := by decide +kernel
theorem ck76 : ckM 76 = true := by decide +kernel
theorem ck77 : ckM 77 = true := by decide +kernel
theorem ck78 : ckM 78 = true := by decide +kernel
theorem ck79 : ckM 79 = true := by decide +kernel
theorem ck80 : ckM 80 = true := by decide +kernel
theorem ck81 : ckM 81 = true := by decide +kernel
theorem ck82 : ckM 82 = true := by decide +kernel
theorem ck83 : ckM 83 = true := by decide +kernel
theorem ck84 : ckM 84 = true := by decide +kernel
theorem ck85 : ckM 85 = true := by decide +kernel
theorem ck86 : ckM 86 = true := by decide +kernel
theorem ck87 : ckM 87 = true := by decide +kernel
theorem ck88 : ckM 88 = true := by decide +kernel
theorem ck89 : ckM 89 = true := by decide +kernel
theorem ck90 : ckM 90 = true := by decide +kernel
theorem ck91 : ckM 91 = true := by decide +kernel
theorem ck92 : ckM 92 = true := by decide +kernel
theorem ck93 : ckM 93 = true := by decide +kernel
theorem ck94 : ckM 94 = true := by decide +kernel
theorem ck95 : ckM 95 = true := by decide +kernel
theorem ck96 : ckM 96 = true := by decide +kernel
theorem ck97 : ckM 97 = true := by decide +kernel
theorem ck98 : ckM 98 = true := by decide +kernel
theorem ck99 : ckM 99 = true := by decide +kernel
theorem ck100 : ckM 100 = true := by decide +kernel
theorem ck101 : ckM 101 = true := by decide +kernel
theorem ck102 : ckM 102 = true := by decide +kernel
theorem ck103 : ckM 103 = true := by decide +kernel
theorem ck104 : ckM 104 = true := by decide +kernel
theorem ck105 : ckM 105 = true := by decide +kernel
theorem ck106 : ckM 106 = true := by decide +kernel
theorem ck107 : ckM 107 = true := by decide +kernel
theorem ck108 : ckM 108 = true := by decide +kernel
theorem ck109 : ckM 109 = true := by decide +kernel
theorem ck110 : ckM 110 = true := by decide +kernel
theorem ck111 : ckM 111 = true := by decide +kernel
theorem ck112 : ckM 112 = true := by decide +kernel
theorem ck113 : ckM 113 = true := by decide +kernel
theorem ck114 : ckM 114 = true := by decide +kernel
theorem ck115 : ckM 115 = true := by decide +kernel
theorem ck116 : ckM 116 = true := by decide +kernel
theorem ck117 : ckM 117 = true := by decide +kernel
theorem ck118 : ckM 118 = true := by decide +kernel
theorem ck119 : ckM 119 = true := by decide +kernel
theorem ck120 : ckM 120 = true := by decide +kernel
theorem ck121 : ckM 121 = true := by decide +kernel
theorem ck122 : ckM 122 = true := by decide +kernel
theorem ck123 : ckM 123 = true := by decide +kernel
theorem ck124 : ckM 124 = true := by decide +kernel
theorem ck125 : ckM 125 = true := by decide +kernel
theorem ck126 : ckM 126 = true := by decide +kernel
theorem ck127 : ckM 127 = true := by decide +kernel
theorem ck128 : ckM 128 = true := by decide +kernel
theorem ck129 : ckM 129 = true := by decide +kernel
theorem ck130 : ckM 130 = true := by decide +kernel
theorem ck131 : ckM 131 = true := by decide +kernel
theorem ck132 : ckM 132 = true := by decide +kernel
theorem ck133 : ckM 133 = true := by decide +kernel
theorem ck134 : ckM 134 = true := by decide +kernel
theorem ck135 : ckM 135 = true := by decide +kernel
theorem ck136 : ckM 136 = true := by decide +kernel
theorem ck137 : ckM 137 = true := by decide +kernel
theorem ck138 : ckM 138 = true := by decide +kernel
theorem ck139 : ckM 139 = true := by decide +kernel
theorem ck140 : ckM 140 = true := by decide +kernel
theorem ck141 : ckM 141 = true := by decide +kernel
theorem ck142 : ckM 142 = true := by decide +kernel
theorem ck143 : ckM 143 = true := by decide +kernel
theorem ck144 : ckM 144 = true := by decide +kernel
theorem ck145 : ckM 145 = true := by decide +kernel
theorem ck146 : ckM 146 = true := by decide +kernel
theorem ck147 : ckM 147 = true := by decide +kernel
theorem ck148 : ckM 148 = true := by decide +kernel
theorem ck149 : ckM 149 = true := by decide +kernel
theorem ck150 : ckM 150 = true := by decide +kernel
theorem ck151 : ckM 151 = true := by decide +kernel
theorem ck152 : ckM 152 = true := by decide +kernel
theorem ck153 : ckM 153 = true := by decide +kernel
theorem ck154 : ckM 154 = true := by decide +kernel
theorem ck155 : ckM 155 = true := by decide +kernel
theorem ck156 : ckM 156 = true := by decide +kernel
theorem ck157 : ckM 157 = true := by decide +kernel
theorem ck158 : ckM 158 = true := by decide +kernel
theorem ck159 : ckM 159 = true := by decide +kernel
theorem ck160 : ckM 160 = true := by decide +kernel
theorem ck161 : ckM 161 = true := by decide +kernel
theorem ck162 : ckM 162 = true := by decide +kernel
theorem ck163 : ckM 163 = true := by decide +kernel
theorem ck164 : ckM 164 = true := by decide +kernel
theorem ck165 : ckM 165 = true := by decide +kernel
theorem ck_all : ∀ k, k < 166 → ckM k = true := by
  intro k hk
  match k, hk with
  | 0, _ => exact ck0
  | 1, _ => exact ck1
  | 2, _ => exact ck2
  | 3, _ => exact ck3
  | 4, _ => exact ck4
  | 5, _ => exact ck5
  | 6, _ => exact ck6
  | 7, _ => exact ck7
  | 8, _ => exact ck8
  | 9, _ => exact ck9
  | 10, _ => exact ck10
  | 11, _ => exact ck11
  | 12, _ => exact ck12
  | 13, _ => exact ck13
  | 14, _ => exact ck14
  | 15, _ => exact ck15
  | 16, _ => exact ck16
  | 17, _ => exact ck17
  | 18, _ => exact ck18
  | 19, _ => exact ck19
  | 20, _ => exact ck20
  | 21, _ => exact ck21
  | 22, _ => exact ck22
  | 23, _ => exact ck23
  | 24, _ => exact ck24
  | 25, _ => exact ck25
  | 26, _ => exact ck26
  | 27, _ => exact ck27
  | 28, _ => exact ck28
  | 29, _ => exact ck29
  | 30, _ => exact ck30
  | 31, _ => exact ck31
  | 32, _ => exact ck32
  | 33, _ => exact ck33
  | 34, _ => exact ck34
  | 35, _ => exact ck35
  | 36, _ => exact ck36
  | 37, _ => exact ck37
  | 38, _ => exact ck38
  | 39, _ => exact ck39
  | 40, _ => exact ck40
  | 41, _ => exact ck41
  | 42, _ => exact ck42
  | 43, _ => exact ck43
  | 44, _ => exact ck44
  | 45, _ => exact ck45
  | 46, _ => exact ck46
  | 47, _ => exact ck47
  | 48, _ => exact ck48
  | 49, _ => exact ck49
  | 50, _ => exact ck50
  | 51, _ => exact ck51
  | 52, _ => exact ck52
  | 53, _ => exact ck53
  | 54, _ => exact ck54
  | 55, _ => exact ck55
  | 56, _ => exact ck56
  | 57, _ => exact ck57
  | 58, _ => exact ck58
  | 59, _ => exact ck59
  | 60, _ => exact ck60
  | 61, _ => exact ck61
  | 62, _ => exact ck62
  | 63, _ => exact ck63
  | 64, _ => exact ck64
  | 65, _ => exact ck65
  | 66, _ => exact ck66
  | 67, _ => exact ck67
  | 68, _ => exact ck68
  | 69, _ => exact ck69
  | 70, _ => exact ck70
  | 71, _ => exact ck71
  | 72, _ => exact ck72
  | 73, _ => exact ck73
  | 74, _ => exact ck74
  | 75, _ => exact ck75
  | 76, _ => exact ck76
  | 77, _ => exact ck77
  | 78, _ => exact ck78
  | 79, _ => exact ck79
  | 80, _ => exact ck80
  | 81, _ => exact ck81
  | 82, _ => exact ck82
  | 83, _ => exact ck83
  | 84, _ => exact ck84
  | 85, _ => exact ck85
  | 86, _ => exact ck86
  | 87, _ => exact ck87
  | 88, _ => exact ck88
  | 89, _ => exact ck89
  | 90, _ => exact ck90
  | 91, _ => exact ck91
  | 92, _ => exact ck92
  | 93, _ => exact ck93
  | 94, _ => exact ck94
  | 95, _ => exact ck95
  | 96, _ => exact ck96
  | 97, _ => exact ck97
  | 98, _ => exact ck98
  | 99, _ => exact ck99
  | 100, _ => exact ck100
  | 101, _ => exact ck101
  | 102, _ => exact ck102
  | 103, _ => exact ck103
  | 104, _ => exact ck104
  | 105, _ => exact ck105
  | 106, _ => exact ck106
  | 107, _ => exact ck107
  | 108, _ => exact ck108
  | 109, _ => exact ck109
  | 110, _ => exact ck110
  | 111, _ => exact ck111
  | 112, _ => exact ck112
  | 113, _ => exact ck113
  | 114, _ => exact ck114
  | 115, _ => exact ck115
  | 116, _ => exact ck116
  | 117, _ => exact ck117
  | 118, _ => exact ck118
  | 119, _ => exact ck119
  | 120, _ => exact ck120
  | 121, _ => exact ck121
  | 122, _ => exact ck122
  | 123, _ => exact ck123
  | 124, _ => exact ck124
  | 125, _ => exact ck125
  | 126, _ => exact ck126
  | 127, _ => exact ck127
  | 128, _ => exact ck128
  | 129, _ => exact ck129
  | 130, _ => exact ck130
  | 131, _ => exact ck131
  | 132, _ => exact ck132
  | 133, _ => exact ck133
  | 134, _ => exact ck134
  | 135, _ => exact ck135
  | 136, _ => exact ck136
  | 137, _ => exact ck137
  | 138, _ => exact ck138
  | 139, _ => exact ck139
  | 140, _ => exact ck140
  | 141, _ => exact ck141
  | 142, _ => exact ck142
  | 143, _ => exact ck143
  | 144, _ => exact ck144
  | 145, _ => exact ck145
  | 146, _ => exact ck146
  | 147, _ => exact ck147
  | 148, _ => exact ck148
  | 149, _ => exact ck149
  | 150, _ => exact ck150
  | 151, _ => exact ck151
  | 152, _ => exact ck152
  | 153, _ => exact ck153
  | 154, _ => exact ck154
  | 155, _ => exact ck155
  | 156, _ => exact ck156
  | 157, _ => exact ck157
  | 158, _ => exact ck158
  | 159, _ => exact ck159
  | 160, _ => exact ck160
  | 161, _ => exact ck161
  | 162, _ => exact ck162
  | 163, _ => exact ck163
  | 164, _ => exact ck164
  | 165, _ => exact ck165
  | n + 166, h => exact absurd h (by omega)
def ckMeth (k : Nat) : Bool := decide ((yM k).cls = RX (oM k)) && decide (plainName (yM k).cls = true) && decide ((yM k).cls ≠ "java/lang/invoke/MethodHandle") && decide ((yM k).cls ≠ "java/lang/invoke/VarHandle") && decide ((parseMethodDescriptor (yM k).desc).map (fun d => d.parameters.length) = some (if mSs.contains k then nM k else nM k - 1)) && decide (lM k ≤ 17) && decide (oM k < 8) && (if kM k = 0 then decide (rM k = none) else if kM k = 1 then decide (rM k = some .int) || decide (rM k = some .boolean) || decide (rM k = some .char) else decide (rM k = some (.object RX1)))
theorem meth_ok : (List.range 166).all ckMeth = true := by decide +kernel
