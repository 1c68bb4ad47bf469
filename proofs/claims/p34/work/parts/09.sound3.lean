section SN3
variable {p : Program} {l : Launch} {e : Env} {R : Room} {s : State} {m : MethodId} {args : Array Value} {below : List Frame} {meth : Method} {c : Code} {cells slots : Nat} {Qf : State → Prop} {D : va_G} {base : Nat} {cA : Nat → ClassId} {σ : Sg} {nL mi d : Nat} {A : Nat → Prop}
def Rets (p : Program) (l : Launch) (e : Env) (R : Room) (s : State) (m : MethodId) (args : Array Value) (below : List Frame) (meth : Method) (c : Code) (cells slots : Nat) (Qf : State → Prop) (D : va_G) (base : Nat) (cA : Nat → ClassId) (σ : Sg) (mi : Nat) (Q : QT) (A : Nat → Prop) : Prop :=
  ∀ (μ : Mem) (H : Heap) (locs : List Loc) (lsA : Array Slot) (pc : Nat), va_P D vwCl (wl base cA σ μ) H → va_S A s.heap H locs →
    (decode (bM mi) pc = .ok (.return_, 1) → rM mi = none → Q (.inl 0) μ → W p l e R s m args below meth c H locs cells slots Qf (F0 m pc lsA [])) ∧
    (∀ x : Nat, decode (bM mi) pc = .ok (.areturn, 1) → rM mi = some (.object RX1) → Q (.inr (.inr x)) μ → W p l e R s m args below meth c H locs cells slots Qf (F0 m pc lsA [.ref (base + x)])) ∧
    (∀ x : Int, decode (bM mi) pc = .ok (.ireturn, 1) → (rM mi = some .int ∨ (rM mi = some .boolean ∧ (x = 0 ∨ x = 1)) ∨ (rM mi = some .char ∧ 0 ≤ x ∧ x < 65536)) → Q (.inl x) μ → W p l e R s m args below meth c H locs cells slots Qf (F0 m pc lsA [.int (Int32.ofInt x)]))
theorem ckD_of {pc : Nat} {i : Instr} (h : ckD mi pc i = true) (ht : isTsw i = false) {n : Nat} (hn : ilen i = n) : decode (bM mi) pc = .ok (i, n) := by
  unfold ckD at h
  split at h
  · rename_i j n' hj
    simp only [ht, Bool.false_or, Bool.and_eq_true, decide_eq_true_eq, beq_iff_eq] at h
    rw [hj, h.1, h.2, hn]
  · cases h
theorem ckD_sw {pc : Nat} {i : Instr} (h : ckD mi pc i = true) : ∃ n, decode (bM mi) pc = .ok (i, n) := by
  unfold ckD at h
  split at h
  · rename_i j n' hj
    simp only [Bool.and_eq_true, decide_eq_true_eq] at h
    exact ⟨n', by rw [hj, h.1]⟩
  · cases h
theorem nat1 {a : Nat} {P : Prop} (h : (a == 1) = true ∧ P) : P := h.2
set_option maxHeartbeats 4000000 in
theorem stp_s (F : Fx p s m args c cells slots R D base cA nL mi d σ A) (hM : MetOk l D base cA σ d) {Q : QT} (hret : Rets p l e R s m args below meth c cells slots Qf D base cA σ mi Q A)
    {PP : PT} (hPP : PP = PS p l e R s m args below meth c cells slots Qf D base cA σ nL A) {pc np a b c1 e1 : Nat} {i : Instr} {k : Ls → List MV → Mem → Prop} (hD : ckD mi pc i = true) (hC : ckI mi pc i a b c1 e1 np = true)
    (hk : ∀ ls st μ, k ls st μ → PP np ls st μ) {ls : Ls} {st : List MV} {μ : Mem} (h : stp σ PP (Call σ d) Q pc i a b c1 e1 k ls st μ) : PP pc ls st μ := by
  have hPP2 := hPP
  subst hPP
  have F' := F
  obtain ⟨hx, hb, hml, hown, hts, hKN, hrf, hrl, hcl, hsl, hA⟩ := F
  intro H locs lsA hP hS hL
  have hll := hL.2.2.1
  have hsz : c.maxLocals = lsA.size := hml.trans hL.1.symm
  cases i with
  | iconst n =>
    simp only [stp] at h
    have hn := eq_of_beq (show (np == pc + 1) = true from hC); subst hn
    exact lv_iconst hx hb (ckD_of hD rfl rfl) rfl (hk _ _ _ h H locs lsA hP hS hL)
  | bipush n =>
    simp only [stp] at h
    simp only [ckI, Bool.and_eq_true, decide_eq_true_eq, beq_iff_eq] at hC
    obtain ⟨h1, hn⟩ := hC; subst hn
    exact lv_bipush hx hb (ckD_of hD rfl rfl) h1 (hk _ _ _ h H locs lsA hP hS hL)
  | sipush n =>
    simp only [stp] at h
    simp only [ckI, Bool.and_eq_true, decide_eq_true_eq, beq_iff_eq] at hC
    obtain ⟨h1, hn⟩ := hC; subst hn
    exact lv_sipush hx hb (ckD_of hD rfl rfl) h1 (hk _ _ _ h H locs lsA hP hS hL)
  | lconst n =>
    simp only [stp] at h
    have hn := eq_of_beq (show (np == pc + 1) = true from hC); subst hn
    exact lv_lconst hx hb (ckD_of hD rfl rfl) rfl (hk _ _ _ h H locs lsA hP hS hL)
  | ldc2_w n =>
    simp only [stp] at h
    simp only [ckI, Bool.and_eq_true, beq_iff_eq] at hC
    obtain ⟨h1, hn⟩ := hC; subst hn
    exact lv_ldc2 hx hb hown (hts _ (in_gW_ws (in_gCk _ (List.mem_map.mpr ⟨_, List.contains_iff_mem.mp h1, rfl⟩)))) (ckD_of hD rfl rfl) (hk _ _ _ h H locs lsA hP hS hL)
  | iload n =>
    simp only [stp] at h
    obtain ⟨x, e1, h⟩ := ldI_g h
    have hn := eq_of_beq (show (np == pc + 2) = true from hC); subst hn
    exact lv_iload hx hb (ckD_of hD rfl rfl) (hL.2.2.2 _ _ e1) (hk _ _ _ h H locs lsA hP hS hL)
  | iload_n n =>
    simp only [stp] at h
    obtain ⟨x, e1, h⟩ := ldI_g h
    have hn := eq_of_beq (show (np == pc + 1) = true from hC); subst hn
    exact lv_iload_n hx hb (ckD_of hD rfl rfl) rfl (hL.2.2.2 _ _ e1) (hk _ _ _ h H locs lsA hP hS hL)
  | lload n =>
    simp only [stp] at h
    obtain ⟨x, e1, h⟩ := ldL_g h
    have hn := eq_of_beq (show (np == pc + 2) = true from hC); subst hn
    exact lv_lload hx hb (ckD_of hD rfl rfl) (hL.2.2.2 _ _ e1) (hk _ _ _ h H locs lsA hP hS hL)
  | lload_n n =>
    simp only [stp] at h
    obtain ⟨x, e1, h⟩ := ldL_g h
    have hn := eq_of_beq (show (np == pc + 1) = true from hC); subst hn
    exact lv_lload_n hx hb (ckD_of hD rfl rfl) rfl (hL.2.2.2 _ _ e1) (hk _ _ _ h H locs lsA hP hS hL)
  | aload n =>
    simp only [stp] at h
    obtain ⟨x, e1, h⟩ := ldR_g h
    have hn := eq_of_beq (show (np == pc + 2) = true from hC); subst hn
    exact lv_aload hx hb (ckD_of hD rfl rfl) (hL.2.2.2 _ _ e1) (hk _ _ _ h H locs lsA hP hS hL)
  | aload_n n =>
    simp only [stp] at h
    obtain ⟨x, e1, h⟩ := ldR_g h
    have hn := eq_of_beq (show (np == pc + 1) = true from hC); subst hn
    exact lv_aload_n hx hb (ckD_of hD rfl rfl) rfl (hL.2.2.2 _ _ e1) (hk _ _ _ h H locs lsA hP hS hL)
  | istore n =>
    simp only [stp] at h
    obtain ⟨x, r, rfl, hok, h⟩ := p1_g h
    have hn := eq_of_beq (show (np == pc + 2) = true from hC); subst hn
    exact lv_istore hx hb (ckD_of hD rfl rfl) hL.has (hll ▸ okS_lt _ _ hok) rfl (fun ls' hl' => hk _ _ _ h H locs ls' hP hS (LR_st hok hll hl'))
  | istore_n n =>
    simp only [stp] at h
    obtain ⟨x, r, rfl, hok, h⟩ := p1_g h
    have hn := eq_of_beq (show (np == pc + 1) = true from hC); subst hn
    exact lv_istore_n hx hb (ckD_of hD rfl rfl) rfl hL.has (hll ▸ okS_lt _ _ hok) rfl (fun ls' hl' => hk _ _ _ h H locs ls' hP hS (LR_st hok hll hl'))
  | astore n =>
    simp only [stp] at h
    obtain ⟨x, r, rfl, hok, h⟩ := pR_g h
    have hn := eq_of_beq (show (np == pc + 2) = true from hC); subst hn
    exact lv_astore hx hb (ckD_of hD rfl rfl) hL.has (hll ▸ okS_lt _ _ hok) rfl (fun ls' hl' => hk _ _ _ h H locs ls' hP hS (LR_st (v := .inr (.inr x)) hok hll hl'))
  | astore_n n =>
    simp only [stp] at h
    obtain ⟨x, r, rfl, hok, h⟩ := pR_g h
    have hn := eq_of_beq (show (np == pc + 1) = true from hC); subst hn
    exact lv_astore_n hx hb (ckD_of hD rfl rfl) rfl hL.has (hll ▸ okS_lt _ _ hok) rfl (fun ls' hl' => hk _ _ _ h H locs ls' hP hS (LR_st (v := .inr (.inr x)) hok hll hl'))
  | lstore n =>
    simp only [stp] at h
    obtain ⟨x, r, rfl, hok, h⟩ := pL_g h
    have hn := eq_of_beq (show (np == pc + 2) = true from hC); subst hn
    exact lv_lstore hx hb (ckD_of hD rfl rfl) hL.has (hll ▸ okS2_lt _ _ hok) rfl (fun ls' hl' => hk _ _ _ h H locs ls' hP hS (LR_st2 (v := .inr (.inl x)) hok hll hl'))
  | lstore_n n =>
    simp only [stp] at h
    obtain ⟨x, r, rfl, hok, h⟩ := pL_g h
    have hn := eq_of_beq (show (np == pc + 1) = true from hC); subst hn
    exact lv_lstore_n hx hb (ckD_of hD rfl rfl) rfl hL.has (hll ▸ okS2_lt _ _ hok) rfl (fun ls' hl' => hk _ _ _ h H locs ls' hP hS (LR_st2 (v := .inr (.inl x)) hok hll hl'))
  | iinc n dd =>
    simp only [stp] at h
    obtain ⟨x, e1, hok, h⟩ := ldI_g h
    have hn := eq_of_beq (show (np == pc + 3) = true from hC); subst hn
    obtain ⟨kk, hkk⟩ := List.getElem?_of_mem (lpk_mem (base := base) e1)
    exact lv_iinc (v := Int32.ofInt (x + dd)) hx hb (ckD_of hD rfl rfl) hL.has hkk (Int32.ofInt_add x dd).symm (hll ▸ okS_lt _ _ hok) rfl (fun ls' hl' => hk _ _ _ h H locs ls' hP hS (LR_st (v := .inl (x + dd)) hok hll hl'))
  | iadd =>
    simp only [stp] at h
    obtain ⟨x, y, r, rfl, h⟩ := p2_g h
    have hn := eq_of_beq (show (np == pc + 1) = true from hC); subst hn
    refine lv_iadd hx hb (ckD_of hD rfl rfl) ?_
    rw [← Int32.ofInt_add]
    exact hk _ _ _ h H locs lsA hP hS hL
  | isub =>
    simp only [stp] at h
    obtain ⟨x, y, r, rfl, h⟩ := p2_g h
    have hn := eq_of_beq (show (np == pc + 1) = true from hC); subst hn
    refine lv_isub hx hb (ckD_of hD rfl rfl) ?_
    rw [← Int32.ofInt_sub]
    exact hk _ _ _ h H locs lsA hP hS hL
  | imul =>
    simp only [stp] at h
    obtain ⟨x, y, r, rfl, h⟩ := p2_g h
    have hn := eq_of_beq (show (np == pc + 1) = true from hC); subst hn
    refine lv_imul hx hb (ckD_of hD rfl rfl) ?_
    rw [← Int32.ofInt_mul]
    exact hk _ _ _ h H locs lsA hP hS hL
  | iand =>
    simp only [stp] at h
    obtain ⟨x, y, r, rfl, h⟩ := p2_g h
    have hn := eq_of_beq (show (np == pc + 1) = true from hC); subst hn
    refine lv_iand hx hb (ckD_of hD rfl rfl) ?_
    rw [← Int32.ofInt_toInt (Int32.ofInt x &&& Int32.ofInt y)]
    exact hk _ _ _ h H locs lsA hP hS hL
  | ior =>
    simp only [stp] at h
    obtain ⟨x, y, r, rfl, h⟩ := p2_g h
    have hn := eq_of_beq (show (np == pc + 1) = true from hC); subst hn
    refine lv_ior hx hb (ckD_of hD rfl rfl) ?_
    rw [← Int32.ofInt_toInt (Int32.ofInt x ||| Int32.ofInt y)]
    exact hk _ _ _ h H locs lsA hP hS hL
  | ishl =>
    simp only [stp] at h
    obtain ⟨x, y, r, rfl, h⟩ := p2_g h
    have hn := eq_of_beq (show (np == pc + 1) = true from hC); subst hn
    refine lv_ishl hx hb (ckD_of hD rfl rfl) ?_
    rw [← Int32.ofInt_toInt (Int32.ofInt x <<< (Int32.ofInt y &&& 31))]
    exact hk _ _ _ h H locs lsA hP hS hL
  | ishr =>
    simp only [stp] at h
    obtain ⟨x, y, r, rfl, h⟩ := p2_g h
    have hn := eq_of_beq (show (np == pc + 1) = true from hC); subst hn
    refine lv_ishr hx hb (ckD_of hD rfl rfl) ?_
    rw [← Int32.ofInt_toInt (Int32.ofInt x >>> (Int32.ofInt y &&& 31))]
    exact hk _ _ _ h H locs lsA hP hS hL
  | i2c =>
    simp only [stp] at h
    obtain ⟨x, r, rfl, h⟩ := p1_g h
    have hn := eq_of_beq (show (np == pc + 1) = true from hC); subst hn
    exact lv_i2c (v := Int32.ofInt (iI2c x)) hx hb (ckD_of hD rfl rfl) (Int32.ofInt_toInt _).symm (hk _ _ _ h H locs lsA hP hS hL)
  | i2l =>
    simp only [stp] at h
    obtain ⟨x, r, rfl, h⟩ := p1_g h
    have hn := eq_of_beq (show (np == pc + 1) = true from hC); subst hn
    exact lv_i2l hx hb (ckD_of hD rfl rfl) rfl (hk _ _ _ h H locs lsA hP hS hL)
  | l2i =>
    simp only [stp] at h
    obtain ⟨x, r, rfl, h⟩ := pL_g h
    have hn := eq_of_beq (show (np == pc + 1) = true from hC); subst hn
    exact lv_l2i (v := Int32.ofInt x.toInt32.toInt) hx hb (ckD_of hD rfl rfl) (Int32.ofInt_toInt _).symm (hk _ _ _ h H locs lsA hP hS hL)
  | land =>
    simp only [stp] at h
    obtain ⟨x, y, r, rfl, h⟩ := pLL_g h
    have hn := eq_of_beq (show (np == pc + 1) = true from hC); subst hn
    exact lv_land hx hb (ckD_of hD rfl rfl) (hk _ _ _ h H locs lsA hP hS hL)
  | lushr =>
    simp only [stp] at h
    obtain ⟨x, y, r, rfl, h⟩ := pLI_g h
    have hn := eq_of_beq (show (np == pc + 1) = true from hC); subst hn
    exact lv_lushr (v := lUshr x y) hx hb (ckD_of hD rfl rfl) rfl (hk _ _ _ h H locs lsA hP hS hL)
  | lcmp =>
    simp only [stp] at h
    obtain ⟨x, y, r, rfl, h⟩ := pLL_g h
    have hn := eq_of_beq (show (np == pc + 1) = true from hC); subst hn
    refine W.lcmp hx hb (ckD_of hD rfl rfl) ?_
    rw [← Int32.ofInt_toInt (lg_cmp x y)]
    exact hk _ _ _ h H locs lsA hP hS hL
  | dup =>
    simp only [stp] at h
    obtain ⟨v, r, rfl, hv, h⟩ := pD_g h
    have hn := eq_of_beq (show (np == pc + 1) = true from hC); subst hn
    exact lv_dup hx hb (ckD_of hD rfl rfl) (nLg_cat hv) (hk _ _ _ h H locs lsA hP hS hL)
  | dup2 =>
    simp only [stp] at h
    obtain ⟨v, r, rfl, hv, h⟩ := pD_g h
    obtain ⟨w, r2, rfl, hw, h⟩ := pD_g h
    have hn := eq_of_beq (show (np == pc + 1) = true from hC); subst hn
    exact lv_dup2_11 hx hb (ckD_of hD rfl rfl) (nLg_cat hv) (nLg_cat hw) (hk _ _ _ h H locs lsA hP hS hL)
  | pop =>
    simp only [stp] at h
    obtain ⟨v, r, rfl, hv, h⟩ := pD_g h
    have hn := eq_of_beq (show (np == pc + 1) = true from hC); subst hn
    exact lv_pop hx hb (ckD_of hD rfl rfl) (nLg_cat hv) (hk _ _ _ h H locs lsA hP hS hL)
  | goto o =>
    simp only [stp] at h
    simp only [ckI, decide_eq_true_eq] at hC
    exact lv_goto hx hb (ckD_of hD rfl rfl) hC (h H locs lsA hP hS hL)
  | ifCond cc o =>
    simp only [stp] at h
    obtain ⟨x, r, rfl, h⟩ := p1_g h
    simp only [ckI, Bool.and_eq_true, decide_eq_true_eq, beq_iff_eq] at hC
    obtain ⟨h1, hn⟩ := hC; subst hn
    cases cc with
    | eq => have q := cEq_u h; exact lv_if_eq hx hb (ckD_of hD rfl rfl) h1 (fun z => q.1 z H locs lsA hP hS hL) (fun z => hk _ _ _ (q.2 z) H locs lsA hP hS hL)
    | ne => have q := cEq_u h; exact lv_if_ne hx hb (ckD_of hD rfl rfl) h1 (fun z => q.2 z H locs lsA hP hS hL) (fun z => hk _ _ _ (q.1 z) H locs lsA hP hS hL)
    | lt => have q := cLt_u h; exact lv_if_lt hx hb (ckD_of hD rfl rfl) h1 (fun z => q.1 z H locs lsA hP hS hL) (fun z => hk _ _ _ (q.2 z) H locs lsA hP hS hL)
    | ge => have q := cLt_v h; exact lv_if_ge hx hb (ckD_of hD rfl rfl) h1 (fun z => q.1 z H locs lsA hP hS hL) (fun z => hk _ _ _ (q.2 z) H locs lsA hP hS hL)
    | gt => have q := cLt_u h; exact lv_if_gt hx hb (ckD_of hD rfl rfl) h1 (fun z => q.1 z H locs lsA hP hS hL) (fun z => hk _ _ _ (q.2 z) H locs lsA hP hS hL)
    | le => have q := cLt_v h; exact lv_if_le hx hb (ckD_of hD rfl rfl) h1 (fun z => q.1 z H locs lsA hP hS hL) (fun z => hk _ _ _ (q.2 z) H locs lsA hP hS hL)
  | if_icmp cc o =>
    simp only [stp] at h
    obtain ⟨x, y, r, rfl, h⟩ := p2_g h
    simp only [ckI, Bool.and_eq_true, decide_eq_true_eq, beq_iff_eq] at hC
    obtain ⟨h1, hn⟩ := hC; subst hn
    cases cc with
    | eq => have q := cEq_u h; exact lv_icmp_eq hx hb (ckD_of hD rfl rfl) h1 (fun z => q.1 z H locs lsA hP hS hL) (fun z => hk _ _ _ (q.2 z) H locs lsA hP hS hL)
    | ne => have q := cEq_u h; exact lv_icmp_ne hx hb (ckD_of hD rfl rfl) h1 (fun z => q.2 z H locs lsA hP hS hL) (fun z => hk _ _ _ (q.1 z) H locs lsA hP hS hL)
    | lt => have q := cLt_u h; exact lv_icmp_lt hx hb (ckD_of hD rfl rfl) h1 (fun z => q.1 z H locs lsA hP hS hL) (fun z => hk _ _ _ (q.2 z) H locs lsA hP hS hL)
    | ge => have q := cLt_v h; exact lv_icmp_ge hx hb (ckD_of hD rfl rfl) h1 (fun z => q.1 z H locs lsA hP hS hL) (fun z => hk _ _ _ (q.2 z) H locs lsA hP hS hL)
    | gt => have q := cLt_u h; exact lv_icmp_gt hx hb (ckD_of hD rfl rfl) h1 (fun z => q.1 z H locs lsA hP hS hL) (fun z => hk _ _ _ (q.2 z) H locs lsA hP hS hL)
    | le => have q := cLt_v h; exact lv_icmp_le hx hb (ckD_of hD rfl rfl) h1 (fun z => q.1 z H locs lsA hP hS hL) (fun z => hk _ _ _ (q.2 z) H locs lsA hP hS hL)
  | tableswitch dd lo hi offs =>
    simp only [stp] at h
    obtain ⟨x, r, rfl, hr, h2, h3⟩ := p1_g h
    simp only [ckI, Bool.and_eq_true, decide_eq_true_eq] at hC
    obtain ⟨⟨c1, c2⟩, c3⟩ := hC
    obtain ⟨len, hd⟩ := ckD_sw hD
    have hxi := inR_toInt hr
    by_cases hout : x < lo ∨ hi < x
    · exact lv_tableOut hx hb hd (by rw [hxi]; exact hout) (tgt := ((pc : Int) + dd).toNat) (by omega) (h3 hout H locs lsA hP hS hL)
    · have hi1 : (x - lo).toNat < offs.size := by omega
      obtain ⟨o, ho⟩ : ∃ o, offs[(x - lo).toNat]? = some o := ⟨_, Array.getElem?_eq_getElem hi1⟩
      have hol : offs.toList[(x - lo).toNat]? = some o := by rw [Array.getElem?_toList]; exact ho
      have c2' : 0 ≤ (pc : Int) + o := of_decide_eq_true (List.all_eq_true.mp c2 o (List.mem_of_getElem? hol))
      exact lv_tableIn hx hb hd (by rw [hxi]; omega) (by rw [hxi]; omega) (off := o) (by rw [hxi]; exact ho) (tgt := ((pc : Int) + o).toNat) (by omega)
        (swc_g h2 hol (by omega) H locs lsA hP hS hL)
  | getfield n =>
    simp only [stp] at h
    obtain ⟨o, r, rfl, ho, h⟩ := pR_g h
    simp only [ckI, Bool.and_eq_true, decide_eq_true_eq, beq_iff_eq] at hC
    obtain ⟨⟨⟨⟨h1, h2⟩, h3⟩, h4⟩, hn⟩ := hC; subst hn
    refine s_getf F' (List.contains_iff_mem.mp h1) h2 h3 h4 (ckD_of hD rfl rfl) ho hP ?_
    rcases c1 with _ | _ | w
    · exact hk _ _ _ h H locs lsA hP hS hL
    · exact hk _ _ _ h H locs lsA hP hS hL
    · have q := hk _ _ _ h.2 H locs lsA hP hS hL
      have e : fldV base σ μ o b (w + 2) = .ref (base + (o + w)) := by simp only [fldV]; rw [if_pos h.1]
      rw [e]
      exact q
  | putfield n =>
    simp only [stp] at h
    split at h
    · rename_i v o r
      obtain ⟨ho, hv, h⟩ := h
      simp only [ckI, Bool.and_eq_true, decide_eq_true_eq, beq_iff_eq] at hC
      obtain ⟨⟨⟨⟨⟨⟨h1, h2⟩, h3⟩, h4⟩, hn⟩, h5⟩, h6⟩ := hC; subst hn
      exact s_putf F' (List.contains_iff_mem.mp h1) h2 h3 h4 h5 h6 hv (ckD_of hD rfl rfl) ho hP hS (fun H1 locs1 q1 q2 => hk _ _ _ h H1 locs1 lsA q1 q2 hL)
    · exact h.elim
  | iaload =>
    simp only [stp] at h
    obtain ⟨o, i, r, rfl, ho, hi0, hi1, h⟩ := pA_g h
    have hn := eq_of_beq (show (np == pc + 1) = true from hC); subst hn
    obtain ⟨g1, g2, g3⟩ := s_alen (base := base) (cA := cA) ho (by decide) μ
    refine va_iald hx hb hKN.1 hP o 0 g1 rfl (in_i hi0 hi1 g2) (ckD_of hD rfl rfl) ?_
    rw [clamp_i hi0 hi1 g2]
    exact hk _ _ _ h H locs lsA hP hS hL
  | caload =>
    simp only [stp] at h
    obtain ⟨o, i, r, rfl, ho, hi0, hi1, h⟩ := pA_g h
    have hn := eq_of_beq (show (np == pc + 1) = true from hC); subst hn
    obtain ⟨g1, g2, g3⟩ := s_alen (base := base) (cA := cA) ho (by decide) μ
    refine va_cald hx hb hKN.1 hP o 1 g1 rfl (in_i hi0 hi1 g2) (ckD_of hD rfl rfl) ?_
    rw [clamp_i hi0 hi1 g2]
    exact hk _ _ _ h H locs lsA hP hS hL
  | baload =>
    simp only [stp] at h
    obtain ⟨o, i, r, rfl, ho, hi0, hi1, h⟩ := pA_g h
    have hn := eq_of_beq (show (np == pc + 1) = true from hC); subst hn
    obtain ⟨g1, g2, g3⟩ := s_alen (base := base) (cA := cA) ho (by decide) μ
    refine va_zald hx hb hKN.1 hP o 2 g1 rfl (in_i hi0 hi1 g2) (ckD_of hD rfl rfl) ?_
    rw [clamp_i hi0 hi1 g2]
    exact hk _ _ _ h H locs lsA hP hS hL
  | aaload =>
    simp only [stp] at h
    obtain ⟨o, i, r, rfl, ho, hi0, hi1, hs, h⟩ := pA_g h
    simp only [ckI, Bool.and_eq_true, beq_iff_eq] at hC
    obtain ⟨h1, hn⟩ := hC; subst hn
    have q := hk _ _ _ h H locs lsA hP hS hL
    have h1 := List.contains_iff_mem.mp h1
    simp only [List.mem_cons, List.not_mem_nil, or_false, Prod.mk.injEq] at h1
    rcases h1 with ⟨rfl, rfl, rfl⟩ | ⟨rfl, rfl, rfl⟩ | ⟨rfl, rfl, rfl⟩
    · obtain ⟨g1, g2, g3⟩ := s_alen (base := base) (cA := cA) ho (by decide) μ
      refine va_aldq hx hb hKN.1 hP o 3 g1 rfl (in_i hi0 hi1 g2) (ckD_of hD rfl rfl) ?_
      rw [clamp_i hi0 hi1 g2]; unfold ptrs; rw [if_pos hs]; exact q
    · obtain ⟨g1, g2, g3⟩ := s_alen (base := base) (cA := cA) ho (by decide) μ
      refine va_aldq hx hb hKN.1 hP o 4 g1 rfl (in_i hi0 hi1 g2) (ckD_of hD rfl rfl) ?_
      rw [clamp_i hi0 hi1 g2]; unfold ptrs; rw [if_pos hs]; exact q
    · obtain ⟨g1, g2, g3⟩ := s_alen (base := base) (cA := cA) ho (by decide) μ
      refine va_aldq hx hb hKN.1 hP o 4 g1 rfl (in_i hi0 hi1 g2) (ckD_of hD rfl rfl) ?_
      rw [clamp_i hi0 hi1 g2]; unfold ptrs; rw [if_pos hs]; exact q
  | iastore =>
    simp only [stp] at h
    obtain ⟨o, i, v, r, rfl, ho, hi0, hi1, h⟩ := pAS_g h
    have hn := eq_of_beq (show (np == pc + 1) = true from hC); subst hn
    obtain ⟨g1, g2, g3⟩ := s_alen (base := base) (cA := cA) ho (by decide) μ
    obtain ⟨-, -, g4⟩ := s_alen (base := base) (cA := cA) ho (by decide) (ms μ o i.toNat v)
    refine va_iast hx hb hKN.1 hP (wl_D hA) hS o 0 g1 rfl (in_i hi0 hi1 g2) (ckD_of hD rfl rfl) (fun H1 locs1 q1 q2 q3 => ?_)
    rw [upd_ms hi0 hi1 g2, wl_set (by rw [g4]; rfl) ms_ne] at q1
    exact hk _ _ _ h H1 locs1 lsA q1 q3 hL
  | castore =>
    simp only [stp] at h
    obtain ⟨o, i, v, r, rfl, ho, hi0, hi1, hv, h⟩ := pAS_g h
    have hn := eq_of_beq (show (np == pc + 1) = true from hC); subst hn
    obtain ⟨g1, g2, g3⟩ := s_alen (base := base) (cA := cA) ho (by decide) μ
    obtain ⟨-, -, g4⟩ := s_alen (base := base) (cA := cA) ho (by decide) (ms μ o i.toNat v)
    refine va_cast hx hb hKN.1 hP (wl_D hA) hS o 1 g1 rfl (in_i hi0 hi1 g2) (ckD_of hD rfl rfl) (fun H1 locs1 q1 q2 q3 => ?_)
    rw [nar_c hv, upd_ms hi0 hi1 g2, wl_set (by rw [g4]; rfl) ms_ne] at q1
    exact hk _ _ _ h H1 locs1 lsA q1 q3 hL
  | bastore =>
    simp only [stp] at h
    obtain ⟨o, i, v, r, rfl, ho, hi0, hi1, hv, h⟩ := pAS_g h
    have hn := eq_of_beq (show (np == pc + 1) = true from hC); subst hn
    obtain ⟨g1, g2, g3⟩ := s_alen (base := base) (cA := cA) ho (by decide) μ
    obtain ⟨-, -, g4⟩ := s_alen (base := base) (cA := cA) ho (by decide) (ms μ o i.toNat v)
    refine va_zast hx hb hKN.1 hP (wl_D hA) hS o 2 g1 rfl (in_i hi0 hi1 g2) (ckD_of hD rfl rfl) (fun H1 locs1 q1 q2 q3 => ?_)
    rw [nar_z hv, upd_ms hi0 hi1 g2, wl_set (by rw [g4]; rfl) ms_ne] at q1
    exact hk _ _ _ h H1 locs1 lsA q1 q3 hL
  | ireturn =>
    simp only [stp] at h
    obtain ⟨x, r, rfl, rfl, hx1, h⟩ := p1_g h
    simp only [ckI] at hC
    refine (hret μ H locs lsA pc hP hS).2.2 x (ckD_of hD rfl rfl) ?_ h
    by_cases h0 : a = 0
    · rw [if_pos h0] at hC
      exact Or.inl (of_decide_eq_true hC)
    · by_cases h1 : a = 1
      · rw [if_neg h0, if_pos h1] at hC
        rw [if_pos h1] at hx1
        exact Or.inr (Or.inl ⟨of_decide_eq_true hC, hx1⟩)
      · rw [if_neg h0, if_neg h1] at hC
        simp only [Bool.and_eq_true, decide_eq_true_eq] at hC
        rw [if_neg h1, if_pos hC.1] at hx1
        exact Or.inr (Or.inr ⟨hC.2, hx1⟩)
  | return_ =>
    simp only [stp] at h
    obtain ⟨rfl, h⟩ := h
    simp only [ckI, decide_eq_true_eq] at hC
    exact (hret μ H locs lsA pc hP hS).1 (ckD_of hD rfl rfl) hC h
  | areturn =>
    simp only [stp] at h
    obtain ⟨x, r, h0, h1, hq⟩ := pR_g h
    subst h1; subst h0
    simp only [ckI, decide_eq_true_eq] at hC
    exact (hret μ H locs lsA pc hP hS).2.1 x (ckD_of hD rfl rfl) hC hq
  | invokevirtual n =>
    simp only [stp] at h
    obtain ⟨vs, r, h0, hvl, h4, hrc, hq⟩ := tk_g h
    subst h0
    simp only [ckI, Bool.and_eq_true, beq_iff_eq] at hC
    obtain ⟨⟨⟨⟨⟨h1, h2⟩, h3⟩, h5⟩, h6⟩, hn⟩ := hC
    subst h5; subst h6
    rcases vs with _ | ⟨v0, As⟩
    · exact (hrc : False).elim
    · rcases v0 with x0 | x0 | kk
      · exact (hrc : False).elim
      · exact (hrc : False).elim
      · have q := s_callV (As := As) (rs := r) F' hM hPP2 (List.contains_iff_mem.mp h1) h2 (by rw [← h3, ← hvl]; rfl) (ckD_of hD rfl rfl) h4 hrc hq hP hS hL
        have e : List.map (tr base) ((Sum.inr (Sum.inr kk) :: As).reverse ++ r) = ((As.map (tr base)).reverse) ++ .ref (base + kk) :: r.map (tr base) := by
          simp [tr]
        rw [e]
        exact q
  | invokestatic n =>
    simp only [stp] at h
    simp only [ckI, Bool.and_eq_true, beq_iff_eq] at hC
    obtain ⟨hC, hn⟩ := hC; subst hn
    have hMi : (Cond.initialized "java/lang/Math").before args s = true := hts _ (in_gW_ws (in_gNa2 _ (List.mem_of_getElem? (i := 1) rfl)))
    split at h
    · obtain ⟨x, y, r, rfl, ⟨h4, h1⟩, h2, h⟩ := p2_g h
      refine va_mmin hx hb hsz hown (hts _ (in_gW_ws (in_gNat _ (List.mem_map.mpr ⟨_, List.contains_iff_mem.mp hC, rfl⟩)))) (hts _ (in_gW_ws (in_gNa2 _ (List.mem_of_getElem? (i := 0) rfl)))) hMi (hts _ (in_gW_ws (in_gNa2 _ (List.mem_of_getElem? (i := 2) rfl)))) (by omega) (by have := len4_cat (base := base) h4; omega) hcl hsl (ckD_of hD rfl rfl) ?_
      rw [min_i h1 h2]
      exact hk _ _ _ h H locs lsA hP hS hL
    · obtain ⟨k0, sp, k1, dp, nn, r, rfl, ⟨h4, ho0, ho1⟩, ⟨hs0, hd0, hn0⟩, ⟨hs1, hd1⟩, h⟩ := pC_g h
      obtain ⟨g1, g2, g3⟩ := s_alen (base := base) (cA := cA) ho0 (by decide) μ
      obtain ⟨j1, j2, j3⟩ := s_alen (base := base) (cA := cA) ho1 (by decide) μ
      obtain ⟨-, -, g4⟩ := s_alen (base := base) (cA := cA) ho1 (by decide) (mcp μ k0 sp.toNat k1 dp.toNat nn.toNat)
      have rs : inR sp := ⟨by omega, by omega⟩
      have rd : inR dp := ⟨by omega, by omega⟩
      have rn : inR nn := ⟨by omega, by omega⟩
      have z0 : inR 0 := ⟨by decide, by decide⟩
      have cs : (Int32.ofInt sp).toNatClampNeg = sp.toNat := by show (Int32.ofInt sp).toInt.toNat = _; rw [inR_toInt rs]
      have cd : (Int32.ofInt dp).toNatClampNeg = dp.toNat := by show (Int32.ofInt dp).toInt.toNat = _; rw [inR_toInt rd]
      have cn : (Int32.ofInt nn).toNatClampNeg = nn.toNat := by show (Int32.ofInt nn).toInt.toNat = _; rw [inR_toInt rn]
      have neg : ∀ {x : Int}, inR x → 0 ≤ x → ¬ Int32.ofInt x < 0 := fun {x} hr h0 q => by
        rw [← i32_zero, i32_lt hr z0] at q; omega
      refine va_copyi hx hb hsz hown (hts _ (in_gW_ws (in_gNat _ (List.mem_map.mpr ⟨_, List.contains_iff_mem.mp hC, rfl⟩)))) (hts _ (in_gW_ws (in_gNa2 _ (List.mem_of_getElem? (i := 3) rfl)))) (hts _ (in_gW_ws (in_gNa2 _ (List.mem_of_getElem? (i := 4) rfl)))) (hts _ (in_gW_ws (in_gNa2 _ (List.mem_of_getElem? (i := 5) rfl))))
        hKN.1 hP (wl_D hA) hS k0 k1 0 0 g1 j1 rfl rfl rfl (neg rs hs0) (neg rd hd0) (neg rn hn0) (by rw [cs, cn]; omega) (by rw [cd, cn]; omega) (fun _ _ => rfl) (by omega) (by
          have := len4_cat (base := base) h4
          have e : nativeFrameWords "java/lang/System" "arraycopy" 5 = 7 := by decide
          rw [e]; omega) (ckD_of hD rfl rfl) (fun H1 locs1 q1 q2 q3 => ?_)
      rw [cs, cd, cn] at q1
      have e : va_cpy (fun j => Int32.ofInt (μ k0 j)) (fun j => Int32.ofInt (μ k1 j)) sp.toNat dp.toNat nn.toNat = fun j => Int32.ofInt (mcp μ k0 sp.toNat k1 dp.toNat nn.toNat k1 j) := by
        funext j
        unfold va_cpy mcp
        by_cases hj : dp.toNat ≤ j ∧ j < dp.toNat + nn.toNat
        · rw [if_pos hj, if_pos ⟨rfl, hj⟩]
        · rw [if_neg hj, if_neg (fun q => hj q.2)]
      rw [e, wl_set (by rw [g4]; rfl) mcp_ne] at q1
      exact hk _ _ _ h H1 locs1 lsA q1 q3 hL
    · obtain ⟨vs, r, rfl, hvl, h4, h⟩ := tk_g h
      rw [List.map_append, List.map_reverse]
      split at hC
      · exact absurd rfl (by assumption)
      · exact absurd rfl (by assumption)
      · simp only [Bool.and_eq_true, beq_iff_eq] at hC
        obtain ⟨⟨⟨h1, h2⟩, h3⟩, h5⟩ := hC
        exact s_callS (As := vs) (rs := r) F' hM hPP2 (Or.inl (List.contains_iff_mem.mp h1)) h2 (by rw [← h3, ← hvl]) (ckD_of hD rfl rfl) h4 (by rw [h5]; exact h) hP hS hL
      · simp only [Bool.and_eq_true, beq_iff_eq] at hC
        obtain ⟨⟨⟨h1, h2⟩, h3⟩, h5⟩ := hC
        exact s_callS (As := vs) (rs := r) F' hM hPP2 (Or.inr (List.contains_iff_mem.mp h1)) h2 (by rw [← h3, ← hvl]) (ckD_of hD rfl rfl) h4 (by rw [h5]; exact h) hP hS hL
      · cases hC
  | _ => exact (h : False).elim
end SN3
