/-! THE LAW'S CASES -/
/-- the law's frame and its script: b the script's cell, L its length, y its ints -/
def LF (p : Program) (s : State) (m : MethodId) (c : Code) (meth : Method) (D : va_G) (cA : Nat → ClassId) (b L : Nat) (y : Nat → Int) : Prop :=
  p.tables.exec = Jvm.exec ∧ c.code = code ∧ c.maxLocals = 4 ∧ s.vm.findClass R_law = some m.cls ∧ (∀ w ∈ lw_tbl, w.before #[Value.ref b] s = true) ∧ va_X b L (fun j => Int32.ofInt (y j)) s s.heap ∧ b < s.heap.size ∧ WdK D cA s ∧ meth.locks = false
def lvL (base b i : Nat) : List (Nat × Value) := [(3, .int (nI i)), (2, .ref (base + 510)), (1, .ref (base + 0)), (0, .ref b)]
/-- the long that put is given -/
def lwX (y : Nat → Int) (i : Nat) : Int64 := ((Int32.ofInt (y (i + 1))).toInt64 <<< ((32 : Int32).toInt64 &&& 63)) ||| ((Int32.ofInt (y (i + 2))).toInt64 &&& 4294967295)
section LCS
variable {p : Program} {l : Launch} {e : Env} {s : State} {m : MethodId} {below : List Frame} {meth : Method} {c : Code} {cells slots : Nat} {Qf : State → Prop} {D : va_G} {cA : Nat → ClassId} {b L i : Nat} {y : Nat → Int} {H : Heap} {locs : List Loc} {μ : Mem} {ls : Array Slot}
theorem bA (F : LF p s m c meth D cA b L y) : ¬ AA s.heap.size b := fun h => Nat.not_le.mpr F.2.2.2.2.2.2.1 h
theorem l_arg (F : LF p s m c meth D cA b L y) {k pc : Nat} {rest : List Value} (hk : k ≤ 3) (d0 : decode code pc = .ok (.aload_n 0, 1)) (d1 : decode code (pc + 1) = .ok (.iload_n 3, 1)) (d2 : decode code (pc + 2) = .ok (.iconst k, 1)) (d3 : decode code (pc + 3) = .ok (.iadd, 1)) (d4 : decode code (pc + 4) = .ok (.iaload, 1))
    (hik : i + k < L ∧ L ≤ 2048) (hl : lv_has ls 4 (lvL s.heap.size b i)) (hS : va_S (AA s.heap.size) s.heap H locs) (kk : W p l e room_1 s m #[Value.ref b] below meth c H locs cells slots Qf (F0 m (pc + 5) ls (.int (Int32.ofInt (y (i + k))) :: rest))) :
    W p l e room_1 s m #[Value.ref b] below meth c H locs cells slots Qf (F0 m pc ls rest) := by
  obtain ⟨hx, hb, hml, hown, hts, hX, hbl, hK, -⟩ := id F
  refine lv_aload_n hx hb d0 rfl (lv_at hl 3 rfl) ?_
  refine lv_iload_n hx hb d1 rfl (lv_at hl 0 rfl) ?_
  refine lv_iconst (v := nI k) hx hb d2 rfl ?_
  refine lv_iadd hx hb d3 ?_
  refine lv_topi (fun x ex => ?_)
  rw [nI_add] at ex
  subst ex
  refine va_sld hx hb hX hbl (bA F) hS (vp_in_nI hik.1 (by omega)) d4 ?_
  rw [nI_clamp (by omega)]
  exact kk
theorem l_bool (F : LF p s m c meth D cA b L y) {v : Int} {pc : Nat} {rest : List Value} (hv : inR v) (d0 : decode code pc = .ok (.ifCond .eq 7, 3)) (d1 : decode code (pc + 3) = .ok (.iconst 1, 1)) (d2 : decode code (pc + 4) = .ok (.goto 4, 3)) (d3 : decode code (pc + 7) = .ok (.iconst 0, 1))
    (kk : W p l e room_1 s m #[Value.ref b] below meth c H locs cells slots Qf (F0 m (pc + 8) ls (.int (Int32.ofInt (if v = 0 then 0 else 1)) :: rest))) :
    W p l e room_1 s m #[Value.ref b] below meth c H locs cells slots Qf (F0 m pc ls (.int (Int32.ofInt v) :: rest)) := by
  obtain ⟨hx, hb, -⟩ := id F
  have z0 : inR 0 := ⟨by decide, by decide⟩
  refine lv_if_eq (tgt := pc + 7) hx hb d0 (by omega) (fun h => ?_) (fun h => ?_)
  · have hv0 : v = 0 := i32_inj hv z0 h
    rw [if_pos hv0] at kk
    exact lv_iconst hx hb d3 rfl kk
  · have hv0 : ¬ v = 0 := fun e => h (by rw [e]; rfl)
    rw [if_neg hv0] at kk
    exact lv_iconst hx hb d1 rfl (lv_goto (tgt := pc + 8) hx hb d2 (by omega) kk)
theorem l_long (F : LF p s m c meth D cA b L y) {pc : Nat} {rest : List Value} (d0 : decode code pc = .ok (.aload_n 0, 1)) (d1 : decode code (pc + 1) = .ok (.iload_n 3, 1)) (d2 : decode code (pc + 2) = .ok (.iconst 1, 1)) (d3 : decode code (pc + 3) = .ok (.iadd, 1)) (d4 : decode code (pc + 4) = .ok (.iaload, 1)) (d5 : decode code (pc + 5) = .ok (.i2l, 1)) (d6 : decode code (pc + 6) = .ok (.bipush 32, 2)) (d7 : decode code (pc + 8) = .ok (.lshl, 1))
    (d8 : decode code (pc + 9) = .ok (.aload_n 0, 1)) (d9 : decode code (pc + 10) = .ok (.iload_n 3, 1)) (d10 : decode code (pc + 11) = .ok (.iconst 2, 1)) (d11 : decode code (pc + 12) = .ok (.iadd, 1)) (d12 : decode code (pc + 13) = .ok (.iaload, 1)) (d13 : decode code (pc + 14) = .ok (.i2l, 1)) (d14 : decode code (pc + 15) = .ok (.ldc2_w 118, 3)) (d15 : decode code (pc + 18) = .ok (.land, 1)) (d16 : decode code (pc + 19) = .ok (.lor, 1))
    (hik : i + 3 < L ∧ L ≤ 2048) (hl : lv_has ls 4 (lvL s.heap.size b i)) (hS : va_S (AA s.heap.size) s.heap H locs) (kk : W p l e room_1 s m #[Value.ref b] below meth c H locs cells slots Qf (F0 m (pc + 20) ls (.long (lwX y i) :: rest))) :
    W p l e room_1 s m #[Value.ref b] below meth c H locs cells slots Qf (F0 m pc ls rest) := by
  obtain ⟨hx, hb, hml, hown, hts, hX, hbl, hK, -⟩ := id F
  refine l_arg F (k := 1) (by omega) d0 d1 d2 d3 d4 (by omega) hl hS ?_
  refine lv_i2l hx hb d5 rfl ?_
  refine lv_bipush (v := 32) hx hb d6 rfl ?_
  refine lv_lshl hx hb d7 rfl ?_
  refine l_arg F (k := 2) (by omega) d8 d9 d10 d11 d12 (by omega) hl hS ?_
  refine lv_i2l hx hb d13 rfl ?_
  refine lv_ldc2 hx hb hown (hts _ lwl_118) d14 ?_
  refine lv_land hx hb d15 ?_
  refine lv_lor hx hb d16 ?_
  exact kk
theorem l_call (F : LF p s m c meth D cA b L y) {x a k pc : Nat} {As : List MV} {rest : List Value} {Q : QT} (hf : (x, a) ∈ lawV) (hk1 : kM a = 1) (hn : As.length + 1 = nM a) (hk : (shp σ1 k).1 = oM a) (h4 : (rest.map fun v => v.category).sum ≤ 8) (hd : decode code pc = .ok (.invokevirtual x, 3))
    (hc : Call σ1 7 a (.inr (.inr k) :: As) μ Q) (hP : va_P D vwCl (wl s.heap.size cA σ1 μ) H) (hS : va_S (AA s.heap.size) s.heap H locs) (hsz : ls.size = 4)
    (kk : ∀ (v : Int) (μ1 : Mem) (H1 : Heap) (locs1 : List Loc), Q (.inl v) μ1 → va_P D vwCl (wl s.heap.size cA σ1 μ1) H1 → va_S (AA s.heap.size) s.heap H1 locs1 → W p l e room_1 s m #[Value.ref b] below meth c H1 locs1 cells slots Qf (F0 m (pc + 3) ls (.int (Int32.ofInt v) :: rest))) (hmV : mVs.contains a = true := by decide) (hroom : cells ≤ 600000 ∧ slots ≤ 7302250 := by omega) :
    W p l e room_1 s m #[Value.ref b] below meth c H locs cells slots Qf (F0 m pc ls (((As.map (tr s.heap.size)).reverse) ++ .ref (s.heap.size + k) :: rest)) := by
  obtain ⟨hx, hb, hml, hown, hts, hX, hbl, hKN, -⟩ := id F
  obtain ⟨ha, hns⟩ := mV_lt a hmV
  obtain ⟨f1, f2, f3, f4, f5, f6, f7, f8, -⟩ := meth_f ha
  obtain ⟨cl1, cl2, cl3, cl4⟩ := cls_ok (oM a) f7
  obtain ⟨h1, h2, h3⟩ := shp_of hk (by omega)
  have he : (wl s.heap.size cA σ1 μ)[k]? = some (s.heap.size + k, .inr (oM a, (fks (oM a)).mapIdx (fun j f => fldV s.heap.size σ1 μ k j f))) := by
    rw [wl_at h1]
    unfold ent entV
    rw [h2, if_neg (by omega), if_neg (by omega), if_neg (by omega), if_neg (by omega), if_neg (by omega), if_neg (by omega)]
  have hgood : GoodIn lw_tbl (wsV R_law x (yM a).cls (yM a) (wsM a)) := by
    intro w hw
    unfold wsV at hw
    rcases List.mem_append.mp hw with hw | hw
    · have hma : a ∈ mVs := List.contains_iff_mem.mp hmV
      simp only [List.mem_cons, List.not_mem_nil, or_false] at hw
      rcases hw with rfl | rfl | rfl | rfl
      · exact ⟨gL_in _ (List.mem_map.mpr ⟨_, hf, rfl⟩), gL_gd (List.mem_map.mpr ⟨_, hf, rfl⟩)⟩
      · exact ⟨gW_in _ (in_gCv2 _ (List.mem_map.mpr ⟨_, hma, rfl⟩)), gW_gd (in_gCv2 _ (List.mem_map.mpr ⟨_, hma, rfl⟩))⟩
      · exact ⟨gW_in _ (in_gCv3 _ (List.mem_map.mpr ⟨_, hma, rfl⟩)), gW_gd (in_gCv3 _ (List.mem_map.mpr ⟨_, hma, rfl⟩))⟩
      · rw [f1]; exact ⟨gW_in _ (ini_in f7), gW_gd (ini_in f7)⟩
    · exact wsM_law ha w hw
  have hlen : (As.map (tr s.heap.size)).length = nM a - 1 := by rw [List.length_map]; omega
  have hM := met_ok l D s.heap.size cA σ1 7 a (.inr (.inr k) :: As) μ Q ha hc
  unfold QcM at hM
  rw [if_neg (by omega), if_pos hk1] at hM
  refine va_calli (va_runV (As := As.map (tr s.heap.size)) (rest := rest) (C := (yM a).cls) (n := nM a - 1) ⟨hx, hb, hml, hown, hts⟩ hM
    (cwV (nM a - 1) hts hgood rfl rfl rfl ⟨rfl, f3, f4, by rw [f5, hns]; rfl⟩ ⟨Nat.le_of_ble_eq_true rfl, by show 8 + (lM a + 11) + 252 ≤ 288; omega⟩)
    ⟨frb _ μ, ?_, fun U hU hW => ⟨rfl, (by unfold WdH; rw [hU]; exact hP), hKN.warm hW⟩⟩ rfl hlen hsz rfl (lv_room h4) hd ⟨hroom.1, hroom.2⟩) hS (fun q _ h => h) (fun q h => h) (fun r u t H1 locs1 ht hvm hw hB hz1 hk1 hS1 => ?_)
  · have := va_recv hKN.1 hP (ci := oM a) (q0 := k) cl1 he
    rw [f1]
    exact this
  · obtain ⟨rfl, hw⟩ := hw
    exact kk u.1 u.2 H1 locs1 hw (by rw [← ht]; exact hB.1) hS1
set_option maxHeartbeats 4000000 in
theorem lc_0 (F : LF p s m c meth D cA b L y) (hy : ∀ j, inR (y j)) (hR : Rel μ) (hP : va_P D vwCl (wl s.heap.size cA σ1 μ) H) (hS : va_S (AA s.heap.size) s.heap H locs) (hl : lv_has ls 4 (lvL s.heap.size b i)) (hi : i + 3 < L) (hL : L ≤ 2048) (hro : cells ≤ 600000 ∧ slots ≤ 7302250)
    (fin : ∀ (H1 : Heap) (locs1 : List Loc) (μ1 : Mem), Rel μ1 → va_P D vwCl (wl s.heap.size cA σ1 μ1) H1 → va_S (AA s.heap.size) s.heap H1 locs1 → W p l e room_1 s m #[Value.ref b] below meth c H1 locs1 cells slots Qf (F0 m 1127 ls [])) :
    W p l e room_1 s m #[Value.ref b] below meth c H locs cells slots Qf (F0 m 172 ls []) := by
  obtain ⟨hx, hb, -⟩ := id F
  refine lv_aload_n hx hb dL_172 rfl (lv_at hl 2 rfl) ?_
  refine l_arg F (k := 1) (by omega) dL_173 dL_174 dL_175 dL_176 dL_177 (by omega) hl hS ?_
  refine l_arg F (k := 2) (by omega) dL_178 dL_179 dL_180 dL_181 dL_182 (by omega) hl hS ?_
  refine l_call F (x := 13) (a := 49) (k := 0) (As := [.inl (y (i + 1)), .inl (y (i + 2))]) (rest := []) (by decide) rfl rfl (by decide +kernel) (by decide) dL_183 (B_putIn hR (hy _) (hy _)) hP hS hl.1 (fun v μ1 H1 locs1 hq hP hS => ?_)
  refine lv_aload_n hx hb dL_186 rfl (lv_at hl 1 rfl) ?_
  refine l_arg F (k := 1) (by omega) dL_187 dL_188 dL_189 dL_190 dL_191 (by omega) hl hS ?_
  refine l_arg F (k := 2) (by omega) dL_192 dL_193 dL_194 dL_195 dL_196 (by omega) hl hS ?_
  refine l_call F (x := 17) (a := 120) (k := 510) (As := [.inl (y (i + 1)), .inl (y (i + 2))]) (rest := [.int (Int32.ofInt v)]) (by decide) rfl rfl (by decide +kernel) (by show (1 : Nat) ≤ 8; decide) dL_197 hq hP hS hl.1 (fun v2 μ2 H2 locs2 hq2 hP hS => ?_)
  obtain ⟨ev, hR2⟩ := hq2
  have ev : v2 = v := by injection ev
  refine lv_icmp_eq (tgt := 1127) hx hb dL_200 (by decide) (fun _ => fin _ _ _ hR2 hP hS) (fun hne => absurd (by rw [ev]) hne)
set_option maxHeartbeats 4000000 in
theorem lc_1 (F : LF p s m c meth D cA b L y) (hy : ∀ j, inR (y j)) (hR : Rel μ) (hP : va_P D vwCl (wl s.heap.size cA σ1 μ) H) (hS : va_S (AA s.heap.size) s.heap H locs) (hl : lv_has ls 4 (lvL s.heap.size b i)) (hi : i + 3 < L) (hL : L ≤ 2048) (hro : cells ≤ 600000 ∧ slots ≤ 7302250)
    (fin : ∀ (H1 : Heap) (locs1 : List Loc) (μ1 : Mem), Rel μ1 → va_P D vwCl (wl s.heap.size cA σ1 μ1) H1 → va_S (AA s.heap.size) s.heap H1 locs1 → W p l e room_1 s m #[Value.ref b] below meth c H1 locs1 cells slots Qf (F0 m 1127 ls [])) :
    W p l e room_1 s m #[Value.ref b] below meth c H locs cells slots Qf (F0 m 205 ls []) := by
  obtain ⟨hx, hb, -⟩ := id F
  refine lv_aload_n hx hb dL_205 rfl (lv_at hl 2 rfl) ?_
  refine l_arg F (k := 1) (by omega) dL_206 dL_207 dL_208 dL_209 dL_210 (by omega) hl hS ?_
  refine l_call F (x := 18) (a := 50) (k := 0) (As := [.inl (y (i + 1))]) (rest := []) (by decide) rfl rfl (by decide +kernel) (by decide) dL_211 (B_cutOut hR (hy _)) hP hS hl.1 (fun v μ1 H1 locs1 hq hP hS => ?_)
  refine lv_aload_n hx hb dL_214 rfl (lv_at hl 1 rfl) ?_
  refine l_arg F (k := 1) (by omega) dL_215 dL_216 dL_217 dL_218 dL_219 (by omega) hl hS ?_
  refine l_call F (x := 22) (a := 121) (k := 510) (As := [.inl (y (i + 1))]) (rest := [.int (Int32.ofInt v)]) (by decide) rfl rfl (by decide +kernel) (by show (1 : Nat) ≤ 8; decide) dL_220 hq hP hS hl.1 (fun v2 μ2 H2 locs2 hq2 hP hS => ?_)
  obtain ⟨ev, hR2⟩ := hq2
  have ev : v2 = v := by injection ev
  refine lv_icmp_eq (tgt := 1127) hx hb dL_223 (by decide) (fun _ => fin _ _ _ hR2 hP hS) (fun hne => absurd (by rw [ev]) hne)
set_option maxHeartbeats 4000000 in
theorem lc_2 (F : LF p s m c meth D cA b L y) (hy : ∀ j, inR (y j)) (hR : Rel μ) (hP : va_P D vwCl (wl s.heap.size cA σ1 μ) H) (hS : va_S (AA s.heap.size) s.heap H locs) (hl : lv_has ls 4 (lvL s.heap.size b i)) (hi : i + 3 < L) (hL : L ≤ 2048) (hro : cells ≤ 600000 ∧ slots ≤ 7302250)
    (fin : ∀ (H1 : Heap) (locs1 : List Loc) (μ1 : Mem), Rel μ1 → va_P D vwCl (wl s.heap.size cA σ1 μ1) H1 → va_S (AA s.heap.size) s.heap H1 locs1 → W p l e room_1 s m #[Value.ref b] below meth c H1 locs1 cells slots Qf (F0 m 1127 ls [])) :
    W p l e room_1 s m #[Value.ref b] below meth c H locs cells slots Qf (F0 m 228 ls []) := by
  obtain ⟨hx, hb, -⟩ := id F
  refine lv_aload_n hx hb dL_228 rfl (lv_at hl 2 rfl) ?_
  refine l_arg F (k := 1) (by omega) dL_229 dL_230 dL_231 dL_232 dL_233 (by omega) hl hS ?_
  refine l_arg F (k := 2) (by omega) dL_234 dL_235 dL_236 dL_237 dL_238 (by omega) hl hS ?_
  refine l_call F (x := 23) (a := 51) (k := 0) (As := [.inl (y (i + 1)), .inl (y (i + 2))]) (rest := []) (by decide) rfl rfl (by decide +kernel) (by decide) dL_239 (B_change hR (hy _) (hy _)) hP hS hl.1 (fun v μ1 H1 locs1 hq hP hS => ?_)
  refine lv_aload_n hx hb dL_242 rfl (lv_at hl 1 rfl) ?_
  refine l_arg F (k := 1) (by omega) dL_243 dL_244 dL_245 dL_246 dL_247 (by omega) hl hS ?_
  refine l_arg F (k := 2) (by omega) dL_248 dL_249 dL_250 dL_251 dL_252 (by omega) hl hS ?_
  refine l_call F (x := 26) (a := 122) (k := 510) (As := [.inl (y (i + 1)), .inl (y (i + 2))]) (rest := [.int (Int32.ofInt v)]) (by decide) rfl rfl (by decide +kernel) (by show (1 : Nat) ≤ 8; decide) dL_253 hq hP hS hl.1 (fun v2 μ2 H2 locs2 hq2 hP hS => ?_)
  obtain ⟨ev, hR2⟩ := hq2
  have ev : v2 = v := by injection ev
  refine lv_icmp_eq (tgt := 1127) hx hb dL_256 (by decide) (fun _ => fin _ _ _ hR2 hP hS) (fun hne => absurd (by rw [ev]) hne)
set_option maxHeartbeats 4000000 in
theorem lc_3 (F : LF p s m c meth D cA b L y) (hy : ∀ j, inR (y j)) (hR : Rel μ) (hP : va_P D vwCl (wl s.heap.size cA σ1 μ) H) (hS : va_S (AA s.heap.size) s.heap H locs) (hl : lv_has ls 4 (lvL s.heap.size b i)) (hi : i + 3 < L) (hL : L ≤ 2048) (hro : cells ≤ 600000 ∧ slots ≤ 7302250)
    (fin : ∀ (H1 : Heap) (locs1 : List Loc) (μ1 : Mem), Rel μ1 → va_P D vwCl (wl s.heap.size cA σ1 μ1) H1 → va_S (AA s.heap.size) s.heap H1 locs1 → W p l e room_1 s m #[Value.ref b] below meth c H1 locs1 cells slots Qf (F0 m 1127 ls [])) :
    W p l e room_1 s m #[Value.ref b] below meth c H locs cells slots Qf (F0 m 261 ls []) := by
  obtain ⟨hx, hb, -⟩ := id F
  refine lv_aload_n hx hb dL_261 rfl (lv_at hl 2 rfl) ?_
  refine l_arg F (k := 1) (by omega) dL_262 dL_263 dL_264 dL_265 dL_266 (by omega) hl hS ?_
  refine l_arg F (k := 2) (by omega) dL_267 dL_268 dL_269 dL_270 dL_271 (by omega) hl hS ?_
  refine l_bool F (hy _) dL_272 dL_275 dL_276 dL_279 ?_
  refine l_call F (x := 27) (a := 52) (k := 0) (As := [.inl (y (i + 1)), .inl (if y (i + 2) = 0 then 0 else 1)]) (rest := []) (by decide) rfl rfl (by decide +kernel) (by decide) dL_280 (B_chapter hR (hy _) (by split <;> omega)) hP hS hl.1 (fun v μ1 H1 locs1 hq hP hS => ?_)
  refine lv_aload_n hx hb dL_283 rfl (lv_at hl 1 rfl) ?_
  refine l_arg F (k := 1) (by omega) dL_284 dL_285 dL_286 dL_287 dL_288 (by omega) hl hS ?_
  refine l_arg F (k := 2) (by omega) dL_289 dL_290 dL_291 dL_292 dL_293 (by omega) hl hS ?_
  refine l_bool F (hy _) dL_294 dL_297 dL_298 dL_301 ?_
  refine l_call F (x := 31) (a := 124) (k := 510) (As := [.inl (y (i + 1)), .inl (if y (i + 2) = 0 then 0 else 1)]) (rest := [.int (Int32.ofInt v)]) (by decide) rfl rfl (by decide +kernel) (by show (1 : Nat) ≤ 8; decide) dL_302 hq hP hS hl.1 (fun v2 μ2 H2 locs2 hq2 hP hS => ?_)
  obtain ⟨ev, hR2⟩ := hq2
  have ev : v2 = v := by injection ev
  refine lv_icmp_eq (tgt := 1127) hx hb dL_305 (by decide) (fun _ => fin _ _ _ hR2 hP hS) (fun hne => absurd (by rw [ev]) hne)
set_option maxHeartbeats 4000000 in
theorem lc_4 (F : LF p s m c meth D cA b L y) (hy : ∀ j, inR (y j)) (hR : Rel μ) (hP : va_P D vwCl (wl s.heap.size cA σ1 μ) H) (hS : va_S (AA s.heap.size) s.heap H locs) (hl : lv_has ls 4 (lvL s.heap.size b i)) (hi : i + 3 < L) (hL : L ≤ 2048) (hro : cells ≤ 600000 ∧ slots ≤ 7302250)
    (fin : ∀ (H1 : Heap) (locs1 : List Loc) (μ1 : Mem), Rel μ1 → va_P D vwCl (wl s.heap.size cA σ1 μ1) H1 → va_S (AA s.heap.size) s.heap H1 locs1 → W p l e room_1 s m #[Value.ref b] below meth c H1 locs1 cells slots Qf (F0 m 1127 ls [])) :
    W p l e room_1 s m #[Value.ref b] below meth c H locs cells slots Qf (F0 m 310 ls []) := by
  obtain ⟨hx, hb, -⟩ := id F
  refine lv_aload_n hx hb dL_310 rfl (lv_at hl 2 rfl) ?_
  refine l_arg F (k := 1) (by omega) dL_311 dL_312 dL_313 dL_314 dL_315 (by omega) hl hS ?_
  refine l_arg F (k := 2) (by omega) dL_316 dL_317 dL_318 dL_319 dL_320 (by omega) hl hS ?_
  refine l_call F (x := 32) (a := 53) (k := 0) (As := [.inl (y (i + 1)), .inl (y (i + 2))]) (rest := []) (by decide) rfl rfl (by decide +kernel) (by decide) dL_321 (B_notice hR (hy _) (hy _)) hP hS hl.1 (fun v μ1 H1 locs1 hq hP hS => ?_)
  refine lv_aload_n hx hb dL_324 rfl (lv_at hl 1 rfl) ?_
  refine l_arg F (k := 1) (by omega) dL_325 dL_326 dL_327 dL_328 dL_329 (by omega) hl hS ?_
  refine l_arg F (k := 2) (by omega) dL_330 dL_331 dL_332 dL_333 dL_334 (by omega) hl hS ?_
  refine l_call F (x := 35) (a := 125) (k := 510) (As := [.inl (y (i + 1)), .inl (y (i + 2))]) (rest := [.int (Int32.ofInt v)]) (by decide) rfl rfl (by decide +kernel) (by show (1 : Nat) ≤ 8; decide) dL_335 hq hP hS hl.1 (fun v2 μ2 H2 locs2 hq2 hP hS => ?_)
  obtain ⟨ev, hR2⟩ := hq2
  have ev : v2 = v := by injection ev
  refine lv_icmp_eq (tgt := 1127) hx hb dL_338 (by decide) (fun _ => fin _ _ _ hR2 hP hS) (fun hne => absurd (by rw [ev]) hne)
set_option maxHeartbeats 4000000 in
theorem lc_5 (F : LF p s m c meth D cA b L y) (hy : ∀ j, inR (y j)) (hR : Rel μ) (hP : va_P D vwCl (wl s.heap.size cA σ1 μ) H) (hS : va_S (AA s.heap.size) s.heap H locs) (hl : lv_has ls 4 (lvL s.heap.size b i)) (hi : i + 3 < L) (hL : L ≤ 2048) (hro : cells ≤ 600000 ∧ slots ≤ 7302250)
    (fin : ∀ (H1 : Heap) (locs1 : List Loc) (μ1 : Mem), Rel μ1 → va_P D vwCl (wl s.heap.size cA σ1 μ1) H1 → va_S (AA s.heap.size) s.heap H1 locs1 → W p l e room_1 s m #[Value.ref b] below meth c H1 locs1 cells slots Qf (F0 m 1127 ls [])) :
    W p l e room_1 s m #[Value.ref b] below meth c H locs cells slots Qf (F0 m 343 ls []) := by
  obtain ⟨hx, hb, -⟩ := id F
  refine lv_aload_n hx hb dL_343 rfl (lv_at hl 2 rfl) ?_
  refine l_arg F (k := 1) (by omega) dL_344 dL_345 dL_346 dL_347 dL_348 (by omega) hl hS ?_
  refine l_arg F (k := 2) (by omega) dL_349 dL_350 dL_351 dL_352 dL_353 (by omega) hl hS ?_
  refine l_call F (x := 36) (a := 54) (k := 0) (As := [.inl (y (i + 1)), .inl (y (i + 2))]) (rest := []) (by decide) rfl rfl (by decide +kernel) (by decide) dL_354 (B_book hR (hy _) (hy _)) hP hS hl.1 (fun v μ1 H1 locs1 hq hP hS => ?_)
  refine lv_aload_n hx hb dL_357 rfl (lv_at hl 1 rfl) ?_
  refine l_arg F (k := 1) (by omega) dL_358 dL_359 dL_360 dL_361 dL_362 (by omega) hl hS ?_
  refine l_arg F (k := 2) (by omega) dL_363 dL_364 dL_365 dL_366 dL_367 (by omega) hl hS ?_
  refine l_call F (x := 39) (a := 129) (k := 510) (As := [.inl (y (i + 1)), .inl (y (i + 2))]) (rest := [.int (Int32.ofInt v)]) (by decide) rfl rfl (by decide +kernel) (by show (1 : Nat) ≤ 8; decide) dL_368 hq hP hS hl.1 (fun v2 μ2 H2 locs2 hq2 hP hS => ?_)
  obtain ⟨ev, hR2⟩ := hq2
  have ev : v2 = v := by injection ev
  refine lv_icmp_eq (tgt := 1127) hx hb dL_371 (by decide) (fun _ => fin _ _ _ hR2 hP hS) (fun hne => absurd (by rw [ev]) hne)
set_option maxHeartbeats 4000000 in
theorem lc_6 (F : LF p s m c meth D cA b L y) (hy : ∀ j, inR (y j)) (hR : Rel μ) (hP : va_P D vwCl (wl s.heap.size cA σ1 μ) H) (hS : va_S (AA s.heap.size) s.heap H locs) (hl : lv_has ls 4 (lvL s.heap.size b i)) (hi : i + 3 < L) (hL : L ≤ 2048) (hro : cells ≤ 600000 ∧ slots ≤ 7302250)
    (fin : ∀ (H1 : Heap) (locs1 : List Loc) (μ1 : Mem), Rel μ1 → va_P D vwCl (wl s.heap.size cA σ1 μ1) H1 → va_S (AA s.heap.size) s.heap H1 locs1 → W p l e room_1 s m #[Value.ref b] below meth c H1 locs1 cells slots Qf (F0 m 1127 ls [])) :
    W p l e room_1 s m #[Value.ref b] below meth c H locs cells slots Qf (F0 m 376 ls []) := by
  obtain ⟨hx, hb, -⟩ := id F
  refine lv_aload_n hx hb dL_376 rfl (lv_at hl 2 rfl) ?_
  refine l_arg F (k := 1) (by omega) dL_377 dL_378 dL_379 dL_380 dL_381 (by omega) hl hS ?_
  refine l_call F (x := 40) (a := 55) (k := 0) (As := [.inl (y (i + 1))]) (rest := []) (by decide) rfl rfl (by decide +kernel) (by decide) dL_382 (B_empty hR (hy _)) hP hS hl.1 (fun v μ1 H1 locs1 hq hP hS => ?_)
  refine lv_aload_n hx hb dL_385 rfl (lv_at hl 1 rfl) ?_
  refine l_arg F (k := 1) (by omega) dL_386 dL_387 dL_388 dL_389 dL_390 (by omega) hl hS ?_
  refine l_call F (x := 43) (a := 131) (k := 510) (As := [.inl (y (i + 1))]) (rest := [.int (Int32.ofInt v)]) (by decide) rfl rfl (by decide +kernel) (by show (1 : Nat) ≤ 8; decide) dL_391 hq hP hS hl.1 (fun v2 μ2 H2 locs2 hq2 hP hS => ?_)
  obtain ⟨ev, hR2⟩ := hq2
  have ev : v2 = v := by injection ev
  refine lv_icmp_eq (tgt := 1127) hx hb dL_394 (by decide) (fun _ => fin _ _ _ hR2 hP hS) (fun hne => absurd (by rw [ev]) hne)
set_option maxHeartbeats 4000000 in
theorem lc_7 (F : LF p s m c meth D cA b L y) (hy : ∀ j, inR (y j)) (hR : Rel μ) (hP : va_P D vwCl (wl s.heap.size cA σ1 μ) H) (hS : va_S (AA s.heap.size) s.heap H locs) (hl : lv_has ls 4 (lvL s.heap.size b i)) (hi : i + 3 < L) (hL : L ≤ 2048) (hro : cells ≤ 600000 ∧ slots ≤ 7302250)
    (fin : ∀ (H1 : Heap) (locs1 : List Loc) (μ1 : Mem), Rel μ1 → va_P D vwCl (wl s.heap.size cA σ1 μ1) H1 → va_S (AA s.heap.size) s.heap H1 locs1 → W p l e room_1 s m #[Value.ref b] below meth c H1 locs1 cells slots Qf (F0 m 1127 ls [])) :
    W p l e room_1 s m #[Value.ref b] below meth c H locs cells slots Qf (F0 m 399 ls []) := by
  obtain ⟨hx, hb, -⟩ := id F
  refine lv_aload_n hx hb dL_399 rfl (lv_at hl 2 rfl) ?_
  refine l_call F (x := 44) (a := 56) (k := 0) (As := []) (rest := []) (by decide) rfl rfl (by decide +kernel) (by decide) dL_400 (B_read hR) hP hS hl.1 (fun v μ1 H1 locs1 hq hP hS => ?_)
  refine lv_aload_n hx hb dL_403 rfl (lv_at hl 1 rfl) ?_
  refine l_call F (x := 48) (a := 165) (k := 510) (As := []) (rest := [.int (Int32.ofInt v)]) (by decide) rfl rfl (by decide +kernel) (by show (1 : Nat) ≤ 8; decide) dL_404 hq hP hS hl.1 (fun v2 μ2 H2 locs2 hq2 hP hS => ?_)
  obtain ⟨ev, hR2⟩ := hq2
  have ev : v2 = v := by injection ev
  refine lv_icmp_eq (tgt := 1127) hx hb dL_407 (by decide) (fun _ => fin _ _ _ hR2 hP hS) (fun hne => absurd (by rw [ev]) hne)
set_option maxHeartbeats 4000000 in
theorem lc_8 (F : LF p s m c meth D cA b L y) (hy : ∀ j, inR (y j)) (hR : Rel μ) (hP : va_P D vwCl (wl s.heap.size cA σ1 μ) H) (hS : va_S (AA s.heap.size) s.heap H locs) (hl : lv_has ls 4 (lvL s.heap.size b i)) (hi : i + 3 < L) (hL : L ≤ 2048) (hro : cells ≤ 600000 ∧ slots ≤ 7302250)
    (fin : ∀ (H1 : Heap) (locs1 : List Loc) (μ1 : Mem), Rel μ1 → va_P D vwCl (wl s.heap.size cA σ1 μ1) H1 → va_S (AA s.heap.size) s.heap H1 locs1 → W p l e room_1 s m #[Value.ref b] below meth c H1 locs1 cells slots Qf (F0 m 1127 ls [])) :
    W p l e room_1 s m #[Value.ref b] below meth c H locs cells slots Qf (F0 m 412 ls []) := by
  obtain ⟨hx, hb, -⟩ := id F
  refine lv_aload_n hx hb dL_412 rfl (lv_at hl 2 rfl) ?_
  refine l_arg F (k := 1) (by omega) dL_413 dL_414 dL_415 dL_416 dL_417 (by omega) hl hS ?_
  refine l_arg F (k := 2) (by omega) dL_418 dL_419 dL_420 dL_421 dL_422 (by omega) hl hS ?_
  refine l_call F (x := 49) (a := 57) (k := 0) (As := [.inl (y (i + 1)), .inl (y (i + 2))]) (rest := []) (by decide) rfl rfl (by decide +kernel) (by decide) dL_423 (B_listener hR (hy _) (hy _)) hP hS hl.1 (fun v μ1 H1 locs1 hq hP hS => ?_)
  refine lv_aload_n hx hb dL_426 rfl (lv_at hl 1 rfl) ?_
  refine l_arg F (k := 1) (by omega) dL_427 dL_428 dL_429 dL_430 dL_431 (by omega) hl hS ?_
  refine l_arg F (k := 2) (by omega) dL_432 dL_433 dL_434 dL_435 dL_436 (by omega) hl hS ?_
  refine l_call F (x := 52) (a := 132) (k := 510) (As := [.inl (y (i + 1)), .inl (y (i + 2))]) (rest := [.int (Int32.ofInt v)]) (by decide) rfl rfl (by decide +kernel) (by show (1 : Nat) ≤ 8; decide) dL_437 hq hP hS hl.1 (fun v2 μ2 H2 locs2 hq2 hP hS => ?_)
  obtain ⟨ev, hR2⟩ := hq2
  have ev : v2 = v := by injection ev
  refine lv_icmp_eq (tgt := 1127) hx hb dL_440 (by decide) (fun _ => fin _ _ _ hR2 hP hS) (fun hne => absurd (by rw [ev]) hne)
set_option maxHeartbeats 4000000 in
theorem lc_9 (F : LF p s m c meth D cA b L y) (hy : ∀ j, inR (y j)) (hR : Rel μ) (hP : va_P D vwCl (wl s.heap.size cA σ1 μ) H) (hS : va_S (AA s.heap.size) s.heap H locs) (hl : lv_has ls 4 (lvL s.heap.size b i)) (hi : i + 3 < L) (hL : L ≤ 2048) (hro : cells ≤ 600000 ∧ slots ≤ 7302250)
    (fin : ∀ (H1 : Heap) (locs1 : List Loc) (μ1 : Mem), Rel μ1 → va_P D vwCl (wl s.heap.size cA σ1 μ1) H1 → va_S (AA s.heap.size) s.heap H1 locs1 → W p l e room_1 s m #[Value.ref b] below meth c H1 locs1 cells slots Qf (F0 m 1127 ls [])) :
    W p l e room_1 s m #[Value.ref b] below meth c H locs cells slots Qf (F0 m 445 ls []) := by
  obtain ⟨hx, hb, -⟩ := id F
  refine lv_aload_n hx hb dL_445 rfl (lv_at hl 2 rfl) ?_
  refine l_arg F (k := 1) (by omega) dL_446 dL_447 dL_448 dL_449 dL_450 (by omega) hl hS ?_
  refine l_arg F (k := 2) (by omega) dL_451 dL_452 dL_453 dL_454 dL_455 (by omega) hl hS ?_
  refine l_bool F (hy _) dL_456 dL_459 dL_460 dL_463 ?_
  refine l_call F (x := 53) (a := 58) (k := 0) (As := [.inl (y (i + 1)), .inl (if y (i + 2) = 0 then 0 else 1)]) (rest := []) (by decide) rfl rfl (by decide +kernel) (by decide) dL_464 (B_load hR (hy _) (by split <;> omega)) hP hS hl.1 (fun v μ1 H1 locs1 hq hP hS => ?_)
  refine lv_aload_n hx hb dL_467 rfl (lv_at hl 1 rfl) ?_
  refine l_arg F (k := 1) (by omega) dL_468 dL_469 dL_470 dL_471 dL_472 (by omega) hl hS ?_
  refine l_arg F (k := 2) (by omega) dL_473 dL_474 dL_475 dL_476 dL_477 (by omega) hl hS ?_
  refine l_bool F (hy _) dL_478 dL_481 dL_482 dL_485 ?_
  refine l_call F (x := 56) (a := 133) (k := 510) (As := [.inl (y (i + 1)), .inl (if y (i + 2) = 0 then 0 else 1)]) (rest := [.int (Int32.ofInt v)]) (by decide) rfl rfl (by decide +kernel) (by show (1 : Nat) ≤ 8; decide) dL_486 hq hP hS hl.1 (fun v2 μ2 H2 locs2 hq2 hP hS => ?_)
  obtain ⟨ev, hR2⟩ := hq2
  have ev : v2 = v := by injection ev
  refine lv_icmp_eq (tgt := 1127) hx hb dL_489 (by decide) (fun _ => fin _ _ _ hR2 hP hS) (fun hne => absurd (by rw [ev]) hne)
set_option maxHeartbeats 4000000 in
theorem lc_10 (F : LF p s m c meth D cA b L y) (hy : ∀ j, inR (y j)) (hR : Rel μ) (hP : va_P D vwCl (wl s.heap.size cA σ1 μ) H) (hS : va_S (AA s.heap.size) s.heap H locs) (hl : lv_has ls 4 (lvL s.heap.size b i)) (hi : i + 3 < L) (hL : L ≤ 2048) (hro : cells ≤ 600000 ∧ slots ≤ 7302250)
    (fin : ∀ (H1 : Heap) (locs1 : List Loc) (μ1 : Mem), Rel μ1 → va_P D vwCl (wl s.heap.size cA σ1 μ1) H1 → va_S (AA s.heap.size) s.heap H1 locs1 → W p l e room_1 s m #[Value.ref b] below meth c H1 locs1 cells slots Qf (F0 m 1127 ls [])) :
    W p l e room_1 s m #[Value.ref b] below meth c H locs cells slots Qf (F0 m 494 ls []) := by
  obtain ⟨hx, hb, -⟩ := id F
  refine lv_aload_n hx hb dL_494 rfl (lv_at hl 2 rfl) ?_
  refine l_arg F (k := 1) (by omega) dL_495 dL_496 dL_497 dL_498 dL_499 (by omega) hl hS ?_
  refine l_arg F (k := 2) (by omega) dL_500 dL_501 dL_502 dL_503 dL_504 (by omega) hl hS ?_
  refine l_call F (x := 57) (a := 59) (k := 0) (As := [.inl (y (i + 1)), .inl (y (i + 2))]) (rest := []) (by decide) rfl rfl (by decide +kernel) (by decide) dL_505 (B_sentence hR (hy _) (hy _)) hP hS hl.1 (fun v μ1 H1 locs1 hq hP hS => ?_)
  refine lv_aload_n hx hb dL_508 rfl (lv_at hl 1 rfl) ?_
  refine l_arg F (k := 1) (by omega) dL_509 dL_510 dL_511 dL_512 dL_513 (by omega) hl hS ?_
  refine l_arg F (k := 2) (by omega) dL_514 dL_515 dL_516 dL_517 dL_518 (by omega) hl hS ?_
  refine l_call F (x := 60) (a := 136) (k := 510) (As := [.inl (y (i + 1)), .inl (y (i + 2))]) (rest := [.int (Int32.ofInt v)]) (by decide) rfl rfl (by decide +kernel) (by show (1 : Nat) ≤ 8; decide) dL_519 hq hP hS hl.1 (fun v2 μ2 H2 locs2 hq2 hP hS => ?_)
  obtain ⟨ev, hR2⟩ := hq2
  have ev : v2 = v := by injection ev
  refine lv_icmp_eq (tgt := 1127) hx hb dL_522 (by decide) (fun _ => fin _ _ _ hR2 hP hS) (fun hne => absurd (by rw [ev]) hne)
set_option maxHeartbeats 4000000 in
theorem lc_11 (F : LF p s m c meth D cA b L y) (hy : ∀ j, inR (y j)) (hR : Rel μ) (hP : va_P D vwCl (wl s.heap.size cA σ1 μ) H) (hS : va_S (AA s.heap.size) s.heap H locs) (hl : lv_has ls 4 (lvL s.heap.size b i)) (hi : i + 3 < L) (hL : L ≤ 2048) (hro : cells ≤ 600000 ∧ slots ≤ 7302250)
    (fin : ∀ (H1 : Heap) (locs1 : List Loc) (μ1 : Mem), Rel μ1 → va_P D vwCl (wl s.heap.size cA σ1 μ1) H1 → va_S (AA s.heap.size) s.heap H1 locs1 → W p l e room_1 s m #[Value.ref b] below meth c H1 locs1 cells slots Qf (F0 m 1127 ls [])) :
    W p l e room_1 s m #[Value.ref b] below meth c H locs cells slots Qf (F0 m 527 ls []) := by
  obtain ⟨hx, hb, -⟩ := id F
  refine lv_aload_n hx hb dL_527 rfl (lv_at hl 2 rfl) ?_
  refine l_arg F (k := 1) (by omega) dL_528 dL_529 dL_530 dL_531 dL_532 (by omega) hl hS ?_
  refine l_call F (x := 61) (a := 60) (k := 0) (As := [.inl (y (i + 1))]) (rest := []) (by decide) rfl rfl (by decide +kernel) (by decide) dL_533 (B_marked hR (hy _)) hP hS hl.1 (fun v μ1 H1 locs1 hq hP hS => ?_)
  refine lv_aload_n hx hb dL_536 rfl (lv_at hl 1 rfl) ?_
  refine l_arg F (k := 1) (by omega) dL_537 dL_538 dL_539 dL_540 dL_541 (by omega) hl hS ?_
  refine l_call F (x := 64) (a := 137) (k := 510) (As := [.inl (y (i + 1))]) (rest := [.int (Int32.ofInt v)]) (by decide) rfl rfl (by decide +kernel) (by show (1 : Nat) ≤ 8; decide) dL_542 hq hP hS hl.1 (fun v2 μ2 H2 locs2 hq2 hP hS => ?_)
  obtain ⟨ev, hR2⟩ := hq2
  have ev : v2 = v := by injection ev
  refine lv_icmp_eq (tgt := 1127) hx hb dL_545 (by decide) (fun _ => fin _ _ _ hR2 hP hS) (fun hne => absurd (by rw [ev]) hne)
set_option maxHeartbeats 4000000 in
theorem lc_12 (F : LF p s m c meth D cA b L y) (hy : ∀ j, inR (y j)) (hR : Rel μ) (hP : va_P D vwCl (wl s.heap.size cA σ1 μ) H) (hS : va_S (AA s.heap.size) s.heap H locs) (hl : lv_has ls 4 (lvL s.heap.size b i)) (hi : i + 3 < L) (hL : L ≤ 2048) (hro : cells ≤ 600000 ∧ slots ≤ 7302250)
    (fin : ∀ (H1 : Heap) (locs1 : List Loc) (μ1 : Mem), Rel μ1 → va_P D vwCl (wl s.heap.size cA σ1 μ1) H1 → va_S (AA s.heap.size) s.heap H1 locs1 → W p l e room_1 s m #[Value.ref b] below meth c H1 locs1 cells slots Qf (F0 m 1127 ls [])) :
    W p l e room_1 s m #[Value.ref b] below meth c H locs cells slots Qf (F0 m 550 ls []) := by
  obtain ⟨hx, hb, -⟩ := id F
  refine lv_aload_n hx hb dL_550 rfl (lv_at hl 2 rfl) ?_
  refine l_arg F (k := 1) (by omega) dL_551 dL_552 dL_553 dL_554 dL_555 (by omega) hl hS ?_
  refine l_arg F (k := 2) (by omega) dL_556 dL_557 dL_558 dL_559 dL_560 (by omega) hl hS ?_
  refine l_call F (x := 65) (a := 61) (k := 0) (As := [.inl (y (i + 1)), .inl (y (i + 2))]) (rest := []) (by decide) rfl rfl (by decide +kernel) (by decide) dL_561 (B_booked hR (hy _) (hy _)) hP hS hl.1 (fun v μ1 H1 locs1 hq hP hS => ?_)
  refine lv_aload_n hx hb dL_564 rfl (lv_at hl 1 rfl) ?_
  refine l_arg F (k := 1) (by omega) dL_565 dL_566 dL_567 dL_568 dL_569 (by omega) hl hS ?_
  refine l_arg F (k := 2) (by omega) dL_570 dL_571 dL_572 dL_573 dL_574 (by omega) hl hS ?_
  refine l_call F (x := 68) (a := 138) (k := 510) (As := [.inl (y (i + 1)), .inl (y (i + 2))]) (rest := [.int (Int32.ofInt v)]) (by decide) rfl rfl (by decide +kernel) (by show (1 : Nat) ≤ 8; decide) dL_575 hq hP hS hl.1 (fun v2 μ2 H2 locs2 hq2 hP hS => ?_)
  obtain ⟨ev, hR2⟩ := hq2
  have ev : v2 = v := by injection ev
  refine lv_icmp_eq (tgt := 1127) hx hb dL_578 (by decide) (fun _ => fin _ _ _ hR2 hP hS) (fun hne => absurd (by rw [ev]) hne)
set_option maxHeartbeats 4000000 in
theorem lc_13 (F : LF p s m c meth D cA b L y) (hy : ∀ j, inR (y j)) (hR : Rel μ) (hP : va_P D vwCl (wl s.heap.size cA σ1 μ) H) (hS : va_S (AA s.heap.size) s.heap H locs) (hl : lv_has ls 4 (lvL s.heap.size b i)) (hi : i + 3 < L) (hL : L ≤ 2048) (hro : cells ≤ 600000 ∧ slots ≤ 7302250)
    (fin : ∀ (H1 : Heap) (locs1 : List Loc) (μ1 : Mem), Rel μ1 → va_P D vwCl (wl s.heap.size cA σ1 μ1) H1 → va_S (AA s.heap.size) s.heap H1 locs1 → W p l e room_1 s m #[Value.ref b] below meth c H1 locs1 cells slots Qf (F0 m 1127 ls [])) :
    W p l e room_1 s m #[Value.ref b] below meth c H locs cells slots Qf (F0 m 583 ls []) := by
  obtain ⟨hx, hb, -⟩ := id F
  refine lv_aload_n hx hb dL_583 rfl (lv_at hl 2 rfl) ?_
  refine l_arg F (k := 1) (by omega) dL_584 dL_585 dL_586 dL_587 dL_588 (by omega) hl hS ?_
  refine l_arg F (k := 2) (by omega) dL_589 dL_590 dL_591 dL_592 dL_593 (by omega) hl hS ?_
  refine l_call F (x := 69) (a := 62) (k := 0) (As := [.inl (y (i + 1)), .inl (y (i + 2))]) (rest := []) (by decide) rfl rfl (by decide +kernel) (by decide) dL_594 (B_ofNotice hR (hy _) (hy _)) hP hS hl.1 (fun v μ1 H1 locs1 hq hP hS => ?_)
  refine lv_aload_n hx hb dL_597 rfl (lv_at hl 1 rfl) ?_
  refine l_arg F (k := 1) (by omega) dL_598 dL_599 dL_600 dL_601 dL_602 (by omega) hl hS ?_
  refine l_arg F (k := 2) (by omega) dL_603 dL_604 dL_605 dL_606 dL_607 (by omega) hl hS ?_
  refine l_call F (x := 72) (a := 141) (k := 510) (As := [.inl (y (i + 1)), .inl (y (i + 2))]) (rest := [.int (Int32.ofInt v)]) (by decide) rfl rfl (by decide +kernel) (by show (1 : Nat) ≤ 8; decide) dL_608 hq hP hS hl.1 (fun v2 μ2 H2 locs2 hq2 hP hS => ?_)
  obtain ⟨ev, hR2⟩ := hq2
  have ev : v2 = v := by injection ev
  refine lv_icmp_eq (tgt := 1127) hx hb dL_611 (by decide) (fun _ => fin _ _ _ hR2 hP hS) (fun hne => absurd (by rw [ev]) hne)
set_option maxHeartbeats 4000000 in
theorem lc_14 (F : LF p s m c meth D cA b L y) (hy : ∀ j, inR (y j)) (hR : Rel μ) (hP : va_P D vwCl (wl s.heap.size cA σ1 μ) H) (hS : va_S (AA s.heap.size) s.heap H locs) (hl : lv_has ls 4 (lvL s.heap.size b i)) (hi : i + 3 < L) (hL : L ≤ 2048) (hro : cells ≤ 600000 ∧ slots ≤ 7302250)
    (fin : ∀ (H1 : Heap) (locs1 : List Loc) (μ1 : Mem), Rel μ1 → va_P D vwCl (wl s.heap.size cA σ1 μ1) H1 → va_S (AA s.heap.size) s.heap H1 locs1 → W p l e room_1 s m #[Value.ref b] below meth c H1 locs1 cells slots Qf (F0 m 1127 ls [])) :
    W p l e room_1 s m #[Value.ref b] below meth c H locs cells slots Qf (F0 m 616 ls []) := by
  obtain ⟨hx, hb, -⟩ := id F
  refine lv_aload_n hx hb dL_616 rfl (lv_at hl 2 rfl) ?_
  refine l_arg F (k := 1) (by omega) dL_617 dL_618 dL_619 dL_620 dL_621 (by omega) hl hS ?_
  refine l_arg F (k := 2) (by omega) dL_622 dL_623 dL_624 dL_625 dL_626 (by omega) hl hS ?_
  refine l_call F (x := 73) (a := 63) (k := 0) (As := [.inl (y (i + 1)), .inl (y (i + 2))]) (rest := []) (by decide) rfl rfl (by decide +kernel) (by decide) dL_627 (B_of hR (hy _) (hy _)) hP hS hl.1 (fun v μ1 H1 locs1 hq hP hS => ?_)
  refine lv_aload_n hx hb dL_630 rfl (lv_at hl 1 rfl) ?_
  refine l_arg F (k := 1) (by omega) dL_631 dL_632 dL_633 dL_634 dL_635 (by omega) hl hS ?_
  refine l_arg F (k := 2) (by omega) dL_636 dL_637 dL_638 dL_639 dL_640 (by omega) hl hS ?_
  refine l_call F (x := 76) (a := 142) (k := 510) (As := [.inl (y (i + 1)), .inl (y (i + 2))]) (rest := [.int (Int32.ofInt v)]) (by decide) rfl rfl (by decide +kernel) (by show (1 : Nat) ≤ 8; decide) dL_641 hq hP hS hl.1 (fun v2 μ2 H2 locs2 hq2 hP hS => ?_)
  obtain ⟨ev, hR2⟩ := hq2
  have ev : v2 = v := by injection ev
  refine lv_icmp_eq (tgt := 1127) hx hb dL_644 (by decide) (fun _ => fin _ _ _ hR2 hP hS) (fun hne => absurd (by rw [ev]) hne)
set_option maxHeartbeats 4000000 in
theorem lc_15 (F : LF p s m c meth D cA b L y) (hy : ∀ j, inR (y j)) (hR : Rel μ) (hP : va_P D vwCl (wl s.heap.size cA σ1 μ) H) (hS : va_S (AA s.heap.size) s.heap H locs) (hl : lv_has ls 4 (lvL s.heap.size b i)) (hi : i + 3 < L) (hL : L ≤ 2048) (hro : cells ≤ 600000 ∧ slots ≤ 7302250)
    (fin : ∀ (H1 : Heap) (locs1 : List Loc) (μ1 : Mem), Rel μ1 → va_P D vwCl (wl s.heap.size cA σ1 μ1) H1 → va_S (AA s.heap.size) s.heap H1 locs1 → W p l e room_1 s m #[Value.ref b] below meth c H1 locs1 cells slots Qf (F0 m 1127 ls [])) :
    W p l e room_1 s m #[Value.ref b] below meth c H locs cells slots Qf (F0 m 649 ls []) := by
  obtain ⟨hx, hb, -⟩ := id F
  refine lv_aload_n hx hb dL_649 rfl (lv_at hl 2 rfl) ?_
  refine l_arg F (k := 1) (by omega) dL_650 dL_651 dL_652 dL_653 dL_654 (by omega) hl hS ?_
  refine l_call F (x := 77) (a := 64) (k := 0) (As := [.inl (y (i + 1))]) (rest := []) (by decide) rfl rfl (by decide +kernel) (by decide) dL_655 (B_count hR (hy _)) hP hS hl.1 (fun v μ1 H1 locs1 hq hP hS => ?_)
  refine lv_aload_n hx hb dL_658 rfl (lv_at hl 1 rfl) ?_
  refine l_arg F (k := 1) (by omega) dL_659 dL_660 dL_661 dL_662 dL_663 (by omega) hl hS ?_
  refine l_call F (x := 80) (a := 145) (k := 510) (As := [.inl (y (i + 1))]) (rest := [.int (Int32.ofInt v)]) (by decide) rfl rfl (by decide +kernel) (by show (1 : Nat) ≤ 8; decide) dL_664 hq hP hS hl.1 (fun v2 μ2 H2 locs2 hq2 hP hS => ?_)
  obtain ⟨ev, hR2⟩ := hq2
  have ev : v2 = v := by injection ev
  refine lv_icmp_eq (tgt := 1127) hx hb dL_667 (by decide) (fun _ => fin _ _ _ hR2 hP hS) (fun hne => absurd (by rw [ev]) hne)
set_option maxHeartbeats 4000000 in
theorem lc_16 (F : LF p s m c meth D cA b L y) (hy : ∀ j, inR (y j)) (hR : Rel μ) (hP : va_P D vwCl (wl s.heap.size cA σ1 μ) H) (hS : va_S (AA s.heap.size) s.heap H locs) (hl : lv_has ls 4 (lvL s.heap.size b i)) (hi : i + 3 < L) (hL : L ≤ 2048) (hro : cells ≤ 600000 ∧ slots ≤ 7302250)
    (fin : ∀ (H1 : Heap) (locs1 : List Loc) (μ1 : Mem), Rel μ1 → va_P D vwCl (wl s.heap.size cA σ1 μ1) H1 → va_S (AA s.heap.size) s.heap H1 locs1 → W p l e room_1 s m #[Value.ref b] below meth c H1 locs1 cells slots Qf (F0 m 1127 ls [])) :
    W p l e room_1 s m #[Value.ref b] below meth c H locs cells slots Qf (F0 m 672 ls []) := by
  obtain ⟨hx, hb, -⟩ := id F
  refine lv_aload_n hx hb dL_672 rfl (lv_at hl 2 rfl) ?_
  refine l_arg F (k := 1) (by omega) dL_673 dL_674 dL_675 dL_676 dL_677 (by omega) hl hS ?_
  refine l_arg F (k := 2) (by omega) dL_678 dL_679 dL_680 dL_681 dL_682 (by omega) hl hS ?_
  refine l_call F (x := 81) (a := 65) (k := 0) (As := [.inl (y (i + 1)), .inl (y (i + 2))]) (rest := []) (by decide) rfl rfl (by decide +kernel) (by decide) dL_683 (B_heard hR (hy _) (hy _)) hP hS hl.1 (fun v μ1 H1 locs1 hq hP hS => ?_)
  refine lv_aload_n hx hb dL_686 rfl (lv_at hl 1 rfl) ?_
  refine l_arg F (k := 1) (by omega) dL_687 dL_688 dL_689 dL_690 dL_691 (by omega) hl hS ?_
  refine l_arg F (k := 2) (by omega) dL_692 dL_693 dL_694 dL_695 dL_696 (by omega) hl hS ?_
  refine l_call F (x := 84) (a := 146) (k := 510) (As := [.inl (y (i + 1)), .inl (y (i + 2))]) (rest := [.int (Int32.ofInt v)]) (by decide) rfl rfl (by decide +kernel) (by show (1 : Nat) ≤ 8; decide) dL_697 hq hP hS hl.1 (fun v2 μ2 H2 locs2 hq2 hP hS => ?_)
  obtain ⟨ev, hR2⟩ := hq2
  have ev : v2 = v := by injection ev
  refine lv_icmp_eq (tgt := 1127) hx hb dL_700 (by decide) (fun _ => fin _ _ _ hR2 hP hS) (fun hne => absurd (by rw [ev]) hne)
set_option maxHeartbeats 4000000 in
theorem lc_17 (F : LF p s m c meth D cA b L y) (hy : ∀ j, inR (y j)) (hR : Rel μ) (hP : va_P D vwCl (wl s.heap.size cA σ1 μ) H) (hS : va_S (AA s.heap.size) s.heap H locs) (hl : lv_has ls 4 (lvL s.heap.size b i)) (hi : i + 3 < L) (hL : L ≤ 2048) (hro : cells ≤ 600000 ∧ slots ≤ 7302250)
    (fin : ∀ (H1 : Heap) (locs1 : List Loc) (μ1 : Mem), Rel μ1 → va_P D vwCl (wl s.heap.size cA σ1 μ1) H1 → va_S (AA s.heap.size) s.heap H1 locs1 → W p l e room_1 s m #[Value.ref b] below meth c H1 locs1 cells slots Qf (F0 m 1127 ls [])) :
    W p l e room_1 s m #[Value.ref b] below meth c H locs cells slots Qf (F0 m 705 ls []) := by
  obtain ⟨hx, hb, -⟩ := id F
  refine lv_aload_n hx hb dL_705 rfl (lv_at hl 2 rfl) ?_
  refine l_arg F (k := 1) (by omega) dL_706 dL_707 dL_708 dL_709 dL_710 (by omega) hl hS ?_
  refine l_arg F (k := 2) (by omega) dL_711 dL_712 dL_713 dL_714 dL_715 (by omega) hl hS ?_
  refine l_call F (x := 85) (a := 66) (k := 0) (As := [.inl (y (i + 1)), .inl (y (i + 2))]) (rest := []) (by decide) rfl rfl (by decide +kernel) (by decide) dL_716 (B_whenHeard hR (hy _) (hy _)) hP hS hl.1 (fun v μ1 H1 locs1 hq hP hS => ?_)
  refine lv_aload_n hx hb dL_719 rfl (lv_at hl 1 rfl) ?_
  refine l_arg F (k := 1) (by omega) dL_720 dL_721 dL_722 dL_723 dL_724 (by omega) hl hS ?_
  refine l_arg F (k := 2) (by omega) dL_725 dL_726 dL_727 dL_728 dL_729 (by omega) hl hS ?_
  refine l_call F (x := 88) (a := 147) (k := 510) (As := [.inl (y (i + 1)), .inl (y (i + 2))]) (rest := [.int (Int32.ofInt v)]) (by decide) rfl rfl (by decide +kernel) (by show (1 : Nat) ≤ 8; decide) dL_730 hq hP hS hl.1 (fun v2 μ2 H2 locs2 hq2 hP hS => ?_)
  obtain ⟨ev, hR2⟩ := hq2
  have ev : v2 = v := by injection ev
  refine lv_icmp_eq (tgt := 1127) hx hb dL_733 (by decide) (fun _ => fin _ _ _ hR2 hP hS) (fun hne => absurd (by rw [ev]) hne)
set_option maxHeartbeats 4000000 in
theorem lc_18 (F : LF p s m c meth D cA b L y) (hy : ∀ j, inR (y j)) (hR : Rel μ) (hP : va_P D vwCl (wl s.heap.size cA σ1 μ) H) (hS : va_S (AA s.heap.size) s.heap H locs) (hl : lv_has ls 4 (lvL s.heap.size b i)) (hi : i + 3 < L) (hL : L ≤ 2048) (hro : cells ≤ 600000 ∧ slots ≤ 7302250)
    (fin : ∀ (H1 : Heap) (locs1 : List Loc) (μ1 : Mem), Rel μ1 → va_P D vwCl (wl s.heap.size cA σ1 μ1) H1 → va_S (AA s.heap.size) s.heap H1 locs1 → W p l e room_1 s m #[Value.ref b] below meth c H1 locs1 cells slots Qf (F0 m 1127 ls [])) :
    W p l e room_1 s m #[Value.ref b] below meth c H locs cells slots Qf (F0 m 738 ls []) := by
  obtain ⟨hx, hb, -⟩ := id F
  refine lv_aload_n hx hb dL_738 rfl (lv_at hl 2 rfl) ?_
  refine l_arg F (k := 1) (by omega) dL_739 dL_740 dL_741 dL_742 dL_743 (by omega) hl hS ?_
  refine l_arg F (k := 2) (by omega) dL_744 dL_745 dL_746 dL_747 dL_748 (by omega) hl hS ?_
  refine l_arg F (k := 3) (by omega) dL_749 dL_750 dL_751 dL_752 dL_753 (by omega) hl hS ?_
  refine l_call F (x := 89) (a := 67) (k := 0) (As := [.inl (y (i + 1)), .inl (y (i + 2)), .inl (y (i + 3))]) (rest := []) (by decide) rfl rfl (by decide +kernel) (by decide) dL_754 (B_heardAt hR (hy _) (hy _) (hy _)) hP hS hl.1 (fun v μ1 H1 locs1 hq hP hS => ?_)
  refine lv_aload_n hx hb dL_757 rfl (lv_at hl 1 rfl) ?_
  refine l_arg F (k := 1) (by omega) dL_758 dL_759 dL_760 dL_761 dL_762 (by omega) hl hS ?_
  refine l_arg F (k := 2) (by omega) dL_763 dL_764 dL_765 dL_766 dL_767 (by omega) hl hS ?_
  refine l_arg F (k := 3) (by omega) dL_768 dL_769 dL_770 dL_771 dL_772 (by omega) hl hS ?_
  refine l_call F (x := 93) (a := 150) (k := 510) (As := [.inl (y (i + 1)), .inl (y (i + 2)), .inl (y (i + 3))]) (rest := [.int (Int32.ofInt v)]) (by decide) rfl rfl (by decide +kernel) (by show (1 : Nat) ≤ 8; decide) dL_773 hq hP hS hl.1 (fun v2 μ2 H2 locs2 hq2 hP hS => ?_)
  obtain ⟨ev, hR2⟩ := hq2
  have ev : v2 = v := by injection ev
  refine lv_icmp_eq (tgt := 1127) hx hb dL_776 (by decide) (fun _ => fin _ _ _ hR2 hP hS) (fun hne => absurd (by rw [ev]) hne)
set_option maxHeartbeats 4000000 in
theorem lc_19 (F : LF p s m c meth D cA b L y) (hy : ∀ j, inR (y j)) (hR : Rel μ) (hP : va_P D vwCl (wl s.heap.size cA σ1 μ) H) (hS : va_S (AA s.heap.size) s.heap H locs) (hl : lv_has ls 4 (lvL s.heap.size b i)) (hi : i + 3 < L) (hL : L ≤ 2048) (hro : cells ≤ 600000 ∧ slots ≤ 7302250)
    (fin : ∀ (H1 : Heap) (locs1 : List Loc) (μ1 : Mem), Rel μ1 → va_P D vwCl (wl s.heap.size cA σ1 μ1) H1 → va_S (AA s.heap.size) s.heap H1 locs1 → W p l e room_1 s m #[Value.ref b] below meth c H1 locs1 cells slots Qf (F0 m 1127 ls [])) :
    W p l e room_1 s m #[Value.ref b] below meth c H locs cells slots Qf (F0 m 781 ls []) := by
  obtain ⟨hx, hb, -⟩ := id F
  refine lv_aload_n hx hb dL_781 rfl (lv_at hl 2 rfl) ?_
  refine l_arg F (k := 1) (by omega) dL_782 dL_783 dL_784 dL_785 dL_786 (by omega) hl hS ?_
  refine l_arg F (k := 2) (by omega) dL_787 dL_788 dL_789 dL_790 dL_791 (by omega) hl hS ?_
  refine l_call F (x := 94) (a := 68) (k := 0) (As := [.inl (y (i + 1)), .inl (y (i + 2))]) (rest := []) (by decide) rfl rfl (by decide +kernel) (by decide) dL_792 (B_chapterAt hR (hy _) (hy _)) hP hS hl.1 (fun v μ1 H1 locs1 hq hP hS => ?_)
  refine lv_aload_n hx hb dL_795 rfl (lv_at hl 1 rfl) ?_
  refine l_arg F (k := 1) (by omega) dL_796 dL_797 dL_798 dL_799 dL_800 (by omega) hl hS ?_
  refine l_arg F (k := 2) (by omega) dL_801 dL_802 dL_803 dL_804 dL_805 (by omega) hl hS ?_
  refine l_call F (x := 97) (a := 151) (k := 510) (As := [.inl (y (i + 1)), .inl (y (i + 2))]) (rest := [.int (Int32.ofInt v)]) (by decide) rfl rfl (by decide +kernel) (by show (1 : Nat) ≤ 8; decide) dL_806 hq hP hS hl.1 (fun v2 μ2 H2 locs2 hq2 hP hS => ?_)
  obtain ⟨ev, hR2⟩ := hq2
  have ev : v2 = v := by injection ev
  refine lv_icmp_eq (tgt := 1127) hx hb dL_809 (by decide) (fun _ => fin _ _ _ hR2 hP hS) (fun hne => absurd (by rw [ev]) hne)
set_option maxHeartbeats 4000000 in
theorem lc_20 (F : LF p s m c meth D cA b L y) (hy : ∀ j, inR (y j)) (hR : Rel μ) (hP : va_P D vwCl (wl s.heap.size cA σ1 μ) H) (hS : va_S (AA s.heap.size) s.heap H locs) (hl : lv_has ls 4 (lvL s.heap.size b i)) (hi : i + 3 < L) (hL : L ≤ 2048) (hro : cells ≤ 600000 ∧ slots ≤ 7302250)
    (fin : ∀ (H1 : Heap) (locs1 : List Loc) (μ1 : Mem), Rel μ1 → va_P D vwCl (wl s.heap.size cA σ1 μ1) H1 → va_S (AA s.heap.size) s.heap H1 locs1 → W p l e room_1 s m #[Value.ref b] below meth c H1 locs1 cells slots Qf (F0 m 1127 ls [])) :
    W p l e room_1 s m #[Value.ref b] below meth c H locs cells slots Qf (F0 m 814 ls []) := by
  obtain ⟨hx, hb, -⟩ := id F
  refine lv_aload_n hx hb dL_814 rfl (lv_at hl 2 rfl) ?_
  refine l_arg F (k := 1) (by omega) dL_815 dL_816 dL_817 dL_818 dL_819 (by omega) hl hS ?_
  refine l_arg F (k := 2) (by omega) dL_820 dL_821 dL_822 dL_823 dL_824 (by omega) hl hS ?_
  refine l_arg F (k := 3) (by omega) dL_825 dL_826 dL_827 dL_828 dL_829 (by omega) hl hS ?_
  refine l_call F (x := 98) (a := 69) (k := 0) (As := [.inl (y (i + 1)), .inl (y (i + 2)), .inl (y (i + 3))]) (rest := []) (by decide) rfl rfl (by decide +kernel) (by decide) dL_830 (B_open hR (hy _) (hy _) (hy _)) hP hS hl.1 (fun v μ1 H1 locs1 hq hP hS => ?_)
  refine lv_aload_n hx hb dL_833 rfl (lv_at hl 1 rfl) ?_
  refine l_arg F (k := 1) (by omega) dL_834 dL_835 dL_836 dL_837 dL_838 (by omega) hl hS ?_
  refine l_arg F (k := 2) (by omega) dL_839 dL_840 dL_841 dL_842 dL_843 (by omega) hl hS ?_
  refine l_arg F (k := 3) (by omega) dL_844 dL_845 dL_846 dL_847 dL_848 (by omega) hl hS ?_
  refine l_call F (x := 101) (a := 152) (k := 510) (As := [.inl (y (i + 1)), .inl (y (i + 2)), .inl (y (i + 3))]) (rest := [.int (Int32.ofInt v)]) (by decide) rfl rfl (by decide +kernel) (by show (1 : Nat) ≤ 8; decide) dL_849 hq hP hS hl.1 (fun v2 μ2 H2 locs2 hq2 hP hS => ?_)
  obtain ⟨ev, hR2⟩ := hq2
  have ev : v2 = v := by injection ev
  refine lv_icmp_eq (tgt := 1127) hx hb dL_852 (by decide) (fun _ => fin _ _ _ hR2 hP hS) (fun hne => absurd (by rw [ev]) hne)
set_option maxHeartbeats 4000000 in
theorem lc_21 (F : LF p s m c meth D cA b L y) (hy : ∀ j, inR (y j)) (hR : Rel μ) (hP : va_P D vwCl (wl s.heap.size cA σ1 μ) H) (hS : va_S (AA s.heap.size) s.heap H locs) (hl : lv_has ls 4 (lvL s.heap.size b i)) (hi : i + 3 < L) (hL : L ≤ 2048) (hro : cells ≤ 600000 ∧ slots ≤ 7302250)
    (fin : ∀ (H1 : Heap) (locs1 : List Loc) (μ1 : Mem), Rel μ1 → va_P D vwCl (wl s.heap.size cA σ1 μ1) H1 → va_S (AA s.heap.size) s.heap H1 locs1 → W p l e room_1 s m #[Value.ref b] below meth c H1 locs1 cells slots Qf (F0 m 1127 ls [])) :
    W p l e room_1 s m #[Value.ref b] below meth c H locs cells slots Qf (F0 m 857 ls []) := by
  obtain ⟨hx, hb, -⟩ := id F
  refine lv_aload_n hx hb dL_857 rfl (lv_at hl 2 rfl) ?_
  refine l_arg F (k := 1) (by omega) dL_858 dL_859 dL_860 dL_861 dL_862 (by omega) hl hS ?_
  refine l_arg F (k := 2) (by omega) dL_863 dL_864 dL_865 dL_866 dL_867 (by omega) hl hS ?_
  refine l_arg F (k := 3) (by omega) dL_868 dL_869 dL_870 dL_871 dL_872 (by omega) hl hS ?_
  refine l_call F (x := 102) (a := 70) (k := 0) (As := [.inl (y (i + 1)), .inl (y (i + 2)), .inl (y (i + 3))]) (rest := []) (by decide) rfl rfl (by decide +kernel) (by decide) dL_873 (B_wrongAt hR (hy _) (hy _) (hy _)) hP hS hl.1 (fun v μ1 H1 locs1 hq hP hS => ?_)
  refine lv_aload_n hx hb dL_876 rfl (lv_at hl 1 rfl) ?_
  refine l_arg F (k := 1) (by omega) dL_877 dL_878 dL_879 dL_880 dL_881 (by omega) hl hS ?_
  refine l_arg F (k := 2) (by omega) dL_882 dL_883 dL_884 dL_885 dL_886 (by omega) hl hS ?_
  refine l_arg F (k := 3) (by omega) dL_887 dL_888 dL_889 dL_890 dL_891 (by omega) hl hS ?_
  refine l_call F (x := 105) (a := 154) (k := 510) (As := [.inl (y (i + 1)), .inl (y (i + 2)), .inl (y (i + 3))]) (rest := [.int (Int32.ofInt v)]) (by decide) rfl rfl (by decide +kernel) (by show (1 : Nat) ≤ 8; decide) dL_892 hq hP hS hl.1 (fun v2 μ2 H2 locs2 hq2 hP hS => ?_)
  obtain ⟨ev, hR2⟩ := hq2
  have ev : v2 = v := by injection ev
  refine lv_icmp_eq (tgt := 1127) hx hb dL_895 (by decide) (fun _ => fin _ _ _ hR2 hP hS) (fun hne => absurd (by rw [ev]) hne)
set_option maxHeartbeats 4000000 in
theorem lc_22 (F : LF p s m c meth D cA b L y) (hy : ∀ j, inR (y j)) (hR : Rel μ) (hP : va_P D vwCl (wl s.heap.size cA σ1 μ) H) (hS : va_S (AA s.heap.size) s.heap H locs) (hl : lv_has ls 4 (lvL s.heap.size b i)) (hi : i + 3 < L) (hL : L ≤ 2048) (hro : cells ≤ 600000 ∧ slots ≤ 7302250)
    (fin : ∀ (H1 : Heap) (locs1 : List Loc) (μ1 : Mem), Rel μ1 → va_P D vwCl (wl s.heap.size cA σ1 μ1) H1 → va_S (AA s.heap.size) s.heap H1 locs1 → W p l e room_1 s m #[Value.ref b] below meth c H1 locs1 cells slots Qf (F0 m 1127 ls [])) :
    W p l e room_1 s m #[Value.ref b] below meth c H locs cells slots Qf (F0 m 900 ls []) := by
  obtain ⟨hx, hb, -⟩ := id F
  refine lv_aload_n hx hb dL_900 rfl (lv_at hl 2 rfl) ?_
  refine l_arg F (k := 1) (by omega) dL_901 dL_902 dL_903 dL_904 dL_905 (by omega) hl hS ?_
  refine l_arg F (k := 2) (by omega) dL_906 dL_907 dL_908 dL_909 dL_910 (by omega) hl hS ?_
  refine l_call F (x := 106) (a := 71) (k := 0) (As := [.inl (y (i + 1)), .inl (y (i + 2))]) (rest := []) (by decide) rfl rfl (by decide +kernel) (by decide) dL_911 (B_ifBooked hR (hy _) (hy _)) hP hS hl.1 (fun v μ1 H1 locs1 hq hP hS => ?_)
  refine lv_aload_n hx hb dL_914 rfl (lv_at hl 1 rfl) ?_
  refine l_arg F (k := 1) (by omega) dL_915 dL_916 dL_917 dL_918 dL_919 (by omega) hl hS ?_
  refine l_arg F (k := 2) (by omega) dL_920 dL_921 dL_922 dL_923 dL_924 (by omega) hl hS ?_
  refine l_call F (x := 109) (a := 156) (k := 510) (As := [.inl (y (i + 1)), .inl (y (i + 2))]) (rest := [.int (Int32.ofInt v)]) (by decide) rfl rfl (by decide +kernel) (by show (1 : Nat) ≤ 8; decide) dL_925 hq hP hS hl.1 (fun v2 μ2 H2 locs2 hq2 hP hS => ?_)
  obtain ⟨ev, hR2⟩ := hq2
  have ev : v2 = v := by injection ev
  refine lv_icmp_eq (tgt := 1127) hx hb dL_928 (by decide) (fun _ => fin _ _ _ hR2 hP hS) (fun hne => absurd (by rw [ev]) hne)
set_option maxHeartbeats 4000000 in
theorem lc_23 (F : LF p s m c meth D cA b L y) (hy : ∀ j, inR (y j)) (hR : Rel μ) (hP : va_P D vwCl (wl s.heap.size cA σ1 μ) H) (hS : va_S (AA s.heap.size) s.heap H locs) (hl : lv_has ls 4 (lvL s.heap.size b i)) (hi : i + 3 < L) (hL : L ≤ 2048) (hro : cells ≤ 600000 ∧ slots ≤ 7302250)
    (fin : ∀ (H1 : Heap) (locs1 : List Loc) (μ1 : Mem), Rel μ1 → va_P D vwCl (wl s.heap.size cA σ1 μ1) H1 → va_S (AA s.heap.size) s.heap H1 locs1 → W p l e room_1 s m #[Value.ref b] below meth c H1 locs1 cells slots Qf (F0 m 1127 ls [])) :
    W p l e room_1 s m #[Value.ref b] below meth c H locs cells slots Qf (F0 m 933 ls []) := by
  obtain ⟨hx, hb, -⟩ := id F
  refine lv_aload_n hx hb dL_933 rfl (lv_at hl 2 rfl) ?_
  refine l_arg F (k := 1) (by omega) dL_934 dL_935 dL_936 dL_937 dL_938 (by omega) hl hS ?_
  refine l_arg F (k := 2) (by omega) dL_939 dL_940 dL_941 dL_942 dL_943 (by omega) hl hS ?_
  refine l_call F (x := 110) (a := 72) (k := 0) (As := [.inl (y (i + 1)), .inl (y (i + 2))]) (rest := []) (by decide) rfl rfl (by decide +kernel) (by decide) dL_944 (B_bestBreak hR (hy _) (hy _)) hP hS hl.1 (fun v μ1 H1 locs1 hq hP hS => ?_)
  refine lv_aload_n hx hb dL_947 rfl (lv_at hl 1 rfl) ?_
  refine l_arg F (k := 1) (by omega) dL_948 dL_949 dL_950 dL_951 dL_952 (by omega) hl hS ?_
  refine l_arg F (k := 2) (by omega) dL_953 dL_954 dL_955 dL_956 dL_957 (by omega) hl hS ?_
  refine l_call F (x := 113) (a := 157) (k := 510) (As := [.inl (y (i + 1)), .inl (y (i + 2))]) (rest := [.int (Int32.ofInt v)]) (by decide) rfl rfl (by decide +kernel) (by show (1 : Nat) ≤ 8; decide) dL_958 hq hP hS hl.1 (fun v2 μ2 H2 locs2 hq2 hP hS => ?_)
  obtain ⟨ev, hR2⟩ := hq2
  have ev : v2 = v := by injection ev
  refine lv_icmp_eq (tgt := 1127) hx hb dL_961 (by decide) (fun _ => fin _ _ _ hR2 hP hS) (fun hne => absurd (by rw [ev]) hne)
set_option maxHeartbeats 4000000 in
theorem lc_24 (F : LF p s m c meth D cA b L y) (hy : ∀ j, inR (y j)) (hR : Rel μ) (hP : va_P D vwCl (wl s.heap.size cA σ1 μ) H) (hS : va_S (AA s.heap.size) s.heap H locs) (hl : lv_has ls 4 (lvL s.heap.size b i)) (hi : i + 3 < L) (hL : L ≤ 2048) (hro : cells ≤ 600000 ∧ slots ≤ 7302250)
    (fin : ∀ (H1 : Heap) (locs1 : List Loc) (μ1 : Mem), Rel μ1 → va_P D vwCl (wl s.heap.size cA σ1 μ1) H1 → va_S (AA s.heap.size) s.heap H1 locs1 → W p l e room_1 s m #[Value.ref b] below meth c H1 locs1 cells slots Qf (F0 m 1127 ls [])) :
    W p l e room_1 s m #[Value.ref b] below meth c H locs cells slots Qf (F0 m 966 ls []) := by
  obtain ⟨hx, hb, -⟩ := id F
  refine lv_aload_n hx hb dL_966 rfl (lv_at hl 2 rfl) ?_
  refine l_arg F (k := 1) (by omega) dL_967 dL_968 dL_969 dL_970 dL_971 (by omega) hl hS ?_
  refine l_call F (x := 114) (a := 73) (k := 0) (As := [.inl (y (i + 1))]) (rest := []) (by decide) rfl rfl (by decide +kernel) (by decide) dL_972 (B_enough hR (hy _)) hP hS hl.1 (fun v μ1 H1 locs1 hq hP hS => ?_)
  refine lv_aload_n hx hb dL_975 rfl (lv_at hl 1 rfl) ?_
  refine l_arg F (k := 1) (by omega) dL_976 dL_977 dL_978 dL_979 dL_980 (by omega) hl hS ?_
  refine l_call F (x := 117) (a := 158) (k := 510) (As := [.inl (y (i + 1))]) (rest := [.int (Int32.ofInt v)]) (by decide) rfl rfl (by decide +kernel) (by show (1 : Nat) ≤ 8; decide) dL_981 hq hP hS hl.1 (fun v2 μ2 H2 locs2 hq2 hP hS => ?_)
  obtain ⟨ev, hR2⟩ := hq2
  have ev : v2 = v := by injection ev
  refine lv_icmp_eq (tgt := 1127) hx hb dL_984 (by decide) (fun _ => fin _ _ _ hR2 hP hS) (fun hne => absurd (by rw [ev]) hne)
set_option maxHeartbeats 4000000 in
theorem lc_25 (F : LF p s m c meth D cA b L y) (hy : ∀ j, inR (y j)) (hR : Rel μ) (hP : va_P D vwCl (wl s.heap.size cA σ1 μ) H) (hS : va_S (AA s.heap.size) s.heap H locs) (hl : lv_has ls 4 (lvL s.heap.size b i)) (hi : i + 3 < L) (hL : L ≤ 2048) (hro : cells ≤ 600000 ∧ slots ≤ 7302250)
    (fin : ∀ (H1 : Heap) (locs1 : List Loc) (μ1 : Mem), Rel μ1 → va_P D vwCl (wl s.heap.size cA σ1 μ1) H1 → va_S (AA s.heap.size) s.heap H1 locs1 → W p l e room_1 s m #[Value.ref b] below meth c H1 locs1 cells slots Qf (F0 m 1127 ls [])) :
    W p l e room_1 s m #[Value.ref b] below meth c H locs cells slots Qf (F0 m 989 ls []) := by
  obtain ⟨hx, hb, -⟩ := id F
  refine lv_aload_n hx hb dL_989 rfl (lv_at hl 2 rfl) ?_
  refine l_long F dL_990 dL_991 dL_992 dL_993 dL_994 dL_995 dL_996 dL_998 dL_999 dL_1000 dL_1001 dL_1002 dL_1003 dL_1004 dL_1005 dL_1008 dL_1009 (by omega) hl hS ?_
  refine l_call F (x := 120) (a := 74) (k := 0) (As := [.inr (.inl (lwX y i))]) (rest := []) (by decide) rfl rfl (by decide +kernel) (by decide) dL_1010 (B_put hR) hP hS hl.1 (fun v μ1 H1 locs1 hq hP hS => ?_)
  refine lv_aload_n hx hb dL_1013 rfl (lv_at hl 1 rfl) ?_
  refine l_long F dL_1014 dL_1015 dL_1016 dL_1017 dL_1018 dL_1019 dL_1020 dL_1022 dL_1023 dL_1024 dL_1025 dL_1026 dL_1027 dL_1028 dL_1029 dL_1032 dL_1033 (by omega) hl hS ?_
  refine l_call F (x := 124) (a := 159) (k := 510) (As := [.inr (.inl (lwX y i))]) (rest := [.int (Int32.ofInt v)]) (by decide) rfl rfl (by decide +kernel) (by show (1 : Nat) ≤ 8; decide) dL_1034 hq hP hS hl.1 (fun v2 μ2 H2 locs2 hq2 hP hS => ?_)
  obtain ⟨ev, hR2⟩ := hq2
  have ev : v2 = v := by injection ev
  refine lv_icmp_eq (tgt := 1127) hx hb dL_1037 (by decide) (fun _ => fin _ _ _ hR2 hP hS) (fun hne => absurd (by rw [ev]) hne)
set_option maxHeartbeats 4000000 in
theorem lc_26 (F : LF p s m c meth D cA b L y) (hy : ∀ j, inR (y j)) (hR : Rel μ) (hP : va_P D vwCl (wl s.heap.size cA σ1 μ) H) (hS : va_S (AA s.heap.size) s.heap H locs) (hl : lv_has ls 4 (lvL s.heap.size b i)) (hi : i + 3 < L) (hL : L ≤ 2048) (hro : cells ≤ 600000 ∧ slots ≤ 7302250)
    (fin : ∀ (H1 : Heap) (locs1 : List Loc) (μ1 : Mem), Rel μ1 → va_P D vwCl (wl s.heap.size cA σ1 μ1) H1 → va_S (AA s.heap.size) s.heap H1 locs1 → W p l e room_1 s m #[Value.ref b] below meth c H1 locs1 cells slots Qf (F0 m 1127 ls [])) :
    W p l e room_1 s m #[Value.ref b] below meth c H locs cells slots Qf (F0 m 1042 ls []) := by
  obtain ⟨hx, hb, -⟩ := id F
  refine lv_aload_n hx hb dL_1042 rfl (lv_at hl 2 rfl) ?_
  refine l_call F (x := 125) (a := 75) (k := 0) (As := []) (rest := []) (by decide) rfl rfl (by decide +kernel) (by decide) dL_1043 (B_wipe hR) hP hS hl.1 (fun v μ1 H1 locs1 hq hP hS => ?_)
  refine lv_aload_n hx hb dL_1046 rfl (lv_at hl 1 rfl) ?_
  refine l_call F (x := 128) (a := 160) (k := 510) (As := []) (rest := [.int (Int32.ofInt v)]) (by decide) rfl rfl (by decide +kernel) (by show (1 : Nat) ≤ 8; decide) dL_1047 hq hP hS hl.1 (fun v2 μ2 H2 locs2 hq2 hP hS => ?_)
  obtain ⟨ev, hR2⟩ := hq2
  have ev : v2 = v := by injection ev
  refine lv_icmp_eq (tgt := 1127) hx hb dL_1050 (by decide) (fun _ => fin _ _ _ hR2 hP hS) (fun hne => absurd (by rw [ev]) hne)
set_option maxHeartbeats 4000000 in
theorem lc_27 (F : LF p s m c meth D cA b L y) (hy : ∀ j, inR (y j)) (hR : Rel μ) (hP : va_P D vwCl (wl s.heap.size cA σ1 μ) H) (hS : va_S (AA s.heap.size) s.heap H locs) (hl : lv_has ls 4 (lvL s.heap.size b i)) (hi : i + 3 < L) (hL : L ≤ 2048) (hro : cells ≤ 600000 ∧ slots ≤ 7302250)
    (fin : ∀ (H1 : Heap) (locs1 : List Loc) (μ1 : Mem), Rel μ1 → va_P D vwCl (wl s.heap.size cA σ1 μ1) H1 → va_S (AA s.heap.size) s.heap H1 locs1 → W p l e room_1 s m #[Value.ref b] below meth c H1 locs1 cells slots Qf (F0 m 1127 ls [])) :
    W p l e room_1 s m #[Value.ref b] below meth c H locs cells slots Qf (F0 m 1055 ls []) := by
  obtain ⟨hx, hb, -⟩ := id F
  refine lv_aload_n hx hb dL_1055 rfl (lv_at hl 2 rfl) ?_
  refine l_call F (x := 129) (a := 76) (k := 0) (As := []) (rest := []) (by decide) rfl rfl (by decide +kernel) (by decide) dL_1056 (B_fault hR) hP hS hl.1 (fun v μ1 H1 locs1 hq hP hS => ?_)
  refine lv_aload_n hx hb dL_1059 rfl (lv_at hl 1 rfl) ?_
  refine l_call F (x := 132) (a := 163) (k := 510) (As := []) (rest := [.int (Int32.ofInt v)]) (by decide) rfl rfl (by decide +kernel) (by show (1 : Nat) ≤ 8; decide) dL_1060 hq hP hS hl.1 (fun v2 μ2 H2 locs2 hq2 hP hS => ?_)
  obtain ⟨ev, hR2⟩ := hq2
  have ev : v2 = v := by injection ev
  refine lv_icmp_eq (tgt := 1127) hx hb dL_1063 (by decide) (fun _ => fin _ _ _ hR2 hP hS) (fun hne => absurd (by rw [ev]) hne)
set_option maxHeartbeats 4000000 in
theorem lc_28 (F : LF p s m c meth D cA b L y) (hy : ∀ j, inR (y j)) (hR : Rel μ) (hP : va_P D vwCl (wl s.heap.size cA σ1 μ) H) (hS : va_S (AA s.heap.size) s.heap H locs) (hl : lv_has ls 4 (lvL s.heap.size b i)) (hi : i + 3 < L) (hL : L ≤ 2048) (hro : cells ≤ 600000 ∧ slots ≤ 7302250)
    (fin : ∀ (H1 : Heap) (locs1 : List Loc) (μ1 : Mem), Rel μ1 → va_P D vwCl (wl s.heap.size cA σ1 μ1) H1 → va_S (AA s.heap.size) s.heap H1 locs1 → W p l e room_1 s m #[Value.ref b] below meth c H1 locs1 cells slots Qf (F0 m 1127 ls [])) :
    W p l e room_1 s m #[Value.ref b] below meth c H locs cells slots Qf (F0 m 1068 ls []) := by
  obtain ⟨hx, hb, -⟩ := id F
  refine lv_aload_n hx hb dL_1068 rfl (lv_at hl 2 rfl) ?_
  refine l_call F (x := 133) (a := 77) (k := 0) (As := []) (rest := []) (by decide) rfl rfl (by decide +kernel) (by decide) dL_1069 (B_undo hR) hP hS hl.1 (fun v μ1 H1 locs1 hq hP hS => ?_)
  refine lv_aload_n hx hb dL_1072 rfl (lv_at hl 1 rfl) ?_
  refine l_call F (x := 136) (a := 107) (k := 510) (As := []) (rest := [.int (Int32.ofInt v)]) (by decide) rfl rfl (by decide +kernel) (by show (1 : Nat) ≤ 8; decide) dL_1073 hq hP hS hl.1 (fun v2 μ2 H2 locs2 hq2 hP hS => ?_)
  obtain ⟨ev, hR2⟩ := hq2
  have ev : v2 = v := by injection ev
  refine lv_icmp_eq (tgt := 1127) hx hb dL_1076 (by decide) (fun _ => fin _ _ _ hR2 hP hS) (fun hne => absurd (by rw [ev]) hne)
set_option maxHeartbeats 4000000 in
theorem lc_29 (F : LF p s m c meth D cA b L y) (hy : ∀ j, inR (y j)) (hR : Rel μ) (hP : va_P D vwCl (wl s.heap.size cA σ1 μ) H) (hS : va_S (AA s.heap.size) s.heap H locs) (hl : lv_has ls 4 (lvL s.heap.size b i)) (hi : i + 3 < L) (hL : L ≤ 2048) (hro : cells ≤ 600000 ∧ slots ≤ 7302250)
    (fin : ∀ (H1 : Heap) (locs1 : List Loc) (μ1 : Mem), Rel μ1 → va_P D vwCl (wl s.heap.size cA σ1 μ1) H1 → va_S (AA s.heap.size) s.heap H1 locs1 → W p l e room_1 s m #[Value.ref b] below meth c H1 locs1 cells slots Qf (F0 m 1127 ls [])) :
    W p l e room_1 s m #[Value.ref b] below meth c H locs cells slots Qf (F0 m 1081 ls []) := by
  obtain ⟨hx, hb, -⟩ := id F
  refine lv_aload_n hx hb dL_1081 rfl (lv_at hl 2 rfl) ?_
  refine l_arg F (k := 1) (by omega) dL_1082 dL_1083 dL_1084 dL_1085 dL_1086 (by omega) hl hS ?_
  refine l_call F (x := 137) (a := 78) (k := 0) (As := [.inl (y (i + 1))]) (rest := []) (by decide) rfl rfl (by decide +kernel) (by decide) dL_1087 (B_save hR (hy _)) hP hS hl.1 (fun v μ1 H1 locs1 hq hP hS => ?_)
  refine lv_aload_n hx hb dL_1090 rfl (lv_at hl 1 rfl) ?_
  refine l_arg F (k := 1) (by omega) dL_1091 dL_1092 dL_1093 dL_1094 dL_1095 (by omega) hl hS ?_
  refine l_call F (x := 140) (a := 108) (k := 510) (As := [.inl (y (i + 1))]) (rest := [.int (Int32.ofInt v)]) (by decide) rfl rfl (by decide +kernel) (by show (1 : Nat) ≤ 8; decide) dL_1096 hq hP hS hl.1 (fun v2 μ2 H2 locs2 hq2 hP hS => ?_)
  obtain ⟨ev, hR2⟩ := hq2
  have ev : v2 = v := by injection ev
  refine lv_icmp_eq (tgt := 1127) hx hb dL_1099 (by decide) (fun _ => fin _ _ _ hR2 hP hS) (fun hne => absurd (by rw [ev]) hne)
set_option maxHeartbeats 4000000 in
theorem lc_30 (F : LF p s m c meth D cA b L y) (hy : ∀ j, inR (y j)) (hR : Rel μ) (hP : va_P D vwCl (wl s.heap.size cA σ1 μ) H) (hS : va_S (AA s.heap.size) s.heap H locs) (hl : lv_has ls 4 (lvL s.heap.size b i)) (hi : i + 3 < L) (hL : L ≤ 2048) (hro : cells ≤ 600000 ∧ slots ≤ 7302250)
    (fin : ∀ (H1 : Heap) (locs1 : List Loc) (μ1 : Mem), Rel μ1 → va_P D vwCl (wl s.heap.size cA σ1 μ1) H1 → va_S (AA s.heap.size) s.heap H1 locs1 → W p l e room_1 s m #[Value.ref b] below meth c H1 locs1 cells slots Qf (F0 m 1127 ls [])) :
    W p l e room_1 s m #[Value.ref b] below meth c H locs cells slots Qf (F0 m 1104 ls []) := by
  obtain ⟨hx, hb, -⟩ := id F
  refine lv_aload_n hx hb dL_1104 rfl (lv_at hl 2 rfl) ?_
  refine l_arg F (k := 1) (by omega) dL_1105 dL_1106 dL_1107 dL_1108 dL_1109 (by omega) hl hS ?_
  refine l_call F (x := 141) (a := 79) (k := 0) (As := [.inl (y (i + 1))]) (rest := []) (by decide) rfl rfl (by decide +kernel) (by decide) dL_1110 (B_restore hR (hy _)) hP hS hl.1 (fun v μ1 H1 locs1 hq hP hS => ?_)
  refine lv_aload_n hx hb dL_1113 rfl (lv_at hl 1 rfl) ?_
  refine l_arg F (k := 1) (by omega) dL_1114 dL_1115 dL_1116 dL_1117 dL_1118 (by omega) hl hS ?_
  refine l_call F (x := 144) (a := 109) (k := 510) (As := [.inl (y (i + 1))]) (rest := [.int (Int32.ofInt v)]) (by decide) rfl rfl (by decide +kernel) (by show (1 : Nat) ≤ 8; decide) dL_1119 hq hP hS hl.1 (fun v2 μ2 H2 locs2 hq2 hP hS => ?_)
  obtain ⟨ev, hR2⟩ := hq2
  have ev : v2 = v := by injection ev
  refine lv_icmp_eq (tgt := 1127) hx hb dL_1122 (by decide) (fun _ => fin _ _ _ hR2 hP hS) (fun hne => absurd (by rw [ev]) hne)
end LCS
