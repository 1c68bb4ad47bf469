/-! THE CONSTRUCTORS: their words, the decode rows -/
def gX : List Cond := [.methodLink RX6 1 objectInit, .methodLink RX0 3 objectInit, .methodLink RX1 3 objectInit, .methodLink RX2 3 objectInit, .methodLink RX3 3 objectInit, .methodLink RX4 3 objectInit, .methodLink RX5 3 objectInit, .instanceMethod objectInit, .code objectInit ⟨#[0xb1]⟩ 1 none, .classLink RX6 7 RX5, .classLink RX5 9 RX4, .classLink RX5 41 RX1, .classLink RX1 9 RX4, .classLink RX6 16 RX2, .classLink RX2 9 RX5, .classLink RX6 31 RX3, .classLink RX6 38 RX0, .classLink RX6 45 RX1, .instantiable RX0 6, .instantiable RX1 3, .instantiable RX2 3, .instantiable RX3 2, .instantiable RX4 4, .instantiable RX5 12, .instantiable RX6 7, .arrayClass .int, .arrayClass .char, .arrayClass .boolean, .methodLink RX6 9 yX5_init, .methodLink RX6 18 yX2_init, .methodLink RX2 17 yX5_init, .instanceMethod yX0_init, .instanceMethod yX1_init, .instanceMethod yX2_init, .instanceMethod yX3_init, .instanceMethod yX4_init, .instanceMethod yX5_init, .instanceMethod yX6_init]
def gXPl : List Nat := [22, 174, 67, 140, 160, 36, 30, 23, 24, 25, 31, 61, 68, 135, 141, 155, 169, 197, 170, 63, 136, 156, 32, 26, 18, 60, 168, 83, 27, 137, 143, 172, 65, 138, 158, 34, 28, 20]
set_option maxRecDepth 100000 in
theorem gX_pl : gX = gXPl.filterMap (fun i => lw_tbl[i]?) := rfl
theorem gX_good : gX.all goodWord = true := by decide +kernel
theorem gX_in : ∀ w ∈ gX, w ∈ lw_tbl := by
  intro w hw
  rw [gX_pl] at hw
  obtain ⟨i, -, hi⟩ := List.mem_filterMap.mp hw
  exact List.mem_of_getElem? hi
theorem gX_gd {w : Cond} (hw : w ∈ gX) : (w.onTables && w.keeps) = true ∨ ∃ ty, w = .arrayClass ty := good_of_word (List.all_eq_true.mp gX_good w hw)
/-- the words of a constructor -/
def wsI (mi : Nat) : List Cond := Cond.code (yM mi) (bM mi) (lM mi) (rM mi) :: (gX ++ gW)
theorem gX_I {mi : Nat} {w : Cond} (h : w ∈ gX) : w ∈ wsI mi := List.mem_cons_of_mem _ (List.mem_append_left _ h)
theorem gW_I {mi : Nat} {w : Cond} (h : w ∈ gW) : w ∈ wsI mi := List.mem_cons_of_mem _ (List.mem_append_right _ h)
theorem wsM_I {mi a : Nat} (h : a < 70) : GoodIn (wsI mi) (wsM a) := by
  intro w hw
  rcases List.mem_cons.mp hw with rfl | hw
  · exact ⟨gW_I (code_in h), gW_gd (code_in h)⟩
  · exact ⟨gW_I hw, gW_gd hw⟩
theorem wsI_I {mi a : Nat} (h : a < 70) : GoodIn (wsI mi) (wsI a) := by
  intro w hw
  rcases List.mem_cons.mp hw with rfl | hw
  · exact ⟨gW_I (code_in h), gW_gd (code_in h)⟩
  · rcases List.mem_append.mp hw with hw | hw
    · exact ⟨gX_I hw, gX_gd hw⟩
    · exact ⟨gW_I hw, gW_gd hw⟩
theorem wsI_law {a : Nat} (h : a < 70) : GoodIn lw_tbl (wsI a) := by
  intro w hw
  rcases List.mem_cons.mp hw with rfl | hw
  · exact ⟨gW_in _ (code_in h), gW_gd (code_in h)⟩
  · rcases List.mem_append.mp hw with hw | hw
    · exact ⟨gX_in _ hw, gX_gd hw⟩
    · exact ⟨gW_in _ hw, gW_gd hw⟩
theorem wsM_law {a : Nat} (h : a < 70) : GoodIn lw_tbl (wsM a) := by
  intro w hw
  rcases List.mem_cons.mp hw with rfl | hw
  · exact ⟨gW_in _ (code_in h), gW_gd (code_in h)⟩
  · exact ⟨gW_in _ hw, gW_gd hw⟩
def nestI : List (Nat × Nat × Nat) := [(6, 33, 15), (6, 40, 0), (6, 47, 4), (1, 11, 16), (5, 11, 16), (5, 47, 4)]
def nestIw : List Cond := nestI.map (fun q => Cond.methodLinkNest (RX q.1) q.2.1 (yM q.2.2) RX6)
def nestIPl : List Nat := [157, 171, 198, 69, 33, 64]
set_option maxRecDepth 100000 in
theorem nestI_pl : nestIw = nestIPl.filterMap (fun i => lw_tbl[i]?) := rfl
theorem ao1_in : Cond.arrayOver (.object RX1) ∈ lw_tbl := List.mem_of_getElem? (i := 62) rfl
theorem ao5_in : Cond.arrayOver (.object RX5) ∈ lw_tbl := List.mem_of_getElem? (i := 142) rfl
theorem dI0_0 : decode (bM 0) 0 = .ok (.aload_n 0, 1) := by decide +kernel
theorem dI0_1 : decode (bM 0) 1 = .ok (.invokespecial 3, 3) := by decide +kernel
theorem dI0_4 : decode (bM 0) 4 = .ok (.return_, 1) := by decide +kernel
theorem dI4_0 : decode (bM 4) 0 = .ok (.aload_n 0, 1) := by decide +kernel
theorem dI4_1 : decode (bM 4) 1 = .ok (.invokespecial 3, 3) := by decide +kernel
theorem dI4_4 : decode (bM 4) 4 = .ok (.aload_n 0, 1) := by decide +kernel
theorem dI4_5 : decode (bM 4) 5 = .ok (.new 9, 3) := by decide +kernel
theorem dI4_8 : decode (bM 4) 8 = .ok (.dup, 1) := by decide +kernel
theorem dI4_9 : decode (bM 4) 9 = .ok (.invokespecial 11, 3) := by decide +kernel
theorem dI4_12 : decode (bM 4) 12 = .ok (.putfield 12, 3) := by decide +kernel
theorem dI4_15 : decode (bM 4) 15 = .ok (.aload_n 0, 1) := by decide +kernel
theorem dI4_16 : decode (bM 4) 16 = .ok (.bipush 24, 2) := by decide +kernel
theorem dI4_18 : decode (bM 4) 18 = .ok (.newarray .int, 2) := by decide +kernel
theorem dI4_20 : decode (bM 4) 20 = .ok (.putfield 18, 3) := by decide +kernel
theorem dI4_23 : decode (bM 4) 23 = .ok (.aload_n 0, 1) := by decide +kernel
theorem dI4_24 : decode (bM 4) 24 = .ok (.bipush 24, 2) := by decide +kernel
theorem dI4_26 : decode (bM 4) 26 = .ok (.newarray .int, 2) := by decide +kernel
theorem dI4_28 : decode (bM 4) 28 = .ok (.putfield 22, 3) := by decide +kernel
theorem dI4_31 : decode (bM 4) 31 = .ok (.return_, 1) := by decide +kernel
theorem dI13_0 : decode (bM 13) 0 = .ok (.aload_n 0, 1) := by decide +kernel
theorem dI13_1 : decode (bM 13) 1 = .ok (.invokespecial 3, 3) := by decide +kernel
theorem dI13_4 : decode (bM 13) 4 = .ok (.aload_n 0, 1) := by decide +kernel
theorem dI13_5 : decode (bM 13) 5 = .ok (.bipush 6, 2) := by decide +kernel
theorem dI13_7 : decode (bM 13) 7 = .ok (.anewarray 9, 3) := by decide +kernel
theorem dI13_10 : decode (bM 13) 10 = .ok (.putfield 11, 3) := by decide +kernel
theorem dI13_13 : decode (bM 13) 13 = .ok (.iconst 0, 1) := by decide +kernel
theorem dI13_14 : decode (bM 13) 14 = .ok (.istore_n 1, 1) := by decide +kernel
theorem dI13_15 : decode (bM 13) 15 = .ok (.iload_n 1, 1) := by decide +kernel
theorem dI13_16 : decode (bM 13) 16 = .ok (.bipush 6, 2) := by decide +kernel
theorem dI13_18 : decode (bM 13) 18 = .ok (.if_icmp .ge 22, 3) := by decide +kernel
theorem dI13_21 : decode (bM 13) 21 = .ok (.aload_n 0, 1) := by decide +kernel
theorem dI13_22 : decode (bM 13) 22 = .ok (.getfield 11, 3) := by decide +kernel
theorem dI13_25 : decode (bM 13) 25 = .ok (.iload_n 1, 1) := by decide +kernel
theorem dI13_26 : decode (bM 13) 26 = .ok (.new 9, 3) := by decide +kernel
theorem dI13_29 : decode (bM 13) 29 = .ok (.dup, 1) := by decide +kernel
theorem dI13_30 : decode (bM 13) 30 = .ok (.invokespecial 17, 3) := by decide +kernel
theorem dI13_33 : decode (bM 13) 33 = .ok (.aastore, 1) := by decide +kernel
theorem dI13_34 : decode (bM 13) 34 = .ok (.iinc 1 1, 3) := by decide +kernel
theorem dI13_37 : decode (bM 13) 37 = .ok (.goto (-22), 3) := by decide +kernel
theorem dI13_40 : decode (bM 13) 40 = .ok (.return_, 1) := by decide +kernel
theorem dI15_0 : decode (bM 15) 0 = .ok (.aload_n 0, 1) := by decide +kernel
theorem dI15_1 : decode (bM 15) 1 = .ok (.invokespecial 3, 3) := by decide +kernel
theorem dI15_4 : decode (bM 15) 4 = .ok (.aload_n 0, 1) := by decide +kernel
theorem dI15_5 : decode (bM 15) 5 = .ok (.bipush 60, 2) := by decide +kernel
theorem dI15_7 : decode (bM 15) 7 = .ok (.newarray .char, 2) := by decide +kernel
theorem dI15_9 : decode (bM 15) 9 = .ok (.putfield 9, 3) := by decide +kernel
theorem dI15_12 : decode (bM 15) 12 = .ok (.return_, 1) := by decide +kernel
theorem dI16_0 : decode (bM 16) 0 = .ok (.aload_n 0, 1) := by decide +kernel
theorem dI16_1 : decode (bM 16) 1 = .ok (.invokespecial 3, 3) := by decide +kernel
theorem dI16_4 : decode (bM 16) 4 = .ok (.aload_n 0, 1) := by decide +kernel
theorem dI16_5 : decode (bM 16) 5 = .ok (.bipush 24, 2) := by decide +kernel
theorem dI16_7 : decode (bM 16) 7 = .ok (.newarray .int, 2) := by decide +kernel
theorem dI16_9 : decode (bM 16) 9 = .ok (.putfield 9, 3) := by decide +kernel
theorem dI16_12 : decode (bM 16) 12 = .ok (.aload_n 0, 1) := by decide +kernel
theorem dI16_13 : decode (bM 16) 13 = .ok (.bipush 24, 2) := by decide +kernel
theorem dI16_15 : decode (bM 16) 15 = .ok (.newarray .int, 2) := by decide +kernel
theorem dI16_17 : decode (bM 16) 17 = .ok (.putfield 15, 3) := by decide +kernel
theorem dI16_20 : decode (bM 16) 20 = .ok (.aload_n 0, 1) := by decide +kernel
theorem dI16_21 : decode (bM 16) 21 = .ok (.bipush 24, 2) := by decide +kernel
theorem dI16_23 : decode (bM 16) 23 = .ok (.newarray .int, 2) := by decide +kernel
theorem dI16_25 : decode (bM 16) 25 = .ok (.putfield 18, 3) := by decide +kernel
theorem dI16_28 : decode (bM 16) 28 = .ok (.return_, 1) := by decide +kernel
theorem dI26_0 : decode (bM 26) 0 = .ok (.aload_n 0, 1) := by decide +kernel
theorem dI26_1 : decode (bM 26) 1 = .ok (.invokespecial 3, 3) := by decide +kernel
theorem dI26_4 : decode (bM 26) 4 = .ok (.aload_n 0, 1) := by decide +kernel
theorem dI26_5 : decode (bM 26) 5 = .ok (.new 9, 3) := by decide +kernel
theorem dI26_8 : decode (bM 26) 8 = .ok (.dup, 1) := by decide +kernel
theorem dI26_9 : decode (bM 26) 9 = .ok (.invokespecial 11, 3) := by decide +kernel
theorem dI26_12 : decode (bM 26) 12 = .ok (.putfield 12, 3) := by decide +kernel
theorem dI26_15 : decode (bM 26) 15 = .ok (.aload_n 0, 1) := by decide +kernel
theorem dI26_16 : decode (bM 26) 16 = .ok (.bipush 24, 2) := by decide +kernel
theorem dI26_18 : decode (bM 26) 18 = .ok (.newarray .int, 2) := by decide +kernel
theorem dI26_20 : decode (bM 26) 20 = .ok (.putfield 18, 3) := by decide +kernel
theorem dI26_23 : decode (bM 26) 23 = .ok (.aload_n 0, 1) := by decide +kernel
theorem dI26_24 : decode (bM 26) 24 = .ok (.bipush 96, 2) := by decide +kernel
theorem dI26_26 : decode (bM 26) 26 = .ok (.newarray .int, 2) := by decide +kernel
theorem dI26_28 : decode (bM 26) 28 = .ok (.putfield 22, 3) := by decide +kernel
theorem dI26_31 : decode (bM 26) 31 = .ok (.aload_n 0, 1) := by decide +kernel
theorem dI26_32 : decode (bM 26) 32 = .ok (.bipush 8, 2) := by decide +kernel
theorem dI26_34 : decode (bM 26) 34 = .ok (.newarray .int, 2) := by decide +kernel
theorem dI26_36 : decode (bM 26) 36 = .ok (.putfield 25, 3) := by decide +kernel
theorem dI26_39 : decode (bM 26) 39 = .ok (.aload_n 0, 1) := by decide +kernel
theorem dI26_40 : decode (bM 26) 40 = .ok (.bipush 8, 2) := by decide +kernel
theorem dI26_42 : decode (bM 26) 42 = .ok (.newarray .int, 2) := by decide +kernel
theorem dI26_44 : decode (bM 26) 44 = .ok (.putfield 28, 3) := by decide +kernel
theorem dI26_47 : decode (bM 26) 47 = .ok (.aload_n 0, 1) := by decide +kernel
theorem dI26_48 : decode (bM 26) 48 = .ok (.bipush 6, 2) := by decide +kernel
theorem dI26_50 : decode (bM 26) 50 = .ok (.newarray .int, 2) := by decide +kernel
theorem dI26_52 : decode (bM 26) 52 = .ok (.putfield 31, 3) := by decide +kernel
theorem dI26_55 : decode (bM 26) 55 = .ok (.aload_n 0, 1) := by decide +kernel
theorem dI26_56 : decode (bM 26) 56 = .ok (.bipush 6, 2) := by decide +kernel
theorem dI26_58 : decode (bM 26) 58 = .ok (.newarray .int, 2) := by decide +kernel
theorem dI26_60 : decode (bM 26) 60 = .ok (.putfield 34, 3) := by decide +kernel
theorem dI26_63 : decode (bM 26) 63 = .ok (.aload_n 0, 1) := by decide +kernel
theorem dI26_64 : decode (bM 26) 64 = .ok (.bipush 6, 2) := by decide +kernel
theorem dI26_66 : decode (bM 26) 66 = .ok (.newarray .boolean, 2) := by decide +kernel
theorem dI26_68 : decode (bM 26) 68 = .ok (.putfield 37, 3) := by decide +kernel
theorem dI26_71 : decode (bM 26) 71 = .ok (.aload_n 0, 1) := by decide +kernel
theorem dI26_72 : decode (bM 26) 72 = .ok (.bipush 6, 2) := by decide +kernel
theorem dI26_74 : decode (bM 26) 74 = .ok (.anewarray 41, 3) := by decide +kernel
theorem dI26_77 : decode (bM 26) 77 = .ok (.putfield 43, 3) := by decide +kernel
theorem dI26_80 : decode (bM 26) 80 = .ok (.iconst 0, 1) := by decide +kernel
theorem dI26_81 : decode (bM 26) 81 = .ok (.istore_n 1, 1) := by decide +kernel
theorem dI26_82 : decode (bM 26) 82 = .ok (.iload_n 1, 1) := by decide +kernel
theorem dI26_83 : decode (bM 26) 83 = .ok (.bipush 6, 2) := by decide +kernel
theorem dI26_85 : decode (bM 26) 85 = .ok (.if_icmp .ge 22, 3) := by decide +kernel
theorem dI26_88 : decode (bM 26) 88 = .ok (.aload_n 0, 1) := by decide +kernel
theorem dI26_89 : decode (bM 26) 89 = .ok (.getfield 43, 3) := by decide +kernel
theorem dI26_92 : decode (bM 26) 92 = .ok (.iload_n 1, 1) := by decide +kernel
theorem dI26_93 : decode (bM 26) 93 = .ok (.new 41, 3) := by decide +kernel
theorem dI26_96 : decode (bM 26) 96 = .ok (.dup, 1) := by decide +kernel
theorem dI26_97 : decode (bM 26) 97 = .ok (.invokespecial 47, 3) := by decide +kernel
theorem dI26_100 : decode (bM 26) 100 = .ok (.aastore, 1) := by decide +kernel
theorem dI26_101 : decode (bM 26) 101 = .ok (.iinc 1 1, 3) := by decide +kernel
theorem dI26_104 : decode (bM 26) 104 = .ok (.goto (-22), 3) := by decide +kernel
theorem dI26_107 : decode (bM 26) 107 = .ok (.return_, 1) := by decide +kernel
theorem dI39_0 : decode (bM 39) 0 = .ok (.aload_n 0, 1) := by decide +kernel
theorem dI39_1 : decode (bM 39) 1 = .ok (.invokespecial 1, 3) := by decide +kernel
theorem dI39_4 : decode (bM 39) 4 = .ok (.aload_n 0, 1) := by decide +kernel
theorem dI39_5 : decode (bM 39) 5 = .ok (.new 7, 3) := by decide +kernel
theorem dI39_8 : decode (bM 39) 8 = .ok (.dup, 1) := by decide +kernel
theorem dI39_9 : decode (bM 39) 9 = .ok (.invokespecial 9, 3) := by decide +kernel
theorem dI39_12 : decode (bM 39) 12 = .ok (.putfield 10, 3) := by decide +kernel
theorem dI39_15 : decode (bM 39) 15 = .ok (.aload_n 0, 1) := by decide +kernel
theorem dI39_16 : decode (bM 39) 16 = .ok (.new 16, 3) := by decide +kernel
theorem dI39_19 : decode (bM 39) 19 = .ok (.dup, 1) := by decide +kernel
theorem dI39_20 : decode (bM 39) 20 = .ok (.invokespecial 18, 3) := by decide +kernel
theorem dI39_23 : decode (bM 39) 23 = .ok (.putfield 19, 3) := by decide +kernel
theorem dI39_26 : decode (bM 39) 26 = .ok (.aload_n 0, 1) := by decide +kernel
theorem dI39_27 : decode (bM 39) 27 = .ok (.iconst 2, 1) := by decide +kernel
theorem dI39_28 : decode (bM 39) 28 = .ok (.anewarray 7, 3) := by decide +kernel
theorem dI39_31 : decode (bM 39) 31 = .ok (.putfield 23, 3) := by decide +kernel
theorem dI39_34 : decode (bM 39) 34 = .ok (.aload_n 0, 1) := by decide +kernel
theorem dI39_35 : decode (bM 39) 35 = .ok (.iconst 2, 1) := by decide +kernel
theorem dI39_36 : decode (bM 39) 36 = .ok (.newarray .boolean, 2) := by decide +kernel
theorem dI39_38 : decode (bM 39) 38 = .ok (.putfield 27, 3) := by decide +kernel
theorem dI39_41 : decode (bM 39) 41 = .ok (.aload_n 0, 1) := by decide +kernel
theorem dI39_42 : decode (bM 39) 42 = .ok (.new 31, 3) := by decide +kernel
theorem dI39_45 : decode (bM 39) 45 = .ok (.dup, 1) := by decide +kernel
theorem dI39_46 : decode (bM 39) 46 = .ok (.invokespecial 33, 3) := by decide +kernel
theorem dI39_49 : decode (bM 39) 49 = .ok (.putfield 34, 3) := by decide +kernel
theorem dI39_52 : decode (bM 39) 52 = .ok (.aload_n 0, 1) := by decide +kernel
theorem dI39_53 : decode (bM 39) 53 = .ok (.new 38, 3) := by decide +kernel
theorem dI39_56 : decode (bM 39) 56 = .ok (.dup, 1) := by decide +kernel
theorem dI39_57 : decode (bM 39) 57 = .ok (.invokespecial 40, 3) := by decide +kernel
theorem dI39_60 : decode (bM 39) 60 = .ok (.putfield 41, 3) := by decide +kernel
theorem dI39_63 : decode (bM 39) 63 = .ok (.aload_n 0, 1) := by decide +kernel
theorem dI39_64 : decode (bM 39) 64 = .ok (.new 45, 3) := by decide +kernel
theorem dI39_67 : decode (bM 39) 67 = .ok (.dup, 1) := by decide +kernel
theorem dI39_68 : decode (bM 39) 68 = .ok (.invokespecial 47, 3) := by decide +kernel
theorem dI39_71 : decode (bM 39) 71 = .ok (.putfield 48, 3) := by decide +kernel
theorem dI39_74 : decode (bM 39) 74 = .ok (.aload_n 0, 1) := by decide +kernel
theorem dI39_75 : decode (bM 39) 75 = .ok (.getfield 10, 3) := by decide +kernel
theorem dI39_78 : decode (bM 39) 78 = .ok (.iconst 0, 1) := by decide +kernel
theorem dI39_79 : decode (bM 39) 79 = .ok (.bipush 10, 2) := by decide +kernel
theorem dI39_81 : decode (bM 39) 81 = .ok (.invokevirtual 52, 3) := by decide +kernel
theorem dI39_84 : decode (bM 39) 84 = .ok (.iconst 0, 1) := by decide +kernel
theorem dI39_85 : decode (bM 39) 85 = .ok (.istore_n 1, 1) := by decide +kernel
theorem dI39_86 : decode (bM 39) 86 = .ok (.iload_n 1, 1) := by decide +kernel
theorem dI39_87 : decode (bM 39) 87 = .ok (.iconst 2, 1) := by decide +kernel
theorem dI39_88 : decode (bM 39) 88 = .ok (.if_icmp .ge 22, 3) := by decide +kernel
theorem dI39_91 : decode (bM 39) 91 = .ok (.aload_n 0, 1) := by decide +kernel
theorem dI39_92 : decode (bM 39) 92 = .ok (.getfield 23, 3) := by decide +kernel
theorem dI39_95 : decode (bM 39) 95 = .ok (.iload_n 1, 1) := by decide +kernel
theorem dI39_96 : decode (bM 39) 96 = .ok (.new 7, 3) := by decide +kernel
theorem dI39_99 : decode (bM 39) 99 = .ok (.dup, 1) := by decide +kernel
theorem dI39_100 : decode (bM 39) 100 = .ok (.invokespecial 9, 3) := by decide +kernel
theorem dI39_103 : decode (bM 39) 103 = .ok (.aastore, 1) := by decide +kernel
theorem dI39_104 : decode (bM 39) 104 = .ok (.iinc 1 1, 3) := by decide +kernel
theorem dI39_107 : decode (bM 39) 107 = .ok (.goto (-21), 3) := by decide +kernel
theorem dI39_110 : decode (bM 39) 110 = .ok (.return_, 1) := by decide +kernel
