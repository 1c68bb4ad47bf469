/-! THE CONSTRUCTORS: their words, the decode rows -/
def gX : List Cond := [.methodLink RX6 1 objectInit, .methodLink RX0 3 objectInit, .methodLink RX1 3 objectInit, .methodLink RX2 3 objectInit, .methodLink RX3 3 objectInit, .methodLink RX4 3 objectInit, .methodLink RX5 3 objectInit, .methodLink RX7 1 objectInit, .instanceMethod objectInit, .code objectInit ⟨#[0xb1]⟩ 1 none, .classLink RX6 7 RX5, .classLink RX5 9 RX4, .classLink RX5 41 RX1, .classLink RX1 9 RX4, .classLink RX6 16 RX2, .classLink RX2 9 RX5, .classLink RX6 31 RX3, .classLink RX6 38 RX0, .classLink RX6 45 RX1, .instantiable RX0 6, .instantiable RX1 3, .instantiable RX2 3, .instantiable RX3 2, .instantiable RX4 4, .instantiable RX5 12, .instantiable RX6 7, .instantiable RX7 14, .arrayClass .int, .arrayClass .char, .arrayClass .boolean, .methodLink RX6 9 yX5_init, .methodLink RX6 18 yX2_init, .methodLink RX2 17 yX5_init, .instanceMethod yX0_init, .instanceMethod yX1_init, .instanceMethod yX2_init, .instanceMethod yX3_init, .instanceMethod yX4_init, .instanceMethod yX5_init, .instanceMethod yX6_init, .instanceMethod yX7_init]
def gXPl : List Nat := [67, 221, 112, 185, 205, 81, 75, 647, 68, 69, 70, 76, 106, 113, 180, 186, 200, 216, 245, 217, 108, 181, 201, 77, 71, 63, 643, 105, 215, 128, 72, 182, 188, 219, 110, 183, 203, 79, 73, 65, 645]
set_option maxRecDepth 100000 in
theorem gX_pl : gX = gXPl.filterMap (fun i => lw_tbl[i]?) := rfl
theorem gX_good : gX.all goodWord = true := by decide +kernel
theorem gX_in : ∀ w ∈ gX, w ∈ lw_tbl := by
  intro w hw
  rw [gX_pl] at hw
  obtain ⟨i, -, hi⟩ := List.mem_filterMap.mp hw
  exact List.mem_of_getElem? hi
theorem gX_gd {w : Cond} (hw : w ∈ gX) : (w.onTables && w.keeps) = true ∨ ∃ ty, w = .arrayClass ty := good_of_word (List.all_eq_true.mp gX_good w hw)
/-- the words of a constructor -/
def wsI (mi : Nat) : List Cond := Cond.code (yM mi) (bM mi) (lM mi) (rM mi) :: (gX ++ gW)
theorem gX_I {mi : Nat} {w : Cond} (h : w ∈ gX) : w ∈ wsI mi := List.mem_cons_of_mem _ (List.mem_append_left _ h)
theorem gW_I {mi : Nat} {w : Cond} (h : w ∈ gW) : w ∈ wsI mi := List.mem_cons_of_mem _ (List.mem_append_right _ h)
theorem wsM_I {mi a : Nat} (h : a < 166) : GoodIn (wsI mi) (wsM a) := by
  intro w hw
  rcases List.mem_cons.mp hw with rfl | hw
  · exact ⟨gW_I (code_in h), gW_gd (code_in h)⟩
  · exact ⟨gW_I hw, gW_gd hw⟩
theorem wsI_I {mi a : Nat} (h : a < 166) : GoodIn (wsI mi) (wsI a) := by
  intro w hw
  rcases List.mem_cons.mp hw with rfl | hw
  · exact ⟨gW_I (code_in h), gW_gd (code_in h)⟩
  · rcases List.mem_append.mp hw with hw | hw
    · exact ⟨gX_I hw, gX_gd hw⟩
    · exact ⟨gW_I hw, gW_gd hw⟩
theorem wsI_law {a : Nat} (h : a < 166) : GoodIn lw_tbl (wsI a) := by
  intro w hw
  rcases List.mem_cons.mp hw with rfl | hw
  · exact ⟨gW_in _ (code_in h), gW_gd (code_in h)⟩
  · rcases List.mem_append.mp hw with hw | hw
    · exact ⟨gX_in _ hw, gX_gd hw⟩
    · exact ⟨gW_in _ hw, gW_gd hw⟩
theorem wsM_law {a : Nat} (h : a < 166) : GoodIn lw_tbl (wsM a) := by
  intro w hw
  rcases List.mem_cons.mp hw with rfl | hw
  · exact ⟨gW_in _ (code_in h), gW_gd (code_in h)⟩
  · exact ⟨gW_in _ hw, gW_gd hw⟩
def nestI : List (Nat × Nat × Nat) := [(6, 33, 16), (6, 40, 0), (6, 47, 4), (1, 11, 24), (5, 11, 24), (5, 47, 4)]
def nestIw : List Cond := nestI.map (fun q => Cond.methodLinkNest (RX q.1) q.2.1 (yM q.2.2) RX6)
def nestIPl : List Nat := [202, 218, 246, 114, 78, 109]
set_option maxRecDepth 100000 in
theorem nestI_pl : nestIw = nestIPl.filterMap (fun i => lw_tbl[i]?) := rfl
theorem ao1_in : Cond.arrayOver (.object RX1) ∈ lw_tbl := List.mem_of_getElem? (i := 107) rfl
theorem ao5_in : Cond.arrayOver (.object RX5) ∈ lw_tbl := List.mem_of_getElem? (i := 187) rfl
theorem dI0_0 : decode (bM 0) 0 = .ok (.aload_n 0, 1) := by decide +kernel
theorem dI0_1 : decode (bM 0) 1 = .ok (.invokespecial 3, 3) := by decide +kernel
theorem dI0_4 : decode (bM 0) 4 = .ok (.return_, 1) := by decide +kernel
theorem dI4_0 : decode (bM 4) 0 = .ok (.aload_n 0, 1) := by decide +kernel
theorem dI4_1 : decode (bM 4) 1 = .ok (.invokespecial 3, 3) := by decide +kernel
theorem dI4_4 : decode (bM 4) 4 = .ok (.aload_n 0, 1) := by decide +kernel
theorem dI4_5 : decode (bM 4) 5 = .ok (.new 9, 3) := by decide +kernel
theorem dI4_8 : decode (bM 4) 8 = .ok (.dup, 1) := by decide +kernel
theorem dI4_9 : decode (bM 4) 9 = .ok (.invokespecial 11, 3) := by decide +kernel
theorem dI4_12 : decode (bM 4) 12 = .ok (.putfield 12, 3) := by decide +kernel
theorem dI4_15 : decode (bM 4) 15 = .ok (.aload_n 0, 1) := by decide +kernel
theorem dI4_16 : decode (bM 4) 16 = .ok (.bipush 24, 2) := by decide +kernel
theorem dI4_18 : decode (bM 4) 18 = .ok (.newarray .int, 2) := by decide +kernel
theorem dI4_20 : decode (bM 4) 20 = .ok (.putfield 18, 3) := by decide +kernel
theorem dI4_23 : decode (bM 4) 23 = .ok (.aload_n 0, 1) := by decide +kernel
theorem dI4_24 : decode (bM 4) 24 = .ok (.bipush 24, 2) := by decide +kernel
theorem dI4_26 : decode (bM 4) 26 = .ok (.newarray .int, 2) := by decide +kernel
theorem dI4_28 : decode (bM 4) 28 = .ok (.putfield 22, 3) := by decide +kernel
theorem dI4_31 : decode (bM 4) 31 = .ok (.return_, 1) := by decide +kernel
theorem dI13_0 : decode (bM 13) 0 = .ok (.aload_n 0, 1) := by decide +kernel
theorem dI13_1 : decode (bM 13) 1 = .ok (.invokespecial 3, 3) := by decide +kernel
theorem dI13_4 : decode (bM 13) 4 = .ok (.aload_n 0, 1) := by decide +kernel
theorem dI13_5 : decode (bM 13) 5 = .ok (.bipush 6, 2) := by decide +kernel
theorem dI13_7 : decode (bM 13) 7 = .ok (.anewarray 9, 3) := by decide +kernel
theorem dI13_10 : decode (bM 13) 10 = .ok (.putfield 11, 3) := by decide +kernel
theorem dI13_13 : decode (bM 13) 13 = .ok (.iconst 0, 1) := by decide +kernel
theorem dI13_14 : decode (bM 13) 14 = .ok (.istore_n 1, 1) := by decide +kernel
theorem dI13_15 : decode (bM 13) 15 = .ok (.iload_n 1, 1) := by decide +kernel
theorem dI13_16 : decode (bM 13) 16 = .ok (.bipush 6, 2) := by decide +kernel
theorem dI13_18 : decode (bM 13) 18 = .ok (.if_icmp .ge 22, 3) := by decide +kernel
theorem dI13_21 : decode (bM 13) 21 = .ok (.aload_n 0, 1) := by decide +kernel
theorem dI13_22 : decode (bM 13) 22 = .ok (.getfield 11, 3) := by decide +kernel
theorem dI13_25 : decode (bM 13) 25 = .ok (.iload_n 1, 1) := by decide +kernel
theorem dI13_26 : decode (bM 13) 26 = .ok (.new 9, 3) := by decide +kernel
theorem dI13_29 : decode (bM 13) 29 = .ok (.dup, 1) := by decide +kernel
theorem dI13_30 : decode (bM 13) 30 = .ok (.invokespecial 17, 3) := by decide +kernel
theorem dI13_33 : decode (bM 13) 33 = .ok (.aastore, 1) := by decide +kernel
theorem dI13_34 : decode (bM 13) 34 = .ok (.iinc 1 1, 3) := by decide +kernel
theorem dI13_37 : decode (bM 13) 37 = .ok (.goto (-22), 3) := by decide +kernel
theorem dI13_40 : decode (bM 13) 40 = .ok (.return_, 1) := by decide +kernel
theorem dI16_0 : decode (bM 16) 0 = .ok (.aload_n 0, 1) := by decide +kernel
theorem dI16_1 : decode (bM 16) 1 = .ok (.invokespecial 3, 3) := by decide +kernel
theorem dI16_4 : decode (bM 16) 4 = .ok (.aload_n 0, 1) := by decide +kernel
theorem dI16_5 : decode (bM 16) 5 = .ok (.bipush 60, 2) := by decide +kernel
theorem dI16_7 : decode (bM 16) 7 = .ok (.newarray .char, 2) := by decide +kernel
theorem dI16_9 : decode (bM 16) 9 = .ok (.putfield 9, 3) := by decide +kernel
theorem dI16_12 : decode (bM 16) 12 = .ok (.return_, 1) := by decide +kernel
theorem dI24_0 : decode (bM 24) 0 = .ok (.aload_n 0, 1) := by decide +kernel
theorem dI24_1 : decode (bM 24) 1 = .ok (.invokespecial 3, 3) := by decide +kernel
theorem dI24_4 : decode (bM 24) 4 = .ok (.aload_n 0, 1) := by decide +kernel
theorem dI24_5 : decode (bM 24) 5 = .ok (.bipush 24, 2) := by decide +kernel
theorem dI24_7 : decode (bM 24) 7 = .ok (.newarray .int, 2) := by decide +kernel
theorem dI24_9 : decode (bM 24) 9 = .ok (.putfield 9, 3) := by decide +kernel
theorem dI24_12 : decode (bM 24) 12 = .ok (.aload_n 0, 1) := by decide +kernel
theorem dI24_13 : decode (bM 24) 13 = .ok (.bipush 24, 2) := by decide +kernel
theorem dI24_15 : decode (bM 24) 15 = .ok (.newarray .int, 2) := by decide +kernel
theorem dI24_17 : decode (bM 24) 17 = .ok (.putfield 15, 3) := by decide +kernel
theorem dI24_20 : decode (bM 24) 20 = .ok (.aload_n 0, 1) := by decide +kernel
theorem dI24_21 : decode (bM 24) 21 = .ok (.bipush 24, 2) := by decide +kernel
theorem dI24_23 : decode (bM 24) 23 = .ok (.newarray .int, 2) := by decide +kernel
theorem dI24_25 : decode (bM 24) 25 = .ok (.putfield 18, 3) := by decide +kernel
theorem dI24_28 : decode (bM 24) 28 = .ok (.return_, 1) := by decide +kernel
theorem dI34_0 : decode (bM 34) 0 = .ok (.aload_n 0, 1) := by decide +kernel
theorem dI34_1 : decode (bM 34) 1 = .ok (.invokespecial 3, 3) := by decide +kernel
theorem dI34_4 : decode (bM 34) 4 = .ok (.aload_n 0, 1) := by decide +kernel
theorem dI34_5 : decode (bM 34) 5 = .ok (.new 9, 3) := by decide +kernel
theorem dI34_8 : decode (bM 34) 8 = .ok (.dup, 1) := by decide +kernel
theorem dI34_9 : decode (bM 34) 9 = .ok (.invokespecial 11, 3) := by decide +kernel
theorem dI34_12 : decode (bM 34) 12 = .ok (.putfield 12, 3) := by decide +kernel
theorem dI34_15 : decode (bM 34) 15 = .ok (.aload_n 0, 1) := by decide +kernel
theorem dI34_16 : decode (bM 34) 16 = .ok (.bipush 24, 2) := by decide +kernel
theorem dI34_18 : decode (bM 34) 18 = .ok (.newarray .int, 2) := by decide +kernel
theorem dI34_20 : decode (bM 34) 20 = .ok (.putfield 18, 3) := by decide +kernel
theorem dI34_23 : decode (bM 34) 23 = .ok (.aload_n 0, 1) := by decide +kernel
theorem dI34_24 : decode (bM 34) 24 = .ok (.bipush 96, 2) := by decide +kernel
theorem dI34_26 : decode (bM 34) 26 = .ok (.newarray .int, 2) := by decide +kernel
theorem dI34_28 : decode (bM 34) 28 = .ok (.putfield 22, 3) := by decide +kernel
theorem dI34_31 : decode (bM 34) 31 = .ok (.aload_n 0, 1) := by decide +kernel
theorem dI34_32 : decode (bM 34) 32 = .ok (.bipush 8, 2) := by decide +kernel
theorem dI34_34 : decode (bM 34) 34 = .ok (.newarray .int, 2) := by decide +kernel
theorem dI34_36 : decode (bM 34) 36 = .ok (.putfield 25, 3) := by decide +kernel
theorem dI34_39 : decode (bM 34) 39 = .ok (.aload_n 0, 1) := by decide +kernel
theorem dI34_40 : decode (bM 34) 40 = .ok (.bipush 8, 2) := by decide +kernel
theorem dI34_42 : decode (bM 34) 42 = .ok (.newarray .int, 2) := by decide +kernel
theorem dI34_44 : decode (bM 34) 44 = .ok (.putfield 28, 3) := by decide +kernel
theorem dI34_47 : decode (bM 34) 47 = .ok (.aload_n 0, 1) := by decide +kernel
theorem dI34_48 : decode (bM 34) 48 = .ok (.bipush 6, 2) := by decide +kernel
theorem dI34_50 : decode (bM 34) 50 = .ok (.newarray .int, 2) := by decide +kernel
theorem dI34_52 : decode (bM 34) 52 = .ok (.putfield 31, 3) := by decide +kernel
theorem dI34_55 : decode (bM 34) 55 = .ok (.aload_n 0, 1) := by decide +kernel
theorem dI34_56 : decode (bM 34) 56 = .ok (.bipush 6, 2) := by decide +kernel
theorem dI34_58 : decode (bM 34) 58 = .ok (.newarray .int, 2) := by decide +kernel
theorem dI34_60 : decode (bM 34) 60 = .ok (.putfield 34, 3) := by decide +kernel
theorem dI34_63 : decode (bM 34) 63 = .ok (.aload_n 0, 1) := by decide +kernel
theorem dI34_64 : decode (bM 34) 64 = .ok (.bipush 6, 2) := by decide +kernel
theorem dI34_66 : decode (bM 34) 66 = .ok (.newarray .boolean, 2) := by decide +kernel
theorem dI34_68 : decode (bM 34) 68 = .ok (.putfield 37, 3) := by decide +kernel
theorem dI34_71 : decode (bM 34) 71 = .ok (.aload_n 0, 1) := by decide +kernel
theorem dI34_72 : decode (bM 34) 72 = .ok (.bipush 6, 2) := by decide +kernel
theorem dI34_74 : decode (bM 34) 74 = .ok (.anewarray 41, 3) := by decide +kernel
theorem dI34_77 : decode (bM 34) 77 = .ok (.putfield 43, 3) := by decide +kernel
theorem dI34_80 : decode (bM 34) 80 = .ok (.iconst 0, 1) := by decide +kernel
theorem dI34_81 : decode (bM 34) 81 = .ok (.istore_n 1, 1) := by decide +kernel
theorem dI34_82 : decode (bM 34) 82 = .ok (.iload_n 1, 1) := by decide +kernel
theorem dI34_83 : decode (bM 34) 83 = .ok (.bipush 6, 2) := by decide +kernel
theorem dI34_85 : decode (bM 34) 85 = .ok (.if_icmp .ge 22, 3) := by decide +kernel
theorem dI34_88 : decode (bM 34) 88 = .ok (.aload_n 0, 1) := by decide +kernel
theorem dI34_89 : decode (bM 34) 89 = .ok (.getfield 43, 3) := by decide +kernel
theorem dI34_92 : decode (bM 34) 92 = .ok (.iload_n 1, 1) := by decide +kernel
theorem dI34_93 : decode (bM 34) 93 = .ok (.new 41, 3) := by decide +kernel
theorem dI34_96 : decode (bM 34) 96 = .ok (.dup, 1) := by decide +kernel
theorem dI34_97 : decode (bM 34) 97 = .ok (.invokespecial 47, 3) := by decide +kernel
theorem dI34_100 : decode (bM 34) 100 = .ok (.aastore, 1) := by decide +kernel
theorem dI34_101 : decode (bM 34) 101 = .ok (.iinc 1 1, 3) := by decide +kernel
theorem dI34_104 : decode (bM 34) 104 = .ok (.goto (-22), 3) := by decide +kernel
theorem dI34_107 : decode (bM 34) 107 = .ok (.return_, 1) := by decide +kernel
theorem dI48_0 : decode (bM 48) 0 = .ok (.aload_n 0, 1) := by decide +kernel
theorem dI48_1 : decode (bM 48) 1 = .ok (.invokespecial 1, 3) := by decide +kernel
theorem dI48_4 : decode (bM 48) 4 = .ok (.aload_n 0, 1) := by decide +kernel
theorem dI48_5 : decode (bM 48) 5 = .ok (.new 7, 3) := by decide +kernel
theorem dI48_8 : decode (bM 48) 8 = .ok (.dup, 1) := by decide +kernel
theorem dI48_9 : decode (bM 48) 9 = .ok (.invokespecial 9, 3) := by decide +kernel
theorem dI48_12 : decode (bM 48) 12 = .ok (.putfield 10, 3) := by decide +kernel
theorem dI48_15 : decode (bM 48) 15 = .ok (.aload_n 0, 1) := by decide +kernel
theorem dI48_16 : decode (bM 48) 16 = .ok (.new 16, 3) := by decide +kernel
theorem dI48_19 : decode (bM 48) 19 = .ok (.dup, 1) := by decide +kernel
theorem dI48_20 : decode (bM 48) 20 = .ok (.invokespecial 18, 3) := by decide +kernel
theorem dI48_23 : decode (bM 48) 23 = .ok (.putfield 19, 3) := by decide +kernel
theorem dI48_26 : decode (bM 48) 26 = .ok (.aload_n 0, 1) := by decide +kernel
theorem dI48_27 : decode (bM 48) 27 = .ok (.iconst 2, 1) := by decide +kernel
theorem dI48_28 : decode (bM 48) 28 = .ok (.anewarray 7, 3) := by decide +kernel
theorem dI48_31 : decode (bM 48) 31 = .ok (.putfield 23, 3) := by decide +kernel
theorem dI48_34 : decode (bM 48) 34 = .ok (.aload_n 0, 1) := by decide +kernel
theorem dI48_35 : decode (bM 48) 35 = .ok (.iconst 2, 1) := by decide +kernel
theorem dI48_36 : decode (bM 48) 36 = .ok (.newarray .boolean, 2) := by decide +kernel
theorem dI48_38 : decode (bM 48) 38 = .ok (.putfield 27, 3) := by decide +kernel
theorem dI48_41 : decode (bM 48) 41 = .ok (.aload_n 0, 1) := by decide +kernel
theorem dI48_42 : decode (bM 48) 42 = .ok (.new 31, 3) := by decide +kernel
theorem dI48_45 : decode (bM 48) 45 = .ok (.dup, 1) := by decide +kernel
theorem dI48_46 : decode (bM 48) 46 = .ok (.invokespecial 33, 3) := by decide +kernel
theorem dI48_49 : decode (bM 48) 49 = .ok (.putfield 34, 3) := by decide +kernel
theorem dI48_52 : decode (bM 48) 52 = .ok (.aload_n 0, 1) := by decide +kernel
theorem dI48_53 : decode (bM 48) 53 = .ok (.new 38, 3) := by decide +kernel
theorem dI48_56 : decode (bM 48) 56 = .ok (.dup, 1) := by decide +kernel
theorem dI48_57 : decode (bM 48) 57 = .ok (.invokespecial 40, 3) := by decide +kernel
theorem dI48_60 : decode (bM 48) 60 = .ok (.putfield 41, 3) := by decide +kernel
theorem dI48_63 : decode (bM 48) 63 = .ok (.aload_n 0, 1) := by decide +kernel
theorem dI48_64 : decode (bM 48) 64 = .ok (.new 45, 3) := by decide +kernel
theorem dI48_67 : decode (bM 48) 67 = .ok (.dup, 1) := by decide +kernel
theorem dI48_68 : decode (bM 48) 68 = .ok (.invokespecial 47, 3) := by decide +kernel
theorem dI48_71 : decode (bM 48) 71 = .ok (.putfield 48, 3) := by decide +kernel
theorem dI48_74 : decode (bM 48) 74 = .ok (.aload_n 0, 1) := by decide +kernel
theorem dI48_75 : decode (bM 48) 75 = .ok (.getfield 10, 3) := by decide +kernel
theorem dI48_78 : decode (bM 48) 78 = .ok (.iconst 0, 1) := by decide +kernel
theorem dI48_79 : decode (bM 48) 79 = .ok (.bipush 10, 2) := by decide +kernel
theorem dI48_81 : decode (bM 48) 81 = .ok (.invokevirtual 52, 3) := by decide +kernel
theorem dI48_84 : decode (bM 48) 84 = .ok (.iconst 0, 1) := by decide +kernel
theorem dI48_85 : decode (bM 48) 85 = .ok (.istore_n 1, 1) := by decide +kernel
theorem dI48_86 : decode (bM 48) 86 = .ok (.iload_n 1, 1) := by decide +kernel
theorem dI48_87 : decode (bM 48) 87 = .ok (.iconst 2, 1) := by decide +kernel
theorem dI48_88 : decode (bM 48) 88 = .ok (.if_icmp .ge 22, 3) := by decide +kernel
theorem dI48_91 : decode (bM 48) 91 = .ok (.aload_n 0, 1) := by decide +kernel
theorem dI48_92 : decode (bM 48) 92 = .ok (.getfield 23, 3) := by decide +kernel
theorem dI48_95 : decode (bM 48) 95 = .ok (.iload_n 1, 1) := by decide +kernel
theorem dI48_96 : decode (bM 48) 96 = .ok (.new 7, 3) := by decide +kernel
theorem dI48_99 : decode (bM 48) 99 = .ok (.dup, 1) := by decide +kernel
theorem dI48_100 : decode (bM 48) 100 = .ok (.invokespecial 9, 3) := by decide +kernel
theorem dI48_103 : decode (bM 48) 103 = .ok (.aastore, 1) := by decide +kernel
theorem dI48_104 : decode (bM 48) 104 = .ok (.iinc 1 1, 3) := by decide +kernel
theorem dI48_107 : decode (bM 48) 107 = .ok (.goto (-21), 3) := by decide +kernel
theorem dI48_110 : decode (bM 48) 110 = .ok (.return_, 1) := by decide +kernel
theorem dI93_0 : decode (bM 93) 0 = .ok (.aload_n 0, 1) := by decide +kernel
theorem dI93_1 : decode (bM 93) 1 = .ok (.invokespecial 1, 3) := by decide +kernel
theorem dI93_4 : decode (bM 93) 4 = .ok (.aload_n 0, 1) := by decide +kernel
theorem dI93_5 : decode (bM 93) 5 = .ok (.sipush 956, 3) := by decide +kernel
theorem dI93_8 : decode (bM 93) 8 = .ok (.newarray .int, 2) := by decide +kernel
theorem dI93_10 : decode (bM 93) 10 = .ok (.putfield 7, 3) := by decide +kernel
theorem dI93_13 : decode (bM 93) 13 = .ok (.aload_n 0, 1) := by decide +kernel
theorem dI93_14 : decode (bM 93) 14 = .ok (.sipush 5736, 3) := by decide +kernel
theorem dI93_17 : decode (bM 93) 17 = .ok (.newarray .int, 2) := by decide +kernel
theorem dI93_19 : decode (bM 93) 19 = .ok (.putfield 13, 3) := by decide +kernel
theorem dI93_22 : decode (bM 93) 22 = .ok (.aload_n 0, 1) := by decide +kernel
theorem dI93_23 : decode (bM 93) 23 = .ok (.sipush 1912, 3) := by decide +kernel
theorem dI93_26 : decode (bM 93) 26 = .ok (.newarray .int, 2) := by decide +kernel
theorem dI93_28 : decode (bM 93) 28 = .ok (.putfield 16, 3) := by decide +kernel
theorem dI93_31 : decode (bM 93) 31 = .ok (.aload_n 0, 1) := by decide +kernel
theorem dI93_32 : decode (bM 93) 32 = .ok (.iconst 2, 1) := by decide +kernel
theorem dI93_33 : decode (bM 93) 33 = .ok (.newarray .boolean, 2) := by decide +kernel
theorem dI93_35 : decode (bM 93) 35 = .ok (.putfield 19, 3) := by decide +kernel
theorem dI93_38 : decode (bM 93) 38 = .ok (.aload_n 0, 1) := by decide +kernel
theorem dI93_39 : decode (bM 93) 39 = .ok (.bipush 60, 2) := by decide +kernel
theorem dI93_41 : decode (bM 93) 41 = .ok (.newarray .char, 2) := by decide +kernel
theorem dI93_43 : decode (bM 93) 43 = .ok (.putfield 23, 3) := by decide +kernel
theorem dI93_46 : decode (bM 93) 46 = .ok (.aload_n 0, 1) := by decide +kernel
theorem dI93_47 : decode (bM 93) 47 = .ok (.bipush 121, 2) := by decide +kernel
theorem dI93_49 : decode (bM 93) 49 = .ok (.newarray .int, 2) := by decide +kernel
theorem dI93_51 : decode (bM 93) 51 = .ok (.putfield 27, 3) := by decide +kernel
theorem dI93_54 : decode (bM 93) 54 = .ok (.aload_n 0, 1) := by decide +kernel
theorem dI93_55 : decode (bM 93) 55 = .ok (.bipush 120, 2) := by decide +kernel
theorem dI93_57 : decode (bM 93) 57 = .ok (.newarray .int, 2) := by decide +kernel
theorem dI93_59 : decode (bM 93) 59 = .ok (.putfield 30, 3) := by decide +kernel
theorem dI93_62 : decode (bM 93) 62 = .ok (.aload_n 0, 1) := by decide +kernel
theorem dI93_63 : decode (bM 93) 63 = .ok (.getfield 7, 3) := by decide +kernel
theorem dI93_66 : decode (bM 93) 66 = .ok (.iconst 0, 1) := by decide +kernel
theorem dI93_67 : decode (bM 93) 67 = .ok (.iconst 1, 1) := by decide +kernel
theorem dI93_68 : decode (bM 93) 68 = .ok (.iastore, 1) := by decide +kernel
theorem dI93_69 : decode (bM 93) 69 = .ok (.aload_n 0, 1) := by decide +kernel
theorem dI93_70 : decode (bM 93) 70 = .ok (.getfield 7, 3) := by decide +kernel
theorem dI93_73 : decode (bM 93) 73 = .ok (.iconst 1, 1) := by decide +kernel
theorem dI93_74 : decode (bM 93) 74 = .ok (.iconst 1, 1) := by decide +kernel
theorem dI93_75 : decode (bM 93) 75 = .ok (.iastore, 1) := by decide +kernel
theorem dI93_76 : decode (bM 93) 76 = .ok (.aload_n 0, 1) := by decide +kernel
theorem dI93_77 : decode (bM 93) 77 = .ok (.getfield 7, 3) := by decide +kernel
theorem dI93_80 : decode (bM 93) 80 = .ok (.iconst 5, 1) := by decide +kernel
theorem dI93_81 : decode (bM 93) 81 = .ok (.bipush 10, 2) := by decide +kernel
theorem dI93_83 : decode (bM 93) 83 = .ok (.iastore, 1) := by decide +kernel
theorem dI93_84 : decode (bM 93) 84 = .ok (.aload_n 0, 1) := by decide +kernel
theorem dI93_85 : decode (bM 93) 85 = .ok (.getfield 7, 3) := by decide +kernel
theorem dI93_88 : decode (bM 93) 88 = .ok (.bipush 6, 2) := by decide +kernel
theorem dI93_90 : decode (bM 93) 90 = .ok (.iconst 1, 1) := by decide +kernel
theorem dI93_91 : decode (bM 93) 91 = .ok (.iastore, 1) := by decide +kernel
theorem dI93_92 : decode (bM 93) 92 = .ok (.return_, 1) := by decide +kernel
