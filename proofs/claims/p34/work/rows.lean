section
-- ===== PART A: goes FIRST, ahead of the names: the tables' words, and 'selects' of the private methods out of them =====
/-- a private method of a class that the tables say can be made, by its rows of tables_1 -/
def lw_okq (q : MethodName × Nat) : Prop := (q.1.cls ≠ "java/lang/invoke/MethodHandle" ∧ q.1.cls ≠ "java/lang/invoke/VarHandle") ∧ Cond.instantiable q.1.cls q.2 ∈ tables_1 ∧ Cond.privateMethod q.1 ∈ tables_1 ∧ Cond.instanceMethod q.1 ∈ tables_1
theorem lw_p0 : lw_okq (⟨"NoticeShifts", "hearNow", "(ILNoticeShifts$Hearing;)V"⟩, 7) := ⟨⟨by decide +kernel, by decide +kernel⟩, List.mem_of_getElem? (i := 11) (by decide +kernel), List.mem_of_getElem? (i := 300) (by decide +kernel), List.mem_of_getElem? (i := 301) (by decide +kernel)⟩
theorem lw_p1 : lw_okq (⟨"NoticeShifts", "hearingOf", "(I)LNoticeShifts$Hearing;"⟩, 7) := ⟨⟨by decide +kernel, by decide +kernel⟩, List.mem_of_getElem? (i := 11) (by decide +kernel), List.mem_of_getElem? (i := 322) (by decide +kernel), List.mem_of_getElem? (i := 323) (by decide +kernel)⟩
theorem lw_p2 : lw_okq (⟨"NoticeShifts", "isOutOfDate", "(I)Z"⟩, 7) := ⟨⟨by decide +kernel, by decide +kernel⟩, List.mem_of_getElem? (i := 11) (by decide +kernel), List.mem_of_getElem? (i := 356) (by decide +kernel), List.mem_of_getElem? (i := 357) (by decide +kernel)⟩
theorem lw_p3 : lw_okq (⟨"NoticeShifts", "outOfDateListeners", "()I"⟩, 7) := ⟨⟨by decide +kernel, by decide +kernel⟩, List.mem_of_getElem? (i := 11) (by decide +kernel), List.mem_of_getElem? (i := 388) (by decide +kernel), List.mem_of_getElem? (i := 389) (by decide +kernel)⟩
theorem lw_p4 : lw_okq (⟨"NoticeShifts", "longestListener", "()I"⟩, 7) := ⟨⟨by decide +kernel, by decide +kernel⟩, List.mem_of_getElem? (i := 11) (by decide +kernel), List.mem_of_getElem? (i := 392) (by decide +kernel), List.mem_of_getElem? (i := 393) (by decide +kernel)⟩
theorem lw_p5 : lw_okq (⟨"NoticeShifts", "countHearers", "(I)I"⟩, 7) := ⟨⟨by decide +kernel, by decide +kernel⟩, List.mem_of_getElem? (i := 11) (by decide +kernel), List.mem_of_getElem? (i := 429) (by decide +kernel), List.mem_of_getElem? (i := 430) (by decide +kernel)⟩
theorem lw_p6 : lw_okq (⟨"NoticeShifts", "chooseAll", "(II)V"⟩, 7) := ⟨⟨by decide +kernel, by decide +kernel⟩, List.mem_of_getElem? (i := 11) (by decide +kernel), List.mem_of_getElem? (i := 433) (by decide +kernel), List.mem_of_getElem? (i := 434) (by decide +kernel)⟩
def lw_privs_1 : List (MethodName × Nat) := [(⟨"NoticeShifts", "hearNow", "(ILNoticeShifts$Hearing;)V"⟩, 7), (⟨"NoticeShifts", "hearingOf", "(I)LNoticeShifts$Hearing;"⟩, 7), (⟨"NoticeShifts", "isOutOfDate", "(I)Z"⟩, 7), (⟨"NoticeShifts", "outOfDateListeners", "()I"⟩, 7), (⟨"NoticeShifts", "longestListener", "()I"⟩, 7), (⟨"NoticeShifts", "countHearers", "(I)I"⟩, 7), (⟨"NoticeShifts", "chooseAll", "(II)V"⟩, 7)]
theorem lw_r1 : ∀ q ∈ lw_privs_1, lw_okq q := List.forall_mem_cons.mpr ⟨lw_p0, List.forall_mem_cons.mpr ⟨lw_p1, List.forall_mem_cons.mpr ⟨lw_p2, List.forall_mem_cons.mpr ⟨lw_p3, List.forall_mem_cons.mpr ⟨lw_p4, List.forall_mem_cons.mpr ⟨lw_p5, List.forall_mem_cons.mpr ⟨lw_p6, fun _ h => absurd h List.not_mem_nil⟩⟩⟩⟩⟩⟩⟩
def lw_privs : List (MethodName × Nat) := lw_privs_1
def lw_tbl : List Cond := k2_sels lw_privs ++ tables_1
theorem lw_privs_ok : ∀ q ∈ lw_privs, lw_okq q := lw_r1
-- ===== end of PART A
def RX0 : String := "NoticeShifts$Chooser"
def TX0 : u_T := fun k => match k with
  | 0 => ("NoticeShifts$Chooser", "group", "I", false)
  | 1 => ("NoticeShifts$Chooser", "bound", "I", false)
  | 2 => ("NoticeShifts$Chooser", "chosen", "I", false)
  | 3 => ("NoticeShifts$Chooser", "chosenSet", "I", false)
  | 4 => ("NoticeShifts$Chooser", "seconds", "I", false)
  | _ => ("NoticeShifts$Chooser", "nextBound", "I", false)
def tyX0 : Nat → FieldType := fun k => match k with
  | 0 => .int
  | 1 => .int
  | 2 => .int
  | 3 => .int
  | 4 => .int
  | _ => .int
abbrev wsX00 : List Cond := u_ws RX0 TX0 6
theorem nmX0 : ∀ a, a < 6 → ∀ b, b < 6 → a ≠ b → (TX0 a).2.1 ≠ (TX0 b).2.1 := by decide +kernel
theorem tyX0_ok : ∀ k, k < 6 → parseFieldDescriptor (TX0 k).2.2.1 = some (tyX0 k) := by decide +kernel
abbrev cX0_init : ByteArray := prog_2_method_1_code
def yX0_init : MethodName := ⟨RX0, "<init>", "()V"⟩
abbrev cX0_begin : ByteArray := prog_2_method_2_code
def yX0_begin : MethodName := ⟨RX0, "begin", "(II)V"⟩
abbrev cX0_choose : ByteArray := prog_2_method_3_code
def yX0_choose : MethodName := ⟨RX0, "choose", "(LNoticeShifts$State;I)I"⟩
abbrev cX0_isFor : ByteArray := prog_2_method_4_code
def yX0_isFor : MethodName := ⟨RX0, "isFor", "(LNoticeShifts$State;I)Z"⟩
def RX1 : String := "NoticeShifts$Hearing"
def TX1 : u_T := fun k => match k with
  | 0 => ("NoticeShifts$Hearing", "sentences", "LNoticeShifts$Sentences;", true)
  | 1 => ("NoticeShifts$Hearing", "notices", "[I", true)
  | _ => ("NoticeShifts$Hearing", "noticeLengths", "[I", true)
def tyX1 : Nat → FieldType := fun k => match k with
  | 0 => .object "NoticeShifts$Sentences"
  | 1 => .array .int
  | _ => .array .int
abbrev wsX10 : List Cond := u_ws RX1 TX1 3
theorem nmX1 : ∀ a, a < 3 → ∀ b, b < 3 → a ≠ b → (TX1 a).2.1 ≠ (TX1 b).2.1 := by decide +kernel
theorem tyX1_ok : ∀ k, k < 3 → parseFieldDescriptor (TX1 k).2.2.1 = some (tyX1 k) := by decide +kernel
abbrev cX1_init : ByteArray := prog_3_method_1_code
def yX1_init : MethodName := ⟨RX1, "<init>", "()V"⟩
abbrev cX1_breakTime : ByteArray := prog_3_method_2_code
def yX1_breakTime : MethodName := ⟨RX1, "breakTime", "(I)I"⟩
abbrev cX1_sentenceTime : ByteArray := prog_3_method_3_code
def yX1_sentenceTime : MethodName := ⟨RX1, "sentenceTime", "(I)I"⟩
abbrev cX1_total : ByteArray := prog_3_method_4_code
def yX1_total : MethodName := ⟨RX1, "total", "()I"⟩
abbrev cX1_noticeSeconds : ByteArray := prog_3_method_5_code
def yX1_noticeSeconds : MethodName := ⟨RX1, "noticeSeconds", "()I"⟩
abbrev cX1_countNotices : ByteArray := prog_3_method_6_code
def yX1_countNotices : MethodName := ⟨RX1, "countNotices", "()I"⟩
abbrev cX1_placeHeardAt : ByteArray := prog_3_method_7_code
def yX1_placeHeardAt : MethodName := ⟨RX1, "placeHeardAt", "(I)I"⟩
abbrev cX1_copyFrom : ByteArray := prog_3_method_8_code
def yX1_copyFrom : MethodName := ⟨RX1, "copyFrom", "(LNoticeShifts$Hearing;)V"⟩
abbrev cX1_isLike : ByteArray := prog_3_method_9_code
def yX1_isLike : MethodName := ⟨RX1, "isLike", "(LNoticeShifts$Hearing;)Z"⟩
def RX2 : String := "NoticeShifts$History"
def TX2 : u_T := fun k => match k with
  | 0 => ("NoticeShifts$History", "states", "[LNoticeShifts$State;", true)
  | 1 => ("NoticeShifts$History", "next", "I", false)
  | _ => ("NoticeShifts$History", "size", "I", false)
def tyX2 : Nat → FieldType := fun k => match k with
  | 0 => .array (.object "NoticeShifts$State")
  | 1 => .int
  | _ => .int
abbrev wsX20 : List Cond := u_ws RX2 TX2 3
theorem nmX2 : ∀ a, a < 3 → ∀ b, b < 3 → a ≠ b → (TX2 a).2.1 ≠ (TX2 b).2.1 := by decide +kernel
theorem tyX2_ok : ∀ k, k < 3 → parseFieldDescriptor (TX2 k).2.2.1 = some (tyX2 k) := by decide +kernel
abbrev cX2_init : ByteArray := prog_4_method_1_code
def yX2_init : MethodName := ⟨RX2, "<init>", "()V"⟩
abbrev cX2_keep : ByteArray := prog_4_method_2_code
def yX2_keep : MethodName := ⟨RX2, "keep", "(LNoticeShifts$State;)V"⟩
def RX3 : String := "NoticeShifts$Pad"
def TX3 : u_T := fun k => match k with
  | 0 => ("NoticeShifts$Pad", "characters", "[C", true)
  | _ => ("NoticeShifts$Pad", "length", "I", false)
def tyX3 : Nat → FieldType := fun k => match k with
  | 0 => .array .char
  | _ => .int
abbrev wsX30 : List Cond := u_ws RX3 TX3 2
theorem nmX3 : ∀ a, a < 2 → ∀ b, b < 2 → a ≠ b → (TX3 a).2.1 ≠ (TX3 b).2.1 := by decide +kernel
theorem tyX3_ok : ∀ k, k < 2 → parseFieldDescriptor (TX3 k).2.2.1 = some (tyX3 k) := by decide +kernel
abbrev cX3_init : ByteArray := prog_5_method_1_code
def yX3_init : MethodName := ⟨RX3, "<init>", "()V"⟩
def RX4 : String := "NoticeShifts$Sentences"
def TX4 : u_T := fun k => match k with
  | 0 => ("NoticeShifts$Sentences", "marks", "[I", true)
  | 1 => ("NoticeShifts$Sentences", "lengths", "[I", true)
  | 2 => ("NoticeShifts$Sentences", "begins", "[I", true)
  | _ => ("NoticeShifts$Sentences", "size", "I", false)
def tyX4 : Nat → FieldType := fun k => match k with
  | 0 => .array .int
  | 1 => .array .int
  | 2 => .array .int
  | _ => .int
abbrev wsX40 : List Cond := u_ws RX4 TX4 4
theorem nmX4 : ∀ a, a < 4 → ∀ b, b < 4 → a ≠ b → (TX4 a).2.1 ≠ (TX4 b).2.1 := by decide +kernel
theorem tyX4_ok : ∀ k, k < 4 → parseFieldDescriptor (TX4 k).2.2.1 = some (tyX4 k) := by decide +kernel
abbrev cX4_init : ByteArray := prog_6_method_1_code
def yX4_init : MethodName := ⟨RX4, "<init>", "()V"⟩
abbrev cX4_timeOf : ByteArray := prog_6_method_2_code
def yX4_timeOf : MethodName := ⟨RX4, "timeOf", "(I)I"⟩
abbrev cX4_total : ByteArray := prog_6_method_3_code
def yX4_total : MethodName := ⟨RX4, "total", "()I"⟩
abbrev cX4_placeAtTime : ByteArray := prog_6_method_4_code
def yX4_placeAtTime : MethodName := ⟨RX4, "placeAtTime", "(I)I"⟩
abbrev cX4_placeOf : ByteArray := prog_6_method_5_code
def yX4_placeOf : MethodName := ⟨RX4, "placeOf", "(I)I"⟩
abbrev cX4_chapterOf : ByteArray := prog_6_method_6_code
def yX4_chapterOf : MethodName := ⟨RX4, "chapterOf", "(I)I"⟩
abbrev cX4_chapters : ByteArray := prog_6_method_7_code
def yX4_chapters : MethodName := ⟨RX4, "chapters", "()I"⟩
abbrev cX4_firstOfChapter : ByteArray := prog_6_method_8_code
def yX4_firstOfChapter : MethodName := ⟨RX4, "firstOfChapter", "(I)I"⟩
abbrev cX4_copyFrom : ByteArray := prog_6_method_9_code
def yX4_copyFrom : MethodName := ⟨RX4, "copyFrom", "(LNoticeShifts$Sentences;)V"⟩
abbrev cX4_isLike : ByteArray := prog_6_method_10_code
def yX4_isLike : MethodName := ⟨RX4, "isLike", "(LNoticeShifts$Sentences;)Z"⟩
def RX5 : String := "NoticeShifts$State"
def TX5 : u_T := fun k => match k with
  | 0 => ("NoticeShifts$State", "sentences", "LNoticeShifts$Sentences;", true)
  | 1 => ("NoticeShifts$State", "rowSizes", "[I", true)
  | 2 => ("NoticeShifts$State", "rows", "[I", true)
  | 3 => ("NoticeShifts$State", "noticeLengths", "[I", true)
  | 4 => ("NoticeShifts$State", "noticeGroups", "[I", true)
  | 5 => ("NoticeShifts$State", "groups", "[I", true)
  | 6 => ("NoticeShifts$State", "bounds", "[I", true)
  | 7 => ("NoticeShifts$State", "hasFile", "[Z", true)
  | 8 => ("NoticeShifts$State", "files", "[LNoticeShifts$Hearing;", true)
  | 9 => ("NoticeShifts$State", "nextMark", "I", false)
  | 10 => ("NoticeShifts$State", "notices", "I", false)
  | _ => ("NoticeShifts$State", "listeners", "I", false)
def tyX5 : Nat → FieldType := fun k => match k with
  | 0 => .object "NoticeShifts$Sentences"
  | 1 => .array .int
  | 2 => .array .int
  | 3 => .array .int
  | 4 => .array .int
  | 5 => .array .int
  | 6 => .array .int
  | 7 => .array .boolean
  | 8 => .array (.object "NoticeShifts$Hearing")
  | 9 => .int
  | 10 => .int
  | _ => .int
abbrev wsX50 : List Cond := u_ws RX5 TX5 12
theorem nmX5 : ∀ a, a < 12 → ∀ b, b < 12 → a ≠ b → (TX5 a).2.1 ≠ (TX5 b).2.1 := by decide +kernel
theorem tyX5_ok : ∀ k, k < 12 → parseFieldDescriptor (TX5 k).2.2.1 = some (tyX5 k) := by decide +kernel
abbrev cX5_init : ByteArray := prog_7_method_1_code
def yX5_init : MethodName := ⟨RX5, "<init>", "()V"⟩
abbrev cX5_hasSentence : ByteArray := prog_7_method_2_code
def yX5_hasSentence : MethodName := ⟨RX5, "hasSentence", "(I)Z"⟩
abbrev cX5_hasNotice : ByteArray := prog_7_method_3_code
def yX5_hasNotice : MethodName := ⟨RX5, "hasNotice", "(I)Z"⟩
abbrev cX5_hasListener : ByteArray := prog_7_method_4_code
def yX5_hasListener : MethodName := ⟨RX5, "hasListener", "(I)Z"⟩
abbrev cX5_isRowFull : ByteArray := prog_7_method_5_code
def yX5_isRowFull : MethodName := ⟨RX5, "isRowFull", "(I)Z"⟩
abbrev cX5_inRow : ByteArray := prog_7_method_6_code
def yX5_inRow : MethodName := ⟨RX5, "inRow", "(II)I"⟩
abbrev cX5_appendToRow : ByteArray := prog_7_method_7_code
def yX5_appendToRow : MethodName := ⟨RX5, "appendToRow", "(II)V"⟩
abbrev cX5_isInRow : ByteArray := prog_7_method_9_code
def yX5_isInRow : MethodName := ⟨RX5, "isInRow", "(II)Z"⟩
abbrev cX5_countBreaksWith : ByteArray := prog_7_method_10_code
def yX5_countBreaksWith : MethodName := ⟨RX5, "countBreaksWith", "(I)I"⟩
abbrev cX5_insertSentence : ByteArray := prog_7_method_11_code
def yX5_insertSentence : MethodName := ⟨RX5, "insertSentence", "(II)V"⟩
abbrev cX5_removeSentence : ByteArray := prog_7_method_12_code
def yX5_removeSentence : MethodName := ⟨RX5, "removeSentence", "(I)V"⟩
abbrev cX5_moveSentence : ByteArray := prog_7_method_13_code
def yX5_moveSentence : MethodName := ⟨RX5, "moveSentence", "(II)V"⟩
abbrev cX5_copyFrom : ByteArray := prog_7_method_14_code
def yX5_copyFrom : MethodName := ⟨RX5, "copyFrom", "(LNoticeShifts$State;)V"⟩
def RX6 : String := "NoticeShifts"
def TX6 : u_T := fun k => match k with
  | 0 => ("NoticeShifts", "now", "LNoticeShifts$State;", true)
  | 1 => ("NoticeShifts", "history", "LNoticeShifts$History;", true)
  | 2 => ("NoticeShifts", "slots", "[LNoticeShifts$State;", true)
  | 3 => ("NoticeShifts", "isSaved", "[Z", true)
  | 4 => ("NoticeShifts", "pad", "LNoticeShifts$Pad;", true)
  | 5 => ("NoticeShifts", "chooser", "LNoticeShifts$Chooser;", true)
  | _ => ("NoticeShifts", "hearingNow", "LNoticeShifts$Hearing;", true)
def tyX6 : Nat → FieldType := fun k => match k with
  | 0 => .object "NoticeShifts$State"
  | 1 => .object "NoticeShifts$History"
  | 2 => .array (.object "NoticeShifts$State")
  | 3 => .array .boolean
  | 4 => .object "NoticeShifts$Pad"
  | 5 => .object "NoticeShifts$Chooser"
  | _ => .object "NoticeShifts$Hearing"
abbrev wsX60 : List Cond := u_ws RX6 TX6 7
theorem nmX6 : ∀ a, a < 7 → ∀ b, b < 7 → a ≠ b → (TX6 a).2.1 ≠ (TX6 b).2.1 := by decide +kernel
theorem tyX6_ok : ∀ k, k < 7 → parseFieldDescriptor (TX6 k).2.2.1 = some (tyX6 k) := by decide +kernel
abbrev cX6_init : ByteArray := prog_1_method_1_code
def yX6_init : MethodName := ⟨RX6, "<init>", "()V"⟩
abbrev cX6_putIn : ByteArray := prog_1_method_2_code
def yX6_putIn : MethodName := ⟨RX6, "putIn", "(II)I"⟩
abbrev cX6_cutOut : ByteArray := prog_1_method_3_code
def yX6_cutOut : MethodName := ⟨RX6, "cutOut", "(I)I"⟩
abbrev cX6_change : ByteArray := prog_1_method_4_code
def yX6_change : MethodName := ⟨RX6, "change", "(II)I"⟩
abbrev cX6_chapter : ByteArray := prog_1_method_5_code
def yX6_chapter : MethodName := ⟨RX6, "chapter", "(IZ)I"⟩
abbrev cX6_notice : ByteArray := prog_1_method_6_code
def yX6_notice : MethodName := ⟨RX6, "notice", "(II)I"⟩
abbrev cX6_book : ByteArray := prog_1_method_7_code
def yX6_book : MethodName := ⟨RX6, "book", "(II)I"⟩
abbrev cX6_empty : ByteArray := prog_1_method_8_code
def yX6_empty : MethodName := ⟨RX6, "empty", "(I)I"⟩
abbrev cX6_listener : ByteArray := prog_1_method_10_code
def yX6_listener : MethodName := ⟨RX6, "listener", "(II)I"⟩
abbrev cX6_load : ByteArray := prog_1_method_11_code
def yX6_load : MethodName := ⟨RX6, "load", "(IZ)I"⟩
abbrev cX6_sentence : ByteArray := prog_1_method_12_code
def yX6_sentence : MethodName := ⟨RX6, "sentence", "(II)I"⟩
abbrev cX6_marked : ByteArray := prog_1_method_13_code
def yX6_marked : MethodName := ⟨RX6, "marked", "(I)I"⟩
abbrev cX6_booked : ByteArray := prog_1_method_14_code
def yX6_booked : MethodName := ⟨RX6, "booked", "(II)I"⟩
abbrev cX6_ofNotice : ByteArray := prog_1_method_15_code
def yX6_ofNotice : MethodName := ⟨RX6, "ofNotice", "(II)I"⟩
abbrev cX6_of : ByteArray := prog_1_method_16_code
def yX6_of : MethodName := ⟨RX6, "of", "(II)I"⟩
abbrev cX6_count : ByteArray := prog_1_method_17_code
def yX6_count : MethodName := ⟨RX6, "count", "(I)I"⟩
abbrev cX6_heard : ByteArray := prog_1_method_18_code
def yX6_heard : MethodName := ⟨RX6, "heard", "(II)I"⟩
abbrev cX6_whenHeard : ByteArray := prog_1_method_19_code
def yX6_whenHeard : MethodName := ⟨RX6, "whenHeard", "(II)I"⟩
abbrev cX6_heardAt : ByteArray := prog_1_method_20_code
def yX6_heardAt : MethodName := ⟨RX6, "heardAt", "(III)I"⟩
abbrev cX6_chapterAt : ByteArray := prog_1_method_21_code
def yX6_chapterAt : MethodName := ⟨RX6, "chapterAt", "(II)I"⟩
abbrev cX6_open : ByteArray := prog_1_method_22_code
def yX6_open : MethodName := ⟨RX6, "open", "(III)I"⟩
abbrev cX6_enough : ByteArray := prog_1_method_26_code
def yX6_enough : MethodName := ⟨RX6, "enough", "(I)I"⟩
abbrev cX6_isWithin : ByteArray := prog_1_method_33_code
def yX6_isWithin : MethodName := ⟨RX6, "isWithin", "(III)Z"⟩
abbrev cX6_asNumber : ByteArray := prog_1_method_34_code
def yX6_asNumber : MethodName := ⟨RX6, "asNumber", "(Z)I"⟩
abbrev cX6_hearingOf : ByteArray := prog_1_method_36_code
def yX6_hearingOf : MethodName := ⟨RX6, "hearingOf", "(I)LNoticeShifts$Hearing;"⟩
abbrev cX6_hearNow : ByteArray := prog_1_method_37_code
def yX6_hearNow : MethodName := ⟨RX6, "hearNow", "(ILNoticeShifts$Hearing;)V"⟩
abbrev cX6_isOutOfDate : ByteArray := prog_1_method_38_code
def yX6_isOutOfDate : MethodName := ⟨RX6, "isOutOfDate", "(I)Z"⟩
abbrev cX6_outOfDateListeners : ByteArray := prog_1_method_39_code
def yX6_outOfDateListeners : MethodName := ⟨RX6, "outOfDateListeners", "()I"⟩
abbrev cX6_longestListener : ByteArray := prog_1_method_40_code
def yX6_longestListener : MethodName := ⟨RX6, "longestListener", "()I"⟩
abbrev cX6_chooseAll : ByteArray := prog_1_method_42_code
def yX6_chooseAll : MethodName := ⟨RX6, "chooseAll", "(II)V"⟩
abbrev cX6_countHearers : ByteArray := prog_1_method_44_code
def yX6_countHearers : MethodName := ⟨RX6, "countHearers", "(I)I"⟩
def RX7 : String := "NoticeShiftsModel"
def TX7 : u_T := fun k => match k with
  | _ => ("", "", "", false)
def tyX7 : Nat → FieldType := fun k => match k with
  | _ => .int
abbrev wsX70 : List Cond := u_ws RX7 TX7 0
theorem nmX7 : ∀ a, a < 0 → ∀ b, b < 0 → a ≠ b → (TX7 a).2.1 ≠ (TX7 b).2.1 := by decide +kernel
theorem tyX7_ok : ∀ k, k < 0 → parseFieldDescriptor (TX7 k).2.2.1 = some (tyX7 k) := by decide +kernel
def RL : String := "NoticeShiftsLaw"
abbrev cL_cell : ByteArray := method_2_code
def yL_cell : MethodName := ⟨RL, "cell", "([II)I"⟩
abbrev cL_low : ByteArray := method_3_code
def yL_low : MethodName := ⟨RL, "low", "(II)I"⟩
abbrev cL_build : ByteArray := method_4_code
def yL_build : MethodName := ⟨RL, "build", "(LNoticeShifts;[IIII)Z"⟩
abbrev cL_now : ByteArray := method_5_code
def yL_now : MethodName := ⟨RL, "now", "(LNoticeShifts;II[I[I)I"⟩
abbrev cL_isHeard : ByteArray := method_6_code
def yL_isHeard : MethodName := ⟨RL, "isHeard", "(LNoticeShifts;II)Z"⟩
abbrev cL_enough : ByteArray := method_7_code
def yL_enough : MethodName := ⟨RL, "enough", "(LNoticeShifts;I)Z"⟩
abbrev cL_notices : ByteArray := method_8_code
def yL_notices : MethodName := ⟨RL, "notices", "(LNoticeShifts;)Z"⟩
abbrev cL_tells : ByteArray := method_9_code
def yL_tells : MethodName := ⟨RL, "tells", "(LNoticeShifts;I)Z"⟩
abbrev cL_law : ByteArray := code
def yL_law : MethodName := ⟨RL, "law", "([I)Z"⟩
abbrev vwCl : List vw_C := [(RX0, TX0, 6), (RX1, TX1, 3), (RX2, TX2, 3), (RX3, TX3, 2), (RX4, TX4, 4), (RX5, TX5, 12), (RX6, TX6, 7)]
/-- the methods: name, bytes, locals, return type, arguments (with this), kind of answer (0 void, 1 int, 2 reference), class -/
abbrev Mrow : Type := MethodName × ByteArray × Nat × Option FieldType × Nat × Nat × Nat
def mt : List Mrow := [
(yX0_init, cX0_init, 1, none, 1, 0, 0),
(yX0_begin, cX0_begin, 3, none, 3, 0, 0),
(yX0_choose, cX0_choose, 6, (some FieldType.int), 3, 1, 0),
(yX0_isFor, cX0_isFor, 5, (some FieldType.boolean), 3, 1, 0),
(yX1_init, cX1_init, 1, none, 1, 0, 1),
(yX1_breakTime, cX1_breakTime, 4, (some FieldType.int), 2, 1, 1),
(yX1_sentenceTime, cX1_sentenceTime, 2, (some FieldType.int), 2, 1, 1),
(yX1_total, cX1_total, 1, (some FieldType.int), 1, 1, 1),
(yX1_noticeSeconds, cX1_noticeSeconds, 1, (some FieldType.int), 1, 1, 1),
(yX1_countNotices, cX1_countNotices, 3, (some FieldType.int), 1, 1, 1),
(yX1_placeHeardAt, cX1_placeHeardAt, 4, (some FieldType.int), 2, 1, 1),
(yX1_copyFrom, cX1_copyFrom, 2, none, 2, 0, 1),
(yX1_isLike, cX1_isLike, 3, (some FieldType.boolean), 2, 1, 1),
(yX2_init, cX2_init, 2, none, 1, 0, 2),
(yX2_keep, cX2_keep, 2, none, 2, 0, 2),
(yX3_init, cX3_init, 1, none, 1, 0, 3),
(yX4_init, cX4_init, 1, none, 1, 0, 4),
(yX4_timeOf, cX4_timeOf, 4, (some FieldType.int), 2, 1, 4),
(yX4_total, cX4_total, 1, (some FieldType.int), 1, 1, 4),
(yX4_placeAtTime, cX4_placeAtTime, 4, (some FieldType.int), 2, 1, 4),
(yX4_placeOf, cX4_placeOf, 3, (some FieldType.int), 2, 1, 4),
(yX4_chapterOf, cX4_chapterOf, 4, (some FieldType.int), 2, 1, 4),
(yX4_chapters, cX4_chapters, 1, (some FieldType.int), 1, 1, 4),
(yX4_firstOfChapter, cX4_firstOfChapter, 4, (some FieldType.int), 2, 1, 4),
(yX4_copyFrom, cX4_copyFrom, 2, none, 2, 0, 4),
(yX4_isLike, cX4_isLike, 3, (some FieldType.boolean), 2, 1, 4),
(yX5_init, cX5_init, 2, none, 1, 0, 5),
(yX5_hasSentence, cX5_hasSentence, 2, (some FieldType.boolean), 2, 1, 5),
(yX5_hasNotice, cX5_hasNotice, 2, (some FieldType.boolean), 2, 1, 5),
(yX5_hasListener, cX5_hasListener, 2, (some FieldType.boolean), 2, 1, 5),
(yX5_isRowFull, cX5_isRowFull, 2, (some FieldType.boolean), 2, 1, 5),
(yX5_inRow, cX5_inRow, 3, (some FieldType.int), 3, 1, 5),
(yX5_appendToRow, cX5_appendToRow, 3, none, 3, 0, 5),
(yX5_isInRow, cX5_isInRow, 4, (some FieldType.boolean), 3, 1, 5),
(yX5_countBreaksWith, cX5_countBreaksWith, 4, (some FieldType.int), 2, 1, 5),
(yX5_insertSentence, cX5_insertSentence, 4, none, 3, 0, 5),
(yX5_removeSentence, cX5_removeSentence, 3, none, 2, 0, 5),
(yX5_moveSentence, cX5_moveSentence, 3, none, 3, 0, 5),
(yX5_copyFrom, cX5_copyFrom, 3, none, 2, 0, 5),
(yX6_init, cX6_init, 2, none, 1, 0, 6),
(yX6_putIn, cX6_putIn, 3, (some FieldType.int), 3, 1, 6),
(yX6_cutOut, cX6_cutOut, 3, (some FieldType.int), 2, 1, 6),
(yX6_change, cX6_change, 4, (some FieldType.int), 3, 1, 6),
(yX6_chapter, cX6_chapter, 4, (some FieldType.int), 3, 1, 6),
(yX6_notice, cX6_notice, 4, (some FieldType.int), 3, 1, 6),
(yX6_book, cX6_book, 3, (some FieldType.int), 3, 1, 6),
(yX6_empty, cX6_empty, 3, (some FieldType.int), 2, 1, 6),
(yX6_listener, cX6_listener, 4, (some FieldType.int), 3, 1, 6),
(yX6_load, cX6_load, 3, (some FieldType.int), 3, 1, 6),
(yX6_sentence, cX6_sentence, 3, (some FieldType.int), 3, 1, 6),
(yX6_marked, cX6_marked, 2, (some FieldType.int), 2, 1, 6),
(yX6_booked, cX6_booked, 3, (some FieldType.int), 3, 1, 6),
(yX6_ofNotice, cX6_ofNotice, 3, (some FieldType.int), 3, 1, 6),
(yX6_of, cX6_of, 3, (some FieldType.int), 3, 1, 6),
(yX6_count, cX6_count, 2, (some FieldType.int), 2, 1, 6),
(yX6_heard, cX6_heard, 4, (some FieldType.int), 3, 1, 6),
(yX6_whenHeard, cX6_whenHeard, 5, (some FieldType.int), 3, 1, 6),
(yX6_heardAt, cX6_heardAt, 8, (some FieldType.int), 4, 1, 6),
(yX6_chapterAt, cX6_chapterAt, 4, (some FieldType.int), 3, 1, 6),
(yX6_open, cX6_open, 6, (some FieldType.int), 4, 1, 6),
(yX6_enough, cX6_enough, 5, (some FieldType.int), 2, 1, 6),
(yX6_isWithin, cX6_isWithin, 3, (some FieldType.boolean), 3, 1, 6),
(yX6_asNumber, cX6_asNumber, 1, (some FieldType.int), 1, 1, 6),
(yX6_hearingOf, cX6_hearingOf, 2, (some (FieldType.object "NoticeShifts$Hearing")), 2, 2, 6),
(yX6_hearNow, cX6_hearNow, 5, none, 3, 0, 6),
(yX6_isOutOfDate, cX6_isOutOfDate, 2, (some FieldType.boolean), 2, 1, 6),
(yX6_outOfDateListeners, cX6_outOfDateListeners, 3, (some FieldType.int), 1, 1, 6),
(yX6_longestListener, cX6_longestListener, 5, (some FieldType.int), 1, 1, 6),
(yX6_chooseAll, cX6_chooseAll, 4, none, 3, 0, 6),
(yX6_countHearers, cX6_countHearers, 4, (some FieldType.int), 2, 1, 6)]
def mrow (mi : Nat) : Mrow := mt.getD mi (yX0_init, cX0_init, 0, none, 0, 0, 0)
def yM (mi : Nat) : MethodName := (mrow mi).1
def bM (mi : Nat) : ByteArray := (mrow mi).2.1
def lM (mi : Nat) : Nat := (mrow mi).2.2.1
def rM (mi : Nat) : Option FieldType := (mrow mi).2.2.2.1
def nM (mi : Nat) : Nat := (mrow mi).2.2.2.2.1
def kM (mi : Nat) : Nat := (mrow mi).2.2.2.2.2.1
def oM (mi : Nat) : Nat := (mrow mi).2.2.2.2.2.2
abbrev Ent : Type := Nat × Instr × Nat × Nat × Nat × Nat
abbrev Blk : Type := Nat × List Ent × Nat
def gCode : List Cond := mt.map (fun r => Cond.code r.1 r.2.1 r.2.2.1 r.2.2.2.1)
def RX : Nat → String := fun c => match c with
  | 0 => RX0
  | 1 => RX1
  | 2 => RX2
  | 3 => RX3
  | 4 => RX4
  | 5 => RX5
  | 6 => RX6
  | _ => RL
def TX : Nat → u_T := fun c => match c with
  | 0 => TX0
  | 1 => TX1
  | 2 => TX2
  | 3 => TX3
  | 4 => TX4
  | 5 => TX5
  | 6 => TX6
  | _ => TX6
def NX : Nat → Nat := fun c => match c with
  | 0 => 6
  | 1 => 3
  | 2 => 3
  | 3 => 2
  | 4 => 4
  | 5 => 12
  | 6 => 7
  | _ => 0
/-- field links: class, pool number, class of the field, its place -/
def flt : List (Nat × Nat × Nat × Nat) := [(6, 10, 6, 0), (6, 19, 6, 1), (6, 23, 6, 2), (6, 27, 6, 3), (6, 34, 6, 4), (6, 41, 6, 5), (6, 48, 6, 6), (6, 56, 5, 0), (6, 60, 4, 3), (6, 70, 5, 9), (6, 77, 4, 0), (6, 89, 4, 1), (6, 96, 4, 2), (6, 103, 5, 10), (6, 106, 5, 3), (6, 109, 5, 4), (6, 121, 5, 1), (6, 136, 3, 1), (6, 139, 5, 11), (6, 142, 5, 5), (6, 145, 5, 6), (6, 148, 5, 7), (6, 154, 5, 8), (6, 198, 1, 0), (6, 206, 2, 2), (6, 207, 1, 1), (6, 244, 0, 2), (6, 247, 0, 5), (6, 282, 1, 2), (6, 293, 0, 3), (0, 9, 0, 0), (0, 15, 0, 1), (0, 18, 0, 2), (0, 21, 0, 3), (0, 24, 0, 4), (0, 27, 0, 5), (0, 30, 5, 1), (0, 44, 5, 3), (0, 52, 5, 4), (1, 12, 1, 0), (1, 18, 1, 1), (1, 22, 1, 2), (1, 32, 4, 3), (1, 45, 4, 1), (2, 11, 2, 0), (2, 18, 2, 1), (2, 26, 2, 2), (3, 9, 3, 0), (4, 9, 4, 0), (4, 15, 4, 1), (4, 18, 4, 2), (4, 21, 4, 3), (5, 12, 5, 0), (5, 18, 5, 1), (5, 22, 5, 2), (5, 25, 5, 3), (5, 28, 5, 4), (5, 31, 5, 5), (5, 34, 5, 6), (5, 37, 5, 7), (5, 43, 5, 8), (5, 48, 4, 3), (5, 56, 5, 10), (5, 59, 5, 11), (5, 78, 4, 0), (5, 81, 5, 9), (5, 84, 4, 1), (5, 87, 4, 2)]
def gFld : List Cond := flt.map (fun q => Cond.fieldLink (RX q.1) q.2.1 ((TX q.2.2.1) q.2.2.2).1 ((TX q.2.2.1) q.2.2.2).2.1 ((TX q.2.2.1) q.2.2.2).2.2.1)
/-- calls: class, pool number, the method called -/
def cltV : List (Nat × Nat × Nat) := [(0, 36, 31), (0, 40, 3), (1, 25, 17), (1, 29, 5), (1, 36, 7), (1, 40, 18), (1, 48, 24), (1, 58, 25), (2, 22, 38), (4, 25, 17), (4, 29, 21), (5, 62, 31), (5, 66, 33), (5, 74, 37), (5, 96, 24), (5, 100, 11), (6, 52, 35), (6, 73, 14), (6, 81, 27), (6, 85, 36), (6, 99, 22), (6, 112, 28), (6, 115, 30), (6, 118, 32), (6, 151, 29), (6, 158, 64), (6, 162, 63), (6, 166, 7), (6, 169, 17), (6, 173, 21), (6, 176, 20), (6, 179, 31), (6, 183, 34), (6, 186, 69), (6, 189, 65), (6, 192, 9), (6, 195, 8), (6, 199, 18), (6, 200, 66), (6, 203, 67), (6, 209, 19), (6, 212, 6), (6, 215, 10), (6, 218, 23), (6, 221, 5), (6, 241, 68), (6, 272, 24), (6, 275, 1), (6, 278, 2), (6, 283, 12)]
def cltS : List (Nat × Nat × Nat) := [(6, 66, 61), (6, 92, 62)]
def cltN : List (Nat × Nat × Nat) := [(1, 41, 62), (5, 52, 61), (5, 70, 62)]
def clt4 : List (Nat × Nat × Nat) := [(0, 47, 10), (1, 52, 13), (2, 29, 10), (4, 32, 13), (5, 90, 13)]
def gCv1 : List Cond := cltV.map (fun q => Cond.methodLink (RX q.1) q.2.1 (yM q.2.2))
def gCs1 : List Cond := cltS.map (fun q => Cond.methodLink (RX q.1) q.2.1 (yM q.2.2))
def mVs : List Nat := [1, 2, 3, 5, 6, 7, 8, 9, 10, 11, 12, 14, 17, 18, 19, 20, 21, 22, 23, 24, 25, 27, 28, 29, 30, 31, 32, 33, 34, 35, 36, 37, 38, 40, 41, 42, 43, 44, 45, 46, 47, 48, 49, 50, 51, 52, 53, 54, 55, 56, 57, 58, 59, 60, 63, 64, 65, 66, 67, 68, 69]
def mSs : List Nat := [61, 62]
def gCv2 : List Cond := mVs.map (fun k => Cond.instanceMethod (yM k))
def gCv3 : List Cond := mVs.map (fun k => Cond.selects (yM k).cls (yM k) (yM k))
def gCs2 : List Cond := mSs.map (fun k => Cond.static (yM k))
def gIni : List Cond := [0, 1, 2, 3, 4, 5, 6].map (fun c => Cond.initialized (RX c))
def gLay0 : List Cond := u_ws RX0 TX0 6
def gLay1 : List Cond := u_ws RX1 TX1 3
def gLay2 : List Cond := u_ws RX2 TX2 3
def gLay3 : List Cond := u_ws RX3 TX3 2
def gLay4 : List Cond := u_ws RX4 TX4 4
def gLay5 : List Cond := u_ws RX5 TX5 12
def gLay6 : List Cond := u_ws RX6 TX6 7
def yN (c : Nat) : MethodName := if c = 10 then Lib.Math.min.name else arraycopyName
def gNat : List Cond := clt4.map (fun q => Cond.methodLink (RX q.1) q.2.1 (yN q.2.2))
def gNa2 : List Cond := [.static Lib.Math.min.name, .initialized "java/lang/Math", .code Lib.Math.min.name Lib.Math.min.code 2 (some .int), .native arraycopyName, .static arraycopyName, .initialized "java/lang/System"]
def cklt : List (Nat × Nat × Nat) := []
def gCk : List Cond := cklt.map (fun q => Cond.constantLong (RX q.1) q.2.1 (Int64.ofNat q.2.2))
def gW : List Cond := gCode ++ (gFld ++ (gCv1 ++ (gCs1 ++ (gCv2 ++ (gCv3 ++ (gCs2 ++ (gIni ++ (gLay0 ++ (gLay1 ++ (gLay2 ++ (gLay3 ++ (gLay4 ++ (gLay5 ++ (gLay6 ++ (gNat ++ (gNa2 ++ (gCk
)))))))))))))))))
def gPl : List Nat := [173, 314, 318, 326, 66, 339, 497, 335, 382, 377, 509, 258, 369, 139, 245, 159, 35, 343, 387, 493, 357, 293, 289, 484, 253, 373, 29, 271, 425, 305, 450, 322, 454, 433, 429, 202, 276, 206, 249, 21, 238, 267, 280, 284, 417, 446, 297, 463, 301, 347, 353, 458, 421, 361, 392, 476, 489, 505, 480, 501, 516, 241, 212, 331, 309, 365, 397, 401, 442, 438, 213, 214, 215, 216, 217, 218, 219, 85, 48, 104, 38, 41, 45, 107, 92, 95, 88, 162, 109, 97, 99, 101, 103, 71, 147, 73, 178, 183, 75, 180, 175, 176, 177, 179, 181, 182, 87, 91, 94, 70, 72, 74, 50, 42, 144, 145, 146, 161, 37, 40, 44, 49, 84, 86, 89, 90, 93, 96, 98, 100, 102, 47, 106, 108, 39, 105, 43, 46, 319, 323, 340, 336, 383, 384, 259, 370, 246, 388, 290, 434, 430, 203, 250, 255, 199, 242, 268, 273, 286, 422, 447, 451, 302, 306, 328, 332, 348, 349, 354, 459, 426, 435, 362, 374, 379, 393, 394, 398, 490, 494, 506, 481, 485, 439, 310, 311, 315, 366, 239, 285, 312, 316, 324, 337, 495, 333, 380, 375, 507, 256, 367, 243, 341, 385, 491, 355, 291, 287, 482, 251, 371, 269, 423, 303, 448, 320, 452, 431, 427, 200, 274, 204, 247, 236, 265, 278, 282, 415, 444, 295, 461, 299, 345, 351, 456, 419, 359, 390, 474, 487, 503, 478, 499, 514, 330, 308, 364, 396, 400, 441, 437, 313, 317, 325, 338, 496, 334, 381, 376, 508, 257, 368, 244, 342, 386, 492, 356, 292, 288, 483, 252, 372, 270, 424, 304, 449, 321, 453, 432, 428, 201, 275, 205, 248, 237, 266, 279, 283, 416, 445, 296, 462, 300, 346, 352, 457, 420, 360, 391, 475, 488, 504, 479, 500, 515, 1, 0, 2, 3, 4, 6, 5, 240, 211, 14, 11, 12, 13, 10, 9, 8, 184, 186, 188, 190, 192, 194, 76, 78, 80, 148, 150, 152, 163, 165, 51, 53, 55, 57, 110, 112, 114, 116, 118, 120, 122, 124, 126, 128, 130, 132, 220, 222, 224, 226, 228, 230, 232, 327, 260, 261, 254, 207, 262, 16, 263, 209, 208, 15]
theorem in_gCode : ∀ w ∈ gCode, w ∈ gW := fun _ h => (List.mem_append_left _ h)
theorem in_gFld : ∀ w ∈ gFld, w ∈ gW := fun _ h => (List.mem_append_right _ (List.mem_append_left _ h))
theorem in_gCv1 : ∀ w ∈ gCv1, w ∈ gW := fun _ h => (List.mem_append_right _ (List.mem_append_right _ (List.mem_append_left _ h)))
theorem in_gCs1 : ∀ w ∈ gCs1, w ∈ gW := fun _ h => (List.mem_append_right _ (List.mem_append_right _ (List.mem_append_right _ (List.mem_append_left _ h))))
theorem in_gCv2 : ∀ w ∈ gCv2, w ∈ gW := fun _ h => (List.mem_append_right _ (List.mem_append_right _ (List.mem_append_right _ (List.mem_append_right _ (List.mem_append_left _ h)))))
theorem in_gCv3 : ∀ w ∈ gCv3, w ∈ gW := fun _ h => (List.mem_append_right _ (List.mem_append_right _ (List.mem_append_right _ (List.mem_append_right _ (List.mem_append_right _ (List.mem_append_left _ h))))))
theorem in_gCs2 : ∀ w ∈ gCs2, w ∈ gW := fun _ h => (List.mem_append_right _ (List.mem_append_right _ (List.mem_append_right _ (List.mem_append_right _ (List.mem_append_right _ (List.mem_append_right _ (List.mem_append_left _ h)))))))
theorem in_gIni : ∀ w ∈ gIni, w ∈ gW := fun _ h => (List.mem_append_right _ (List.mem_append_right _ (List.mem_append_right _ (List.mem_append_right _ (List.mem_append_right _ (List.mem_append_right _ (List.mem_append_right _ (List.mem_append_left _ h))))))))
theorem in_gLay0 : ∀ w ∈ gLay0, w ∈ gW := fun _ h => (List.mem_append_right _ (List.mem_append_right _ (List.mem_append_right _ (List.mem_append_right _ (List.mem_append_right _ (List.mem_append_right _ (List.mem_append_right _ (List.mem_append_right _ (List.mem_append_left _ h)))))))))
theorem in_gLay1 : ∀ w ∈ gLay1, w ∈ gW := fun _ h => (List.mem_append_right _ (List.mem_append_right _ (List.mem_append_right _ (List.mem_append_right _ (List.mem_append_right _ (List.mem_append_right _ (List.mem_append_right _ (List.mem_append_right _ (List.mem_append_right _ (List.mem_append_left _ h))))))))))
theorem in_gLay2 : ∀ w ∈ gLay2, w ∈ gW := fun _ h => (List.mem_append_right _ (List.mem_append_right _ (List.mem_append_right _ (List.mem_append_right _ (List.mem_append_right _ (List.mem_append_right _ (List.mem_append_right _ (List.mem_append_right _ (List.mem_append_right _ (List.mem_append_right _ (List.mem_append_left _ h)))))))))))
theorem in_gLay3 : ∀ w ∈ gLay3, w ∈ gW := fun _ h => (List.mem_append_right _ (List.mem_append_right _ (List.mem_append_right _ (List.mem_append_right _ (List.mem_append_right _ (List.mem_append_right _ (List.mem_append_right _ (List.mem_append_right _ (List.mem_append_right _ (List.mem_append_right _ (List.mem_append_right _ (List.mem_append_left _ h))))))))))))
theorem in_gLay4 : ∀ w ∈ gLay4, w ∈ gW := fun _ h => (List.mem_append_right _ (List.mem_append_right _ (List.mem_append_right _ (List.mem_append_right _ (List.mem_append_right _ (List.mem_append_right _ (List.mem_append_right _ (List.mem_append_right _ (List.mem_append_right _ (List.mem_append_right _ (List.mem_append_right _ (List.mem_append_right _ (List.mem_append_left _ h)))))))))))))
theorem in_gLay5 : ∀ w ∈ gLay5, w ∈ gW := fun _ h => (List.mem_append_right _ (List.mem_append_right _ (List.mem_append_right _ (List.mem_append_right _ (List.mem_append_right _ (List.mem_append_right _ (List.mem_append_right _ (List.mem_append_right _ (List.mem_append_right _ (List.mem_append_right _ (List.mem_append_right _ (List.mem_append_right _ (List.mem_append_right _ (List.mem_append_left _ h))))))))))))))
theorem in_gLay6 : ∀ w ∈ gLay6, w ∈ gW := fun _ h => (List.mem_append_right _ (List.mem_append_right _ (List.mem_append_right _ (List.mem_append_right _ (List.mem_append_right _ (List.mem_append_right _ (List.mem_append_right _ (List.mem_append_right _ (List.mem_append_right _ (List.mem_append_right _ (List.mem_append_right _ (List.mem_append_right _ (List.mem_append_right _ (List.mem_append_right _ (List.mem_append_left _ h)))))))))))))))
theorem in_gNat : ∀ w ∈ gNat, w ∈ gW := fun _ h => (List.mem_append_right _ (List.mem_append_right _ (List.mem_append_right _ (List.mem_append_right _ (List.mem_append_right _ (List.mem_append_right _ (List.mem_append_right _ (List.mem_append_right _ (List.mem_append_right _ (List.mem_append_right _ (List.mem_append_right _ (List.mem_append_right _ (List.mem_append_right _ (List.mem_append_right _ (List.mem_append_right _ (List.mem_append_left _ h))))))))))))))))
theorem in_gNa2 : ∀ w ∈ gNa2, w ∈ gW := fun _ h => (List.mem_append_right _ (List.mem_append_right _ (List.mem_append_right _ (List.mem_append_right _ (List.mem_append_right _ (List.mem_append_right _ (List.mem_append_right _ (List.mem_append_right _ (List.mem_append_right _ (List.mem_append_right _ (List.mem_append_right _ (List.mem_append_right _ (List.mem_append_right _ (List.mem_append_right _ (List.mem_append_right _ (List.mem_append_right _ (List.mem_append_left _ h)))))))))))))))))
theorem in_gCk : ∀ w ∈ gCk, w ∈ gW := fun _ h => (List.mem_append_right _ (List.mem_append_right _ (List.mem_append_right _ (List.mem_append_right _ (List.mem_append_right _ (List.mem_append_right _ (List.mem_append_right _ (List.mem_append_right _ (List.mem_append_right _ (List.mem_append_right _ (List.mem_append_right _ (List.mem_append_right _ (List.mem_append_right _ (List.mem_append_right _ (List.mem_append_right _ (List.mem_append_right _ (List.mem_append_right _ h)))))))))))))))))
set_option maxRecDepth 100000 in
theorem gW_pl : gW = gPl.filterMap (fun i => lw_tbl[i]?) := rfl
theorem gW_good : gW.all goodWord = true := by decide +kernel
theorem gW_in : ∀ w ∈ gW, w ∈ lw_tbl := by
  intro w hw
  rw [gW_pl] at hw
  obtain ⟨i, -, hi⟩ := List.mem_filterMap.mp hw
  exact List.mem_of_getElem? hi
theorem gW_gd {w : Cond} (hw : w ∈ gW) : (w.onTables && w.keeps) = true ∨ ∃ ty, w = .arrayClass ty := good_of_word (List.all_eq_true.mp gW_good w hw)
theorem gW_self : GoodIn gW gW := fun w hw => ⟨hw, gW_gd hw⟩
/-- the words of method mi -/
def wsM (mi : Nat) : List Cond := Cond.code (yM mi) (bM mi) (lM mi) (rM mi) :: gW
def nestW : List Cond := cltN.map (fun q => Cond.methodLinkNest (RX q.1) q.2.1 (yM q.2.2) RX6)
def nestPl : List Nat := [378, 272, 210]
set_option maxRecDepth 100000 in
theorem nest_pl : nestW = nestPl.filterMap (fun i => lw_tbl[i]?) := rfl
end
section
-- NoticeShifts$Chooser.begin
def l1_0 : List Ent := [(0, .aload_n 0, 0, 0, 0, 0), (1, .iload_n 1, 0, 0, 0, 0), (2, .putfield 9, 0, 0, 0, 0), (5, .aload_n 0, 0, 0, 0, 0), (6, .iload_n 2, 0, 0, 0, 0), (7, .putfield 15, 0, 1, 0, 0), (10, .aload_n 0, 0, 0, 0, 0), (11, .iconst 0, 0, 0, 0, 0), (12, .putfield 18, 0, 2, 0, 0), (15, .aload_n 0, 0, 0, 0, 0), (16, .iconst 0, 0, 0, 0, 0), (17, .putfield 21, 0, 3, 0, 0), (20, .aload_n 0, 0, 0, 0, 0), (21, .iconst 0, 0, 0, 0, 0), (22, .putfield 24, 0, 4, 0, 0), (25, .aload_n 0, 0, 0, 0, 0), (26, .sipush 600, 0, 0, 0, 0), (29, .putfield 27, 0, 5, 0, 0), (32, .return_, 0, 0, 0, 0)]
def bk1 : List Blk := [(0, l1_0, 33)]
-- NoticeShifts$Chooser.choose
def l2_0 : List Ent := [(0, .iconst 0, 0, 0, 0, 0), (1, .istore_n 3, 0, 0, 0, 0)]
def l2_2 : List Ent := [(2, .iload_n 3, 0, 0, 0, 0), (3, .aload_n 1, 0, 0, 0, 0), (4, .getfield 30, 5, 1, 7, 0), (7, .iload_n 2, 0, 0, 0, 0), (8, .iaload, 0, 0, 0, 0), (9, .if_icmp .ge 98, 107, 0, 0, 0), (12, .aload_n 1, 0, 0, 0, 0), (13, .iload_n 2, 0, 0, 0, 0), (14, .iload_n 3, 0, 0, 0, 0), (15, .invokevirtual 36, 31, 3, 1, 5)]
def l2_18 : List Ent := [(18, .istore 4, 0, 0, 0, 0), (20, .aload_n 0, 0, 0, 0, 0), (21, .aload_n 1, 0, 0, 0, 0), (22, .iload 4, 0, 0, 0, 0), (24, .invokevirtual 40, 3, 3, 1, 0)]
def l2_27 : List Ent := [(27, .ifCond .ne 6, 33, 0, 0, 0), (30, .goto 71, 101, 0, 0, 0)]
def l2_33 : List Ent := [(33, .aload_n 0, 0, 0, 0, 0), (34, .getfield 24, 0, 4, 0, 0), (37, .aload_n 1, 0, 0, 0, 0), (38, .getfield 44, 5, 3, 9, 0), (41, .iload 4, 0, 0, 0, 0), (43, .iaload, 0, 0, 0, 0), (44, .iadd, 0, 0, 0, 0), (45, .istore 5, 0, 0, 0, 0), (47, .iload 5, 0, 0, 0, 0), (49, .aload_n 0, 0, 0, 0, 0), (50, .getfield 15, 0, 1, 0, 0), (53, .if_icmp .gt 35, 88, 0, 0, 0), (56, .aload_n 0, 0, 0, 0, 0), (57, .dup, 0, 0, 0, 0), (58, .getfield 18, 0, 2, 0, 0), (61, .iconst 1, 0, 0, 0, 0), (62, .iadd, 0, 0, 0, 0), (63, .putfield 18, 0, 2, 0, 0), (66, .aload_n 0, 0, 0, 0, 0), (67, .dup, 0, 0, 0, 0), (68, .getfield 21, 0, 3, 0, 0), (71, .iconst 1, 0, 0, 0, 0), (72, .iload 4, 0, 0, 0, 0), (74, .ishl, 0, 0, 0, 0), (75, .ior, 0, 0, 0, 0), (76, .putfield 21, 0, 3, 0, 0), (79, .aload_n 0, 0, 0, 0, 0), (80, .iload 5, 0, 0, 0, 0), (82, .putfield 24, 0, 4, 0, 0), (85, .iload 4, 0, 0, 0, 0), (87, .ireturn, 0, 0, 0, 0)]
def l2_88 : List Ent := [(88, .aload_n 0, 0, 0, 0, 0), (89, .aload_n 0, 0, 0, 0, 0), (90, .getfield 27, 0, 5, 0, 0), (93, .iload 5, 0, 0, 0, 0), (95, .invokestatic 47, 0, 0, 10, 0), (98, .putfield 27, 0, 5, 0, 0)]
def l2_101 : List Ent := [(101, .iinc 3 1, 0, 0, 0, 0), (104, .goto (-102), 2, 0, 0, 0)]
def l2_107 : List Ent := [(107, .bipush (-6), 0, 0, 0, 0), (109, .ireturn, 0, 0, 0, 0)]
def bk2 : List Blk := [(0, l2_0, 2), (2, l2_2, 18), (18, l2_18, 27), (27, l2_27, 33), (33, l2_33, 88), (88, l2_88, 101), (101, l2_101, 107), (107, l2_107, 110)]
-- NoticeShifts$Chooser.isFor
def l3_0 : List Ent := [(0, .aload_n 1, 0, 0, 0, 0), (1, .getfield 52, 5, 4, 10, 0), (4, .iload_n 2, 0, 0, 0, 0), (5, .iaload, 0, 0, 0, 0), (6, .aload_n 0, 0, 0, 0, 0), (7, .getfield 9, 0, 0, 0, 0), (10, .ishr, 0, 0, 0, 0), (11, .iconst 1, 0, 0, 0, 0), (12, .iand, 0, 0, 0, 0), (13, .iconst 1, 0, 0, 0, 0), (14, .if_icmp .ne 7, 21, 0, 0, 0), (17, .iconst 1, 0, 0, 0, 0), (18, .goto 4, 22, 0, 0, 0)]
def l3_21 : List Ent := [(21, .iconst 0, 0, 0, 0, 0)]
def l3_22 : List Ent := [(22, .istore_n 3, 0, 0, 0, 0), (23, .aload_n 0, 0, 0, 0, 0), (24, .getfield 21, 0, 3, 0, 0), (27, .iload_n 2, 0, 0, 0, 0), (28, .ishr, 0, 0, 0, 0), (29, .iconst 1, 0, 0, 0, 0), (30, .iand, 0, 0, 0, 0), (31, .iconst 1, 0, 0, 0, 0), (32, .if_icmp .ne 7, 39, 0, 0, 0), (35, .iconst 1, 0, 0, 0, 0), (36, .goto 4, 40, 0, 0, 0)]
def l3_39 : List Ent := [(39, .iconst 0, 0, 0, 0, 0)]
def l3_40 : List Ent := [(40, .istore 4, 0, 0, 0, 0), (42, .iload_n 3, 0, 0, 0, 0), (43, .ifCond .eq 12, 55, 0, 0, 0), (46, .iload 4, 0, 0, 0, 0), (48, .ifCond .ne 7, 55, 0, 0, 0), (51, .iconst 1, 0, 0, 0, 0), (52, .goto 4, 56, 0, 0, 0)]
def l3_55 : List Ent := [(55, .iconst 0, 0, 0, 0, 0)]
def l3_56 : List Ent := [(56, .ireturn, 1, 0, 0, 0)]
def bk3 : List Blk := [(0, l3_0, 21), (21, l3_21, 22), (22, l3_22, 39), (39, l3_39, 40), (40, l3_40, 55), (55, l3_55, 56), (56, l3_56, 57)]
-- NoticeShifts$Hearing.breakTime
def l5_0 : List Ent := [(0, .aload_n 0, 0, 0, 0, 0), (1, .getfield 12, 1, 0, 3, 0), (4, .iload_n 1, 0, 0, 0, 0), (5, .invokevirtual 25, 17, 2, 1, 4)]
def l5_8 : List Ent := [(8, .istore_n 2, 0, 0, 0, 0), (9, .iconst 0, 0, 0, 0, 0), (10, .istore_n 3, 0, 0, 0, 0)]
def l5_11 : List Ent := [(11, .iload_n 3, 0, 0, 0, 0), (12, .iload_n 1, 0, 0, 0, 0), (13, .if_icmp .ge 18, 31, 0, 0, 0), (16, .iload_n 2, 0, 0, 0, 0), (17, .aload_n 0, 0, 0, 0, 0), (18, .getfield 22, 1, 2, 8, 0), (21, .iload_n 3, 0, 0, 0, 0), (22, .iaload, 0, 0, 0, 0), (23, .iadd, 0, 0, 0, 0), (24, .istore_n 2, 0, 0, 0, 0), (25, .iinc 3 1, 0, 0, 0, 0), (28, .goto (-17), 11, 0, 0, 0)]
def l5_31 : List Ent := [(31, .iload_n 2, 0, 0, 0, 0), (32, .ireturn, 0, 0, 0, 0)]
def bk5 : List Blk := [(0, l5_0, 8), (8, l5_8, 11), (11, l5_11, 31), (31, l5_31, 33)]
-- NoticeShifts$Hearing.sentenceTime
def l6_0 : List Ent := [(0, .aload_n 0, 0, 0, 0, 0), (1, .iload_n 1, 0, 0, 0, 0), (2, .invokevirtual 29, 5, 2, 1, 1)]
def l6_5 : List Ent := [(5, .aload_n 0, 0, 0, 0, 0), (6, .getfield 22, 1, 2, 8, 0), (9, .iload_n 1, 0, 0, 0, 0), (10, .iaload, 0, 0, 0, 0), (11, .iadd, 0, 0, 0, 0), (12, .ireturn, 0, 0, 0, 0)]
def bk6 : List Blk := [(0, l6_0, 5), (5, l6_5, 13)]
-- NoticeShifts$Hearing.total
def l7_0 : List Ent := [(0, .aload_n 0, 0, 0, 0, 0), (1, .aload_n 0, 0, 0, 0, 0), (2, .getfield 12, 1, 0, 3, 0), (5, .getfield 32, 4, 3, 0, 0), (8, .invokevirtual 29, 5, 2, 1, 1)]
def l7_11 : List Ent := [(11, .ireturn, 0, 0, 0, 0)]
def bk7 : List Blk := [(0, l7_0, 11), (11, l7_11, 12)]
-- NoticeShifts$Hearing.noticeSeconds
def l8_0 : List Ent := [(0, .aload_n 0, 0, 0, 0, 0), (1, .invokevirtual 36, 7, 1, 1, 1)]
def l8_4 : List Ent := [(4, .aload_n 0, 0, 0, 0, 0), (5, .getfield 12, 1, 0, 3, 0), (8, .invokevirtual 40, 18, 1, 1, 4)]
def l8_11 : List Ent := [(11, .isub, 0, 0, 0, 0), (12, .ireturn, 0, 0, 0, 0)]
def bk8 : List Blk := [(0, l8_0, 4), (4, l8_4, 11), (11, l8_11, 13)]
-- NoticeShifts$Hearing.countNotices
def l9_0 : List Ent := [(0, .iconst 0, 0, 0, 0, 0), (1, .istore_n 1, 0, 0, 0, 0), (2, .iconst 0, 0, 0, 0, 0), (3, .istore_n 2, 0, 0, 0, 0)]
def l9_4 : List Ent := [(4, .iload_n 2, 0, 0, 0, 0), (5, .aload_n 0, 0, 0, 0, 0), (6, .getfield 12, 1, 0, 3, 0), (9, .getfield 32, 4, 3, 0, 0), (12, .if_icmp .ge 31, 43, 0, 0, 0), (15, .iload_n 1, 0, 0, 0, 0), (16, .aload_n 0, 0, 0, 0, 0), (17, .getfield 18, 1, 1, 7, 0), (20, .iload_n 2, 0, 0, 0, 0), (21, .iaload, 0, 0, 0, 0), (22, .bipush (-6), 0, 0, 0, 0), (24, .if_icmp .eq 7, 31, 0, 0, 0), (27, .iconst 1, 0, 0, 0, 0), (28, .goto 4, 32, 0, 0, 0)]
def l9_31 : List Ent := [(31, .iconst 0, 0, 0, 0, 0)]
def l9_32 : List Ent := [(32, .invokestatic 41, 62, 1, 2, 0)]
def l9_35 : List Ent := [(35, .iadd, 0, 0, 0, 0), (36, .istore_n 1, 0, 0, 0, 0), (37, .iinc 2 1, 0, 0, 0, 0), (40, .goto (-36), 4, 0, 0, 0)]
def l9_43 : List Ent := [(43, .iload_n 1, 0, 0, 0, 0), (44, .ireturn, 0, 0, 0, 0)]
def bk9 : List Blk := [(0, l9_0, 4), (4, l9_4, 31), (31, l9_31, 32), (32, l9_32, 35), (35, l9_35, 43), (43, l9_43, 45)]
-- NoticeShifts$Hearing.placeHeardAt
def l10_0 : List Ent := [(0, .iconst 0, 0, 0, 0, 0), (1, .istore_n 2, 0, 0, 0, 0), (2, .iconst 0, 0, 0, 0, 0), (3, .istore_n 3, 0, 0, 0, 0)]
def l10_4 : List Ent := [(4, .iload_n 3, 0, 0, 0, 0), (5, .aload_n 0, 0, 0, 0, 0), (6, .getfield 12, 1, 0, 3, 0), (9, .getfield 32, 4, 3, 0, 0), (12, .if_icmp .ge 35, 47, 0, 0, 0), (15, .iload_n 2, 0, 0, 0, 0), (16, .aload_n 0, 0, 0, 0, 0), (17, .getfield 22, 1, 2, 8, 0), (20, .iload_n 3, 0, 0, 0, 0), (21, .iaload, 0, 0, 0, 0), (22, .aload_n 0, 0, 0, 0, 0), (23, .getfield 12, 1, 0, 3, 0), (26, .getfield 45, 4, 1, 4, 0), (29, .iload_n 3, 0, 0, 0, 0), (30, .iaload, 0, 0, 0, 0), (31, .iadd, 0, 0, 0, 0), (32, .iadd, 0, 0, 0, 0), (33, .istore_n 2, 0, 0, 0, 0), (34, .iload_n 1, 0, 0, 0, 0), (35, .iload_n 2, 0, 0, 0, 0), (36, .if_icmp .ge 5, 41, 0, 0, 0), (39, .iload_n 3, 0, 0, 0, 0), (40, .ireturn, 0, 0, 0, 0)]
def l10_41 : List Ent := [(41, .iinc 3 1, 0, 0, 0, 0), (44, .goto (-40), 4, 0, 0, 0)]
def l10_47 : List Ent := [(47, .bipush (-6), 0, 0, 0, 0), (49, .ireturn, 0, 0, 0, 0)]
def bk10 : List Blk := [(0, l10_0, 4), (4, l10_4, 41), (41, l10_41, 47), (47, l10_47, 50)]
-- NoticeShifts$Hearing.copyFrom
def l11_0 : List Ent := [(0, .aload_n 0, 0, 0, 0, 0), (1, .getfield 12, 1, 0, 3, 0), (4, .aload_n 1, 0, 0, 0, 0), (5, .getfield 12, 1, 0, 3, 0), (8, .invokevirtual 48, 24, 2, 0, 4)]
def l11_11 : List Ent := [(11, .aload_n 1, 0, 0, 0, 0), (12, .getfield 18, 1, 1, 7, 0), (15, .iconst 0, 0, 0, 0, 0), (16, .aload_n 0, 0, 0, 0, 0), (17, .getfield 18, 1, 1, 7, 0), (20, .iconst 0, 0, 0, 0, 0), (21, .aload_n 0, 0, 0, 0, 0), (22, .getfield 12, 1, 0, 3, 0), (25, .getfield 32, 4, 3, 0, 0), (28, .invokestatic 52, 0, 0, 13, 0), (31, .aload_n 1, 0, 0, 0, 0), (32, .getfield 22, 1, 2, 8, 0), (35, .iconst 0, 0, 0, 0, 0), (36, .aload_n 0, 0, 0, 0, 0), (37, .getfield 22, 1, 2, 8, 0), (40, .iconst 0, 0, 0, 0, 0), (41, .aload_n 0, 0, 0, 0, 0), (42, .getfield 12, 1, 0, 3, 0), (45, .getfield 32, 4, 3, 0, 0), (48, .invokestatic 52, 0, 0, 13, 0), (51, .return_, 0, 0, 0, 0)]
def bk11 : List Blk := [(0, l11_0, 11), (11, l11_11, 52)]
-- NoticeShifts$Hearing.isLike
def l12_0 : List Ent := [(0, .aload_n 0, 0, 0, 0, 0), (1, .getfield 12, 1, 0, 3, 0), (4, .aload_n 1, 0, 0, 0, 0), (5, .getfield 12, 1, 0, 3, 0), (8, .invokevirtual 58, 25, 2, 1, 4)]
def l12_11 : List Ent := [(11, .ifCond .ne 5, 16, 0, 0, 0), (14, .iconst 0, 0, 0, 0, 0), (15, .ireturn, 1, 0, 0, 0)]
def l12_16 : List Ent := [(16, .iconst 0, 0, 0, 0, 0), (17, .istore_n 2, 0, 0, 0, 0)]
def l12_18 : List Ent := [(18, .iload_n 2, 0, 0, 0, 0), (19, .aload_n 0, 0, 0, 0, 0), (20, .getfield 12, 1, 0, 3, 0), (23, .getfield 32, 4, 3, 0, 0), (26, .if_icmp .ge 41, 67, 0, 0, 0), (29, .aload_n 0, 0, 0, 0, 0), (30, .getfield 18, 1, 1, 7, 0), (33, .iload_n 2, 0, 0, 0, 0), (34, .iaload, 0, 0, 0, 0), (35, .aload_n 1, 0, 0, 0, 0), (36, .getfield 18, 1, 1, 7, 0), (39, .iload_n 2, 0, 0, 0, 0), (40, .iaload, 0, 0, 0, 0), (41, .if_icmp .ne 18, 59, 0, 0, 0), (44, .aload_n 0, 0, 0, 0, 0), (45, .getfield 22, 1, 2, 8, 0), (48, .iload_n 2, 0, 0, 0, 0), (49, .iaload, 0, 0, 0, 0), (50, .aload_n 1, 0, 0, 0, 0), (51, .getfield 22, 1, 2, 8, 0), (54, .iload_n 2, 0, 0, 0, 0), (55, .iaload, 0, 0, 0, 0), (56, .if_icmp .eq 5, 61, 0, 0, 0)]
def l12_59 : List Ent := [(59, .iconst 0, 0, 0, 0, 0), (60, .ireturn, 1, 0, 0, 0)]
def l12_61 : List Ent := [(61, .iinc 2 1, 0, 0, 0, 0), (64, .goto (-46), 18, 0, 0, 0)]
def l12_67 : List Ent := [(67, .iconst 1, 0, 0, 0, 0), (68, .ireturn, 1, 0, 0, 0)]
def bk12 : List Blk := [(0, l12_0, 11), (11, l12_11, 16), (16, l12_16, 18), (18, l12_18, 59), (59, l12_59, 61), (61, l12_61, 67), (67, l12_67, 69)]
-- NoticeShifts$History.keep
def l14_0 : List Ent := [(0, .aload_n 0, 0, 0, 0, 0), (1, .getfield 11, 2, 0, 3, 0), (4, .aload_n 0, 0, 0, 0, 0), (5, .getfield 18, 2, 1, 0, 0), (8, .aaload, 104, 1, 55, 0), (9, .aload_n 1, 0, 0, 0, 0), (10, .invokevirtual 22, 38, 2, 0, 5)]
def l14_13 : List Ent := [(13, .aload_n 0, 0, 0, 0, 0), (14, .aload_n 0, 0, 0, 0, 0), (15, .getfield 18, 2, 1, 0, 0), (18, .iconst 5, 0, 0, 0, 0), (19, .if_icmp .ne 7, 26, 0, 0, 0), (22, .iconst 0, 0, 0, 0, 0), (23, .goto 9, 32, 0, 0, 0)]
def l14_26 : List Ent := [(26, .aload_n 0, 0, 0, 0, 0), (27, .getfield 18, 2, 1, 0, 0), (30, .iconst 1, 0, 0, 0, 0), (31, .iadd, 0, 0, 0, 0)]
def l14_32 : List Ent := [(32, .putfield 18, 2, 1, 0, 0), (35, .aload_n 0, 0, 0, 0, 0), (36, .aload_n 0, 0, 0, 0, 0), (37, .getfield 26, 2, 2, 0, 0), (40, .iconst 1, 0, 0, 0, 0), (41, .iadd, 0, 0, 0, 0), (42, .bipush 6, 0, 0, 0, 0), (44, .invokestatic 29, 0, 0, 10, 0), (47, .putfield 26, 2, 2, 0, 0), (50, .return_, 0, 0, 0, 0)]
def bk14 : List Blk := [(0, l14_0, 13), (13, l14_13, 26), (26, l14_26, 32), (32, l14_32, 51)]
-- NoticeShifts$Sentences.timeOf
def l17_0 : List Ent := [(0, .iconst 0, 0, 0, 0, 0), (1, .istore_n 2, 0, 0, 0, 0), (2, .iconst 0, 0, 0, 0, 0), (3, .istore_n 3, 0, 0, 0, 0)]
def l17_4 : List Ent := [(4, .iload_n 3, 0, 0, 0, 0), (5, .iload_n 1, 0, 0, 0, 0), (6, .if_icmp .ge 18, 24, 0, 0, 0), (9, .iload_n 2, 0, 0, 0, 0), (10, .aload_n 0, 0, 0, 0, 0), (11, .getfield 15, 4, 1, 4, 0), (14, .iload_n 3, 0, 0, 0, 0), (15, .iaload, 0, 0, 0, 0), (16, .iadd, 0, 0, 0, 0), (17, .istore_n 2, 0, 0, 0, 0), (18, .iinc 3 1, 0, 0, 0, 0), (21, .goto (-17), 4, 0, 0, 0)]
def l17_24 : List Ent := [(24, .iload_n 2, 0, 0, 0, 0), (25, .ireturn, 0, 0, 0, 0)]
def bk17 : List Blk := [(0, l17_0, 4), (4, l17_4, 24), (24, l17_24, 26)]
-- NoticeShifts$Sentences.total
def l18_0 : List Ent := [(0, .aload_n 0, 0, 0, 0, 0), (1, .aload_n 0, 0, 0, 0, 0), (2, .getfield 21, 4, 3, 0, 0), (5, .invokevirtual 25, 17, 2, 1, 4)]
def l18_8 : List Ent := [(8, .ireturn, 0, 0, 0, 0)]
def bk18 : List Blk := [(0, l18_0, 8), (8, l18_8, 9)]
-- NoticeShifts$Sentences.placeAtTime
def l19_0 : List Ent := [(0, .iconst 0, 0, 0, 0, 0), (1, .istore_n 2, 0, 0, 0, 0), (2, .iconst 0, 0, 0, 0, 0), (3, .istore_n 3, 0, 0, 0, 0)]
def l19_4 : List Ent := [(4, .iload_n 3, 0, 0, 0, 0), (5, .aload_n 0, 0, 0, 0, 0), (6, .getfield 21, 4, 3, 0, 0), (9, .if_icmp .ge 25, 34, 0, 0, 0), (12, .iload_n 2, 0, 0, 0, 0), (13, .aload_n 0, 0, 0, 0, 0), (14, .getfield 15, 4, 1, 4, 0), (17, .iload_n 3, 0, 0, 0, 0), (18, .iaload, 0, 0, 0, 0), (19, .iadd, 0, 0, 0, 0), (20, .istore_n 2, 0, 0, 0, 0), (21, .iload_n 1, 0, 0, 0, 0), (22, .iload_n 2, 0, 0, 0, 0), (23, .if_icmp .ge 5, 28, 0, 0, 0), (26, .iload_n 3, 0, 0, 0, 0), (27, .ireturn, 0, 0, 0, 0)]
def l19_28 : List Ent := [(28, .iinc 3 1, 0, 0, 0, 0), (31, .goto (-27), 4, 0, 0, 0)]
def l19_34 : List Ent := [(34, .bipush (-6), 0, 0, 0, 0), (36, .ireturn, 0, 0, 0, 0)]
def bk19 : List Blk := [(0, l19_0, 4), (4, l19_4, 28), (28, l19_28, 34), (34, l19_34, 37)]
-- NoticeShifts$Sentences.placeOf
def l20_0 : List Ent := [(0, .iconst 0, 0, 0, 0, 0), (1, .istore_n 2, 0, 0, 0, 0)]
def l20_2 : List Ent := [(2, .iload_n 2, 0, 0, 0, 0), (3, .aload_n 0, 0, 0, 0, 0), (4, .getfield 21, 4, 3, 0, 0), (7, .if_icmp .ge 21, 28, 0, 0, 0), (10, .aload_n 0, 0, 0, 0, 0), (11, .getfield 9, 4, 0, 3, 0), (14, .iload_n 2, 0, 0, 0, 0), (15, .iaload, 0, 0, 0, 0), (16, .iload_n 1, 0, 0, 0, 0), (17, .if_icmp .ne 5, 22, 0, 0, 0), (20, .iload_n 2, 0, 0, 0, 0), (21, .ireturn, 0, 0, 0, 0)]
def l20_22 : List Ent := [(22, .iinc 2 1, 0, 0, 0, 0), (25, .goto (-23), 2, 0, 0, 0)]
def l20_28 : List Ent := [(28, .iconst (-1), 0, 0, 0, 0), (29, .ireturn, 0, 0, 0, 0)]
def bk20 : List Blk := [(0, l20_0, 2), (2, l20_2, 22), (22, l20_22, 28), (28, l20_28, 30)]
-- NoticeShifts$Sentences.chapterOf
def l21_0 : List Ent := [(0, .iconst 0, 0, 0, 0, 0), (1, .istore_n 2, 0, 0, 0, 0), (2, .iconst 1, 0, 0, 0, 0), (3, .istore_n 3, 0, 0, 0, 0)]
def l21_4 : List Ent := [(4, .iload_n 3, 0, 0, 0, 0), (5, .iload_n 1, 0, 0, 0, 0), (6, .if_icmp .gt 18, 24, 0, 0, 0), (9, .iload_n 2, 0, 0, 0, 0), (10, .aload_n 0, 0, 0, 0, 0), (11, .getfield 18, 4, 2, 5, 0), (14, .iload_n 3, 0, 0, 0, 0), (15, .iaload, 0, 0, 0, 0), (16, .iadd, 0, 0, 0, 0), (17, .istore_n 2, 0, 0, 0, 0), (18, .iinc 3 1, 0, 0, 0, 0), (21, .goto (-17), 4, 0, 0, 0)]
def l21_24 : List Ent := [(24, .iload_n 2, 0, 0, 0, 0), (25, .ireturn, 0, 0, 0, 0)]
def bk21 : List Blk := [(0, l21_0, 4), (4, l21_4, 24), (24, l21_24, 26)]
-- NoticeShifts$Sentences.chapters
def l22_0 : List Ent := [(0, .aload_n 0, 0, 0, 0, 0), (1, .aload_n 0, 0, 0, 0, 0), (2, .getfield 21, 4, 3, 0, 0), (5, .iconst 1, 0, 0, 0, 0), (6, .isub, 0, 0, 0, 0), (7, .invokevirtual 29, 21, 2, 1, 4)]
def l22_10 : List Ent := [(10, .iconst 1, 0, 0, 0, 0), (11, .iadd, 0, 0, 0, 0), (12, .ireturn, 0, 0, 0, 0)]
def bk22 : List Blk := [(0, l22_0, 10), (10, l22_10, 13)]
-- NoticeShifts$Sentences.firstOfChapter
def l23_0 : List Ent := [(0, .iconst 0, 0, 0, 0, 0), (1, .istore_n 2, 0, 0, 0, 0), (2, .iconst 0, 0, 0, 0, 0), (3, .istore_n 3, 0, 0, 0, 0)]
def l23_4 : List Ent := [(4, .iload_n 3, 0, 0, 0, 0), (5, .aload_n 0, 0, 0, 0, 0), (6, .getfield 21, 4, 3, 0, 0), (9, .if_icmp .ge 25, 34, 0, 0, 0), (12, .iload_n 2, 0, 0, 0, 0), (13, .aload_n 0, 0, 0, 0, 0), (14, .getfield 18, 4, 2, 5, 0), (17, .iload_n 3, 0, 0, 0, 0), (18, .iaload, 0, 0, 0, 0), (19, .iadd, 0, 0, 0, 0), (20, .istore_n 2, 0, 0, 0, 0), (21, .iload_n 2, 0, 0, 0, 0), (22, .iload_n 1, 0, 0, 0, 0), (23, .if_icmp .le 5, 28, 0, 0, 0), (26, .iload_n 3, 0, 0, 0, 0), (27, .ireturn, 0, 0, 0, 0)]
def l23_28 : List Ent := [(28, .iinc 3 1, 0, 0, 0, 0), (31, .goto (-27), 4, 0, 0, 0)]
def l23_34 : List Ent := [(34, .iconst 0, 0, 0, 0, 0), (35, .ireturn, 0, 0, 0, 0)]
def bk23 : List Blk := [(0, l23_0, 4), (4, l23_4, 28), (28, l23_28, 34), (34, l23_34, 36)]
-- NoticeShifts$Sentences.copyFrom
def l24_0 : List Ent := [(0, .aload_n 0, 0, 0, 0, 0), (1, .aload_n 1, 0, 0, 0, 0), (2, .getfield 21, 4, 3, 0, 0), (5, .putfield 21, 4, 3, 0, 0), (8, .aload_n 1, 0, 0, 0, 0), (9, .getfield 9, 4, 0, 3, 0), (12, .iconst 0, 0, 0, 0, 0), (13, .aload_n 0, 0, 0, 0, 0), (14, .getfield 9, 4, 0, 3, 0), (17, .iconst 0, 0, 0, 0, 0), (18, .aload_n 0, 0, 0, 0, 0), (19, .getfield 21, 4, 3, 0, 0), (22, .invokestatic 32, 0, 0, 13, 0), (25, .aload_n 1, 0, 0, 0, 0), (26, .getfield 15, 4, 1, 4, 0), (29, .iconst 0, 0, 0, 0, 0), (30, .aload_n 0, 0, 0, 0, 0), (31, .getfield 15, 4, 1, 4, 0), (34, .iconst 0, 0, 0, 0, 0), (35, .aload_n 0, 0, 0, 0, 0), (36, .getfield 21, 4, 3, 0, 0), (39, .invokestatic 32, 0, 0, 13, 0), (42, .aload_n 1, 0, 0, 0, 0), (43, .getfield 18, 4, 2, 5, 0), (46, .iconst 0, 0, 0, 0, 0), (47, .aload_n 0, 0, 0, 0, 0), (48, .getfield 18, 4, 2, 5, 0), (51, .iconst 0, 0, 0, 0, 0), (52, .aload_n 0, 0, 0, 0, 0), (53, .getfield 21, 4, 3, 0, 0), (56, .invokestatic 32, 0, 0, 13, 0), (59, .return_, 0, 0, 0, 0)]
def bk24 : List Blk := [(0, l24_0, 60)]
-- NoticeShifts$Sentences.isLike
def l25_0 : List Ent := [(0, .aload_n 0, 0, 0, 0, 0), (1, .getfield 21, 4, 3, 0, 0), (4, .aload_n 1, 0, 0, 0, 0), (5, .getfield 21, 4, 3, 0, 0), (8, .if_icmp .eq 5, 13, 0, 0, 0), (11, .iconst 0, 0, 0, 0, 0), (12, .ireturn, 1, 0, 0, 0)]
def l25_13 : List Ent := [(13, .iconst 0, 0, 0, 0, 0), (14, .istore_n 2, 0, 0, 0, 0)]
def l25_15 : List Ent := [(15, .iload_n 2, 0, 0, 0, 0), (16, .aload_n 0, 0, 0, 0, 0), (17, .getfield 21, 4, 3, 0, 0), (20, .if_icmp .ge 56, 76, 0, 0, 0), (23, .aload_n 0, 0, 0, 0, 0), (24, .getfield 9, 4, 0, 3, 0), (27, .iload_n 2, 0, 0, 0, 0), (28, .iaload, 0, 0, 0, 0), (29, .aload_n 1, 0, 0, 0, 0), (30, .getfield 9, 4, 0, 3, 0), (33, .iload_n 2, 0, 0, 0, 0), (34, .iaload, 0, 0, 0, 0), (35, .if_icmp .ne 33, 68, 0, 0, 0), (38, .aload_n 0, 0, 0, 0, 0), (39, .getfield 15, 4, 1, 4, 0), (42, .iload_n 2, 0, 0, 0, 0), (43, .iaload, 0, 0, 0, 0), (44, .aload_n 1, 0, 0, 0, 0), (45, .getfield 15, 4, 1, 4, 0), (48, .iload_n 2, 0, 0, 0, 0), (49, .iaload, 0, 0, 0, 0), (50, .if_icmp .ne 18, 68, 0, 0, 0), (53, .aload_n 0, 0, 0, 0, 0), (54, .getfield 18, 4, 2, 5, 0), (57, .iload_n 2, 0, 0, 0, 0), (58, .iaload, 0, 0, 0, 0), (59, .aload_n 1, 0, 0, 0, 0), (60, .getfield 18, 4, 2, 5, 0), (63, .iload_n 2, 0, 0, 0, 0), (64, .iaload, 0, 0, 0, 0), (65, .if_icmp .eq 5, 70, 0, 0, 0)]
def l25_68 : List Ent := [(68, .iconst 0, 0, 0, 0, 0), (69, .ireturn, 1, 0, 0, 0)]
def l25_70 : List Ent := [(70, .iinc 2 1, 0, 0, 0, 0), (73, .goto (-58), 15, 0, 0, 0)]
def l25_76 : List Ent := [(76, .iconst 1, 0, 0, 0, 0), (77, .ireturn, 1, 0, 0, 0)]
def bk25 : List Blk := [(0, l25_0, 13), (13, l25_13, 15), (15, l25_15, 68), (68, l25_68, 70), (70, l25_70, 76), (76, l25_76, 78)]
-- NoticeShifts$State.hasSentence
def l27_0 : List Ent := [(0, .iload_n 1, 0, 0, 0, 0), (1, .iconst 0, 0, 0, 0, 0), (2, .aload_n 0, 0, 0, 0, 0), (3, .getfield 12, 5, 0, 3, 0), (6, .getfield 48, 4, 3, 0, 0), (9, .iconst 1, 0, 0, 0, 0), (10, .isub, 0, 0, 0, 0), (11, .invokestatic 52, 61, 3, 2, 0)]
def l27_14 : List Ent := [(14, .ireturn, 1, 0, 0, 0)]
def bk27 : List Blk := [(0, l27_0, 14), (14, l27_14, 15)]
-- NoticeShifts$State.hasNotice
def l28_0 : List Ent := [(0, .iload_n 1, 0, 0, 0, 0), (1, .iconst 0, 0, 0, 0, 0), (2, .aload_n 0, 0, 0, 0, 0), (3, .getfield 56, 5, 10, 0, 0), (6, .iconst 1, 0, 0, 0, 0), (7, .isub, 0, 0, 0, 0), (8, .invokestatic 52, 61, 3, 2, 0)]
def l28_11 : List Ent := [(11, .ireturn, 1, 0, 0, 0)]
def bk28 : List Blk := [(0, l28_0, 11), (11, l28_11, 12)]
-- NoticeShifts$State.hasListener
def l29_0 : List Ent := [(0, .iload_n 1, 0, 0, 0, 0), (1, .iconst 0, 0, 0, 0, 0), (2, .aload_n 0, 0, 0, 0, 0), (3, .getfield 59, 5, 11, 0, 0), (6, .iconst 1, 0, 0, 0, 0), (7, .isub, 0, 0, 0, 0), (8, .invokestatic 52, 61, 3, 2, 0)]
def l29_11 : List Ent := [(11, .ireturn, 1, 0, 0, 0)]
def bk29 : List Blk := [(0, l29_0, 11), (11, l29_11, 12)]
-- NoticeShifts$State.isRowFull
def l30_0 : List Ent := [(0, .aload_n 0, 0, 0, 0, 0), (1, .getfield 18, 5, 1, 7, 0), (4, .iload_n 1, 0, 0, 0, 0), (5, .iaload, 0, 0, 0, 0), (6, .iconst 4, 0, 0, 0, 0), (7, .if_icmp .lt 7, 14, 0, 0, 0), (10, .iconst 1, 0, 0, 0, 0), (11, .goto 4, 15, 0, 0, 0)]
def l30_14 : List Ent := [(14, .iconst 0, 0, 0, 0, 0)]
def l30_15 : List Ent := [(15, .ireturn, 1, 0, 0, 0)]
def bk30 : List Blk := [(0, l30_0, 14), (14, l30_14, 15), (15, l30_15, 16)]
-- NoticeShifts$State.inRow
def l31_0 : List Ent := [(0, .aload_n 0, 0, 0, 0, 0), (1, .getfield 22, 5, 2, 8, 0), (4, .iload_n 1, 0, 0, 0, 0), (5, .iconst 4, 0, 0, 0, 0), (6, .imul, 0, 0, 0, 0), (7, .iload_n 2, 0, 0, 0, 0), (8, .iadd, 0, 0, 0, 0), (9, .iaload, 0, 0, 0, 0), (10, .ireturn, 0, 0, 0, 0)]
def bk31 : List Blk := [(0, l31_0, 11)]
-- NoticeShifts$State.appendToRow
def l32_0 : List Ent := [(0, .aload_n 0, 0, 0, 0, 0), (1, .getfield 22, 5, 2, 8, 0), (4, .iload_n 1, 0, 0, 0, 0), (5, .iconst 4, 0, 0, 0, 0), (6, .imul, 0, 0, 0, 0), (7, .aload_n 0, 0, 0, 0, 0), (8, .getfield 18, 5, 1, 7, 0), (11, .iload_n 1, 0, 0, 0, 0), (12, .iaload, 0, 0, 0, 0), (13, .iadd, 0, 0, 0, 0), (14, .iload_n 2, 0, 0, 0, 0), (15, .iastore, 0, 0, 0, 0), (16, .aload_n 0, 0, 0, 0, 0), (17, .getfield 18, 5, 1, 7, 0), (20, .iload_n 1, 0, 0, 0, 0), (21, .dup2, 0, 0, 0, 0), (22, .iaload, 0, 0, 0, 0), (23, .iconst 1, 0, 0, 0, 0), (24, .iadd, 0, 0, 0, 0), (25, .iastore, 0, 0, 0, 0), (26, .return_, 0, 0, 0, 0)]
def bk32 : List Blk := [(0, l32_0, 27)]
-- NoticeShifts$State.isInRow
def l33_0 : List Ent := [(0, .iconst 0, 0, 0, 0, 0), (1, .istore_n 3, 0, 0, 0, 0)]
def l33_2 : List Ent := [(2, .iload_n 3, 0, 0, 0, 0), (3, .aload_n 0, 0, 0, 0, 0), (4, .getfield 18, 5, 1, 7, 0), (7, .iload_n 1, 0, 0, 0, 0), (8, .iaload, 0, 0, 0, 0), (9, .if_icmp .ge 21, 30, 0, 0, 0), (12, .aload_n 0, 0, 0, 0, 0), (13, .iload_n 1, 0, 0, 0, 0), (14, .iload_n 3, 0, 0, 0, 0), (15, .invokevirtual 62, 31, 3, 1, 5)]
def l33_18 : List Ent := [(18, .iload_n 2, 0, 0, 0, 0), (19, .if_icmp .ne 5, 24, 0, 0, 0), (22, .iconst 1, 0, 0, 0, 0), (23, .ireturn, 1, 0, 0, 0)]
def l33_24 : List Ent := [(24, .iinc 3 1, 0, 0, 0, 0), (27, .goto (-25), 2, 0, 0, 0)]
def l33_30 : List Ent := [(30, .iconst 0, 0, 0, 0, 0), (31, .ireturn, 1, 0, 0, 0)]
def bk33 : List Blk := [(0, l33_0, 2), (2, l33_2, 18), (18, l33_18, 24), (24, l33_24, 30), (30, l33_30, 32)]
-- NoticeShifts$State.countBreaksWith
def l34_0 : List Ent := [(0, .iconst 0, 0, 0, 0, 0), (1, .istore_n 2, 0, 0, 0, 0), (2, .iconst 0, 0, 0, 0, 0), (3, .istore_n 3, 0, 0, 0, 0)]
def l34_4 : List Ent := [(4, .iload_n 3, 0, 0, 0, 0), (5, .aload_n 0, 0, 0, 0, 0), (6, .getfield 12, 5, 0, 3, 0), (9, .getfield 48, 4, 3, 0, 0), (12, .if_icmp .ge 21, 33, 0, 0, 0), (15, .iload_n 2, 0, 0, 0, 0), (16, .aload_n 0, 0, 0, 0, 0), (17, .iload_n 3, 0, 0, 0, 0), (18, .iload_n 1, 0, 0, 0, 0), (19, .invokevirtual 66, 33, 3, 1, 5)]
def l34_22 : List Ent := [(22, .invokestatic 70, 62, 1, 2, 0)]
def l34_25 : List Ent := [(25, .iadd, 0, 0, 0, 0), (26, .istore_n 2, 0, 0, 0, 0), (27, .iinc 3 1, 0, 0, 0, 0), (30, .goto (-26), 4, 0, 0, 0)]
def l34_33 : List Ent := [(33, .iload_n 2, 0, 0, 0, 0), (34, .ireturn, 0, 0, 0, 0)]
def bk34 : List Blk := [(0, l34_0, 4), (4, l34_4, 22), (22, l34_22, 25), (25, l34_25, 33), (33, l34_33, 35)]
-- NoticeShifts$State.insertSentence
def l35_0 : List Ent := [(0, .aload_n 0, 0, 0, 0, 0), (1, .getfield 12, 5, 0, 3, 0), (4, .getfield 48, 4, 3, 0, 0), (7, .istore_n 3, 0, 0, 0, 0)]
def l35_8 : List Ent := [(8, .iload_n 3, 0, 0, 0, 0), (9, .iload_n 1, 0, 0, 0, 0), (10, .if_icmp .le 17, 27, 0, 0, 0), (13, .aload_n 0, 0, 0, 0, 0), (14, .iload_n 3, 0, 0, 0, 0), (15, .iconst 1, 0, 0, 0, 0), (16, .isub, 0, 0, 0, 0), (17, .iload_n 3, 0, 0, 0, 0), (18, .invokevirtual 74, 37, 3, 0, 5)]
def l35_21 : List Ent := [(21, .iinc 3 (-1), 0, 0, 0, 0), (24, .goto (-16), 8, 0, 0, 0)]
def l35_27 : List Ent := [(27, .aload_n 0, 0, 0, 0, 0), (28, .getfield 12, 5, 0, 3, 0), (31, .dup, 0, 0, 0, 0), (32, .getfield 48, 4, 3, 0, 0), (35, .iconst 1, 0, 0, 0, 0), (36, .iadd, 0, 0, 0, 0), (37, .putfield 48, 4, 3, 0, 0), (40, .aload_n 0, 0, 0, 0, 0), (41, .getfield 12, 5, 0, 3, 0), (44, .getfield 78, 4, 0, 3, 0), (47, .iload_n 1, 0, 0, 0, 0), (48, .aload_n 0, 0, 0, 0, 0), (49, .getfield 81, 5, 9, 0, 0), (52, .iastore, 0, 0, 0, 0), (53, .aload_n 0, 0, 0, 0, 0), (54, .getfield 12, 5, 0, 3, 0), (57, .getfield 84, 4, 1, 4, 0), (60, .iload_n 1, 0, 0, 0, 0), (61, .iload_n 2, 0, 0, 0, 0), (62, .iastore, 0, 0, 0, 0), (63, .aload_n 0, 0, 0, 0, 0), (64, .getfield 12, 5, 0, 3, 0), (67, .getfield 87, 4, 2, 5, 0), (70, .iload_n 1, 0, 0, 0, 0), (71, .iload_n 1, 0, 0, 0, 0), (72, .ifCond .ne 7, 79, 0, 0, 0), (75, .iconst 1, 0, 0, 0, 0), (76, .goto 4, 80, 0, 0, 0)]
def l35_79 : List Ent := [(79, .iconst 0, 0, 0, 0, 0)]
def l35_80 : List Ent := [(80, .invokestatic 70, 62, 1, 2, 0)]
def l35_83 : List Ent := [(83, .iastore, 0, 0, 0, 0), (84, .aload_n 0, 0, 0, 0, 0), (85, .getfield 18, 5, 1, 7, 0), (88, .iload_n 1, 0, 0, 0, 0), (89, .iconst 0, 0, 0, 0, 0), (90, .iastore, 0, 0, 0, 0), (91, .aload_n 0, 0, 0, 0, 0), (92, .dup, 0, 0, 0, 0), (93, .getfield 81, 5, 9, 0, 0), (96, .iconst 1, 0, 0, 0, 0), (97, .iadd, 0, 0, 0, 0), (98, .putfield 81, 5, 9, 0, 0), (101, .return_, 0, 0, 0, 0)]
def bk35 : List Blk := [(0, l35_0, 8), (8, l35_8, 21), (21, l35_21, 27), (27, l35_27, 79), (79, l35_79, 80), (80, l35_80, 83), (83, l35_83, 102)]
-- NoticeShifts$State.removeSentence
def l36_0 : List Ent := [(0, .aload_n 0, 0, 0, 0, 0), (1, .getfield 12, 5, 0, 3, 0), (4, .dup, 0, 0, 0, 0), (5, .getfield 48, 4, 3, 0, 0), (8, .iconst 1, 0, 0, 0, 0), (9, .isub, 0, 0, 0, 0), (10, .putfield 48, 4, 3, 0, 0), (13, .iload_n 1, 0, 0, 0, 0), (14, .istore_n 2, 0, 0, 0, 0)]
def l36_15 : List Ent := [(15, .iload_n 2, 0, 0, 0, 0), (16, .aload_n 0, 0, 0, 0, 0), (17, .getfield 12, 5, 0, 3, 0), (20, .getfield 48, 4, 3, 0, 0), (23, .if_icmp .ge 17, 40, 0, 0, 0), (26, .aload_n 0, 0, 0, 0, 0), (27, .iload_n 2, 0, 0, 0, 0), (28, .iconst 1, 0, 0, 0, 0), (29, .iadd, 0, 0, 0, 0), (30, .iload_n 2, 0, 0, 0, 0), (31, .invokevirtual 74, 37, 3, 0, 5)]
def l36_34 : List Ent := [(34, .iinc 2 1, 0, 0, 0, 0), (37, .goto (-22), 15, 0, 0, 0)]
def l36_40 : List Ent := [(40, .aload_n 0, 0, 0, 0, 0), (41, .getfield 12, 5, 0, 3, 0), (44, .getfield 87, 4, 2, 5, 0), (47, .iconst 0, 0, 0, 0, 0), (48, .iconst 1, 0, 0, 0, 0), (49, .iastore, 0, 0, 0, 0), (50, .return_, 0, 0, 0, 0)]
def bk36 : List Blk := [(0, l36_0, 15), (15, l36_15, 34), (34, l36_34, 40), (40, l36_40, 51)]
-- NoticeShifts$State.moveSentence
def l37_0 : List Ent := [(0, .aload_n 0, 0, 0, 0, 0), (1, .getfield 12, 5, 0, 3, 0), (4, .getfield 78, 4, 0, 3, 0), (7, .iload_n 2, 0, 0, 0, 0), (8, .aload_n 0, 0, 0, 0, 0), (9, .getfield 12, 5, 0, 3, 0), (12, .getfield 78, 4, 0, 3, 0), (15, .iload_n 1, 0, 0, 0, 0), (16, .iaload, 0, 0, 0, 0), (17, .iastore, 0, 0, 0, 0), (18, .aload_n 0, 0, 0, 0, 0), (19, .getfield 12, 5, 0, 3, 0), (22, .getfield 84, 4, 1, 4, 0), (25, .iload_n 2, 0, 0, 0, 0), (26, .aload_n 0, 0, 0, 0, 0), (27, .getfield 12, 5, 0, 3, 0), (30, .getfield 84, 4, 1, 4, 0), (33, .iload_n 1, 0, 0, 0, 0), (34, .iaload, 0, 0, 0, 0), (35, .iastore, 0, 0, 0, 0), (36, .aload_n 0, 0, 0, 0, 0), (37, .getfield 12, 5, 0, 3, 0), (40, .getfield 87, 4, 2, 5, 0), (43, .iload_n 2, 0, 0, 0, 0), (44, .aload_n 0, 0, 0, 0, 0), (45, .getfield 12, 5, 0, 3, 0), (48, .getfield 87, 4, 2, 5, 0), (51, .iload_n 1, 0, 0, 0, 0), (52, .iaload, 0, 0, 0, 0), (53, .iastore, 0, 0, 0, 0), (54, .aload_n 0, 0, 0, 0, 0), (55, .getfield 18, 5, 1, 7, 0), (58, .iload_n 2, 0, 0, 0, 0), (59, .aload_n 0, 0, 0, 0, 0), (60, .getfield 18, 5, 1, 7, 0), (63, .iload_n 1, 0, 0, 0, 0), (64, .iaload, 0, 0, 0, 0), (65, .iastore, 0, 0, 0, 0), (66, .aload_n 0, 0, 0, 0, 0), (67, .getfield 22, 5, 2, 8, 0), (70, .iload_n 1, 0, 0, 0, 0), (71, .iconst 4, 0, 0, 0, 0), (72, .imul, 0, 0, 0, 0), (73, .aload_n 0, 0, 0, 0, 0), (74, .getfield 22, 5, 2, 8, 0), (77, .iload_n 2, 0, 0, 0, 0), (78, .iconst 4, 0, 0, 0, 0), (79, .imul, 0, 0, 0, 0), (80, .iconst 4, 0, 0, 0, 0), (81, .invokestatic 90, 0, 0, 13, 0), (84, .return_, 0, 0, 0, 0)]
def bk37 : List Blk := [(0, l37_0, 85)]
-- NoticeShifts$State.copyFrom
def l38_0 : List Ent := [(0, .aload_n 0, 0, 0, 0, 0), (1, .getfield 12, 5, 0, 3, 0), (4, .aload_n 1, 0, 0, 0, 0), (5, .getfield 12, 5, 0, 3, 0), (8, .invokevirtual 96, 24, 2, 0, 4)]
def l38_11 : List Ent := [(11, .aload_n 0, 0, 0, 0, 0), (12, .aload_n 1, 0, 0, 0, 0), (13, .getfield 81, 5, 9, 0, 0), (16, .putfield 81, 5, 9, 0, 0), (19, .aload_n 1, 0, 0, 0, 0), (20, .getfield 18, 5, 1, 7, 0), (23, .iconst 0, 0, 0, 0, 0), (24, .aload_n 0, 0, 0, 0, 0), (25, .getfield 18, 5, 1, 7, 0), (28, .iconst 0, 0, 0, 0, 0), (29, .bipush 24, 0, 0, 0, 0), (31, .invokestatic 90, 0, 0, 13, 0), (34, .aload_n 1, 0, 0, 0, 0), (35, .getfield 22, 5, 2, 8, 0), (38, .iconst 0, 0, 0, 0, 0), (39, .aload_n 0, 0, 0, 0, 0), (40, .getfield 22, 5, 2, 8, 0), (43, .iconst 0, 0, 0, 0, 0), (44, .bipush 96, 0, 0, 0, 0), (46, .invokestatic 90, 0, 0, 13, 0), (49, .aload_n 0, 0, 0, 0, 0), (50, .aload_n 1, 0, 0, 0, 0), (51, .getfield 56, 5, 10, 0, 0), (54, .putfield 56, 5, 10, 0, 0), (57, .aload_n 1, 0, 0, 0, 0), (58, .getfield 25, 5, 3, 9, 0), (61, .iconst 0, 0, 0, 0, 0), (62, .aload_n 0, 0, 0, 0, 0), (63, .getfield 25, 5, 3, 9, 0), (66, .iconst 0, 0, 0, 0, 0), (67, .bipush 8, 0, 0, 0, 0), (69, .invokestatic 90, 0, 0, 13, 0), (72, .aload_n 1, 0, 0, 0, 0), (73, .getfield 28, 5, 4, 10, 0), (76, .iconst 0, 0, 0, 0, 0), (77, .aload_n 0, 0, 0, 0, 0), (78, .getfield 28, 5, 4, 10, 0), (81, .iconst 0, 0, 0, 0, 0), (82, .bipush 8, 0, 0, 0, 0), (84, .invokestatic 90, 0, 0, 13, 0), (87, .aload_n 0, 0, 0, 0, 0), (88, .aload_n 1, 0, 0, 0, 0), (89, .getfield 59, 5, 11, 0, 0), (92, .putfield 59, 5, 11, 0, 0), (95, .aload_n 1, 0, 0, 0, 0), (96, .getfield 31, 5, 5, 11, 0), (99, .iconst 0, 0, 0, 0, 0), (100, .aload_n 0, 0, 0, 0, 0), (101, .getfield 31, 5, 5, 11, 0), (104, .iconst 0, 0, 0, 0, 0), (105, .bipush 6, 0, 0, 0, 0), (107, .invokestatic 90, 0, 0, 13, 0), (110, .aload_n 1, 0, 0, 0, 0), (111, .getfield 34, 5, 6, 12, 0), (114, .iconst 0, 0, 0, 0, 0), (115, .aload_n 0, 0, 0, 0, 0), (116, .getfield 34, 5, 6, 12, 0), (119, .iconst 0, 0, 0, 0, 0), (120, .bipush 6, 0, 0, 0, 0), (122, .invokestatic 90, 0, 0, 13, 0), (125, .iconst 0, 0, 0, 0, 0), (126, .istore_n 2, 0, 0, 0, 0)]
def l38_127 : List Ent := [(127, .iload_n 2, 0, 0, 0, 0), (128, .aload_n 0, 0, 0, 0, 0), (129, .getfield 59, 5, 11, 0, 0), (132, .if_icmp .ge 45, 177, 0, 0, 0), (135, .aload_n 0, 0, 0, 0, 0), (136, .getfield 37, 5, 7, 13, 0), (139, .iload_n 2, 0, 0, 0, 0), (140, .aload_n 1, 0, 0, 0, 0), (141, .getfield 37, 5, 7, 13, 0), (144, .iload_n 2, 0, 0, 0, 0), (145, .baload, 0, 0, 0, 0), (146, .bastore, 0, 0, 0, 0), (147, .aload_n 0, 0, 0, 0, 0), (148, .getfield 37, 5, 7, 13, 0), (151, .iload_n 2, 0, 0, 0, 0), (152, .baload, 0, 0, 0, 0), (153, .ifCond .eq 18, 171, 0, 0, 0), (156, .aload_n 0, 0, 0, 0, 0), (157, .getfield 43, 5, 8, 14, 0), (160, .iload_n 2, 0, 0, 0, 0), (161, .aaload, 103, 1, 7, 0), (162, .aload_n 1, 0, 0, 0, 0), (163, .getfield 43, 5, 8, 14, 0), (166, .iload_n 2, 0, 0, 0, 0), (167, .aaload, 103, 1, 7, 0), (168, .invokevirtual 100, 11, 2, 0, 1)]
def l38_171 : List Ent := [(171, .iinc 2 1, 0, 0, 0, 0), (174, .goto (-47), 127, 0, 0, 0)]
def l38_177 : List Ent := [(177, .return_, 0, 0, 0, 0)]
def bk38 : List Blk := [(0, l38_0, 11), (11, l38_11, 127), (127, l38_127, 171), (171, l38_171, 177), (177, l38_177, 178)]
-- NoticeShifts.putIn
def l40_0 : List Ent := [(0, .iload_n 1, 0, 0, 0, 0), (1, .iconst 0, 0, 0, 0, 0), (2, .aload_n 0, 0, 0, 0, 0), (3, .getfield 10, 6, 0, 3, 0), (6, .getfield 56, 5, 0, 3, 0), (9, .getfield 60, 4, 3, 0, 0), (12, .invokestatic 66, 61, 3, 1, 0)]
def l40_15 : List Ent := [(15, .ifCond .ne 5, 20, 0, 0, 0), (18, .iconst (-1), 0, 0, 0, 0), (19, .ireturn, 0, 0, 0, 0)]
def l40_20 : List Ent := [(20, .iload_n 2, 0, 0, 0, 0), (21, .iconst 1, 0, 0, 0, 0), (22, .sipush 300, 0, 0, 0, 0), (25, .invokestatic 66, 61, 3, 1, 0)]
def l40_28 : List Ent := [(28, .ifCond .ne 6, 34, 0, 0, 0), (31, .bipush (-2), 0, 0, 0, 0), (33, .ireturn, 0, 0, 0, 0)]
def l40_34 : List Ent := [(34, .aload_n 0, 0, 0, 0, 0), (35, .getfield 10, 6, 0, 3, 0), (38, .getfield 56, 5, 0, 3, 0), (41, .getfield 60, 4, 3, 0, 0), (44, .bipush 24, 0, 0, 0, 0), (46, .if_icmp .ge 15, 61, 0, 0, 0), (49, .aload_n 0, 0, 0, 0, 0), (50, .getfield 10, 6, 0, 3, 0), (53, .getfield 70, 5, 9, 0, 0), (56, .bipush 100, 0, 0, 0, 0), (58, .if_icmp .lt 6, 64, 0, 0, 0)]
def l40_61 : List Ent := [(61, .bipush (-4), 0, 0, 0, 0), (63, .ireturn, 0, 0, 0, 0)]
def l40_64 : List Ent := [(64, .aload_n 0, 0, 0, 0, 0), (65, .getfield 19, 6, 1, 58, 0), (68, .aload_n 0, 0, 0, 0, 0), (69, .getfield 10, 6, 0, 3, 0), (72, .invokevirtual 73, 14, 2, 0, 2)]
def l40_75 : List Ent := [(75, .aload_n 0, 0, 0, 0, 0), (76, .getfield 10, 6, 0, 3, 0), (79, .iload_n 1, 0, 0, 0, 0), (80, .iload_n 2, 0, 0, 0, 0), (81, .invokevirtual 52, 35, 3, 0, 5)]
def l40_84 : List Ent := [(84, .aload_n 0, 0, 0, 0, 0), (85, .getfield 10, 6, 0, 3, 0), (88, .getfield 56, 5, 0, 3, 0), (91, .getfield 77, 4, 0, 3, 0), (94, .iload_n 1, 0, 0, 0, 0), (95, .iaload, 0, 0, 0, 0), (96, .ireturn, 0, 0, 0, 0)]
def bk40 : List Blk := [(0, l40_0, 15), (15, l40_15, 20), (20, l40_20, 28), (28, l40_28, 34), (34, l40_34, 61), (61, l40_61, 64), (64, l40_64, 75), (75, l40_75, 84), (84, l40_84, 97)]
-- NoticeShifts.cutOut
def l41_0 : List Ent := [(0, .aload_n 0, 0, 0, 0, 0), (1, .getfield 10, 6, 0, 3, 0), (4, .iload_n 1, 0, 0, 0, 0), (5, .invokevirtual 81, 27, 2, 1, 5)]
def l41_8 : List Ent := [(8, .ifCond .ne 5, 13, 0, 0, 0), (11, .iconst (-1), 0, 0, 0, 0), (12, .ireturn, 0, 0, 0, 0)]
def l41_13 : List Ent := [(13, .aload_n 0, 0, 0, 0, 0), (14, .getfield 10, 6, 0, 3, 0), (17, .getfield 56, 5, 0, 3, 0), (20, .getfield 60, 4, 3, 0, 0), (23, .iconst 1, 0, 0, 0, 0), (24, .if_icmp .ne 6, 30, 0, 0, 0), (27, .bipush (-5), 0, 0, 0, 0), (29, .ireturn, 0, 0, 0, 0)]
def l41_30 : List Ent := [(30, .aload_n 0, 0, 0, 0, 0), (31, .getfield 19, 6, 1, 58, 0), (34, .aload_n 0, 0, 0, 0, 0), (35, .getfield 10, 6, 0, 3, 0), (38, .invokevirtual 73, 14, 2, 0, 2)]
def l41_41 : List Ent := [(41, .aload_n 0, 0, 0, 0, 0), (42, .getfield 10, 6, 0, 3, 0), (45, .getfield 56, 5, 0, 3, 0), (48, .getfield 77, 4, 0, 3, 0), (51, .iload_n 1, 0, 0, 0, 0), (52, .iaload, 0, 0, 0, 0), (53, .istore_n 2, 0, 0, 0, 0), (54, .aload_n 0, 0, 0, 0, 0), (55, .getfield 10, 6, 0, 3, 0), (58, .iload_n 1, 0, 0, 0, 0), (59, .invokevirtual 85, 36, 2, 0, 5)]
def l41_62 : List Ent := [(62, .iload_n 2, 0, 0, 0, 0), (63, .ireturn, 0, 0, 0, 0)]
def bk41 : List Blk := [(0, l41_0, 8), (8, l41_8, 13), (13, l41_13, 30), (30, l41_30, 41), (41, l41_41, 62), (62, l41_62, 64)]
-- NoticeShifts.change
def l42_0 : List Ent := [(0, .aload_n 0, 0, 0, 0, 0), (1, .getfield 10, 6, 0, 3, 0), (4, .iload_n 1, 0, 0, 0, 0), (5, .invokevirtual 81, 27, 2, 1, 5)]
def l42_8 : List Ent := [(8, .ifCond .ne 5, 13, 0, 0, 0), (11, .iconst (-1), 0, 0, 0, 0), (12, .ireturn, 0, 0, 0, 0)]
def l42_13 : List Ent := [(13, .iload_n 2, 0, 0, 0, 0), (14, .iconst 1, 0, 0, 0, 0), (15, .sipush 300, 0, 0, 0, 0), (18, .invokestatic 66, 61, 3, 1, 0)]
def l42_21 : List Ent := [(21, .ifCond .ne 6, 27, 0, 0, 0), (24, .bipush (-2), 0, 0, 0, 0), (26, .ireturn, 0, 0, 0, 0)]
def l42_27 : List Ent := [(27, .aload_n 0, 0, 0, 0, 0), (28, .getfield 19, 6, 1, 58, 0), (31, .aload_n 0, 0, 0, 0, 0), (32, .getfield 10, 6, 0, 3, 0), (35, .invokevirtual 73, 14, 2, 0, 2)]
def l42_38 : List Ent := [(38, .aload_n 0, 0, 0, 0, 0), (39, .getfield 10, 6, 0, 3, 0), (42, .getfield 56, 5, 0, 3, 0), (45, .getfield 89, 4, 1, 4, 0), (48, .iload_n 1, 0, 0, 0, 0), (49, .iaload, 0, 0, 0, 0), (50, .istore_n 3, 0, 0, 0, 0), (51, .aload_n 0, 0, 0, 0, 0), (52, .getfield 10, 6, 0, 3, 0), (55, .getfield 56, 5, 0, 3, 0), (58, .getfield 89, 4, 1, 4, 0), (61, .iload_n 1, 0, 0, 0, 0), (62, .iload_n 2, 0, 0, 0, 0), (63, .iastore, 0, 0, 0, 0), (64, .iload_n 3, 0, 0, 0, 0), (65, .ireturn, 0, 0, 0, 0)]
def bk42 : List Blk := [(0, l42_0, 8), (8, l42_8, 13), (13, l42_13, 21), (21, l42_21, 27), (27, l42_27, 38), (38, l42_38, 66)]
-- NoticeShifts.chapter
def l43_0 : List Ent := [(0, .aload_n 0, 0, 0, 0, 0), (1, .getfield 10, 6, 0, 3, 0), (4, .iload_n 1, 0, 0, 0, 0), (5, .invokevirtual 81, 27, 2, 1, 5)]
def l43_8 : List Ent := [(8, .ifCond .ne 5, 13, 0, 0, 0), (11, .iconst (-1), 0, 0, 0, 0), (12, .ireturn, 0, 0, 0, 0)]
def l43_13 : List Ent := [(13, .iload_n 2, 0, 0, 0, 0), (14, .invokestatic 92, 62, 1, 1, 0)]
def l43_17 : List Ent := [(17, .istore_n 3, 0, 0, 0, 0), (18, .iload_n 1, 0, 0, 0, 0), (19, .ifCond .eq 19, 38, 0, 0, 0), (22, .aload_n 0, 0, 0, 0, 0), (23, .getfield 10, 6, 0, 3, 0), (26, .getfield 56, 5, 0, 3, 0), (29, .getfield 96, 4, 2, 5, 0), (32, .iload_n 1, 0, 0, 0, 0), (33, .iaload, 0, 0, 0, 0), (34, .iload_n 3, 0, 0, 0, 0), (35, .if_icmp .ne 6, 41, 0, 0, 0)]
def l43_38 : List Ent := [(38, .bipush (-5), 0, 0, 0, 0), (40, .ireturn, 0, 0, 0, 0)]
def l43_41 : List Ent := [(41, .aload_n 0, 0, 0, 0, 0), (42, .getfield 19, 6, 1, 58, 0), (45, .aload_n 0, 0, 0, 0, 0), (46, .getfield 10, 6, 0, 3, 0), (49, .invokevirtual 73, 14, 2, 0, 2)]
def l43_52 : List Ent := [(52, .aload_n 0, 0, 0, 0, 0), (53, .getfield 10, 6, 0, 3, 0), (56, .getfield 56, 5, 0, 3, 0), (59, .getfield 96, 4, 2, 5, 0), (62, .iload_n 1, 0, 0, 0, 0), (63, .iload_n 3, 0, 0, 0, 0), (64, .iastore, 0, 0, 0, 0), (65, .aload_n 0, 0, 0, 0, 0), (66, .getfield 10, 6, 0, 3, 0), (69, .getfield 56, 5, 0, 3, 0), (72, .invokevirtual 99, 22, 1, 1, 4)]
def l43_75 : List Ent := [(75, .ireturn, 0, 0, 0, 0)]
def bk43 : List Blk := [(0, l43_0, 8), (8, l43_8, 13), (13, l43_13, 17), (17, l43_17, 38), (38, l43_38, 41), (41, l43_41, 52), (52, l43_52, 75), (75, l43_75, 76)]
-- NoticeShifts.notice
def l44_0 : List Ent := [(0, .iload_n 1, 0, 0, 0, 0), (1, .iconst 1, 0, 0, 0, 0), (2, .bipush 120, 0, 0, 0, 0), (4, .invokestatic 66, 61, 3, 1, 0)]
def l44_7 : List Ent := [(7, .ifCond .eq 13, 20, 0, 0, 0), (10, .iload_n 2, 0, 0, 0, 0), (11, .iconst 1, 0, 0, 0, 0), (12, .bipush 63, 0, 0, 0, 0), (14, .invokestatic 66, 61, 3, 1, 0)]
def l44_17 : List Ent := [(17, .ifCond .ne 6, 23, 0, 0, 0)]
def l44_20 : List Ent := [(20, .bipush (-2), 0, 0, 0, 0), (22, .ireturn, 0, 0, 0, 0)]
def l44_23 : List Ent := [(23, .aload_n 0, 0, 0, 0, 0), (24, .getfield 10, 6, 0, 3, 0), (27, .getfield 103, 5, 10, 0, 0), (30, .bipush 8, 0, 0, 0, 0), (32, .if_icmp .lt 6, 38, 0, 0, 0), (35, .bipush (-4), 0, 0, 0, 0), (37, .ireturn, 0, 0, 0, 0)]
def l44_38 : List Ent := [(38, .aload_n 0, 0, 0, 0, 0), (39, .getfield 19, 6, 1, 58, 0), (42, .aload_n 0, 0, 0, 0, 0), (43, .getfield 10, 6, 0, 3, 0), (46, .invokevirtual 73, 14, 2, 0, 2)]
def l44_49 : List Ent := [(49, .aload_n 0, 0, 0, 0, 0), (50, .getfield 10, 6, 0, 3, 0), (53, .getfield 103, 5, 10, 0, 0), (56, .istore_n 3, 0, 0, 0, 0), (57, .aload_n 0, 0, 0, 0, 0), (58, .getfield 10, 6, 0, 3, 0), (61, .getfield 106, 5, 3, 9, 0), (64, .iload_n 3, 0, 0, 0, 0), (65, .iload_n 1, 0, 0, 0, 0), (66, .iastore, 0, 0, 0, 0), (67, .aload_n 0, 0, 0, 0, 0), (68, .getfield 10, 6, 0, 3, 0), (71, .getfield 109, 5, 4, 10, 0), (74, .iload_n 3, 0, 0, 0, 0), (75, .iload_n 2, 0, 0, 0, 0), (76, .iastore, 0, 0, 0, 0), (77, .aload_n 0, 0, 0, 0, 0), (78, .getfield 10, 6, 0, 3, 0), (81, .dup, 0, 0, 0, 0), (82, .getfield 103, 5, 10, 0, 0), (85, .iconst 1, 0, 0, 0, 0), (86, .iadd, 0, 0, 0, 0), (87, .putfield 103, 5, 10, 0, 0), (90, .iload_n 3, 0, 0, 0, 0), (91, .ireturn, 0, 0, 0, 0)]
def bk44 : List Blk := [(0, l44_0, 7), (7, l44_7, 17), (17, l44_17, 20), (20, l44_20, 23), (23, l44_23, 38), (38, l44_38, 49), (49, l44_49, 92)]
-- NoticeShifts.book
def l45_0 : List Ent := [(0, .aload_n 0, 0, 0, 0, 0), (1, .getfield 10, 6, 0, 3, 0), (4, .iload_n 1, 0, 0, 0, 0), (5, .invokevirtual 81, 27, 2, 1, 5)]
def l45_8 : List Ent := [(8, .ifCond .eq 14, 22, 0, 0, 0), (11, .aload_n 0, 0, 0, 0, 0), (12, .getfield 10, 6, 0, 3, 0), (15, .iload_n 2, 0, 0, 0, 0), (16, .invokevirtual 112, 28, 2, 1, 5)]
def l45_19 : List Ent := [(19, .ifCond .ne 5, 24, 0, 0, 0)]
def l45_22 : List Ent := [(22, .iconst (-1), 0, 0, 0, 0), (23, .ireturn, 0, 0, 0, 0)]
def l45_24 : List Ent := [(24, .aload_n 0, 0, 0, 0, 0), (25, .getfield 10, 6, 0, 3, 0), (28, .iload_n 1, 0, 0, 0, 0), (29, .invokevirtual 115, 30, 2, 1, 5)]
def l45_32 : List Ent := [(32, .ifCond .eq 6, 38, 0, 0, 0), (35, .bipush (-4), 0, 0, 0, 0), (37, .ireturn, 0, 0, 0, 0)]
def l45_38 : List Ent := [(38, .aload_n 0, 0, 0, 0, 0), (39, .getfield 19, 6, 1, 58, 0), (42, .aload_n 0, 0, 0, 0, 0), (43, .getfield 10, 6, 0, 3, 0), (46, .invokevirtual 73, 14, 2, 0, 2)]
def l45_49 : List Ent := [(49, .aload_n 0, 0, 0, 0, 0), (50, .getfield 10, 6, 0, 3, 0), (53, .iload_n 1, 0, 0, 0, 0), (54, .iload_n 2, 0, 0, 0, 0), (55, .invokevirtual 118, 32, 3, 0, 5)]
def l45_58 : List Ent := [(58, .aload_n 0, 0, 0, 0, 0), (59, .getfield 10, 6, 0, 3, 0), (62, .getfield 121, 5, 1, 7, 0), (65, .iload_n 1, 0, 0, 0, 0), (66, .iaload, 0, 0, 0, 0), (67, .ireturn, 0, 0, 0, 0)]
def bk45 : List Blk := [(0, l45_0, 8), (8, l45_8, 19), (19, l45_19, 22), (22, l45_22, 24), (24, l45_24, 32), (32, l45_32, 38), (38, l45_38, 49), (49, l45_49, 58), (58, l45_58, 68)]
-- NoticeShifts.empty
def l46_0 : List Ent := [(0, .aload_n 0, 0, 0, 0, 0), (1, .getfield 10, 6, 0, 3, 0), (4, .iload_n 1, 0, 0, 0, 0), (5, .invokevirtual 81, 27, 2, 1, 5)]
def l46_8 : List Ent := [(8, .ifCond .ne 5, 13, 0, 0, 0), (11, .iconst (-1), 0, 0, 0, 0), (12, .ireturn, 0, 0, 0, 0)]
def l46_13 : List Ent := [(13, .aload_n 0, 0, 0, 0, 0), (14, .getfield 19, 6, 1, 58, 0), (17, .aload_n 0, 0, 0, 0, 0), (18, .getfield 10, 6, 0, 3, 0), (21, .invokevirtual 73, 14, 2, 0, 2)]
def l46_24 : List Ent := [(24, .aload_n 0, 0, 0, 0, 0), (25, .getfield 10, 6, 0, 3, 0), (28, .getfield 121, 5, 1, 7, 0), (31, .iload_n 1, 0, 0, 0, 0), (32, .iaload, 0, 0, 0, 0), (33, .istore_n 2, 0, 0, 0, 0), (34, .aload_n 0, 0, 0, 0, 0), (35, .getfield 10, 6, 0, 3, 0), (38, .getfield 121, 5, 1, 7, 0), (41, .iload_n 1, 0, 0, 0, 0), (42, .iconst 0, 0, 0, 0, 0), (43, .iastore, 0, 0, 0, 0), (44, .iload_n 2, 0, 0, 0, 0), (45, .ireturn, 0, 0, 0, 0)]
def bk46 : List Blk := [(0, l46_0, 8), (8, l46_8, 13), (13, l46_13, 24), (24, l46_24, 46)]
-- NoticeShifts.listener
def l47_0 : List Ent := [(0, .iload_n 1, 0, 0, 0, 0), (1, .iconst 0, 0, 0, 0, 0), (2, .iconst 5, 0, 0, 0, 0), (3, .invokestatic 66, 61, 3, 1, 0)]
def l47_6 : List Ent := [(6, .ifCond .eq 14, 20, 0, 0, 0), (9, .iload_n 2, 0, 0, 0, 0), (10, .iconst 0, 0, 0, 0, 0), (11, .sipush 600, 0, 0, 0, 0), (14, .invokestatic 66, 61, 3, 1, 0)]
def l47_17 : List Ent := [(17, .ifCond .ne 6, 23, 0, 0, 0)]
def l47_20 : List Ent := [(20, .bipush (-2), 0, 0, 0, 0), (22, .ireturn, 0, 0, 0, 0)]
def l47_23 : List Ent := [(23, .aload_n 0, 0, 0, 0, 0), (24, .getfield 10, 6, 0, 3, 0), (27, .getfield 139, 5, 11, 0, 0), (30, .bipush 6, 0, 0, 0, 0), (32, .if_icmp .lt 6, 38, 0, 0, 0), (35, .bipush (-4), 0, 0, 0, 0), (37, .ireturn, 0, 0, 0, 0)]
def l47_38 : List Ent := [(38, .aload_n 0, 0, 0, 0, 0), (39, .getfield 19, 6, 1, 58, 0), (42, .aload_n 0, 0, 0, 0, 0), (43, .getfield 10, 6, 0, 3, 0), (46, .invokevirtual 73, 14, 2, 0, 2)]
def l47_49 : List Ent := [(49, .aload_n 0, 0, 0, 0, 0), (50, .getfield 10, 6, 0, 3, 0), (53, .getfield 139, 5, 11, 0, 0), (56, .istore_n 3, 0, 0, 0, 0), (57, .aload_n 0, 0, 0, 0, 0), (58, .getfield 10, 6, 0, 3, 0), (61, .getfield 142, 5, 5, 11, 0), (64, .iload_n 3, 0, 0, 0, 0), (65, .iload_n 1, 0, 0, 0, 0), (66, .iastore, 0, 0, 0, 0), (67, .aload_n 0, 0, 0, 0, 0), (68, .getfield 10, 6, 0, 3, 0), (71, .getfield 145, 5, 6, 12, 0), (74, .iload_n 3, 0, 0, 0, 0), (75, .iload_n 2, 0, 0, 0, 0), (76, .iastore, 0, 0, 0, 0), (77, .aload_n 0, 0, 0, 0, 0), (78, .getfield 10, 6, 0, 3, 0), (81, .getfield 148, 5, 7, 13, 0), (84, .iload_n 3, 0, 0, 0, 0), (85, .iconst 0, 0, 0, 0, 0), (86, .bastore, 0, 0, 0, 0), (87, .aload_n 0, 0, 0, 0, 0), (88, .getfield 10, 6, 0, 3, 0), (91, .dup, 0, 0, 0, 0), (92, .getfield 139, 5, 11, 0, 0), (95, .iconst 1, 0, 0, 0, 0), (96, .iadd, 0, 0, 0, 0), (97, .putfield 139, 5, 11, 0, 0), (100, .iload_n 3, 0, 0, 0, 0), (101, .ireturn, 0, 0, 0, 0)]
def bk47 : List Blk := [(0, l47_0, 6), (6, l47_6, 17), (17, l47_17, 20), (20, l47_20, 23), (23, l47_23, 38), (38, l47_38, 49), (49, l47_49, 102)]
-- NoticeShifts.load
def l48_0 : List Ent := [(0, .aload_n 0, 0, 0, 0, 0), (1, .getfield 10, 6, 0, 3, 0), (4, .iload_n 1, 0, 0, 0, 0), (5, .invokevirtual 151, 29, 2, 1, 5)]
def l48_8 : List Ent := [(8, .ifCond .ne 5, 13, 0, 0, 0), (11, .iconst (-1), 0, 0, 0, 0), (12, .ireturn, 0, 0, 0, 0)]
def l48_13 : List Ent := [(13, .iload_n 2, 0, 0, 0, 0), (14, .ifCond .eq 18, 32, 0, 0, 0), (17, .aload_n 0, 0, 0, 0, 0), (18, .getfield 10, 6, 0, 3, 0), (21, .getfield 148, 5, 7, 13, 0), (24, .iload_n 1, 0, 0, 0, 0), (25, .baload, 0, 0, 0, 0), (26, .ifCond .ne 6, 32, 0, 0, 0), (29, .bipush (-5), 0, 0, 0, 0), (31, .ireturn, 0, 0, 0, 0)]
def l48_32 : List Ent := [(32, .aload_n 0, 0, 0, 0, 0), (33, .getfield 19, 6, 1, 58, 0), (36, .aload_n 0, 0, 0, 0, 0), (37, .getfield 10, 6, 0, 3, 0), (40, .invokevirtual 73, 14, 2, 0, 2)]
def l48_43 : List Ent := [(43, .aload_n 0, 0, 0, 0, 0), (44, .getfield 10, 6, 0, 3, 0), (47, .getfield 148, 5, 7, 13, 0), (50, .iload_n 1, 0, 0, 0, 0), (51, .iload_n 2, 0, 0, 0, 0), (52, .ifCond .ne 7, 59, 0, 0, 0), (55, .iconst 1, 0, 0, 0, 0), (56, .goto 4, 60, 0, 0, 0)]
def l48_59 : List Ent := [(59, .iconst 0, 0, 0, 0, 0)]
def l48_60 : List Ent := [(60, .bastore, 0, 0, 0, 0), (61, .iload_n 2, 0, 0, 0, 0), (62, .ifCond .ne 17, 79, 0, 0, 0), (65, .aload_n 0, 0, 0, 0, 0), (66, .iload_n 1, 0, 0, 0, 0), (67, .aload_n 0, 0, 0, 0, 0), (68, .getfield 10, 6, 0, 3, 0), (71, .getfield 154, 5, 8, 14, 0), (74, .iload_n 1, 0, 0, 0, 0), (75, .aaload, 103, 1, 7, 0), (76, .invokevirtual 158, 64, 3, 0, 6)]
def l48_79 : List Ent := [(79, .aload_n 0, 0, 0, 0, 0), (80, .iload_n 1, 0, 0, 0, 0), (81, .invokevirtual 162, 63, 2, 2, 6)]
def l48_84 : List Ent := [(84, .invokevirtual 166, 7, 1, 1, 1)]
def l48_87 : List Ent := [(87, .ireturn, 0, 0, 0, 0)]
def bk48 : List Blk := [(0, l48_0, 8), (8, l48_8, 13), (13, l48_13, 32), (32, l48_32, 43), (43, l48_43, 59), (59, l48_59, 60), (60, l48_60, 79), (79, l48_79, 84), (84, l48_84, 87), (87, l48_87, 88)]
-- NoticeShifts.sentence
def l49_0 : List Ent := [(0, .aload_n 0, 0, 0, 0, 0), (1, .getfield 10, 6, 0, 3, 0), (4, .iload_n 1, 0, 0, 0, 0), (5, .invokevirtual 81, 27, 2, 1, 5)]
def l49_8 : List Ent := [(8, .ifCond .ne 5, 13, 0, 0, 0), (11, .iconst (-1), 0, 0, 0, 0), (12, .ireturn, 0, 0, 0, 0)]
def l49_13 : List Ent := [(13, .iload_n 2, 0, 0, 0, 0), (14, .tableswitch 111 0 5 #[38, 51, 64, 76, 88, 101], 0, 0, 0, 0)]
def l49_52 : List Ent := [(52, .aload_n 0, 0, 0, 0, 0), (53, .getfield 10, 6, 0, 3, 0), (56, .getfield 56, 5, 0, 3, 0), (59, .getfield 77, 4, 0, 3, 0), (62, .iload_n 1, 0, 0, 0, 0), (63, .iaload, 0, 0, 0, 0), (64, .ireturn, 0, 0, 0, 0)]
def l49_65 : List Ent := [(65, .aload_n 0, 0, 0, 0, 0), (66, .getfield 10, 6, 0, 3, 0), (69, .getfield 56, 5, 0, 3, 0), (72, .getfield 89, 4, 1, 4, 0), (75, .iload_n 1, 0, 0, 0, 0), (76, .iaload, 0, 0, 0, 0), (77, .ireturn, 0, 0, 0, 0)]
def l49_78 : List Ent := [(78, .aload_n 0, 0, 0, 0, 0), (79, .getfield 10, 6, 0, 3, 0), (82, .getfield 56, 5, 0, 3, 0), (85, .iload_n 1, 0, 0, 0, 0), (86, .invokevirtual 169, 17, 2, 1, 4)]
def l49_89 : List Ent := [(89, .ireturn, 0, 0, 0, 0)]
def l49_90 : List Ent := [(90, .aload_n 0, 0, 0, 0, 0), (91, .getfield 10, 6, 0, 3, 0), (94, .getfield 56, 5, 0, 3, 0), (97, .iload_n 1, 0, 0, 0, 0), (98, .invokevirtual 173, 21, 2, 1, 4)]
def l49_101 : List Ent := [(101, .ireturn, 0, 0, 0, 0)]
def l49_102 : List Ent := [(102, .aload_n 0, 0, 0, 0, 0), (103, .getfield 10, 6, 0, 3, 0), (106, .getfield 56, 5, 0, 3, 0), (109, .getfield 96, 4, 2, 5, 0), (112, .iload_n 1, 0, 0, 0, 0), (113, .iaload, 0, 0, 0, 0), (114, .ireturn, 0, 0, 0, 0)]
def l49_115 : List Ent := [(115, .aload_n 0, 0, 0, 0, 0), (116, .getfield 10, 6, 0, 3, 0), (119, .getfield 121, 5, 1, 7, 0), (122, .iload_n 1, 0, 0, 0, 0), (123, .iaload, 0, 0, 0, 0), (124, .ireturn, 0, 0, 0, 0)]
def l49_125 : List Ent := [(125, .bipush (-2), 0, 0, 0, 0), (127, .ireturn, 0, 0, 0, 0)]
def bk49 : List Blk := [(0, l49_0, 8), (8, l49_8, 13), (13, l49_13, 52), (52, l49_52, 65), (65, l49_65, 78), (78, l49_78, 89), (89, l49_89, 90), (90, l49_90, 101), (101, l49_101, 102), (102, l49_102, 115), (115, l49_115, 125), (125, l49_125, 128)]
-- NoticeShifts.marked
def l50_0 : List Ent := [(0, .aload_n 0, 0, 0, 0, 0), (1, .getfield 10, 6, 0, 3, 0), (4, .getfield 56, 5, 0, 3, 0), (7, .iload_n 1, 0, 0, 0, 0), (8, .invokevirtual 176, 20, 2, 1, 4)]
def l50_11 : List Ent := [(11, .ireturn, 0, 0, 0, 0)]
def bk50 : List Blk := [(0, l50_0, 11), (11, l50_11, 12)]
-- NoticeShifts.booked
def l51_0 : List Ent := [(0, .aload_n 0, 0, 0, 0, 0), (1, .getfield 10, 6, 0, 3, 0), (4, .iload_n 1, 0, 0, 0, 0), (5, .invokevirtual 81, 27, 2, 1, 5)]
def l51_8 : List Ent := [(8, .ifCond .eq 22, 30, 0, 0, 0), (11, .iload_n 2, 0, 0, 0, 0), (12, .iconst 0, 0, 0, 0, 0), (13, .aload_n 0, 0, 0, 0, 0), (14, .getfield 10, 6, 0, 3, 0), (17, .getfield 121, 5, 1, 7, 0), (20, .iload_n 1, 0, 0, 0, 0), (21, .iaload, 0, 0, 0, 0), (22, .iconst 1, 0, 0, 0, 0), (23, .isub, 0, 0, 0, 0), (24, .invokestatic 66, 61, 3, 1, 0)]
def l51_27 : List Ent := [(27, .ifCond .ne 5, 32, 0, 0, 0)]
def l51_30 : List Ent := [(30, .iconst (-1), 0, 0, 0, 0), (31, .ireturn, 0, 0, 0, 0)]
def l51_32 : List Ent := [(32, .aload_n 0, 0, 0, 0, 0), (33, .getfield 10, 6, 0, 3, 0), (36, .iload_n 1, 0, 0, 0, 0), (37, .iload_n 2, 0, 0, 0, 0), (38, .invokevirtual 179, 31, 3, 1, 5)]
def l51_41 : List Ent := [(41, .ireturn, 0, 0, 0, 0)]
def bk51 : List Blk := [(0, l51_0, 8), (8, l51_8, 27), (27, l51_27, 30), (30, l51_30, 32), (32, l51_32, 41), (41, l51_41, 42)]
-- NoticeShifts.ofNotice
def l52_0 : List Ent := [(0, .aload_n 0, 0, 0, 0, 0), (1, .getfield 10, 6, 0, 3, 0), (4, .iload_n 1, 0, 0, 0, 0), (5, .invokevirtual 112, 28, 2, 1, 5)]
def l52_8 : List Ent := [(8, .ifCond .ne 5, 13, 0, 0, 0), (11, .iconst (-1), 0, 0, 0, 0), (12, .ireturn, 0, 0, 0, 0)]
def l52_13 : List Ent := [(13, .iload_n 2, 0, 0, 0, 0), (14, .tableswitch 65 0 3 #[30, 40, 50, 59], 0, 0, 0, 0)]
def l52_44 : List Ent := [(44, .aload_n 0, 0, 0, 0, 0), (45, .getfield 10, 6, 0, 3, 0), (48, .getfield 106, 5, 3, 9, 0), (51, .iload_n 1, 0, 0, 0, 0), (52, .iaload, 0, 0, 0, 0), (53, .ireturn, 0, 0, 0, 0)]
def l52_54 : List Ent := [(54, .aload_n 0, 0, 0, 0, 0), (55, .getfield 10, 6, 0, 3, 0), (58, .getfield 109, 5, 4, 10, 0), (61, .iload_n 1, 0, 0, 0, 0), (62, .iaload, 0, 0, 0, 0), (63, .ireturn, 0, 0, 0, 0)]
def l52_64 : List Ent := [(64, .aload_n 0, 0, 0, 0, 0), (65, .getfield 10, 6, 0, 3, 0), (68, .iload_n 1, 0, 0, 0, 0), (69, .invokevirtual 183, 34, 2, 1, 5)]
def l52_72 : List Ent := [(72, .ireturn, 0, 0, 0, 0)]
def l52_73 : List Ent := [(73, .aload_n 0, 0, 0, 0, 0), (74, .iload_n 1, 0, 0, 0, 0), (75, .invokevirtual 186, 69, 2, 1, 6)]
def l52_78 : List Ent := [(78, .ireturn, 0, 0, 0, 0)]
def l52_79 : List Ent := [(79, .bipush (-2), 0, 0, 0, 0), (81, .ireturn, 0, 0, 0, 0)]
def bk52 : List Blk := [(0, l52_0, 8), (8, l52_8, 13), (13, l52_13, 44), (44, l52_44, 54), (54, l52_54, 64), (64, l52_64, 72), (72, l52_72, 73), (73, l52_73, 78), (78, l52_78, 79), (79, l52_79, 82)]
-- NoticeShifts.of
def l53_0 : List Ent := [(0, .aload_n 0, 0, 0, 0, 0), (1, .getfield 10, 6, 0, 3, 0), (4, .iload_n 1, 0, 0, 0, 0), (5, .invokevirtual 151, 29, 2, 1, 5)]
def l53_8 : List Ent := [(8, .ifCond .ne 5, 13, 0, 0, 0), (11, .iconst (-1), 0, 0, 0, 0), (12, .ireturn, 0, 0, 0, 0)]
def l53_13 : List Ent := [(13, .iload_n 2, 0, 0, 0, 0), (14, .tableswitch 127 0 7 #[46, 56, 66, 79, 88, 97, 106, 115], 0, 0, 0, 0)]
def l53_60 : List Ent := [(60, .aload_n 0, 0, 0, 0, 0), (61, .getfield 10, 6, 0, 3, 0), (64, .getfield 142, 5, 5, 11, 0), (67, .iload_n 1, 0, 0, 0, 0), (68, .iaload, 0, 0, 0, 0), (69, .ireturn, 0, 0, 0, 0)]
def l53_70 : List Ent := [(70, .aload_n 0, 0, 0, 0, 0), (71, .getfield 10, 6, 0, 3, 0), (74, .getfield 145, 5, 6, 12, 0), (77, .iload_n 1, 0, 0, 0, 0), (78, .iaload, 0, 0, 0, 0), (79, .ireturn, 0, 0, 0, 0)]
def l53_80 : List Ent := [(80, .aload_n 0, 0, 0, 0, 0), (81, .getfield 10, 6, 0, 3, 0), (84, .getfield 148, 5, 7, 13, 0), (87, .iload_n 1, 0, 0, 0, 0), (88, .baload, 0, 0, 0, 0), (89, .invokestatic 92, 62, 1, 1, 0)]
def l53_92 : List Ent := [(92, .ireturn, 0, 0, 0, 0)]
def l53_93 : List Ent := [(93, .aload_n 0, 0, 0, 0, 0), (94, .iload_n 1, 0, 0, 0, 0), (95, .invokevirtual 189, 65, 2, 1, 6)]
def l53_98 : List Ent := [(98, .invokestatic 92, 62, 1, 1, 0)]
def l53_101 : List Ent := [(101, .ireturn, 0, 0, 0, 0)]
def l53_102 : List Ent := [(102, .aload_n 0, 0, 0, 0, 0), (103, .iload_n 1, 0, 0, 0, 0), (104, .invokevirtual 162, 63, 2, 2, 6)]
def l53_107 : List Ent := [(107, .invokevirtual 166, 7, 1, 1, 1)]
def l53_110 : List Ent := [(110, .ireturn, 0, 0, 0, 0)]
def l53_111 : List Ent := [(111, .aload_n 0, 0, 0, 0, 0), (112, .iload_n 1, 0, 0, 0, 0), (113, .invokevirtual 162, 63, 2, 2, 6)]
def l53_116 : List Ent := [(116, .invokevirtual 192, 9, 1, 1, 1)]
def l53_119 : List Ent := [(119, .ireturn, 0, 0, 0, 0)]
def l53_120 : List Ent := [(120, .aload_n 0, 0, 0, 0, 0), (121, .iload_n 1, 0, 0, 0, 0), (122, .invokevirtual 162, 63, 2, 2, 6)]
def l53_125 : List Ent := [(125, .invokevirtual 195, 8, 1, 1, 1)]
def l53_128 : List Ent := [(128, .ireturn, 0, 0, 0, 0)]
def l53_129 : List Ent := [(129, .aload_n 0, 0, 0, 0, 0), (130, .iload_n 1, 0, 0, 0, 0), (131, .invokevirtual 162, 63, 2, 2, 6)]
def l53_134 : List Ent := [(134, .getfield 198, 1, 0, 3, 0), (137, .getfield 60, 4, 3, 0, 0), (140, .ireturn, 0, 0, 0, 0)]
def l53_141 : List Ent := [(141, .bipush (-2), 0, 0, 0, 0), (143, .ireturn, 0, 0, 0, 0)]
def bk53 : List Blk := [(0, l53_0, 8), (8, l53_8, 13), (13, l53_13, 60), (60, l53_60, 70), (70, l53_70, 80), (80, l53_80, 92), (92, l53_92, 93), (93, l53_93, 98), (98, l53_98, 101), (101, l53_101, 102), (102, l53_102, 107), (107, l53_107, 110), (110, l53_110, 111), (111, l53_111, 116), (116, l53_116, 119), (119, l53_119, 120), (120, l53_120, 125), (125, l53_125, 128), (128, l53_128, 129), (129, l53_129, 134), (134, l53_134, 141), (141, l53_141, 144)]
-- NoticeShifts.count
def l54_0 : List Ent := [(0, .iload_n 1, 0, 0, 0, 0), (1, .tableswitch 126 0 8 #[51, 62, 73, 84, 92, 100, 105, 110, 118], 0, 0, 0, 0)]
def l54_52 : List Ent := [(52, .aload_n 0, 0, 0, 0, 0), (53, .getfield 10, 6, 0, 3, 0), (56, .getfield 56, 5, 0, 3, 0), (59, .getfield 60, 4, 3, 0, 0), (62, .ireturn, 0, 0, 0, 0)]
def l54_63 : List Ent := [(63, .aload_n 0, 0, 0, 0, 0), (64, .getfield 10, 6, 0, 3, 0), (67, .getfield 56, 5, 0, 3, 0), (70, .invokevirtual 199, 18, 1, 1, 4)]
def l54_73 : List Ent := [(73, .ireturn, 0, 0, 0, 0)]
def l54_74 : List Ent := [(74, .aload_n 0, 0, 0, 0, 0), (75, .getfield 10, 6, 0, 3, 0), (78, .getfield 56, 5, 0, 3, 0), (81, .invokevirtual 99, 22, 1, 1, 4)]
def l54_84 : List Ent := [(84, .ireturn, 0, 0, 0, 0)]
def l54_85 : List Ent := [(85, .aload_n 0, 0, 0, 0, 0), (86, .getfield 10, 6, 0, 3, 0), (89, .getfield 103, 5, 10, 0, 0), (92, .ireturn, 0, 0, 0, 0)]
def l54_93 : List Ent := [(93, .aload_n 0, 0, 0, 0, 0), (94, .getfield 10, 6, 0, 3, 0), (97, .getfield 139, 5, 11, 0, 0), (100, .ireturn, 0, 0, 0, 0)]
def l54_101 : List Ent := [(101, .aload_n 0, 0, 0, 0, 0), (102, .invokevirtual 200, 66, 1, 1, 6)]
def l54_105 : List Ent := [(105, .ireturn, 0, 0, 0, 0)]
def l54_106 : List Ent := [(106, .aload_n 0, 0, 0, 0, 0), (107, .invokevirtual 203, 67, 1, 1, 6)]
def l54_110 : List Ent := [(110, .ireturn, 0, 0, 0, 0)]
def l54_111 : List Ent := [(111, .aload_n 0, 0, 0, 0, 0), (112, .getfield 34, 6, 4, 392, 0), (115, .getfield 136, 3, 1, 0, 0), (118, .ireturn, 0, 0, 0, 0)]
def l54_119 : List Ent := [(119, .aload_n 0, 0, 0, 0, 0), (120, .getfield 19, 6, 1, 58, 0), (123, .getfield 206, 2, 2, 0, 0), (126, .ireturn, 0, 0, 0, 0)]
def l54_127 : List Ent := [(127, .bipush (-2), 0, 0, 0, 0), (129, .ireturn, 0, 0, 0, 0)]
def bk54 : List Blk := [(0, l54_0, 52), (52, l54_52, 63), (63, l54_63, 73), (73, l54_73, 74), (74, l54_74, 84), (84, l54_84, 85), (85, l54_85, 93), (93, l54_93, 101), (101, l54_101, 105), (105, l54_105, 106), (106, l54_106, 110), (110, l54_110, 111), (111, l54_111, 119), (119, l54_119, 127), (127, l54_127, 130)]
-- NoticeShifts.heard
def l55_0 : List Ent := [(0, .aload_n 0, 0, 0, 0, 0), (1, .getfield 10, 6, 0, 3, 0), (4, .iload_n 1, 0, 0, 0, 0), (5, .invokevirtual 151, 29, 2, 1, 5)]
def l55_8 : List Ent := [(8, .ifCond .ne 5, 13, 0, 0, 0), (11, .iconst (-1), 0, 0, 0, 0), (12, .ireturn, 0, 0, 0, 0)]
def l55_13 : List Ent := [(13, .aload_n 0, 0, 0, 0, 0), (14, .iload_n 1, 0, 0, 0, 0), (15, .invokevirtual 162, 63, 2, 2, 6)]
def l55_18 : List Ent := [(18, .astore_n 3, 0, 0, 0, 0), (19, .iload_n 2, 0, 0, 0, 0), (20, .iconst 0, 0, 0, 0, 0), (21, .aload_n 3, 0, 0, 0, 0), (22, .getfield 198, 1, 0, 3, 0), (25, .getfield 60, 4, 3, 0, 0), (28, .iconst 1, 0, 0, 0, 0), (29, .isub, 0, 0, 0, 0), (30, .invokestatic 66, 61, 3, 1, 0)]
def l55_33 : List Ent := [(33, .ifCond .ne 5, 38, 0, 0, 0), (36, .iconst (-1), 0, 0, 0, 0), (37, .ireturn, 0, 0, 0, 0)]
def l55_38 : List Ent := [(38, .aload_n 3, 0, 0, 0, 0), (39, .getfield 207, 1, 1, 7, 0), (42, .iload_n 2, 0, 0, 0, 0), (43, .iaload, 0, 0, 0, 0), (44, .ireturn, 0, 0, 0, 0)]
def bk55 : List Blk := [(0, l55_0, 8), (8, l55_8, 13), (13, l55_13, 18), (18, l55_18, 33), (33, l55_33, 38), (38, l55_38, 45)]
-- NoticeShifts.whenHeard
def l56_0 : List Ent := [(0, .aload_n 0, 0, 0, 0, 0), (1, .getfield 10, 6, 0, 3, 0), (4, .iload_n 1, 0, 0, 0, 0), (5, .invokevirtual 151, 29, 2, 1, 5)]
def l56_8 : List Ent := [(8, .ifCond .ne 5, 13, 0, 0, 0), (11, .iconst (-1), 0, 0, 0, 0), (12, .ireturn, 0, 0, 0, 0)]
def l56_13 : List Ent := [(13, .iload_n 2, 0, 0, 0, 0), (14, .iconst 0, 0, 0, 0, 0), (15, .sipush 7199, 0, 0, 0, 0), (18, .invokestatic 66, 61, 3, 1, 0)]
def l56_21 : List Ent := [(21, .ifCond .ne 6, 27, 0, 0, 0), (24, .bipush (-2), 0, 0, 0, 0), (26, .ireturn, 0, 0, 0, 0)]
def l56_27 : List Ent := [(27, .aload_n 0, 0, 0, 0, 0), (28, .iload_n 1, 0, 0, 0, 0), (29, .invokevirtual 162, 63, 2, 2, 6)]
def l56_32 : List Ent := [(32, .astore_n 3, 0, 0, 0, 0), (33, .aload_n 3, 0, 0, 0, 0), (34, .getfield 198, 1, 0, 3, 0), (37, .iload_n 2, 0, 0, 0, 0), (38, .invokevirtual 209, 19, 2, 1, 4)]
def l56_41 : List Ent := [(41, .istore 4, 0, 0, 0, 0), (43, .iload 4, 0, 0, 0, 0), (45, .bipush (-6), 0, 0, 0, 0), (47, .if_icmp .ne 6, 53, 0, 0, 0), (50, .bipush (-6), 0, 0, 0, 0), (52, .ireturn, 0, 0, 0, 0)]
def l56_53 : List Ent := [(53, .aload_n 3, 0, 0, 0, 0), (54, .iload 4, 0, 0, 0, 0), (56, .invokevirtual 212, 6, 2, 1, 1)]
def l56_59 : List Ent := [(59, .iload_n 2, 0, 0, 0, 0), (60, .iadd, 0, 0, 0, 0), (61, .aload_n 3, 0, 0, 0, 0), (62, .getfield 198, 1, 0, 3, 0), (65, .iload 4, 0, 0, 0, 0), (67, .invokevirtual 169, 17, 2, 1, 4)]
def l56_70 : List Ent := [(70, .isub, 0, 0, 0, 0), (71, .ireturn, 0, 0, 0, 0)]
def bk56 : List Blk := [(0, l56_0, 8), (8, l56_8, 13), (13, l56_13, 21), (21, l56_21, 27), (27, l56_27, 32), (32, l56_32, 41), (41, l56_41, 53), (53, l56_53, 59), (59, l56_59, 70), (70, l56_70, 72)]
-- NoticeShifts.heardAt
def l57_0 : List Ent := [(0, .aload_n 0, 0, 0, 0, 0), (1, .getfield 10, 6, 0, 3, 0), (4, .iload_n 1, 0, 0, 0, 0), (5, .invokevirtual 151, 29, 2, 1, 5)]
def l57_8 : List Ent := [(8, .ifCond .ne 5, 13, 0, 0, 0), (11, .iconst (-1), 0, 0, 0, 0), (12, .ireturn, 0, 0, 0, 0)]
def l57_13 : List Ent := [(13, .iload_n 2, 0, 0, 0, 0), (14, .iconst 0, 0, 0, 0, 0), (15, .sipush 9999, 0, 0, 0, 0), (18, .invokestatic 66, 61, 3, 1, 0)]
def l57_21 : List Ent := [(21, .ifCond .eq 12, 33, 0, 0, 0), (24, .iload_n 3, 0, 0, 0, 0), (25, .iconst 0, 0, 0, 0, 0), (26, .iconst 3, 0, 0, 0, 0), (27, .invokestatic 66, 61, 3, 1, 0)]
def l57_30 : List Ent := [(30, .ifCond .ne 6, 36, 0, 0, 0)]
def l57_33 : List Ent := [(33, .bipush (-2), 0, 0, 0, 0), (35, .ireturn, 0, 0, 0, 0)]
def l57_36 : List Ent := [(36, .aload_n 0, 0, 0, 0, 0), (37, .iload_n 1, 0, 0, 0, 0), (38, .invokevirtual 162, 63, 2, 2, 6)]
def l57_41 : List Ent := [(41, .astore 4, 0, 0, 0, 0), (43, .aload 4, 0, 0, 0, 0), (45, .iload_n 2, 0, 0, 0, 0), (46, .invokevirtual 215, 10, 2, 1, 1)]
def l57_49 : List Ent := [(49, .istore 5, 0, 0, 0, 0), (51, .iload 5, 0, 0, 0, 0), (53, .bipush (-6), 0, 0, 0, 0), (55, .if_icmp .ne 6, 61, 0, 0, 0), (58, .bipush (-5), 0, 0, 0, 0), (60, .ireturn, 0, 0, 0, 0)]
def l57_61 : List Ent := [(61, .iload_n 2, 0, 0, 0, 0), (62, .aload 4, 0, 0, 0, 0), (64, .iload 5, 0, 0, 0, 0), (66, .invokevirtual 212, 6, 2, 1, 1)]
def l57_69 : List Ent := [(69, .isub, 0, 0, 0, 0), (70, .istore 6, 0, 0, 0, 0), (72, .iload 6, 0, 0, 0, 0), (74, .ifCond .ge 7, 81, 0, 0, 0), (77, .iconst 1, 0, 0, 0, 0), (78, .goto 4, 82, 0, 0, 0)]
def l57_81 : List Ent := [(81, .iconst 0, 0, 0, 0, 0)]
def l57_82 : List Ent := [(82, .istore 7, 0, 0, 0, 0), (84, .iload_n 3, 0, 0, 0, 0), (85, .tableswitch 73 0 2 #[27, 51, 70], 0, 0, 0, 0)]
def l57_112 : List Ent := [(112, .iload 7, 0, 0, 0, 0), (114, .ifCond .eq 8, 122, 0, 0, 0), (117, .bipush (-6), 0, 0, 0, 0), (119, .goto 16, 135, 0, 0, 0)]
def l57_122 : List Ent := [(122, .aload 4, 0, 0, 0, 0), (124, .getfield 198, 1, 0, 3, 0), (127, .iload 5, 0, 0, 0, 0), (129, .invokevirtual 169, 17, 2, 1, 4)]
def l57_132 : List Ent := [(132, .iload 6, 0, 0, 0, 0), (134, .iadd, 0, 0, 0, 0)]
def l57_135 : List Ent := [(135, .ireturn, 0, 0, 0, 0)]
def l57_136 : List Ent := [(136, .iload 7, 0, 0, 0, 0), (138, .ifCond .eq 14, 152, 0, 0, 0), (141, .aload 4, 0, 0, 0, 0), (143, .getfield 207, 1, 1, 7, 0), (146, .iload 5, 0, 0, 0, 0), (148, .iaload, 0, 0, 0, 0), (149, .goto 5, 154, 0, 0, 0)]
def l57_152 : List Ent := [(152, .bipush (-6), 0, 0, 0, 0)]
def l57_154 : List Ent := [(154, .ireturn, 0, 0, 0, 0)]
def l57_155 : List Ent := [(155, .iload 5, 0, 0, 0, 0), (157, .ireturn, 0, 0, 0, 0)]
def l57_158 : List Ent := [(158, .aload 4, 0, 0, 0, 0), (160, .getfield 198, 1, 0, 3, 0), (163, .iload 5, 0, 0, 0, 0), (165, .invokevirtual 173, 21, 2, 1, 4)]
def l57_168 : List Ent := [(168, .ireturn, 0, 0, 0, 0)]
def bk57 : List Blk := [(0, l57_0, 8), (8, l57_8, 13), (13, l57_13, 21), (21, l57_21, 30), (30, l57_30, 33), (33, l57_33, 36), (36, l57_36, 41), (41, l57_41, 49), (49, l57_49, 61), (61, l57_61, 69), (69, l57_69, 81), (81, l57_81, 82), (82, l57_82, 112), (112, l57_112, 122), (122, l57_122, 132), (132, l57_132, 135), (135, l57_135, 136), (136, l57_136, 152), (152, l57_152, 154), (154, l57_154, 155), (155, l57_155, 158), (158, l57_158, 168), (168, l57_168, 169)]
-- NoticeShifts.chapterAt
def l58_0 : List Ent := [(0, .aload_n 0, 0, 0, 0, 0), (1, .getfield 10, 6, 0, 3, 0), (4, .iload_n 1, 0, 0, 0, 0), (5, .invokevirtual 151, 29, 2, 1, 5)]
def l58_8 : List Ent := [(8, .ifCond .ne 5, 13, 0, 0, 0), (11, .iconst (-1), 0, 0, 0, 0), (12, .ireturn, 0, 0, 0, 0)]
def l58_13 : List Ent := [(13, .aload_n 0, 0, 0, 0, 0), (14, .iload_n 1, 0, 0, 0, 0), (15, .invokevirtual 162, 63, 2, 2, 6)]
def l58_18 : List Ent := [(18, .astore_n 3, 0, 0, 0, 0), (19, .iload_n 2, 0, 0, 0, 0), (20, .iconst 0, 0, 0, 0, 0), (21, .aload_n 3, 0, 0, 0, 0), (22, .getfield 198, 1, 0, 3, 0), (25, .invokevirtual 99, 22, 1, 1, 4)]
def l58_28 : List Ent := [(28, .iconst 1, 0, 0, 0, 0), (29, .isub, 0, 0, 0, 0), (30, .invokestatic 66, 61, 3, 1, 0)]
def l58_33 : List Ent := [(33, .ifCond .ne 5, 38, 0, 0, 0), (36, .iconst (-1), 0, 0, 0, 0), (37, .ireturn, 0, 0, 0, 0)]
def l58_38 : List Ent := [(38, .aload_n 3, 0, 0, 0, 0), (39, .aload_n 3, 0, 0, 0, 0), (40, .getfield 198, 1, 0, 3, 0), (43, .iload_n 2, 0, 0, 0, 0), (44, .invokevirtual 218, 23, 2, 1, 4)]
def l58_47 : List Ent := [(47, .invokevirtual 221, 5, 2, 1, 1)]
def l58_50 : List Ent := [(50, .ireturn, 0, 0, 0, 0)]
def bk58 : List Blk := [(0, l58_0, 8), (8, l58_8, 13), (13, l58_13, 18), (18, l58_18, 28), (28, l58_28, 33), (33, l58_33, 38), (38, l58_38, 47), (47, l58_47, 50), (50, l58_50, 51)]
-- NoticeShifts.open
def l59_0 : List Ent := [(0, .aload_n 0, 0, 0, 0, 0), (1, .getfield 10, 6, 0, 3, 0), (4, .iload_n 1, 0, 0, 0, 0), (5, .invokevirtual 151, 29, 2, 1, 5)]
def l59_8 : List Ent := [(8, .ifCond .ne 5, 13, 0, 0, 0), (11, .iconst (-1), 0, 0, 0, 0), (12, .ireturn, 0, 0, 0, 0)]
def l59_13 : List Ent := [(13, .iload_n 3, 0, 0, 0, 0), (14, .iconst 0, 0, 0, 0, 0), (15, .sipush 299, 0, 0, 0, 0), (18, .invokestatic 66, 61, 3, 1, 0)]
def l59_21 : List Ent := [(21, .ifCond .ne 6, 27, 0, 0, 0), (24, .bipush (-2), 0, 0, 0, 0), (26, .ireturn, 0, 0, 0, 0)]
def l59_27 : List Ent := [(27, .aload_n 0, 0, 0, 0, 0), (28, .iload_n 1, 0, 0, 0, 0), (29, .invokevirtual 162, 63, 2, 2, 6)]
def l59_32 : List Ent := [(32, .astore 4, 0, 0, 0, 0), (34, .aload 4, 0, 0, 0, 0), (36, .getfield 198, 1, 0, 3, 0), (39, .iload_n 2, 0, 0, 0, 0), (40, .invokevirtual 176, 20, 2, 1, 4)]
def l59_43 : List Ent := [(43, .istore 5, 0, 0, 0, 0), (45, .iload 5, 0, 0, 0, 0), (47, .iconst (-1), 0, 0, 0, 0), (48, .if_icmp .eq 18, 66, 0, 0, 0), (51, .iload_n 3, 0, 0, 0, 0), (52, .aload 4, 0, 0, 0, 0), (54, .getfield 198, 1, 0, 3, 0), (57, .getfield 89, 4, 1, 4, 0), (60, .iload 5, 0, 0, 0, 0), (62, .iaload, 0, 0, 0, 0), (63, .if_icmp .lt 6, 69, 0, 0, 0)]
def l59_66 : List Ent := [(66, .bipush (-5), 0, 0, 0, 0), (68, .ireturn, 0, 0, 0, 0)]
def l59_69 : List Ent := [(69, .aload 4, 0, 0, 0, 0), (71, .iload 5, 0, 0, 0, 0), (73, .invokevirtual 212, 6, 2, 1, 1)]
def l59_76 : List Ent := [(76, .iload_n 3, 0, 0, 0, 0), (77, .iadd, 0, 0, 0, 0), (78, .ireturn, 0, 0, 0, 0)]
def bk59 : List Blk := [(0, l59_0, 8), (8, l59_8, 13), (13, l59_13, 21), (21, l59_21, 27), (27, l59_27, 32), (32, l59_32, 43), (43, l59_43, 66), (66, l59_66, 69), (69, l59_69, 76), (76, l59_76, 79)]
-- NoticeShifts.enough
def l60_0 : List Ent := [(0, .aload_n 0, 0, 0, 0, 0), (1, .getfield 10, 6, 0, 3, 0), (4, .iload_n 1, 0, 0, 0, 0), (5, .invokevirtual 151, 29, 2, 1, 5)]
def l60_8 : List Ent := [(8, .ifCond .ne 5, 13, 0, 0, 0), (11, .iconst (-1), 0, 0, 0, 0), (12, .ireturn, 0, 0, 0, 0)]
def l60_13 : List Ent := [(13, .aload_n 0, 0, 0, 0, 0), (14, .iload_n 1, 0, 0, 0, 0), (15, .sipush 600, 0, 0, 0, 0), (18, .invokevirtual 241, 68, 3, 0, 6)]
def l60_21 : List Ent := [(21, .aload_n 0, 0, 0, 0, 0), (22, .getfield 41, 6, 5, 394, 0), (25, .getfield 244, 0, 2, 0, 0), (28, .istore_n 2, 0, 0, 0, 0), (29, .iconst 0, 0, 0, 0, 0), (30, .istore_n 3, 0, 0, 0, 0), (31, .iconst 0, 0, 0, 0, 0), (32, .istore 4, 0, 0, 0, 0)]
def l60_34 : List Ent := [(34, .iload 4, 0, 0, 0, 0), (36, .sipush 600, 0, 0, 0, 0), (39, .if_icmp .ge 47, 86, 0, 0, 0), (42, .iload 4, 0, 0, 0, 0), (44, .iload_n 3, 0, 0, 0, 0), (45, .if_icmp .ge 6, 51, 0, 0, 0), (48, .goto 32, 80, 0, 0, 0)]
def l60_51 : List Ent := [(51, .aload_n 0, 0, 0, 0, 0), (52, .iload_n 1, 0, 0, 0, 0), (53, .iload 4, 0, 0, 0, 0), (55, .invokevirtual 241, 68, 3, 0, 6)]
def l60_58 : List Ent := [(58, .aload_n 0, 0, 0, 0, 0), (59, .getfield 41, 6, 5, 394, 0), (62, .getfield 244, 0, 2, 0, 0), (65, .iload_n 2, 0, 0, 0, 0), (66, .if_icmp .ne 6, 72, 0, 0, 0), (69, .iload 4, 0, 0, 0, 0), (71, .ireturn, 0, 0, 0, 0)]
def l60_72 : List Ent := [(72, .aload_n 0, 0, 0, 0, 0), (73, .getfield 41, 6, 5, 394, 0), (76, .getfield 247, 0, 5, 0, 0), (79, .istore_n 3, 0, 0, 0, 0)]
def l60_80 : List Ent := [(80, .iinc 4 1, 0, 0, 0, 0), (83, .goto (-49), 34, 0, 0, 0)]
def l60_86 : List Ent := [(86, .sipush 600, 0, 0, 0, 0), (89, .ireturn, 0, 0, 0, 0)]
def bk60 : List Blk := [(0, l60_0, 8), (8, l60_8, 13), (13, l60_13, 21), (21, l60_21, 34), (34, l60_34, 51), (51, l60_51, 58), (58, l60_58, 72), (72, l60_72, 80), (80, l60_80, 86), (86, l60_86, 90)]
-- NoticeShifts.isWithin
def l61_0 : List Ent := [(0, .iload_n 0, 0, 0, 0, 0), (1, .iload_n 1, 0, 0, 0, 0), (2, .if_icmp .lt 12, 14, 0, 0, 0), (5, .iload_n 0, 0, 0, 0, 0), (6, .iload_n 2, 0, 0, 0, 0), (7, .if_icmp .gt 7, 14, 0, 0, 0), (10, .iconst 1, 0, 0, 0, 0), (11, .goto 4, 15, 0, 0, 0)]
def l61_14 : List Ent := [(14, .iconst 0, 0, 0, 0, 0)]
def l61_15 : List Ent := [(15, .ireturn, 1, 0, 0, 0)]
def bk61 : List Blk := [(0, l61_0, 14), (14, l61_14, 15), (15, l61_15, 16)]
-- NoticeShifts.asNumber
def l62_0 : List Ent := [(0, .iload_n 0, 0, 0, 0, 0), (1, .ifCond .eq 7, 8, 0, 0, 0), (4, .iconst 1, 0, 0, 0, 0), (5, .goto 4, 9, 0, 0, 0)]
def l62_8 : List Ent := [(8, .iconst 0, 0, 0, 0, 0)]
def l62_9 : List Ent := [(9, .ireturn, 0, 0, 0, 0)]
def bk62 : List Blk := [(0, l62_0, 8), (8, l62_8, 9), (9, l62_9, 10)]
-- NoticeShifts.hearingOf
def l63_0 : List Ent := [(0, .aload_n 0, 0, 0, 0, 0), (1, .getfield 10, 6, 0, 3, 0), (4, .getfield 148, 5, 7, 13, 0), (7, .iload_n 1, 0, 0, 0, 0), (8, .baload, 0, 0, 0, 0), (9, .ifCond .eq 13, 22, 0, 0, 0), (12, .aload_n 0, 0, 0, 0, 0), (13, .getfield 10, 6, 0, 3, 0), (16, .getfield 154, 5, 8, 14, 0), (19, .iload_n 1, 0, 0, 0, 0), (20, .aaload, 103, 1, 7, 0), (21, .areturn, 0, 0, 0, 0)]
def l63_22 : List Ent := [(22, .aload_n 0, 0, 0, 0, 0), (23, .iload_n 1, 0, 0, 0, 0), (24, .aload_n 0, 0, 0, 0, 0), (25, .getfield 48, 6, 6, 395, 0), (28, .invokevirtual 158, 64, 3, 0, 6)]
def l63_31 : List Ent := [(31, .aload_n 0, 0, 0, 0, 0), (32, .getfield 48, 6, 6, 395, 0), (35, .areturn, 0, 0, 0, 0)]
def bk63 : List Blk := [(0, l63_0, 22), (22, l63_22, 31), (31, l63_31, 36)]
-- NoticeShifts.hearNow
def l64_0 : List Ent := [(0, .aload_n 2, 0, 0, 0, 0), (1, .getfield 198, 1, 0, 3, 0), (4, .aload_n 0, 0, 0, 0, 0), (5, .getfield 10, 6, 0, 3, 0), (8, .getfield 56, 5, 0, 3, 0), (11, .invokevirtual 272, 24, 2, 0, 4)]
def l64_14 : List Ent := [(14, .aload_n 0, 0, 0, 0, 0), (15, .getfield 41, 6, 5, 394, 0), (18, .aload_n 0, 0, 0, 0, 0), (19, .getfield 10, 6, 0, 3, 0), (22, .getfield 142, 5, 5, 11, 0), (25, .iload_n 1, 0, 0, 0, 0), (26, .iaload, 0, 0, 0, 0), (27, .aload_n 0, 0, 0, 0, 0), (28, .getfield 10, 6, 0, 3, 0), (31, .getfield 145, 5, 6, 12, 0), (34, .iload_n 1, 0, 0, 0, 0), (35, .iaload, 0, 0, 0, 0), (36, .invokevirtual 275, 1, 3, 0, 0)]
def l64_39 : List Ent := [(39, .iconst 0, 0, 0, 0, 0), (40, .istore_n 3, 0, 0, 0, 0)]
def l64_41 : List Ent := [(41, .iload_n 3, 0, 0, 0, 0), (42, .aload_n 0, 0, 0, 0, 0), (43, .getfield 10, 6, 0, 3, 0), (46, .getfield 56, 5, 0, 3, 0), (49, .getfield 60, 4, 3, 0, 0), (52, .if_icmp .ge 58, 110, 0, 0, 0), (55, .aload_n 0, 0, 0, 0, 0), (56, .getfield 41, 6, 5, 394, 0), (59, .aload_n 0, 0, 0, 0, 0), (60, .getfield 10, 6, 0, 3, 0), (63, .iload_n 3, 0, 0, 0, 0), (64, .invokevirtual 278, 2, 3, 1, 0)]
def l64_67 : List Ent := [(67, .istore 4, 0, 0, 0, 0), (69, .aload_n 2, 0, 0, 0, 0), (70, .getfield 207, 1, 1, 7, 0), (73, .iload_n 3, 0, 0, 0, 0), (74, .iload 4, 0, 0, 0, 0), (76, .iastore, 0, 0, 0, 0), (77, .aload_n 2, 0, 0, 0, 0), (78, .getfield 282, 1, 2, 8, 0), (81, .iload_n 3, 0, 0, 0, 0), (82, .iload 4, 0, 0, 0, 0), (84, .bipush (-6), 0, 0, 0, 0), (86, .if_icmp .ne 7, 93, 0, 0, 0), (89, .iconst 0, 0, 0, 0, 0), (90, .goto 13, 103, 0, 0, 0)]
def l64_93 : List Ent := [(93, .aload_n 0, 0, 0, 0, 0), (94, .getfield 10, 6, 0, 3, 0), (97, .getfield 106, 5, 3, 9, 0), (100, .iload 4, 0, 0, 0, 0), (102, .iaload, 0, 0, 0, 0)]
def l64_103 : List Ent := [(103, .iastore, 0, 0, 0, 0), (104, .iinc 3 1, 0, 0, 0, 0), (107, .goto (-66), 41, 0, 0, 0)]
def l64_110 : List Ent := [(110, .return_, 0, 0, 0, 0)]
def bk64 : List Blk := [(0, l64_0, 14), (14, l64_14, 39), (39, l64_39, 41), (41, l64_41, 67), (67, l64_67, 93), (93, l64_93, 103), (103, l64_103, 110), (110, l64_110, 111)]
-- NoticeShifts.isOutOfDate
def l65_0 : List Ent := [(0, .aload_n 0, 0, 0, 0, 0), (1, .getfield 10, 6, 0, 3, 0), (4, .getfield 148, 5, 7, 13, 0), (7, .iload_n 1, 0, 0, 0, 0), (8, .baload, 0, 0, 0, 0), (9, .ifCond .ne 5, 14, 0, 0, 0), (12, .iconst 0, 0, 0, 0, 0), (13, .ireturn, 1, 0, 0, 0)]
def l65_14 : List Ent := [(14, .aload_n 0, 0, 0, 0, 0), (15, .iload_n 1, 0, 0, 0, 0), (16, .aload_n 0, 0, 0, 0, 0), (17, .getfield 48, 6, 6, 395, 0), (20, .invokevirtual 158, 64, 3, 0, 6)]
def l65_23 : List Ent := [(23, .aload_n 0, 0, 0, 0, 0), (24, .getfield 48, 6, 6, 395, 0), (27, .aload_n 0, 0, 0, 0, 0), (28, .getfield 10, 6, 0, 3, 0), (31, .getfield 154, 5, 8, 14, 0), (34, .iload_n 1, 0, 0, 0, 0), (35, .aaload, 103, 1, 7, 0), (36, .invokevirtual 283, 12, 2, 1, 1)]
def l65_39 : List Ent := [(39, .ifCond .ne 7, 46, 0, 0, 0), (42, .iconst 1, 0, 0, 0, 0), (43, .goto 4, 47, 0, 0, 0)]
def l65_46 : List Ent := [(46, .iconst 0, 0, 0, 0, 0)]
def l65_47 : List Ent := [(47, .ireturn, 1, 0, 0, 0)]
def bk65 : List Blk := [(0, l65_0, 14), (14, l65_14, 23), (23, l65_23, 39), (39, l65_39, 46), (46, l65_46, 47), (47, l65_47, 48)]
-- NoticeShifts.outOfDateListeners
def l66_0 : List Ent := [(0, .iconst 0, 0, 0, 0, 0), (1, .istore_n 1, 0, 0, 0, 0), (2, .iconst 0, 0, 0, 0, 0), (3, .istore_n 2, 0, 0, 0, 0)]
def l66_4 : List Ent := [(4, .iload_n 2, 0, 0, 0, 0), (5, .aload_n 0, 0, 0, 0, 0), (6, .getfield 10, 6, 0, 3, 0), (9, .getfield 139, 5, 11, 0, 0), (12, .if_icmp .ge 23, 35, 0, 0, 0), (15, .aload_n 0, 0, 0, 0, 0), (16, .iload_n 2, 0, 0, 0, 0), (17, .invokevirtual 189, 65, 2, 1, 6)]
def l66_20 : List Ent := [(20, .ifCond .eq 9, 29, 0, 0, 0), (23, .iload_n 1, 0, 0, 0, 0), (24, .iconst 1, 0, 0, 0, 0), (25, .iload_n 2, 0, 0, 0, 0), (26, .ishl, 0, 0, 0, 0), (27, .ior, 0, 0, 0, 0), (28, .istore_n 1, 0, 0, 0, 0)]
def l66_29 : List Ent := [(29, .iinc 2 1, 0, 0, 0, 0), (32, .goto (-28), 4, 0, 0, 0)]
def l66_35 : List Ent := [(35, .iload_n 1, 0, 0, 0, 0), (36, .ireturn, 0, 0, 0, 0)]
def bk66 : List Blk := [(0, l66_0, 4), (4, l66_4, 20), (20, l66_20, 29), (29, l66_29, 35), (35, l66_35, 37)]
-- NoticeShifts.longestListener
def l67_0 : List Ent := [(0, .bipush (-6), 0, 0, 0, 0), (2, .istore_n 1, 0, 0, 0, 0), (3, .bipush (-6), 0, 0, 0, 0), (5, .istore_n 2, 0, 0, 0, 0), (6, .iconst 0, 0, 0, 0, 0), (7, .istore_n 3, 0, 0, 0, 0)]
def l67_8 : List Ent := [(8, .iload_n 3, 0, 0, 0, 0), (9, .aload_n 0, 0, 0, 0, 0), (10, .getfield 10, 6, 0, 3, 0), (13, .getfield 139, 5, 11, 0, 0), (16, .if_icmp .ge 30, 46, 0, 0, 0), (19, .aload_n 0, 0, 0, 0, 0), (20, .iload_n 3, 0, 0, 0, 0), (21, .invokevirtual 162, 63, 2, 2, 6)]
def l67_24 : List Ent := [(24, .invokevirtual 166, 7, 1, 1, 1)]
def l67_27 : List Ent := [(27, .istore 4, 0, 0, 0, 0), (29, .iload 4, 0, 0, 0, 0), (31, .iload_n 2, 0, 0, 0, 0), (32, .if_icmp .le 8, 40, 0, 0, 0), (35, .iload_n 3, 0, 0, 0, 0), (36, .istore_n 1, 0, 0, 0, 0), (37, .iload 4, 0, 0, 0, 0), (39, .istore_n 2, 0, 0, 0, 0)]
def l67_40 : List Ent := [(40, .iinc 3 1, 0, 0, 0, 0), (43, .goto (-35), 8, 0, 0, 0)]
def l67_46 : List Ent := [(46, .iload_n 1, 0, 0, 0, 0), (47, .ireturn, 0, 0, 0, 0)]
def bk67 : List Blk := [(0, l67_0, 8), (8, l67_8, 24), (24, l67_24, 27), (27, l67_27, 40), (40, l67_40, 46), (46, l67_46, 48)]
-- NoticeShifts.chooseAll
def l68_0 : List Ent := [(0, .aload_n 0, 0, 0, 0, 0), (1, .getfield 41, 6, 5, 394, 0), (4, .aload_n 0, 0, 0, 0, 0), (5, .getfield 10, 6, 0, 3, 0), (8, .getfield 142, 5, 5, 11, 0), (11, .iload_n 1, 0, 0, 0, 0), (12, .iaload, 0, 0, 0, 0), (13, .iload_n 2, 0, 0, 0, 0), (14, .invokevirtual 275, 1, 3, 0, 0)]
def l68_17 : List Ent := [(17, .iconst 0, 0, 0, 0, 0), (18, .istore_n 3, 0, 0, 0, 0)]
def l68_19 : List Ent := [(19, .iload_n 3, 0, 0, 0, 0), (20, .aload_n 0, 0, 0, 0, 0), (21, .getfield 10, 6, 0, 3, 0), (24, .getfield 56, 5, 0, 3, 0), (27, .getfield 60, 4, 3, 0, 0), (30, .if_icmp .ge 22, 52, 0, 0, 0), (33, .aload_n 0, 0, 0, 0, 0), (34, .getfield 41, 6, 5, 394, 0), (37, .aload_n 0, 0, 0, 0, 0), (38, .getfield 10, 6, 0, 3, 0), (41, .iload_n 3, 0, 0, 0, 0), (42, .invokevirtual 278, 2, 3, 1, 0)]
def l68_45 : List Ent := [(45, .pop, 0, 0, 0, 0), (46, .iinc 3 1, 0, 0, 0, 0), (49, .goto (-30), 19, 0, 0, 0)]
def l68_52 : List Ent := [(52, .return_, 0, 0, 0, 0)]
def bk68 : List Blk := [(0, l68_0, 17), (17, l68_17, 19), (19, l68_19, 45), (45, l68_45, 52), (52, l68_52, 53)]
-- NoticeShifts.countHearers
def l69_0 : List Ent := [(0, .iconst 0, 0, 0, 0, 0), (1, .istore_n 2, 0, 0, 0, 0), (2, .iconst 0, 0, 0, 0, 0), (3, .istore_n 3, 0, 0, 0, 0)]
def l69_4 : List Ent := [(4, .iload_n 3, 0, 0, 0, 0), (5, .aload_n 0, 0, 0, 0, 0), (6, .getfield 10, 6, 0, 3, 0), (9, .getfield 139, 5, 11, 0, 0), (12, .if_icmp .ge 37, 49, 0, 0, 0), (15, .aload_n 0, 0, 0, 0, 0), (16, .iload_n 3, 0, 0, 0, 0), (17, .aload_n 0, 0, 0, 0, 0), (18, .getfield 10, 6, 0, 3, 0), (21, .getfield 145, 5, 6, 12, 0), (24, .iload_n 3, 0, 0, 0, 0), (25, .iaload, 0, 0, 0, 0), (26, .invokevirtual 241, 68, 3, 0, 6)]
def l69_29 : List Ent := [(29, .iload_n 2, 0, 0, 0, 0), (30, .aload_n 0, 0, 0, 0, 0), (31, .getfield 41, 6, 5, 394, 0), (34, .getfield 293, 0, 3, 0, 0), (37, .iload_n 1, 0, 0, 0, 0), (38, .ishr, 0, 0, 0, 0), (39, .iconst 1, 0, 0, 0, 0), (40, .iand, 0, 0, 0, 0), (41, .iadd, 0, 0, 0, 0), (42, .istore_n 2, 0, 0, 0, 0), (43, .iinc 3 1, 0, 0, 0, 0), (46, .goto (-42), 4, 0, 0, 0)]
def l69_49 : List Ent := [(49, .iload_n 2, 0, 0, 0, 0), (50, .ireturn, 0, 0, 0, 0)]
def bk69 : List Blk := [(0, l69_0, 4), (4, l69_4, 29), (29, l69_29, 49), (49, l69_49, 51)]
def bks : List (List Blk) := [[], bk1, bk2, bk3, [], bk5, bk6, bk7, bk8, bk9, bk10, bk11, bk12, [], bk14, [], [], bk17, bk18, bk19, bk20, bk21, bk22, bk23, bk24, bk25, [], bk27, bk28, bk29, bk30, bk31, bk32, bk33, bk34, bk35, bk36, bk37, bk38, [], bk40, bk41, bk42, bk43, bk44, bk45, bk46, bk47, bk48, bk49, bk50, bk51, bk52, bk53, bk54, bk55, bk56, bk57, bk58, bk59, bk60, bk61, bk62, bk63, bk64, bk65, bk66, bk67, bk68, bk69]
def bkOf (mi : Nat) : List Blk := bks.getD mi []
def blk (mi pc : Nat) : Option (List Ent × Nat) := ((bkOf mi).find? (fun b => b.1 == pc)).map (fun b => b.2)
theorem bo1 : bkOf 1 = bk1 := rfl
theorem b1_0 : blk 1 0 = some (l1_0, 33) := rfl
theorem bo2 : bkOf 2 = bk2 := rfl
theorem b2_0 : blk 2 0 = some (l2_0, 2) := rfl
theorem b2_2 : blk 2 2 = some (l2_2, 18) := rfl
theorem b2_18 : blk 2 18 = some (l2_18, 27) := rfl
theorem b2_27 : blk 2 27 = some (l2_27, 33) := rfl
theorem b2_33 : blk 2 33 = some (l2_33, 88) := rfl
theorem b2_88 : blk 2 88 = some (l2_88, 101) := rfl
theorem b2_101 : blk 2 101 = some (l2_101, 107) := rfl
theorem b2_107 : blk 2 107 = some (l2_107, 110) := rfl
theorem bo3 : bkOf 3 = bk3 := rfl
theorem b3_0 : blk 3 0 = some (l3_0, 21) := rfl
theorem b3_21 : blk 3 21 = some (l3_21, 22) := rfl
theorem b3_22 : blk 3 22 = some (l3_22, 39) := rfl
theorem b3_39 : blk 3 39 = some (l3_39, 40) := rfl
theorem b3_40 : blk 3 40 = some (l3_40, 55) := rfl
theorem b3_55 : blk 3 55 = some (l3_55, 56) := rfl
theorem b3_56 : blk 3 56 = some (l3_56, 57) := rfl
theorem bo5 : bkOf 5 = bk5 := rfl
theorem b5_0 : blk 5 0 = some (l5_0, 8) := rfl
theorem b5_8 : blk 5 8 = some (l5_8, 11) := rfl
theorem b5_11 : blk 5 11 = some (l5_11, 31) := rfl
theorem b5_31 : blk 5 31 = some (l5_31, 33) := rfl
theorem bo6 : bkOf 6 = bk6 := rfl
theorem b6_0 : blk 6 0 = some (l6_0, 5) := rfl
theorem b6_5 : blk 6 5 = some (l6_5, 13) := rfl
theorem bo7 : bkOf 7 = bk7 := rfl
theorem b7_0 : blk 7 0 = some (l7_0, 11) := rfl
theorem b7_11 : blk 7 11 = some (l7_11, 12) := rfl
theorem bo8 : bkOf 8 = bk8 := rfl
theorem b8_0 : blk 8 0 = some (l8_0, 4) := rfl
theorem b8_4 : blk 8 4 = some (l8_4, 11) := rfl
theorem b8_11 : blk 8 11 = some (l8_11, 13) := rfl
theorem bo9 : bkOf 9 = bk9 := rfl
theorem b9_0 : blk 9 0 = some (l9_0, 4) := rfl
theorem b9_4 : blk 9 4 = some (l9_4, 31) := rfl
theorem b9_31 : blk 9 31 = some (l9_31, 32) := rfl
theorem b9_32 : blk 9 32 = some (l9_32, 35) := rfl
theorem b9_35 : blk 9 35 = some (l9_35, 43) := rfl
theorem b9_43 : blk 9 43 = some (l9_43, 45) := rfl
theorem bo10 : bkOf 10 = bk10 := rfl
theorem b10_0 : blk 10 0 = some (l10_0, 4) := rfl
theorem b10_4 : blk 10 4 = some (l10_4, 41) := rfl
theorem b10_41 : blk 10 41 = some (l10_41, 47) := rfl
theorem b10_47 : blk 10 47 = some (l10_47, 50) := rfl
theorem bo11 : bkOf 11 = bk11 := rfl
theorem b11_0 : blk 11 0 = some (l11_0, 11) := rfl
theorem b11_11 : blk 11 11 = some (l11_11, 52) := rfl
theorem bo12 : bkOf 12 = bk12 := rfl
theorem b12_0 : blk 12 0 = some (l12_0, 11) := rfl
theorem b12_11 : blk 12 11 = some (l12_11, 16) := rfl
theorem b12_16 : blk 12 16 = some (l12_16, 18) := rfl
theorem b12_18 : blk 12 18 = some (l12_18, 59) := rfl
theorem b12_59 : blk 12 59 = some (l12_59, 61) := rfl
theorem b12_61 : blk 12 61 = some (l12_61, 67) := rfl
theorem b12_67 : blk 12 67 = some (l12_67, 69) := rfl
theorem bo14 : bkOf 14 = bk14 := rfl
theorem b14_0 : blk 14 0 = some (l14_0, 13) := rfl
theorem b14_13 : blk 14 13 = some (l14_13, 26) := rfl
theorem b14_26 : blk 14 26 = some (l14_26, 32) := rfl
theorem b14_32 : blk 14 32 = some (l14_32, 51) := rfl
theorem bo17 : bkOf 17 = bk17 := rfl
theorem b17_0 : blk 17 0 = some (l17_0, 4) := rfl
theorem b17_4 : blk 17 4 = some (l17_4, 24) := rfl
theorem b17_24 : blk 17 24 = some (l17_24, 26) := rfl
theorem bo18 : bkOf 18 = bk18 := rfl
theorem b18_0 : blk 18 0 = some (l18_0, 8) := rfl
theorem b18_8 : blk 18 8 = some (l18_8, 9) := rfl
theorem bo19 : bkOf 19 = bk19 := rfl
theorem b19_0 : blk 19 0 = some (l19_0, 4) := rfl
theorem b19_4 : blk 19 4 = some (l19_4, 28) := rfl
theorem b19_28 : blk 19 28 = some (l19_28, 34) := rfl
theorem b19_34 : blk 19 34 = some (l19_34, 37) := rfl
theorem bo20 : bkOf 20 = bk20 := rfl
theorem b20_0 : blk 20 0 = some (l20_0, 2) := rfl
theorem b20_2 : blk 20 2 = some (l20_2, 22) := rfl
theorem b20_22 : blk 20 22 = some (l20_22, 28) := rfl
theorem b20_28 : blk 20 28 = some (l20_28, 30) := rfl
theorem bo21 : bkOf 21 = bk21 := rfl
theorem b21_0 : blk 21 0 = some (l21_0, 4) := rfl
theorem b21_4 : blk 21 4 = some (l21_4, 24) := rfl
theorem b21_24 : blk 21 24 = some (l21_24, 26) := rfl
theorem bo22 : bkOf 22 = bk22 := rfl
theorem b22_0 : blk 22 0 = some (l22_0, 10) := rfl
theorem b22_10 : blk 22 10 = some (l22_10, 13) := rfl
theorem bo23 : bkOf 23 = bk23 := rfl
theorem b23_0 : blk 23 0 = some (l23_0, 4) := rfl
theorem b23_4 : blk 23 4 = some (l23_4, 28) := rfl
theorem b23_28 : blk 23 28 = some (l23_28, 34) := rfl
theorem b23_34 : blk 23 34 = some (l23_34, 36) := rfl
theorem bo24 : bkOf 24 = bk24 := rfl
theorem b24_0 : blk 24 0 = some (l24_0, 60) := rfl
theorem bo25 : bkOf 25 = bk25 := rfl
theorem b25_0 : blk 25 0 = some (l25_0, 13) := rfl
theorem b25_13 : blk 25 13 = some (l25_13, 15) := rfl
theorem b25_15 : blk 25 15 = some (l25_15, 68) := rfl
theorem b25_68 : blk 25 68 = some (l25_68, 70) := rfl
theorem b25_70 : blk 25 70 = some (l25_70, 76) := rfl
theorem b25_76 : blk 25 76 = some (l25_76, 78) := rfl
theorem bo27 : bkOf 27 = bk27 := rfl
theorem b27_0 : blk 27 0 = some (l27_0, 14) := rfl
theorem b27_14 : blk 27 14 = some (l27_14, 15) := rfl
theorem bo28 : bkOf 28 = bk28 := rfl
theorem b28_0 : blk 28 0 = some (l28_0, 11) := rfl
theorem b28_11 : blk 28 11 = some (l28_11, 12) := rfl
theorem bo29 : bkOf 29 = bk29 := rfl
theorem b29_0 : blk 29 0 = some (l29_0, 11) := rfl
theorem b29_11 : blk 29 11 = some (l29_11, 12) := rfl
theorem bo30 : bkOf 30 = bk30 := rfl
theorem b30_0 : blk 30 0 = some (l30_0, 14) := rfl
theorem b30_14 : blk 30 14 = some (l30_14, 15) := rfl
theorem b30_15 : blk 30 15 = some (l30_15, 16) := rfl
theorem bo31 : bkOf 31 = bk31 := rfl
theorem b31_0 : blk 31 0 = some (l31_0, 11) := rfl
theorem bo32 : bkOf 32 = bk32 := rfl
theorem b32_0 : blk 32 0 = some (l32_0, 27) := rfl
theorem bo33 : bkOf 33 = bk33 := rfl
theorem b33_0 : blk 33 0 = some (l33_0, 2) := rfl
theorem b33_2 : blk 33 2 = some (l33_2, 18) := rfl
theorem b33_18 : blk 33 18 = some (l33_18, 24) := rfl
theorem b33_24 : blk 33 24 = some (l33_24, 30) := rfl
theorem b33_30 : blk 33 30 = some (l33_30, 32) := rfl
theorem bo34 : bkOf 34 = bk34 := rfl
theorem b34_0 : blk 34 0 = some (l34_0, 4) := rfl
theorem b34_4 : blk 34 4 = some (l34_4, 22) := rfl
theorem b34_22 : blk 34 22 = some (l34_22, 25) := rfl
theorem b34_25 : blk 34 25 = some (l34_25, 33) := rfl
theorem b34_33 : blk 34 33 = some (l34_33, 35) := rfl
theorem bo35 : bkOf 35 = bk35 := rfl
theorem b35_0 : blk 35 0 = some (l35_0, 8) := rfl
theorem b35_8 : blk 35 8 = some (l35_8, 21) := rfl
theorem b35_21 : blk 35 21 = some (l35_21, 27) := rfl
theorem b35_27 : blk 35 27 = some (l35_27, 79) := rfl
theorem b35_79 : blk 35 79 = some (l35_79, 80) := rfl
theorem b35_80 : blk 35 80 = some (l35_80, 83) := rfl
theorem b35_83 : blk 35 83 = some (l35_83, 102) := rfl
theorem bo36 : bkOf 36 = bk36 := rfl
theorem b36_0 : blk 36 0 = some (l36_0, 15) := rfl
theorem b36_15 : blk 36 15 = some (l36_15, 34) := rfl
theorem b36_34 : blk 36 34 = some (l36_34, 40) := rfl
theorem b36_40 : blk 36 40 = some (l36_40, 51) := rfl
theorem bo37 : bkOf 37 = bk37 := rfl
theorem b37_0 : blk 37 0 = some (l37_0, 85) := rfl
theorem bo38 : bkOf 38 = bk38 := rfl
theorem b38_0 : blk 38 0 = some (l38_0, 11) := rfl
theorem b38_11 : blk 38 11 = some (l38_11, 127) := rfl
theorem b38_127 : blk 38 127 = some (l38_127, 171) := rfl
theorem b38_171 : blk 38 171 = some (l38_171, 177) := rfl
theorem b38_177 : blk 38 177 = some (l38_177, 178) := rfl
theorem bo40 : bkOf 40 = bk40 := rfl
theorem b40_0 : blk 40 0 = some (l40_0, 15) := rfl
theorem b40_15 : blk 40 15 = some (l40_15, 20) := rfl
theorem b40_20 : blk 40 20 = some (l40_20, 28) := rfl
theorem b40_28 : blk 40 28 = some (l40_28, 34) := rfl
theorem b40_34 : blk 40 34 = some (l40_34, 61) := rfl
theorem b40_61 : blk 40 61 = some (l40_61, 64) := rfl
theorem b40_64 : blk 40 64 = some (l40_64, 75) := rfl
theorem b40_75 : blk 40 75 = some (l40_75, 84) := rfl
theorem b40_84 : blk 40 84 = some (l40_84, 97) := rfl
theorem bo41 : bkOf 41 = bk41 := rfl
theorem b41_0 : blk 41 0 = some (l41_0, 8) := rfl
theorem b41_8 : blk 41 8 = some (l41_8, 13) := rfl
theorem b41_13 : blk 41 13 = some (l41_13, 30) := rfl
theorem b41_30 : blk 41 30 = some (l41_30, 41) := rfl
theorem b41_41 : blk 41 41 = some (l41_41, 62) := rfl
theorem b41_62 : blk 41 62 = some (l41_62, 64) := rfl
theorem bo42 : bkOf 42 = bk42 := rfl
theorem b42_0 : blk 42 0 = some (l42_0, 8) := rfl
theorem b42_8 : blk 42 8 = some (l42_8, 13) := rfl
theorem b42_13 : blk 42 13 = some (l42_13, 21) := rfl
theorem b42_21 : blk 42 21 = some (l42_21, 27) := rfl
theorem b42_27 : blk 42 27 = some (l42_27, 38) := rfl
theorem b42_38 : blk 42 38 = some (l42_38, 66) := rfl
theorem bo43 : bkOf 43 = bk43 := rfl
theorem b43_0 : blk 43 0 = some (l43_0, 8) := rfl
theorem b43_8 : blk 43 8 = some (l43_8, 13) := rfl
theorem b43_13 : blk 43 13 = some (l43_13, 17) := rfl
theorem b43_17 : blk 43 17 = some (l43_17, 38) := rfl
theorem b43_38 : blk 43 38 = some (l43_38, 41) := rfl
theorem b43_41 : blk 43 41 = some (l43_41, 52) := rfl
theorem b43_52 : blk 43 52 = some (l43_52, 75) := rfl
theorem b43_75 : blk 43 75 = some (l43_75, 76) := rfl
theorem bo44 : bkOf 44 = bk44 := rfl
theorem b44_0 : blk 44 0 = some (l44_0, 7) := rfl
theorem b44_7 : blk 44 7 = some (l44_7, 17) := rfl
theorem b44_17 : blk 44 17 = some (l44_17, 20) := rfl
theorem b44_20 : blk 44 20 = some (l44_20, 23) := rfl
theorem b44_23 : blk 44 23 = some (l44_23, 38) := rfl
theorem b44_38 : blk 44 38 = some (l44_38, 49) := rfl
theorem b44_49 : blk 44 49 = some (l44_49, 92) := rfl
theorem bo45 : bkOf 45 = bk45 := rfl
theorem b45_0 : blk 45 0 = some (l45_0, 8) := rfl
theorem b45_8 : blk 45 8 = some (l45_8, 19) := rfl
theorem b45_19 : blk 45 19 = some (l45_19, 22) := rfl
theorem b45_22 : blk 45 22 = some (l45_22, 24) := rfl
theorem b45_24 : blk 45 24 = some (l45_24, 32) := rfl
theorem b45_32 : blk 45 32 = some (l45_32, 38) := rfl
theorem b45_38 : blk 45 38 = some (l45_38, 49) := rfl
theorem b45_49 : blk 45 49 = some (l45_49, 58) := rfl
theorem b45_58 : blk 45 58 = some (l45_58, 68) := rfl
theorem bo46 : bkOf 46 = bk46 := rfl
theorem b46_0 : blk 46 0 = some (l46_0, 8) := rfl
theorem b46_8 : blk 46 8 = some (l46_8, 13) := rfl
theorem b46_13 : blk 46 13 = some (l46_13, 24) := rfl
theorem b46_24 : blk 46 24 = some (l46_24, 46) := rfl
theorem bo47 : bkOf 47 = bk47 := rfl
theorem b47_0 : blk 47 0 = some (l47_0, 6) := rfl
theorem b47_6 : blk 47 6 = some (l47_6, 17) := rfl
theorem b47_17 : blk 47 17 = some (l47_17, 20) := rfl
theorem b47_20 : blk 47 20 = some (l47_20, 23) := rfl
theorem b47_23 : blk 47 23 = some (l47_23, 38) := rfl
theorem b47_38 : blk 47 38 = some (l47_38, 49) := rfl
theorem b47_49 : blk 47 49 = some (l47_49, 102) := rfl
theorem bo48 : bkOf 48 = bk48 := rfl
theorem b48_0 : blk 48 0 = some (l48_0, 8) := rfl
theorem b48_8 : blk 48 8 = some (l48_8, 13) := rfl
theorem b48_13 : blk 48 13 = some (l48_13, 32) := rfl
theorem b48_32 : blk 48 32 = some (l48_32, 43) := rfl
theorem b48_43 : blk 48 43 = some (l48_43, 59) := rfl
theorem b48_59 : blk 48 59 = some (l48_59, 60) := rfl
theorem b48_60 : blk 48 60 = some (l48_60, 79) := rfl
theorem b48_79 : blk 48 79 = some (l48_79, 84) := rfl
theorem b48_84 : blk 48 84 = some (l48_84, 87) := rfl
theorem b48_87 : blk 48 87 = some (l48_87, 88) := rfl
theorem bo49 : bkOf 49 = bk49 := rfl
theorem b49_0 : blk 49 0 = some (l49_0, 8) := rfl
theorem b49_8 : blk 49 8 = some (l49_8, 13) := rfl
theorem b49_13 : blk 49 13 = some (l49_13, 52) := rfl
theorem b49_52 : blk 49 52 = some (l49_52, 65) := rfl
theorem b49_65 : blk 49 65 = some (l49_65, 78) := rfl
theorem b49_78 : blk 49 78 = some (l49_78, 89) := rfl
theorem b49_89 : blk 49 89 = some (l49_89, 90) := rfl
theorem b49_90 : blk 49 90 = some (l49_90, 101) := rfl
theorem b49_101 : blk 49 101 = some (l49_101, 102) := rfl
theorem b49_102 : blk 49 102 = some (l49_102, 115) := rfl
theorem b49_115 : blk 49 115 = some (l49_115, 125) := rfl
theorem b49_125 : blk 49 125 = some (l49_125, 128) := rfl
theorem bo50 : bkOf 50 = bk50 := rfl
theorem b50_0 : blk 50 0 = some (l50_0, 11) := rfl
theorem b50_11 : blk 50 11 = some (l50_11, 12) := rfl
theorem bo51 : bkOf 51 = bk51 := rfl
theorem b51_0 : blk 51 0 = some (l51_0, 8) := rfl
theorem b51_8 : blk 51 8 = some (l51_8, 27) := rfl
theorem b51_27 : blk 51 27 = some (l51_27, 30) := rfl
theorem b51_30 : blk 51 30 = some (l51_30, 32) := rfl
theorem b51_32 : blk 51 32 = some (l51_32, 41) := rfl
theorem b51_41 : blk 51 41 = some (l51_41, 42) := rfl
theorem bo52 : bkOf 52 = bk52 := rfl
theorem b52_0 : blk 52 0 = some (l52_0, 8) := rfl
theorem b52_8 : blk 52 8 = some (l52_8, 13) := rfl
theorem b52_13 : blk 52 13 = some (l52_13, 44) := rfl
theorem b52_44 : blk 52 44 = some (l52_44, 54) := rfl
theorem b52_54 : blk 52 54 = some (l52_54, 64) := rfl
theorem b52_64 : blk 52 64 = some (l52_64, 72) := rfl
theorem b52_72 : blk 52 72 = some (l52_72, 73) := rfl
theorem b52_73 : blk 52 73 = some (l52_73, 78) := rfl
theorem b52_78 : blk 52 78 = some (l52_78, 79) := rfl
theorem b52_79 : blk 52 79 = some (l52_79, 82) := rfl
theorem bo53 : bkOf 53 = bk53 := rfl
theorem b53_0 : blk 53 0 = some (l53_0, 8) := rfl
theorem b53_8 : blk 53 8 = some (l53_8, 13) := rfl
theorem b53_13 : blk 53 13 = some (l53_13, 60) := rfl
theorem b53_60 : blk 53 60 = some (l53_60, 70) := rfl
theorem b53_70 : blk 53 70 = some (l53_70, 80) := rfl
theorem b53_80 : blk 53 80 = some (l53_80, 92) := rfl
theorem b53_92 : blk 53 92 = some (l53_92, 93) := rfl
theorem b53_93 : blk 53 93 = some (l53_93, 98) := rfl
theorem b53_98 : blk 53 98 = some (l53_98, 101) := rfl
theorem b53_101 : blk 53 101 = some (l53_101, 102) := rfl
theorem b53_102 : blk 53 102 = some (l53_102, 107) := rfl
theorem b53_107 : blk 53 107 = some (l53_107, 110) := rfl
theorem b53_110 : blk 53 110 = some (l53_110, 111) := rfl
theorem b53_111 : blk 53 111 = some (l53_111, 116) := rfl
theorem b53_116 : blk 53 116 = some (l53_116, 119) := rfl
theorem b53_119 : blk 53 119 = some (l53_119, 120) := rfl
theorem b53_120 : blk 53 120 = some (l53_120, 125) := rfl
theorem b53_125 : blk 53 125 = some (l53_125, 128) := rfl
theorem b53_128 : blk 53 128 = some (l53_128, 129) := rfl
theorem b53_129 : blk 53 129 = some (l53_129, 134) := rfl
theorem b53_134 : blk 53 134 = some (l53_134, 141) := rfl
theorem b53_141 : blk 53 141 = some (l53_141, 144) := rfl
theorem bo54 : bkOf 54 = bk54 := rfl
theorem b54_0 : blk 54 0 = some (l54_0, 52) := rfl
theorem b54_52 : blk 54 52 = some (l54_52, 63) := rfl
theorem b54_63 : blk 54 63 = some (l54_63, 73) := rfl
theorem b54_73 : blk 54 73 = some (l54_73, 74) := rfl
theorem b54_74 : blk 54 74 = some (l54_74, 84) := rfl
theorem b54_84 : blk 54 84 = some (l54_84, 85) := rfl
theorem b54_85 : blk 54 85 = some (l54_85, 93) := rfl
theorem b54_93 : blk 54 93 = some (l54_93, 101) := rfl
theorem b54_101 : blk 54 101 = some (l54_101, 105) := rfl
theorem b54_105 : blk 54 105 = some (l54_105, 106) := rfl
theorem b54_106 : blk 54 106 = some (l54_106, 110) := rfl
theorem b54_110 : blk 54 110 = some (l54_110, 111) := rfl
theorem b54_111 : blk 54 111 = some (l54_111, 119) := rfl
theorem b54_119 : blk 54 119 = some (l54_119, 127) := rfl
theorem b54_127 : blk 54 127 = some (l54_127, 130) := rfl
theorem bo55 : bkOf 55 = bk55 := rfl
theorem b55_0 : blk 55 0 = some (l55_0, 8) := rfl
theorem b55_8 : blk 55 8 = some (l55_8, 13) := rfl
theorem b55_13 : blk 55 13 = some (l55_13, 18) := rfl
theorem b55_18 : blk 55 18 = some (l55_18, 33) := rfl
theorem b55_33 : blk 55 33 = some (l55_33, 38) := rfl
theorem b55_38 : blk 55 38 = some (l55_38, 45) := rfl
theorem bo56 : bkOf 56 = bk56 := rfl
theorem b56_0 : blk 56 0 = some (l56_0, 8) := rfl
theorem b56_8 : blk 56 8 = some (l56_8, 13) := rfl
theorem b56_13 : blk 56 13 = some (l56_13, 21) := rfl
theorem b56_21 : blk 56 21 = some (l56_21, 27) := rfl
theorem b56_27 : blk 56 27 = some (l56_27, 32) := rfl
theorem b56_32 : blk 56 32 = some (l56_32, 41) := rfl
theorem b56_41 : blk 56 41 = some (l56_41, 53) := rfl
theorem b56_53 : blk 56 53 = some (l56_53, 59) := rfl
theorem b56_59 : blk 56 59 = some (l56_59, 70) := rfl
theorem b56_70 : blk 56 70 = some (l56_70, 72) := rfl
theorem bo57 : bkOf 57 = bk57 := rfl
theorem b57_0 : blk 57 0 = some (l57_0, 8) := rfl
theorem b57_8 : blk 57 8 = some (l57_8, 13) := rfl
theorem b57_13 : blk 57 13 = some (l57_13, 21) := rfl
theorem b57_21 : blk 57 21 = some (l57_21, 30) := rfl
theorem b57_30 : blk 57 30 = some (l57_30, 33) := rfl
theorem b57_33 : blk 57 33 = some (l57_33, 36) := rfl
theorem b57_36 : blk 57 36 = some (l57_36, 41) := rfl
theorem b57_41 : blk 57 41 = some (l57_41, 49) := rfl
theorem b57_49 : blk 57 49 = some (l57_49, 61) := rfl
theorem b57_61 : blk 57 61 = some (l57_61, 69) := rfl
theorem b57_69 : blk 57 69 = some (l57_69, 81) := rfl
theorem b57_81 : blk 57 81 = some (l57_81, 82) := rfl
theorem b57_82 : blk 57 82 = some (l57_82, 112) := rfl
theorem b57_112 : blk 57 112 = some (l57_112, 122) := rfl
theorem b57_122 : blk 57 122 = some (l57_122, 132) := rfl
theorem b57_132 : blk 57 132 = some (l57_132, 135) := rfl
theorem b57_135 : blk 57 135 = some (l57_135, 136) := rfl
theorem b57_136 : blk 57 136 = some (l57_136, 152) := rfl
theorem b57_152 : blk 57 152 = some (l57_152, 154) := rfl
theorem b57_154 : blk 57 154 = some (l57_154, 155) := rfl
theorem b57_155 : blk 57 155 = some (l57_155, 158) := rfl
theorem b57_158 : blk 57 158 = some (l57_158, 168) := rfl
theorem b57_168 : blk 57 168 = some (l57_168, 169) := rfl
theorem bo58 : bkOf 58 = bk58 := rfl
theorem b58_0 : blk 58 0 = some (l58_0, 8) := rfl
theorem b58_8 : blk 58 8 = some (l58_8, 13) := rfl
theorem b58_13 : blk 58 13 = some (l58_13, 18) := rfl
theorem b58_18 : blk 58 18 = some (l58_18, 28) := rfl
theorem b58_28 : blk 58 28 = some (l58_28, 33) := rfl
theorem b58_33 : blk 58 33 = some (l58_33, 38) := rfl
theorem b58_38 : blk 58 38 = some (l58_38, 47) := rfl
theorem b58_47 : blk 58 47 = some (l58_47, 50) := rfl
theorem b58_50 : blk 58 50 = some (l58_50, 51) := rfl
theorem bo59 : bkOf 59 = bk59 := rfl
theorem b59_0 : blk 59 0 = some (l59_0, 8) := rfl
theorem b59_8 : blk 59 8 = some (l59_8, 13) := rfl
theorem b59_13 : blk 59 13 = some (l59_13, 21) := rfl
theorem b59_21 : blk 59 21 = some (l59_21, 27) := rfl
theorem b59_27 : blk 59 27 = some (l59_27, 32) := rfl
theorem b59_32 : blk 59 32 = some (l59_32, 43) := rfl
theorem b59_43 : blk 59 43 = some (l59_43, 66) := rfl
theorem b59_66 : blk 59 66 = some (l59_66, 69) := rfl
theorem b59_69 : blk 59 69 = some (l59_69, 76) := rfl
theorem b59_76 : blk 59 76 = some (l59_76, 79) := rfl
theorem bo60 : bkOf 60 = bk60 := rfl
theorem b60_0 : blk 60 0 = some (l60_0, 8) := rfl
theorem b60_8 : blk 60 8 = some (l60_8, 13) := rfl
theorem b60_13 : blk 60 13 = some (l60_13, 21) := rfl
theorem b60_21 : blk 60 21 = some (l60_21, 34) := rfl
theorem b60_34 : blk 60 34 = some (l60_34, 51) := rfl
theorem b60_51 : blk 60 51 = some (l60_51, 58) := rfl
theorem b60_58 : blk 60 58 = some (l60_58, 72) := rfl
theorem b60_72 : blk 60 72 = some (l60_72, 80) := rfl
theorem b60_80 : blk 60 80 = some (l60_80, 86) := rfl
theorem b60_86 : blk 60 86 = some (l60_86, 90) := rfl
theorem bo61 : bkOf 61 = bk61 := rfl
theorem b61_0 : blk 61 0 = some (l61_0, 14) := rfl
theorem b61_14 : blk 61 14 = some (l61_14, 15) := rfl
theorem b61_15 : blk 61 15 = some (l61_15, 16) := rfl
theorem bo62 : bkOf 62 = bk62 := rfl
theorem b62_0 : blk 62 0 = some (l62_0, 8) := rfl
theorem b62_8 : blk 62 8 = some (l62_8, 9) := rfl
theorem b62_9 : blk 62 9 = some (l62_9, 10) := rfl
theorem bo63 : bkOf 63 = bk63 := rfl
theorem b63_0 : blk 63 0 = some (l63_0, 22) := rfl
theorem b63_22 : blk 63 22 = some (l63_22, 31) := rfl
theorem b63_31 : blk 63 31 = some (l63_31, 36) := rfl
theorem bo64 : bkOf 64 = bk64 := rfl
theorem b64_0 : blk 64 0 = some (l64_0, 14) := rfl
theorem b64_14 : blk 64 14 = some (l64_14, 39) := rfl
theorem b64_39 : blk 64 39 = some (l64_39, 41) := rfl
theorem b64_41 : blk 64 41 = some (l64_41, 67) := rfl
theorem b64_67 : blk 64 67 = some (l64_67, 93) := rfl
theorem b64_93 : blk 64 93 = some (l64_93, 103) := rfl
theorem b64_103 : blk 64 103 = some (l64_103, 110) := rfl
theorem b64_110 : blk 64 110 = some (l64_110, 111) := rfl
theorem bo65 : bkOf 65 = bk65 := rfl
theorem b65_0 : blk 65 0 = some (l65_0, 14) := rfl
theorem b65_14 : blk 65 14 = some (l65_14, 23) := rfl
theorem b65_23 : blk 65 23 = some (l65_23, 39) := rfl
theorem b65_39 : blk 65 39 = some (l65_39, 46) := rfl
theorem b65_46 : blk 65 46 = some (l65_46, 47) := rfl
theorem b65_47 : blk 65 47 = some (l65_47, 48) := rfl
theorem bo66 : bkOf 66 = bk66 := rfl
theorem b66_0 : blk 66 0 = some (l66_0, 4) := rfl
theorem b66_4 : blk 66 4 = some (l66_4, 20) := rfl
theorem b66_20 : blk 66 20 = some (l66_20, 29) := rfl
theorem b66_29 : blk 66 29 = some (l66_29, 35) := rfl
theorem b66_35 : blk 66 35 = some (l66_35, 37) := rfl
theorem bo67 : bkOf 67 = bk67 := rfl
theorem b67_0 : blk 67 0 = some (l67_0, 8) := rfl
theorem b67_8 : blk 67 8 = some (l67_8, 24) := rfl
theorem b67_24 : blk 67 24 = some (l67_24, 27) := rfl
theorem b67_27 : blk 67 27 = some (l67_27, 40) := rfl
theorem b67_40 : blk 67 40 = some (l67_40, 46) := rfl
theorem b67_46 : blk 67 46 = some (l67_46, 48) := rfl
theorem bo68 : bkOf 68 = bk68 := rfl
theorem b68_0 : blk 68 0 = some (l68_0, 17) := rfl
theorem b68_17 : blk 68 17 = some (l68_17, 19) := rfl
theorem b68_19 : blk 68 19 = some (l68_19, 45) := rfl
theorem b68_45 : blk 68 45 = some (l68_45, 52) := rfl
theorem b68_52 : blk 68 52 = some (l68_52, 53) := rfl
theorem bo69 : bkOf 69 = bk69 := rfl
theorem b69_0 : blk 69 0 = some (l69_0, 4) := rfl
theorem b69_4 : blk 69 4 = some (l69_4, 29) := rfl
theorem b69_29 : blk 69 29 = some (l69_29, 49) := rfl
theorem b69_49 : blk 69 49 = some (l69_49, 51) := rfl
end
section
/-! A SMALL MACHINE over the same instructions: ints are integers, a reference is the number of a cell, the heap is a function from cell and place to an integer; pointers never change (layout 'lay'). -/
abbrev MV : Type := Sum Int (Sum Int64 Nat)
abbrev vI (x : Int) : MV := Sum.inl x
abbrev vL (x : Int64) : MV := Sum.inr (Sum.inl x)
abbrev vR (k : Nat) : MV := Sum.inr (Sum.inr k)
abbrev Mem : Type := Nat → Nat → Int
abbrev Ls : Type := List (Option MV)
/-- how many cells are made, which pointers are set -/
abbrev Sg : Type := Nat × (Nat → Nat → Bool)
def inR (x : Int) : Prop := -2147483648 ≤ x ∧ x ≤ 2147483647
def ms (μ : Mem) (k j : Nat) (v : Int) : Mem := fun k' j' => if k' = k ∧ j' = j then v else μ k' j'
def mcp (μ : Mem) (k0 sp k1 dp n : Nat) : Mem := fun k j => if k = k1 ∧ dp ≤ j ∧ j < dp + n then μ k0 (sp + (j - dp)) else μ k j
-- the layout: kind and size of each cell; kinds 0 to 7 objects (the class), 100 int[], 101 char[], 102 boolean[], 103 Hearing[], 104 State[] of the history, 105 State[] of the slots
def layS : List (Nat × Nat) := [(4, 4), (100, 24), (100, 24), (100, 24)]
def layH : List (Nat × Nat) := [(1, 3), (4, 4), (100, 24), (100, 24), (100, 24), (100, 24), (100, 24)]
def layT : List (Nat × Nat) := [(5, 12), (4, 4), (100, 24), (100, 24), (100, 24), (100, 24), (100, 96), (100, 8), (100, 8), (100, 6), (100, 6), (102, 6), (103, 6)] ++ (layH ++ (layH ++ (layH ++ (layH ++ (layH ++ layH)))))
def lay : List (Nat × Nat) := [(6, 7)] ++ (layT ++ ([(2, 3), (104, 6)] ++ (layT ++ (layT ++ (layT ++ (layT ++ (layT ++ (layT ++ ([(105, 2), (102, 2), (3, 2), (101, 60), (0, 6)] ++ (layH ++ (layT ++ layT)))))))))))
def shp (σ : Sg) (k : Nat) : Nat × Nat := if k < σ.1 then lay.getD k (999, 0) else (999, 0)
/-- an object's fields: 0 int, 1 boolean, n + 2 a pointer to the cell n further on -/
def fks (c : Nat) : List Nat := match c with
  | 0 => [0, 0, 0, 0, 0, 0]
  | 1 => [3, 7, 8]
  | 2 => [3, 0, 0]
  | 3 => [3, 0]
  | 4 => [3, 4, 5, 0]
  | 5 => [3, 7, 8, 9, 10, 11, 12, 13, 14, 0, 0, 0]
  | 6 => [3, 58, 390, 391, 392, 394, 395]
  | _ => []
/-- an array of references: the cell that its place i points to is so much further on -/
def aks (c : Nat) : Nat × Nat := match c with
  | 103 => (1, 7)
  | 104 => (1, 55)
  | _ => (12, 55)
-- operands
def p1 (st : List MV) (f : Int → List MV → Prop) : Prop := match st with | .inl x :: r => f x r | _ => False
def p2 (st : List MV) (f : Int → Int → List MV → Prop) : Prop := match st with | .inl y :: .inl x :: r => f x y r | _ => False
def pR (st : List MV) (f : Nat → List MV → Prop) : Prop := match st with | .inr (.inr k) :: r => f k r | _ => False
def pA (st : List MV) (f : Nat → Int → List MV → Prop) : Prop := match st with | .inl i :: .inr (.inr k) :: r => f k i r | _ => False
def pAS (st : List MV) (f : Nat → Int → Int → List MV → Prop) : Prop := match st with | .inl v :: .inl i :: .inr (.inr k) :: r => f k i v r | _ => False
def pL (st : List MV) (f : Int64 → List MV → Prop) : Prop := match st with | .inr (.inl x) :: r => f x r | _ => False
def pLL (st : List MV) (f : Int64 → Int64 → List MV → Prop) : Prop := match st with | .inr (.inl y) :: .inr (.inl x) :: r => f x y r | _ => False
def pLI (st : List MV) (f : Int64 → Int → List MV → Prop) : Prop := match st with | .inl y :: .inr (.inl x) :: r => f x y r | _ => False
def pD (st : List MV) (f : MV → List MV → Prop) : Prop := match st with | .inl x :: r => f (.inl x) r | .inr (.inr k) :: r => f (.inr (.inr k)) r | _ => False
def pC (st : List MV) (f : Nat → Int → Nat → Int → Int → List MV → Prop) : Prop := match st with | .inl n :: .inl dp :: .inr (.inr k1) :: .inl sp :: .inr (.inr k0) :: r => f k0 sp k1 dp n r | _ => False
-- locals
def ldI : Ls → Nat → (Int → Prop) → Prop
  | [], _, _ => False
  | h :: _, 0, f => (match h with | some (.inl x) => f x | _ => False)
  | _ :: t, n + 1, f => ldI t n f
def ldL : Ls → Nat → (Int64 → Prop) → Prop
  | [], _, _ => False
  | h :: _, 0, f => (match h with | some (.inr (.inl x)) => f x | _ => False)
  | _ :: t, n + 1, f => ldL t n f
def ldR : Ls → Nat → (Nat → Prop) → Prop
  | [], _, _ => False
  | h :: _, 0, f => (match h with | some (.inr (.inr x)) => f x | _ => False)
  | _ :: t, n + 1, f => ldR t n f
def stL : Ls → Nat → Option MV → Ls
  | _ :: t, 0, v => v :: t
  | h :: t, n + 1, v => h :: stL t n v
  | [], _, _ => []
def nLg : Option MV → Prop
  | some (.inr (.inl _)) => False
  | _ => True
/-- a store at place n of one word: there is such a place, and no long ends there -/
def okS : Ls → Nat → Prop
  | _ :: _, 0 => True
  | h :: _ :: _, 1 => nLg h
  | _ :: t, n + 2 => okS t (n + 1)
  | _, _ => False
def okS2 : Ls → Nat → Prop
  | _ :: _ :: _, 0 => True
  | h :: _ :: _ :: _, 1 => nLg h
  | _ :: t, n + 2 => okS2 t (n + 1)
  | _, _ => False
-- arithmetic that is not the integers' own
def iAnd (x y : Int) : Int := (Int32.ofInt x &&& Int32.ofInt y).toInt
def iOr (x y : Int) : Int := (Int32.ofInt x ||| Int32.ofInt y).toInt
def iShl (x y : Int) : Int := (Int32.ofInt x <<< (Int32.ofInt y &&& 31)).toInt
def iShr (x y : Int) : Int := (Int32.ofInt x >>> (Int32.ofInt y &&& 31)).toInt
def iI2c (x : Int) : Int := ((Int32.ofInt x).toUInt32 % 65536).toInt32.toInt
def lUshr (x : Int64) (y : Int) : Int64 := (x.toUInt64 >>> ((Int32.ofInt y).toInt64.toUInt64 &&& Int64.toUInt64 63)).toInt64
def lCmp (x y : Int64) : Int := (lg_cmp x y).toInt
/-- the stack below a call's arguments is short -/
def len4 : List MV → Prop
  | [] => True
  | [_] => True
  | [_, _] => True
  | [_, _, _] => True
  | [_, _, _, _] => True
  | _ => False
-- branches
def cEq (x y : Int) (a b : Prop) : Prop := (x = y → a) ∧ (x ≠ y → inR x ∧ inR y ∧ b)
def cLt (x y : Int) (a b : Prop) : Prop := inR x ∧ inR y ∧ (x < y → a) ∧ (y ≤ x → b)
def cnd (c : ClassFile.Cond) (x y : Int) (a b : Prop) : Prop := match c with
  | .eq => cEq x y a b
  | .ne => cEq x y b a
  | .lt => cLt x y a b
  | .ge => cLt x y b a
  | .gt => cLt y x a b
  | .le => cLt y x b a
/-- a switch by its rows: at value v goes to pc + o -/
def swc (pc : Nat) (K : Nat → Prop) (x : Int) : Int → List Int → Prop
  | _, [] => True
  | v, o :: os => (x = v → K ((pc : Int) + o).toNat) ∧ swc pc K x (v + 1) os
def tk (n : Nat) (st : List MV) (f : List MV → List MV → Prop) : Prop := match n, st with
  | 0, r => f [] r
  | 1, a :: r => f [a] r
  | 2, b :: a :: r => f [a, b] r
  | 3, c :: b :: a :: r => f [a, b, c] r
  | 4, d :: c :: b :: a :: r => f [a, b, c, d] r
  | _, _ => False
abbrev PT : Type := Nat → Ls → List MV → Mem → Prop
abbrev QT : Type := MV → Mem → Prop
abbrev CT : Type := Nat → List MV → Mem → QT → Prop
/-- what a call pushes: nothing of a void method -/
def psh (k : Nat) (v : MV) (r : List MV) : List MV := if k = 0 then r else v :: r
/-- what may be put into a field: a boolean is 0 or 1 -/
def pfv (c : Nat) (v : Int) : Prop := match c with
  | 0 => True
  | 1 => v = 0 ∨ v = 1
  | _ => False
/-- the receiver is an object of class e -/
def rcv (σ : Sg) (e : Nat) : List MV → Prop
  | .inr (.inr k) :: _ => (shp σ k).1 = e
  | _ => False
def stp (σ : Sg) (P : PT) (call : CT) (Q : QT) (pc : Nat) (i : Instr) (a b c x1 : Nat) (k : Ls → List MV → Mem → Prop) (ls : Ls) (st : List MV) (μ : Mem) : Prop := match i with
  | .iconst n => k ls (.inl n :: st) μ
  | .bipush n => k ls (.inl n :: st) μ
  | .sipush n => k ls (.inl n :: st) μ
  | .lconst n => k ls (.inr (.inl (Int64.ofNat n.val)) :: st) μ
  | .ldc2_w _ => k ls (.inr (.inl (Int64.ofNat a)) :: st) μ
  | .iload n => ldI ls n fun x => k ls (.inl x :: st) μ
  | .iload_n n => ldI ls n.val fun x => k ls (.inl x :: st) μ
  | .lload n => ldL ls n fun x => k ls (.inr (.inl x) :: st) μ
  | .lload_n n => ldL ls n.val fun x => k ls (.inr (.inl x) :: st) μ
  | .aload n => ldR ls n fun x => k ls (.inr (.inr x) :: st) μ
  | .aload_n n => ldR ls n.val fun x => k ls (.inr (.inr x) :: st) μ
  | .istore n => p1 st fun x r => okS ls n ∧ k (stL ls n (some (.inl x))) r μ
  | .istore_n n => p1 st fun x r => okS ls n.val ∧ k (stL ls n.val (some (.inl x))) r μ
  | .astore n => pR st fun x r => okS ls n ∧ k (stL ls n (some (.inr (.inr x)))) r μ
  | .astore_n n => pR st fun x r => okS ls n.val ∧ k (stL ls n.val (some (.inr (.inr x)))) r μ
  | .lstore n => pL st fun x r => okS2 ls n ∧ k (stL (stL ls n (some (.inr (.inl x)))) (n + 1) none) r μ
  | .lstore_n n => pL st fun x r => okS2 ls n.val ∧ k (stL (stL ls n.val (some (.inr (.inl x)))) (n.val + 1) none) r μ
  | .iinc n d => ldI ls n fun x => okS ls n ∧ k (stL ls n (some (.inl (x + d)))) st μ
  | .iadd => p2 st fun x y r => k ls (.inl (x + y) :: r) μ
  | .isub => p2 st fun x y r => k ls (.inl (x - y) :: r) μ
  | .imul => p2 st fun x y r => k ls (.inl (x * y) :: r) μ
  | .iand => p2 st fun x y r => k ls (.inl (iAnd x y) :: r) μ
  | .ior => p2 st fun x y r => k ls (.inl (iOr x y) :: r) μ
  | .ishl => p2 st fun x y r => k ls (.inl (iShl x y) :: r) μ
  | .ishr => p2 st fun x y r => k ls (.inl (iShr x y) :: r) μ
  | .i2c => p1 st fun x r => k ls (.inl (iI2c x) :: r) μ
  | .i2l => p1 st fun x r => k ls (.inr (.inl (Int32.ofInt x).toInt64) :: r) μ
  | .l2i => pL st fun x r => k ls (.inl x.toInt32.toInt :: r) μ
  | .land => pLL st fun x y r => k ls (.inr (.inl (x &&& y)) :: r) μ
  | .lushr => pLI st fun x y r => k ls (.inr (.inl (lUshr x y)) :: r) μ
  | .lcmp => pLL st fun x y r => k ls (.inl (lCmp x y) :: r) μ
  | .dup => pD st fun v r => k ls (v :: v :: r) μ
  | .dup2 => pD st fun v r => pD r fun w r2 => k ls (v :: w :: v :: w :: r2) μ
  | .pop => pD st fun _ r => k ls r μ
  | .goto _ => P a ls st μ
  | .ifCond cc _ => p1 st fun x r => cnd cc x 0 (P a ls r μ) (k ls r μ)
  | .if_icmp cc _ => p2 st fun x y r => cnd cc x y (P a ls r μ) (k ls r μ)
  | .tableswitch d lo hi offs => p1 st fun x r => inR x ∧ swc pc (fun t => P t ls r μ) x lo offs.toList ∧ (x < lo ∨ hi < x → P ((pc : Int) + d).toNat ls r μ)
  | .getfield _ => pR st fun o r => (shp σ o).1 = a ∧ (match c with | 0 => k ls (.inl (μ o b) :: r) μ | 1 => k ls (.inl (μ o b) :: r) μ | n + 2 => σ.2 o b = true ∧ k ls (.inr (.inr (o + n)) :: r) μ)
  | .putfield _ => match st with
    | .inl v :: .inr (.inr o) :: r => (shp σ o).1 = a ∧ pfv c v ∧ k ls r (ms μ o b v)
    | _ => False
  | .iaload => pA st fun o i r => (shp σ o).1 = 100 ∧ 0 ≤ i ∧ i < ((shp σ o).2 : Int) ∧ k ls (.inl (μ o i.toNat) :: r) μ
  | .caload => pA st fun o i r => (shp σ o).1 = 101 ∧ 0 ≤ i ∧ i < ((shp σ o).2 : Int) ∧ k ls (.inl (μ o i.toNat) :: r) μ
  | .baload => pA st fun o i r => (shp σ o).1 = 102 ∧ 0 ≤ i ∧ i < ((shp σ o).2 : Int) ∧ k ls (.inl (μ o i.toNat) :: r) μ
  | .aaload => pA st fun o i r => (shp σ o).1 = a ∧ 0 ≤ i ∧ i < ((shp σ o).2 : Int) ∧ σ.2 o i.toNat = true ∧ k ls (.inr (.inr (o + b + c * i.toNat)) :: r) μ
  | .iastore => pAS st fun o i v r => (shp σ o).1 = 100 ∧ 0 ≤ i ∧ i < ((shp σ o).2 : Int) ∧ k ls r (ms μ o i.toNat v)
  | .castore => pAS st fun o i v r => (shp σ o).1 = 101 ∧ 0 ≤ i ∧ i < ((shp σ o).2 : Int) ∧ (0 ≤ v ∧ v < 65536) ∧ k ls r (ms μ o i.toNat v)
  | .bastore => pAS st fun o i v r => (shp σ o).1 = 102 ∧ 0 ≤ i ∧ i < ((shp σ o).2 : Int) ∧ (v = 0 ∨ v = 1) ∧ k ls r (ms μ o i.toNat v)
  | .ireturn => p1 st fun x r => r = [] ∧ (if a = 1 then x = 0 ∨ x = 1 else if a = 2 then 0 ≤ x ∧ x < 65536 else True) ∧ Q (.inl x) μ
  | .return_ => st = [] ∧ Q (.inl 0) μ
  | .areturn => pR st fun x r => r = [] ∧ Q (.inr (.inr x)) μ
  | .invokevirtual _ => tk b st fun vs r => len4 r ∧ rcv σ x1 vs ∧ call a vs μ fun v μ' => P (pc + 3) ls (psh c v r) μ'
  | .invokestatic _ => match c with
    | 10 => p2 st fun x y r => (len4 r ∧ inR x) ∧ inR y ∧ k ls (.inl (if y < x then y else x) :: r) μ
    | 13 => pC st fun k0 sp k1 dp n r => (len4 r ∧ (shp σ k0).1 = 100 ∧ (shp σ k1).1 = 100) ∧ (0 ≤ sp ∧ 0 ≤ dp ∧ 0 ≤ n) ∧ (sp + n ≤ ((shp σ k0).2 : Int) ∧ dp + n ≤ ((shp σ k1).2 : Int)) ∧ k ls r (mcp μ k0 sp.toNat k1 dp.toNat n.toNat)
    | _ => tk b st fun vs r => len4 r ∧ call a vs μ fun v μ' => P (pc + 3) ls (v :: r) μ'
  | _ => False
def seg (σ : Sg) (P : PT) (call : CT) (Q : QT) : List Ent → Nat → Ls → List MV → Mem → Prop
  | [], nx, ls, st, μ => P nx ls st μ
  | (pc, i, a, b, c, x1) :: r, nx, ls, st, μ => stp σ P call Q pc i a b c x1 (fun ls st μ => seg σ P call Q r nx ls st μ) ls st μ
/-- from block to block: the least predicate that is closed under the blocks of method mi -/
def wp (σ : Sg) (call : CT) (mi : Nat) (Q : QT) (pc : Nat) (ls : Ls) (st : List MV) (μ : Mem) : Prop :=
  True ∧ ∀ P : PT, (∀ pc l nx ls st μ, blk mi pc = some (l, nx) → seg σ P call Q l nx ls st μ → P pc ls st μ) → P pc ls st μ
def argL : List MV → Ls
  | [] => []
  | .inr (.inl x) :: t => some (.inr (.inl x)) :: none :: argL t
  | v :: t => some v :: argL t
def iniL (mi : Nat) (vs : List MV) : Ls := argL vs ++ List.replicate (lM mi - (argL vs).length) none
/-- a call of method mi, at most d calls deep -/
def Call (σ : Sg) : Nat → CT
  | 0 => fun _ _ _ _ => False
  | d + 1 => fun mi vs μ Q => vs.length = nM mi ∧ (argL vs).length ≤ lM mi ∧ wp σ (Call σ d) mi Q 0 (iniL mi vs) [] μ
theorem sg_iconst {σ : Sg} {P : PT} {call : CT} {Q : QT} {pc a b c x1 nx : Nat} {r : List Ent} {ls : Ls} {st : List MV} {μ : Mem} {n : Int} : seg σ P call Q ((pc, .iconst n, a, b, c, x1) :: r) nx ls st μ = (seg σ P call Q r nx ls (Sum.inl n :: st) μ) := rfl
theorem sg_bipush {σ : Sg} {P : PT} {call : CT} {Q : QT} {pc a b c x1 nx : Nat} {r : List Ent} {ls : Ls} {st : List MV} {μ : Mem} {n : Int} : seg σ P call Q ((pc, .bipush n, a, b, c, x1) :: r) nx ls st μ = (seg σ P call Q r nx ls (Sum.inl n :: st) μ) := rfl
theorem sg_sipush {σ : Sg} {P : PT} {call : CT} {Q : QT} {pc a b c x1 nx : Nat} {r : List Ent} {ls : Ls} {st : List MV} {μ : Mem} {n : Int} : seg σ P call Q ((pc, .sipush n, a, b, c, x1) :: r) nx ls st μ = (seg σ P call Q r nx ls (Sum.inl n :: st) μ) := rfl
theorem sg_lconst {σ : Sg} {P : PT} {call : CT} {Q : QT} {pc a b c x1 nx : Nat} {r : List Ent} {ls : Ls} {st : List MV} {μ : Mem} {n : Fin 2} : seg σ P call Q ((pc, .lconst n, a, b, c, x1) :: r) nx ls st μ = (seg σ P call Q r nx ls (Sum.inr (Sum.inl (Int64.ofNat n.val)) :: st) μ) := rfl
theorem sg_ldc2 {σ : Sg} {P : PT} {call : CT} {Q : QT} {pc a b c x1 nx : Nat} {r : List Ent} {ls : Ls} {st : List MV} {μ : Mem} {n : Nat} : seg σ P call Q ((pc, .ldc2_w n, a, b, c, x1) :: r) nx ls st μ = (seg σ P call Q r nx ls (Sum.inr (Sum.inl (Int64.ofNat a)) :: st) μ) := rfl
theorem sg_iload_0 {σ : Sg} {P : PT} {call : CT} {Q : QT} {pc a b c x1 nx : Nat} {r : List Ent} {ls : Ls} {st : List MV} {μ : Mem} {t : Ls} {x : Int} : seg σ P call Q ((pc, .iload_n 0, a, b, c, x1) :: r) nx (some (Sum.inl x) :: t) st μ = (seg σ P call Q r nx (some (Sum.inl x) :: t) (Sum.inl x :: st) μ) := rfl
theorem sg_iload_1 {σ : Sg} {P : PT} {call : CT} {Q : QT} {pc a b c x1 nx : Nat} {r : List Ent} {ls : Ls} {st : List MV} {μ : Mem} {t : Ls} {x : Int} {h0 : Option MV} : seg σ P call Q ((pc, .iload_n 1, a, b, c, x1) :: r) nx (h0 :: some (Sum.inl x) :: t) st μ = (seg σ P call Q r nx (h0 :: some (Sum.inl x) :: t) (Sum.inl x :: st) μ) := rfl
theorem sg_iload_2 {σ : Sg} {P : PT} {call : CT} {Q : QT} {pc a b c x1 nx : Nat} {r : List Ent} {ls : Ls} {st : List MV} {μ : Mem} {t : Ls} {x : Int} {h0 : Option MV} {h1 : Option MV} : seg σ P call Q ((pc, .iload_n 2, a, b, c, x1) :: r) nx (h0 :: h1 :: some (Sum.inl x) :: t) st μ = (seg σ P call Q r nx (h0 :: h1 :: some (Sum.inl x) :: t) (Sum.inl x :: st) μ) := rfl
theorem sg_iload_3 {σ : Sg} {P : PT} {call : CT} {Q : QT} {pc a b c x1 nx : Nat} {r : List Ent} {ls : Ls} {st : List MV} {μ : Mem} {t : Ls} {x : Int} {h0 : Option MV} {h1 : Option MV} {h2 : Option MV} : seg σ P call Q ((pc, .iload_n 3, a, b, c, x1) :: r) nx (h0 :: h1 :: h2 :: some (Sum.inl x) :: t) st μ = (seg σ P call Q r nx (h0 :: h1 :: h2 :: some (Sum.inl x) :: t) (Sum.inl x :: st) μ) := rfl
theorem sg_aload_0 {σ : Sg} {P : PT} {call : CT} {Q : QT} {pc a b c x1 nx : Nat} {r : List Ent} {ls : Ls} {st : List MV} {μ : Mem} {t : Ls} {x : Nat} : seg σ P call Q ((pc, .aload_n 0, a, b, c, x1) :: r) nx (some (Sum.inr (Sum.inr x)) :: t) st μ = (seg σ P call Q r nx (some (Sum.inr (Sum.inr x)) :: t) (Sum.inr (Sum.inr x) :: st) μ) := rfl
theorem sg_aload_1 {σ : Sg} {P : PT} {call : CT} {Q : QT} {pc a b c x1 nx : Nat} {r : List Ent} {ls : Ls} {st : List MV} {μ : Mem} {t : Ls} {x : Nat} {h0 : Option MV} : seg σ P call Q ((pc, .aload_n 1, a, b, c, x1) :: r) nx (h0 :: some (Sum.inr (Sum.inr x)) :: t) st μ = (seg σ P call Q r nx (h0 :: some (Sum.inr (Sum.inr x)) :: t) (Sum.inr (Sum.inr x) :: st) μ) := rfl
theorem sg_aload_2 {σ : Sg} {P : PT} {call : CT} {Q : QT} {pc a b c x1 nx : Nat} {r : List Ent} {ls : Ls} {st : List MV} {μ : Mem} {t : Ls} {x : Nat} {h0 : Option MV} {h1 : Option MV} : seg σ P call Q ((pc, .aload_n 2, a, b, c, x1) :: r) nx (h0 :: h1 :: some (Sum.inr (Sum.inr x)) :: t) st μ = (seg σ P call Q r nx (h0 :: h1 :: some (Sum.inr (Sum.inr x)) :: t) (Sum.inr (Sum.inr x) :: st) μ) := rfl
theorem sg_aload_3 {σ : Sg} {P : PT} {call : CT} {Q : QT} {pc a b c x1 nx : Nat} {r : List Ent} {ls : Ls} {st : List MV} {μ : Mem} {t : Ls} {x : Nat} {h0 : Option MV} {h1 : Option MV} {h2 : Option MV} : seg σ P call Q ((pc, .aload_n 3, a, b, c, x1) :: r) nx (h0 :: h1 :: h2 :: some (Sum.inr (Sum.inr x)) :: t) st μ = (seg σ P call Q r nx (h0 :: h1 :: h2 :: some (Sum.inr (Sum.inr x)) :: t) (Sum.inr (Sum.inr x) :: st) μ) := rfl
theorem sg_lload_0 {σ : Sg} {P : PT} {call : CT} {Q : QT} {pc a b c x1 nx : Nat} {r : List Ent} {ls : Ls} {st : List MV} {μ : Mem} {t : Ls} {x : Int64} : seg σ P call Q ((pc, .lload_n 0, a, b, c, x1) :: r) nx (some (Sum.inr (Sum.inl x)) :: t) st μ = (seg σ P call Q r nx (some (Sum.inr (Sum.inl x)) :: t) (Sum.inr (Sum.inl x) :: st) μ) := rfl
theorem sg_lload_1 {σ : Sg} {P : PT} {call : CT} {Q : QT} {pc a b c x1 nx : Nat} {r : List Ent} {ls : Ls} {st : List MV} {μ : Mem} {t : Ls} {x : Int64} {h0 : Option MV} : seg σ P call Q ((pc, .lload_n 1, a, b, c, x1) :: r) nx (h0 :: some (Sum.inr (Sum.inl x)) :: t) st μ = (seg σ P call Q r nx (h0 :: some (Sum.inr (Sum.inl x)) :: t) (Sum.inr (Sum.inl x) :: st) μ) := rfl
theorem sg_lload_2 {σ : Sg} {P : PT} {call : CT} {Q : QT} {pc a b c x1 nx : Nat} {r : List Ent} {ls : Ls} {st : List MV} {μ : Mem} {t : Ls} {x : Int64} {h0 : Option MV} {h1 : Option MV} : seg σ P call Q ((pc, .lload_n 2, a, b, c, x1) :: r) nx (h0 :: h1 :: some (Sum.inr (Sum.inl x)) :: t) st μ = (seg σ P call Q r nx (h0 :: h1 :: some (Sum.inr (Sum.inl x)) :: t) (Sum.inr (Sum.inl x) :: st) μ) := rfl
theorem sg_lload_3 {σ : Sg} {P : PT} {call : CT} {Q : QT} {pc a b c x1 nx : Nat} {r : List Ent} {ls : Ls} {st : List MV} {μ : Mem} {t : Ls} {x : Int64} {h0 : Option MV} {h1 : Option MV} {h2 : Option MV} : seg σ P call Q ((pc, .lload_n 3, a, b, c, x1) :: r) nx (h0 :: h1 :: h2 :: some (Sum.inr (Sum.inl x)) :: t) st μ = (seg σ P call Q r nx (h0 :: h1 :: h2 :: some (Sum.inr (Sum.inl x)) :: t) (Sum.inr (Sum.inl x) :: st) μ) := rfl
theorem sg_iload {σ : Sg} {P : PT} {call : CT} {Q : QT} {pc a b c x1 nx : Nat} {r : List Ent} {ls : Ls} {st : List MV} {μ : Mem} {n : Nat} : seg σ P call Q ((pc, .iload n, a, b, c, x1) :: r) nx ls st μ = (ldI ls n fun x => seg σ P call Q r nx ls (Sum.inl x :: st) μ) := rfl
theorem sg_lload {σ : Sg} {P : PT} {call : CT} {Q : QT} {pc a b c x1 nx : Nat} {r : List Ent} {ls : Ls} {st : List MV} {μ : Mem} {n : Nat} : seg σ P call Q ((pc, .lload n, a, b, c, x1) :: r) nx ls st μ = (ldL ls n fun x => seg σ P call Q r nx ls (Sum.inr (Sum.inl x) :: st) μ) := rfl
theorem sg_aload {σ : Sg} {P : PT} {call : CT} {Q : QT} {pc a b c x1 nx : Nat} {r : List Ent} {ls : Ls} {st : List MV} {μ : Mem} {n : Nat} : seg σ P call Q ((pc, .aload n, a, b, c, x1) :: r) nx ls st μ = (ldR ls n fun x => seg σ P call Q r nx ls (Sum.inr (Sum.inr x) :: st) μ) := rfl
theorem sg_istore_0 {σ : Sg} {P : PT} {call : CT} {Q : QT} {pc a b c x1 nx : Nat} {r : List Ent} {ls : Ls} {st : List MV} {μ : Mem} {t : Ls} {x : Int} {h : Option MV} : seg σ P call Q ((pc, .istore_n 0, a, b, c, x1) :: r) nx (h :: t) (Sum.inl x :: st) μ = (True ∧ seg σ P call Q r nx (some (Sum.inl x) :: t) st μ) := rfl
theorem sg_istore_1 {σ : Sg} {P : PT} {call : CT} {Q : QT} {pc a b c x1 nx : Nat} {r : List Ent} {ls : Ls} {st : List MV} {μ : Mem} {t : Ls} {x : Int} {h : Option MV} {h0 : Option MV} : seg σ P call Q ((pc, .istore_n 1, a, b, c, x1) :: r) nx (h0 :: h :: t) (Sum.inl x :: st) μ = (nLg h0 ∧ seg σ P call Q r nx (h0 :: some (Sum.inl x) :: t) st μ) := rfl
theorem sg_istore_2 {σ : Sg} {P : PT} {call : CT} {Q : QT} {pc a b c x1 nx : Nat} {r : List Ent} {ls : Ls} {st : List MV} {μ : Mem} {t : Ls} {x : Int} {h : Option MV} {h0 : Option MV} {h1 : Option MV} : seg σ P call Q ((pc, .istore_n 2, a, b, c, x1) :: r) nx (h0 :: h1 :: h :: t) (Sum.inl x :: st) μ = (nLg h1 ∧ seg σ P call Q r nx (h0 :: h1 :: some (Sum.inl x) :: t) st μ) := rfl
theorem sg_istore_3 {σ : Sg} {P : PT} {call : CT} {Q : QT} {pc a b c x1 nx : Nat} {r : List Ent} {ls : Ls} {st : List MV} {μ : Mem} {t : Ls} {x : Int} {h : Option MV} {h0 : Option MV} {h1 : Option MV} {h2 : Option MV} : seg σ P call Q ((pc, .istore_n 3, a, b, c, x1) :: r) nx (h0 :: h1 :: h2 :: h :: t) (Sum.inl x :: st) μ = (nLg h2 ∧ seg σ P call Q r nx (h0 :: h1 :: h2 :: some (Sum.inl x) :: t) st μ) := rfl
theorem sg_istore {σ : Sg} {P : PT} {call : CT} {Q : QT} {pc a b c x1 nx : Nat} {r : List Ent} {ls : Ls} {st : List MV} {μ : Mem} {n : Nat} {x : Int} : seg σ P call Q ((pc, .istore n, a, b, c, x1) :: r) nx ls (Sum.inl x :: st) μ = (okS ls n ∧ seg σ P call Q r nx (stL ls n (some (Sum.inl x))) st μ) := rfl
theorem sg_astore_0 {σ : Sg} {P : PT} {call : CT} {Q : QT} {pc a b c x1 nx : Nat} {r : List Ent} {ls : Ls} {st : List MV} {μ : Mem} {t : Ls} {x : Nat} {h : Option MV} : seg σ P call Q ((pc, .astore_n 0, a, b, c, x1) :: r) nx (h :: t) (Sum.inr (Sum.inr x) :: st) μ = (True ∧ seg σ P call Q r nx (some (Sum.inr (Sum.inr x)) :: t) st μ) := rfl
theorem sg_astore_1 {σ : Sg} {P : PT} {call : CT} {Q : QT} {pc a b c x1 nx : Nat} {r : List Ent} {ls : Ls} {st : List MV} {μ : Mem} {t : Ls} {x : Nat} {h : Option MV} {h0 : Option MV} : seg σ P call Q ((pc, .astore_n 1, a, b, c, x1) :: r) nx (h0 :: h :: t) (Sum.inr (Sum.inr x) :: st) μ = (nLg h0 ∧ seg σ P call Q r nx (h0 :: some (Sum.inr (Sum.inr x)) :: t) st μ) := rfl
theorem sg_astore_2 {σ : Sg} {P : PT} {call : CT} {Q : QT} {pc a b c x1 nx : Nat} {r : List Ent} {ls : Ls} {st : List MV} {μ : Mem} {t : Ls} {x : Nat} {h : Option MV} {h0 : Option MV} {h1 : Option MV} : seg σ P call Q ((pc, .astore_n 2, a, b, c, x1) :: r) nx (h0 :: h1 :: h :: t) (Sum.inr (Sum.inr x) :: st) μ = (nLg h1 ∧ seg σ P call Q r nx (h0 :: h1 :: some (Sum.inr (Sum.inr x)) :: t) st μ) := rfl
theorem sg_astore_3 {σ : Sg} {P : PT} {call : CT} {Q : QT} {pc a b c x1 nx : Nat} {r : List Ent} {ls : Ls} {st : List MV} {μ : Mem} {t : Ls} {x : Nat} {h : Option MV} {h0 : Option MV} {h1 : Option MV} {h2 : Option MV} : seg σ P call Q ((pc, .astore_n 3, a, b, c, x1) :: r) nx (h0 :: h1 :: h2 :: h :: t) (Sum.inr (Sum.inr x) :: st) μ = (nLg h2 ∧ seg σ P call Q r nx (h0 :: h1 :: h2 :: some (Sum.inr (Sum.inr x)) :: t) st μ) := rfl
theorem sg_astore {σ : Sg} {P : PT} {call : CT} {Q : QT} {pc a b c x1 nx : Nat} {r : List Ent} {ls : Ls} {st : List MV} {μ : Mem} {n : Nat} {x : Nat} : seg σ P call Q ((pc, .astore n, a, b, c, x1) :: r) nx ls (Sum.inr (Sum.inr x) :: st) μ = (okS ls n ∧ seg σ P call Q r nx (stL ls n (some (Sum.inr (Sum.inr x)))) st μ) := rfl
theorem sg_lstore {σ : Sg} {P : PT} {call : CT} {Q : QT} {pc a b c x1 nx : Nat} {r : List Ent} {ls : Ls} {st : List MV} {μ : Mem} {n : Nat} {x : Int64} : seg σ P call Q ((pc, .lstore n, a, b, c, x1) :: r) nx ls (Sum.inr (Sum.inl x) :: st) μ = (okS2 ls n ∧ seg σ P call Q r nx (stL (stL ls n (some (Sum.inr (Sum.inl x)))) (n + 1) none) st μ) := rfl
theorem sg_lstore_n {σ : Sg} {P : PT} {call : CT} {Q : QT} {pc a b c x1 nx : Nat} {r : List Ent} {ls : Ls} {st : List MV} {μ : Mem} {n : Fin 4} {x : Int64} : seg σ P call Q ((pc, .lstore_n n, a, b, c, x1) :: r) nx ls (Sum.inr (Sum.inl x) :: st) μ = (okS2 ls n.val ∧ seg σ P call Q r nx (stL (stL ls n.val (some (Sum.inr (Sum.inl x)))) (n.val + 1) none) st μ) := rfl
theorem sg_iinc {σ : Sg} {P : PT} {call : CT} {Q : QT} {pc a b c x1 nx : Nat} {r : List Ent} {ls : Ls} {st : List MV} {μ : Mem} {n : Nat} {d : Int} : seg σ P call Q ((pc, .iinc n d, a, b, c, x1) :: r) nx ls st μ = (ldI ls n fun x => okS ls n ∧ seg σ P call Q r nx (stL ls n (some (Sum.inl (x + d)))) st μ) := rfl
theorem sg_iadd {σ : Sg} {P : PT} {call : CT} {Q : QT} {pc a b c x1 nx : Nat} {r : List Ent} {ls : Ls} {st : List MV} {μ : Mem} {x y : Int} : seg σ P call Q ((pc, .iadd, a, b, c, x1) :: r) nx ls (Sum.inl y :: Sum.inl x :: st) μ = (seg σ P call Q r nx ls (Sum.inl (x + y) :: st) μ) := rfl
theorem sg_isub {σ : Sg} {P : PT} {call : CT} {Q : QT} {pc a b c x1 nx : Nat} {r : List Ent} {ls : Ls} {st : List MV} {μ : Mem} {x y : Int} : seg σ P call Q ((pc, .isub, a, b, c, x1) :: r) nx ls (Sum.inl y :: Sum.inl x :: st) μ = (seg σ P call Q r nx ls (Sum.inl (x - y) :: st) μ) := rfl
theorem sg_imul {σ : Sg} {P : PT} {call : CT} {Q : QT} {pc a b c x1 nx : Nat} {r : List Ent} {ls : Ls} {st : List MV} {μ : Mem} {x y : Int} : seg σ P call Q ((pc, .imul, a, b, c, x1) :: r) nx ls (Sum.inl y :: Sum.inl x :: st) μ = (seg σ P call Q r nx ls (Sum.inl (x * y) :: st) μ) := rfl
theorem sg_iand {σ : Sg} {P : PT} {call : CT} {Q : QT} {pc a b c x1 nx : Nat} {r : List Ent} {ls : Ls} {st : List MV} {μ : Mem} {x y : Int} : seg σ P call Q ((pc, .iand, a, b, c, x1) :: r) nx ls (Sum.inl y :: Sum.inl x :: st) μ = (seg σ P call Q r nx ls (Sum.inl (iAnd x y) :: st) μ) := rfl
theorem sg_ior {σ : Sg} {P : PT} {call : CT} {Q : QT} {pc a b c x1 nx : Nat} {r : List Ent} {ls : Ls} {st : List MV} {μ : Mem} {x y : Int} : seg σ P call Q ((pc, .ior, a, b, c, x1) :: r) nx ls (Sum.inl y :: Sum.inl x :: st) μ = (seg σ P call Q r nx ls (Sum.inl (iOr x y) :: st) μ) := rfl
theorem sg_ishl {σ : Sg} {P : PT} {call : CT} {Q : QT} {pc a b c x1 nx : Nat} {r : List Ent} {ls : Ls} {st : List MV} {μ : Mem} {x y : Int} : seg σ P call Q ((pc, .ishl, a, b, c, x1) :: r) nx ls (Sum.inl y :: Sum.inl x :: st) μ = (seg σ P call Q r nx ls (Sum.inl (iShl x y) :: st) μ) := rfl
theorem sg_ishr {σ : Sg} {P : PT} {call : CT} {Q : QT} {pc a b c x1 nx : Nat} {r : List Ent} {ls : Ls} {st : List MV} {μ : Mem} {x y : Int} : seg σ P call Q ((pc, .ishr, a, b, c, x1) :: r) nx ls (Sum.inl y :: Sum.inl x :: st) μ = (seg σ P call Q r nx ls (Sum.inl (iShr x y) :: st) μ) := rfl
theorem sg_i2c {σ : Sg} {P : PT} {call : CT} {Q : QT} {pc a b c x1 nx : Nat} {r : List Ent} {ls : Ls} {st : List MV} {μ : Mem} {x : Int} : seg σ P call Q ((pc, .i2c, a, b, c, x1) :: r) nx ls (Sum.inl x :: st) μ = (seg σ P call Q r nx ls (Sum.inl (iI2c x) :: st) μ) := rfl
theorem sg_i2l {σ : Sg} {P : PT} {call : CT} {Q : QT} {pc a b c x1 nx : Nat} {r : List Ent} {ls : Ls} {st : List MV} {μ : Mem} {x : Int} : seg σ P call Q ((pc, .i2l, a, b, c, x1) :: r) nx ls (Sum.inl x :: st) μ = (seg σ P call Q r nx ls (Sum.inr (Sum.inl (Int32.ofInt x).toInt64) :: st) μ) := rfl
theorem sg_l2i {σ : Sg} {P : PT} {call : CT} {Q : QT} {pc a b c x1 nx : Nat} {r : List Ent} {ls : Ls} {st : List MV} {μ : Mem} {x : Int64} : seg σ P call Q ((pc, .l2i, a, b, c, x1) :: r) nx ls (Sum.inr (Sum.inl x) :: st) μ = (seg σ P call Q r nx ls (Sum.inl x.toInt32.toInt :: st) μ) := rfl
theorem sg_land {σ : Sg} {P : PT} {call : CT} {Q : QT} {pc a b c x1 nx : Nat} {r : List Ent} {ls : Ls} {st : List MV} {μ : Mem} {x y : Int64} : seg σ P call Q ((pc, .land, a, b, c, x1) :: r) nx ls (Sum.inr (Sum.inl y) :: Sum.inr (Sum.inl x) :: st) μ = (seg σ P call Q r nx ls (Sum.inr (Sum.inl (x &&& y)) :: st) μ) := rfl
theorem sg_lushr {σ : Sg} {P : PT} {call : CT} {Q : QT} {pc a b c x1 nx : Nat} {r : List Ent} {ls : Ls} {st : List MV} {μ : Mem} {x : Int64} {y : Int} : seg σ P call Q ((pc, .lushr, a, b, c, x1) :: r) nx ls (Sum.inl y :: Sum.inr (Sum.inl x) :: st) μ = (seg σ P call Q r nx ls (Sum.inr (Sum.inl (lUshr x y)) :: st) μ) := rfl
theorem sg_lcmp {σ : Sg} {P : PT} {call : CT} {Q : QT} {pc a b c x1 nx : Nat} {r : List Ent} {ls : Ls} {st : List MV} {μ : Mem} {x y : Int64} : seg σ P call Q ((pc, .lcmp, a, b, c, x1) :: r) nx ls (Sum.inr (Sum.inl y) :: Sum.inr (Sum.inl x) :: st) μ = (seg σ P call Q r nx ls (Sum.inl (lCmp x y) :: st) μ) := rfl
theorem sg_dup_i {σ : Sg} {P : PT} {call : CT} {Q : QT} {pc a b c x1 nx : Nat} {r : List Ent} {ls : Ls} {st : List MV} {μ : Mem} {x : Int} : seg σ P call Q ((pc, .dup, a, b, c, x1) :: r) nx ls (Sum.inl x :: st) μ = (seg σ P call Q r nx ls (Sum.inl x :: Sum.inl x :: st) μ) := rfl
theorem sg_dup_r {σ : Sg} {P : PT} {call : CT} {Q : QT} {pc a b c x1 nx : Nat} {r : List Ent} {ls : Ls} {st : List MV} {μ : Mem} {x : Nat} : seg σ P call Q ((pc, .dup, a, b, c, x1) :: r) nx ls (Sum.inr (Sum.inr x) :: st) μ = (seg σ P call Q r nx ls (Sum.inr (Sum.inr x) :: Sum.inr (Sum.inr x) :: st) μ) := rfl
theorem sg_dup2 {σ : Sg} {P : PT} {call : CT} {Q : QT} {pc a b c x1 nx : Nat} {r : List Ent} {ls : Ls} {st : List MV} {μ : Mem} {x : Nat} {y : Int} : seg σ P call Q ((pc, .dup2, a, b, c, x1) :: r) nx ls (Sum.inl y :: Sum.inr (Sum.inr x) :: st) μ = (seg σ P call Q r nx ls (Sum.inl y :: Sum.inr (Sum.inr x) :: Sum.inl y :: Sum.inr (Sum.inr x) :: st) μ) := rfl
theorem sg_pop_i {σ : Sg} {P : PT} {call : CT} {Q : QT} {pc a b c x1 nx : Nat} {r : List Ent} {ls : Ls} {st : List MV} {μ : Mem} {x : Int} : seg σ P call Q ((pc, .pop, a, b, c, x1) :: r) nx ls (Sum.inl x :: st) μ = (seg σ P call Q r nx ls st μ) := rfl
theorem sg_pop_r {σ : Sg} {P : PT} {call : CT} {Q : QT} {pc a b c x1 nx : Nat} {r : List Ent} {ls : Ls} {st : List MV} {μ : Mem} {x : Nat} : seg σ P call Q ((pc, .pop, a, b, c, x1) :: r) nx ls (Sum.inr (Sum.inr x) :: st) μ = (seg σ P call Q r nx ls st μ) := rfl
theorem sg_goto {σ : Sg} {P : PT} {call : CT} {Q : QT} {pc a b c x1 nx : Nat} {r : List Ent} {ls : Ls} {st : List MV} {μ : Mem} {n : Int} : seg σ P call Q ((pc, .goto n, a, b, c, x1) :: r) nx ls st μ = (P a ls st μ) := rfl
theorem sg_if_eq {σ : Sg} {P : PT} {call : CT} {Q : QT} {pc a b c x1 nx : Nat} {r : List Ent} {ls : Ls} {st : List MV} {μ : Mem} {n x : Int} : seg σ P call Q ((pc, .ifCond .eq n, a, b, c, x1) :: r) nx ls (Sum.inl x :: st) μ = ((x = 0 → P a ls st μ) ∧ (x ≠ 0 → inR x ∧ inR 0 ∧ seg σ P call Q r nx ls st μ)) := rfl
theorem sg_ic_eq {σ : Sg} {P : PT} {call : CT} {Q : QT} {pc a b c x1 nx : Nat} {r : List Ent} {ls : Ls} {st : List MV} {μ : Mem} {n x y : Int} : seg σ P call Q ((pc, .if_icmp .eq n, a, b, c, x1) :: r) nx ls (Sum.inl y :: Sum.inl x :: st) μ = ((x = y → P a ls st μ) ∧ (x ≠ y → inR x ∧ inR y ∧ seg σ P call Q r nx ls st μ)) := rfl
theorem sg_if_ne {σ : Sg} {P : PT} {call : CT} {Q : QT} {pc a b c x1 nx : Nat} {r : List Ent} {ls : Ls} {st : List MV} {μ : Mem} {n x : Int} : seg σ P call Q ((pc, .ifCond .ne n, a, b, c, x1) :: r) nx ls (Sum.inl x :: st) μ = ((x = 0 → seg σ P call Q r nx ls st μ) ∧ (x ≠ 0 → inR x ∧ inR 0 ∧ P a ls st μ)) := rfl
theorem sg_ic_ne {σ : Sg} {P : PT} {call : CT} {Q : QT} {pc a b c x1 nx : Nat} {r : List Ent} {ls : Ls} {st : List MV} {μ : Mem} {n x y : Int} : seg σ P call Q ((pc, .if_icmp .ne n, a, b, c, x1) :: r) nx ls (Sum.inl y :: Sum.inl x :: st) μ = ((x = y → seg σ P call Q r nx ls st μ) ∧ (x ≠ y → inR x ∧ inR y ∧ P a ls st μ)) := rfl
theorem sg_if_lt {σ : Sg} {P : PT} {call : CT} {Q : QT} {pc a b c x1 nx : Nat} {r : List Ent} {ls : Ls} {st : List MV} {μ : Mem} {n x : Int} : seg σ P call Q ((pc, .ifCond .lt n, a, b, c, x1) :: r) nx ls (Sum.inl x :: st) μ = (inR x ∧ inR 0 ∧ (x < 0 → P a ls st μ) ∧ (0 ≤ x → seg σ P call Q r nx ls st μ)) := rfl
theorem sg_ic_lt {σ : Sg} {P : PT} {call : CT} {Q : QT} {pc a b c x1 nx : Nat} {r : List Ent} {ls : Ls} {st : List MV} {μ : Mem} {n x y : Int} : seg σ P call Q ((pc, .if_icmp .lt n, a, b, c, x1) :: r) nx ls (Sum.inl y :: Sum.inl x :: st) μ = (inR x ∧ inR y ∧ (x < y → P a ls st μ) ∧ (y ≤ x → seg σ P call Q r nx ls st μ)) := rfl
theorem sg_if_ge {σ : Sg} {P : PT} {call : CT} {Q : QT} {pc a b c x1 nx : Nat} {r : List Ent} {ls : Ls} {st : List MV} {μ : Mem} {n x : Int} : seg σ P call Q ((pc, .ifCond .ge n, a, b, c, x1) :: r) nx ls (Sum.inl x :: st) μ = (inR x ∧ inR 0 ∧ (x < 0 → seg σ P call Q r nx ls st μ) ∧ (0 ≤ x → P a ls st μ)) := rfl
theorem sg_ic_ge {σ : Sg} {P : PT} {call : CT} {Q : QT} {pc a b c x1 nx : Nat} {r : List Ent} {ls : Ls} {st : List MV} {μ : Mem} {n x y : Int} : seg σ P call Q ((pc, .if_icmp .ge n, a, b, c, x1) :: r) nx ls (Sum.inl y :: Sum.inl x :: st) μ = (inR x ∧ inR y ∧ (x < y → seg σ P call Q r nx ls st μ) ∧ (y ≤ x → P a ls st μ)) := rfl
theorem sg_if_gt {σ : Sg} {P : PT} {call : CT} {Q : QT} {pc a b c x1 nx : Nat} {r : List Ent} {ls : Ls} {st : List MV} {μ : Mem} {n x : Int} : seg σ P call Q ((pc, .ifCond .gt n, a, b, c, x1) :: r) nx ls (Sum.inl x :: st) μ = (inR 0 ∧ inR x ∧ (0 < x → P a ls st μ) ∧ (x ≤ 0 → seg σ P call Q r nx ls st μ)) := rfl
theorem sg_ic_gt {σ : Sg} {P : PT} {call : CT} {Q : QT} {pc a b c x1 nx : Nat} {r : List Ent} {ls : Ls} {st : List MV} {μ : Mem} {n x y : Int} : seg σ P call Q ((pc, .if_icmp .gt n, a, b, c, x1) :: r) nx ls (Sum.inl y :: Sum.inl x :: st) μ = (inR y ∧ inR x ∧ (y < x → P a ls st μ) ∧ (x ≤ y → seg σ P call Q r nx ls st μ)) := rfl
theorem sg_if_le {σ : Sg} {P : PT} {call : CT} {Q : QT} {pc a b c x1 nx : Nat} {r : List Ent} {ls : Ls} {st : List MV} {μ : Mem} {n x : Int} : seg σ P call Q ((pc, .ifCond .le n, a, b, c, x1) :: r) nx ls (Sum.inl x :: st) μ = (inR 0 ∧ inR x ∧ (0 < x → seg σ P call Q r nx ls st μ) ∧ (x ≤ 0 → P a ls st μ)) := rfl
theorem sg_ic_le {σ : Sg} {P : PT} {call : CT} {Q : QT} {pc a b c x1 nx : Nat} {r : List Ent} {ls : Ls} {st : List MV} {μ : Mem} {n x y : Int} : seg σ P call Q ((pc, .if_icmp .le n, a, b, c, x1) :: r) nx ls (Sum.inl y :: Sum.inl x :: st) μ = (inR y ∧ inR x ∧ (y < x → seg σ P call Q r nx ls st μ) ∧ (x ≤ y → P a ls st μ)) := rfl
theorem sg_tsw {σ : Sg} {P : PT} {call : CT} {Q : QT} {pc a b c x1 nx : Nat} {r : List Ent} {ls : Ls} {st : List MV} {μ : Mem} {d lo hi x : Int} {offs : Array Int} : seg σ P call Q ((pc, .tableswitch d lo hi offs, a, b, c, x1) :: r) nx ls (Sum.inl x :: st) μ = (inR x ∧ swc pc (fun t => P t ls st μ) x lo offs.toList ∧ (x < lo ∨ hi < x → P ((pc : Int) + d).toNat ls st μ)) := rfl
theorem sg_getf0 {σ : Sg} {P : PT} {call : CT} {Q : QT} {pc a b c x1 nx : Nat} {r : List Ent} {ls : Ls} {st : List MV} {μ : Mem} {n o : Nat} : seg σ P call Q ((pc, .getfield n, a, b, 0, x1) :: r) nx ls (Sum.inr (Sum.inr o) :: st) μ = ((shp σ o).1 = a ∧ seg σ P call Q r nx ls (Sum.inl (μ o b) :: st) μ) := rfl
theorem sg_getf1 {σ : Sg} {P : PT} {call : CT} {Q : QT} {pc a b c x1 nx : Nat} {r : List Ent} {ls : Ls} {st : List MV} {μ : Mem} {n o : Nat} : seg σ P call Q ((pc, .getfield n, a, b, 1, x1) :: r) nx ls (Sum.inr (Sum.inr o) :: st) μ = ((shp σ o).1 = a ∧ seg σ P call Q r nx ls (Sum.inl (μ o b) :: st) μ) := rfl
theorem sg_getfp {σ : Sg} {P : PT} {call : CT} {Q : QT} {pc a b c x1 nx : Nat} {r : List Ent} {ls : Ls} {st : List MV} {μ : Mem} {n o w : Nat} : seg σ P call Q ((pc, .getfield n, a, b, w + 2, x1) :: r) nx ls (Sum.inr (Sum.inr o) :: st) μ = ((shp σ o).1 = a ∧ σ.2 o b = true ∧ seg σ P call Q r nx ls (Sum.inr (Sum.inr (o + w)) :: st) μ) := rfl
theorem sg_putf0 {σ : Sg} {P : PT} {call : CT} {Q : QT} {pc a b c x1 nx : Nat} {r : List Ent} {ls : Ls} {st : List MV} {μ : Mem} {n o : Nat} {v : Int} : seg σ P call Q ((pc, .putfield n, a, b, 0, x1) :: r) nx ls (Sum.inl v :: Sum.inr (Sum.inr o) :: st) μ = ((shp σ o).1 = a ∧ True ∧ seg σ P call Q r nx ls st (ms μ o b v)) := rfl
theorem sg_putf1 {σ : Sg} {P : PT} {call : CT} {Q : QT} {pc a b c x1 nx : Nat} {r : List Ent} {ls : Ls} {st : List MV} {μ : Mem} {n o : Nat} {v : Int} : seg σ P call Q ((pc, .putfield n, a, b, 1, x1) :: r) nx ls (Sum.inl v :: Sum.inr (Sum.inr o) :: st) μ = ((shp σ o).1 = a ∧ (v = 0 ∨ v = 1) ∧ seg σ P call Q r nx ls st (ms μ o b v)) := rfl
theorem sg_iaload {σ : Sg} {P : PT} {call : CT} {Q : QT} {pc a b c x1 nx : Nat} {r : List Ent} {ls : Ls} {st : List MV} {μ : Mem} {i : Int} {o : Nat} : seg σ P call Q ((pc, .iaload, a, b, c, x1) :: r) nx ls (Sum.inl i :: Sum.inr (Sum.inr o) :: st) μ = ((shp σ o).1 = 100 ∧ 0 ≤ i ∧ i < ((shp σ o).2 : Int) ∧ seg σ P call Q r nx ls (Sum.inl (μ o i.toNat) :: st) μ) := rfl
theorem sg_caload {σ : Sg} {P : PT} {call : CT} {Q : QT} {pc a b c x1 nx : Nat} {r : List Ent} {ls : Ls} {st : List MV} {μ : Mem} {i : Int} {o : Nat} : seg σ P call Q ((pc, .caload, a, b, c, x1) :: r) nx ls (Sum.inl i :: Sum.inr (Sum.inr o) :: st) μ = ((shp σ o).1 = 101 ∧ 0 ≤ i ∧ i < ((shp σ o).2 : Int) ∧ seg σ P call Q r nx ls (Sum.inl (μ o i.toNat) :: st) μ) := rfl
theorem sg_baload {σ : Sg} {P : PT} {call : CT} {Q : QT} {pc a b c x1 nx : Nat} {r : List Ent} {ls : Ls} {st : List MV} {μ : Mem} {i : Int} {o : Nat} : seg σ P call Q ((pc, .baload, a, b, c, x1) :: r) nx ls (Sum.inl i :: Sum.inr (Sum.inr o) :: st) μ = ((shp σ o).1 = 102 ∧ 0 ≤ i ∧ i < ((shp σ o).2 : Int) ∧ seg σ P call Q r nx ls (Sum.inl (μ o i.toNat) :: st) μ) := rfl
theorem sg_aaload {σ : Sg} {P : PT} {call : CT} {Q : QT} {pc a b c x1 nx : Nat} {r : List Ent} {ls : Ls} {st : List MV} {μ : Mem} {i : Int} {o : Nat} : seg σ P call Q ((pc, .aaload, a, b, c, x1) :: r) nx ls (Sum.inl i :: Sum.inr (Sum.inr o) :: st) μ = ((shp σ o).1 = a ∧ 0 ≤ i ∧ i < ((shp σ o).2 : Int) ∧ σ.2 o i.toNat = true ∧ seg σ P call Q r nx ls (Sum.inr (Sum.inr (o + b + c * i.toNat)) :: st) μ) := rfl
theorem sg_iastore {σ : Sg} {P : PT} {call : CT} {Q : QT} {pc a b c x1 nx : Nat} {r : List Ent} {ls : Ls} {st : List MV} {μ : Mem} {v i : Int} {o : Nat} : seg σ P call Q ((pc, .iastore, a, b, c, x1) :: r) nx ls (Sum.inl v :: Sum.inl i :: Sum.inr (Sum.inr o) :: st) μ = ((shp σ o).1 = 100 ∧ 0 ≤ i ∧ i < ((shp σ o).2 : Int) ∧ seg σ P call Q r nx ls st (ms μ o i.toNat v)) := rfl
theorem sg_castore {σ : Sg} {P : PT} {call : CT} {Q : QT} {pc a b c x1 nx : Nat} {r : List Ent} {ls : Ls} {st : List MV} {μ : Mem} {v i : Int} {o : Nat} : seg σ P call Q ((pc, .castore, a, b, c, x1) :: r) nx ls (Sum.inl v :: Sum.inl i :: Sum.inr (Sum.inr o) :: st) μ = ((shp σ o).1 = 101 ∧ 0 ≤ i ∧ i < ((shp σ o).2 : Int) ∧ (0 ≤ v ∧ v < 65536) ∧ seg σ P call Q r nx ls st (ms μ o i.toNat v)) := rfl
theorem sg_bastore {σ : Sg} {P : PT} {call : CT} {Q : QT} {pc a b c x1 nx : Nat} {r : List Ent} {ls : Ls} {st : List MV} {μ : Mem} {v i : Int} {o : Nat} : seg σ P call Q ((pc, .bastore, a, b, c, x1) :: r) nx ls (Sum.inl v :: Sum.inl i :: Sum.inr (Sum.inr o) :: st) μ = ((shp σ o).1 = 102 ∧ 0 ≤ i ∧ i < ((shp σ o).2 : Int) ∧ (v = 0 ∨ v = 1) ∧ seg σ P call Q r nx ls st (ms μ o i.toNat v)) := rfl
theorem sg_iret0 {σ : Sg} {P : PT} {call : CT} {Q : QT} {pc b c x1 nx : Nat} {r : List Ent} {ls : Ls} {μ : Mem} {x : Int} : seg σ P call Q ((pc, .ireturn, 0, b, c, x1) :: r) nx ls [Sum.inl x] μ = (Q (Sum.inl x) μ) := by
  show (([] : List MV) = [] ∧ (if 0 = 1 then x = 0 ∨ x = 1 else if 0 = 2 then 0 ≤ x ∧ x < 65536 else True) ∧ Q (.inl x) μ) = _
  simp
theorem sg_iret1 {σ : Sg} {P : PT} {call : CT} {Q : QT} {pc b c x1 nx : Nat} {r : List Ent} {ls : Ls} {μ : Mem} {x : Int} : seg σ P call Q ((pc, .ireturn, 1, b, c, x1) :: r) nx ls [Sum.inl x] μ = ((x = 0 ∨ x = 1) ∧ Q (Sum.inl x) μ) := by
  show (([] : List MV) = [] ∧ (if 1 = 1 then x = 0 ∨ x = 1 else if 1 = 2 then 0 ≤ x ∧ x < 65536 else True) ∧ Q (.inl x) μ) = _
  simp
theorem sg_iret2 {σ : Sg} {P : PT} {call : CT} {Q : QT} {pc b c x1 nx : Nat} {r : List Ent} {ls : Ls} {μ : Mem} {x : Int} : seg σ P call Q ((pc, .ireturn, 2, b, c, x1) :: r) nx ls [Sum.inl x] μ = ((0 ≤ x ∧ x < 65536) ∧ Q (Sum.inl x) μ) := by
  show (([] : List MV) = [] ∧ (if 2 = 1 then x = 0 ∨ x = 1 else if 2 = 2 then 0 ≤ x ∧ x < 65536 else True) ∧ Q (.inl x) μ) = _
  simp
theorem sg_ret {σ : Sg} {P : PT} {call : CT} {Q : QT} {pc a b c x1 nx : Nat} {r : List Ent} {ls : Ls} {μ : Mem} : seg σ P call Q ((pc, .return_, a, b, c, x1) :: r) nx ls [] μ = (Q (Sum.inl 0) μ) := by
  show (([] : List MV) = [] ∧ Q (.inl 0) μ) = _
  simp
theorem sg_aret {σ : Sg} {P : PT} {call : CT} {Q : QT} {pc a b c x1 nx : Nat} {r : List Ent} {ls : Ls} {μ : Mem} {x : Nat} : seg σ P call Q ((pc, .areturn, a, b, c, x1) :: r) nx ls [Sum.inr (Sum.inr x)] μ = (Q (Sum.inr (Sum.inr x)) μ) := by
  show (([] : List MV) = [] ∧ Q (.inr (.inr x)) μ) = _
  simp
theorem sg_iv1_v {σ : Sg} {P : PT} {call : CT} {Q : QT} {pc a b c x1 nx : Nat} {r : List Ent} {ls : Ls} {st : List MV} {μ : Mem} {n o : Nat} : seg σ P call Q ((pc, .invokevirtual n, a, 1, 0, x1) :: r) nx ls (Sum.inr (Sum.inr o) :: st) μ = (len4 st ∧ (shp σ o).1 = x1 ∧ call a [Sum.inr (Sum.inr o)] μ fun _ μ' => P (pc + 3) ls st μ') := rfl
theorem sg_iv1_i {σ : Sg} {P : PT} {call : CT} {Q : QT} {pc a b c x1 nx : Nat} {r : List Ent} {ls : Ls} {st : List MV} {μ : Mem} {n o : Nat} : seg σ P call Q ((pc, .invokevirtual n, a, 1, 1, x1) :: r) nx ls (Sum.inr (Sum.inr o) :: st) μ = (len4 st ∧ (shp σ o).1 = x1 ∧ call a [Sum.inr (Sum.inr o)] μ fun v μ' => P (pc + 3) ls (v :: st) μ') := rfl
theorem sg_iv1_r {σ : Sg} {P : PT} {call : CT} {Q : QT} {pc a b c x1 nx : Nat} {r : List Ent} {ls : Ls} {st : List MV} {μ : Mem} {n o : Nat} : seg σ P call Q ((pc, .invokevirtual n, a, 1, 2, x1) :: r) nx ls (Sum.inr (Sum.inr o) :: st) μ = (len4 st ∧ (shp σ o).1 = x1 ∧ call a [Sum.inr (Sum.inr o)] μ fun v μ' => P (pc + 3) ls (v :: st) μ') := rfl
theorem sg_is1_1 {σ : Sg} {P : PT} {call : CT} {Q : QT} {pc a b c x1 nx : Nat} {r : List Ent} {ls : Ls} {st : List MV} {μ : Mem} {n : Nat} {v0 : MV} : seg σ P call Q ((pc, .invokestatic n, a, 1, 1, x1) :: r) nx ls (v0 :: st) μ = (len4 st ∧ call a [v0] μ fun v μ' => P (pc + 3) ls (v :: st) μ') := rfl
theorem sg_is1_2 {σ : Sg} {P : PT} {call : CT} {Q : QT} {pc a b c x1 nx : Nat} {r : List Ent} {ls : Ls} {st : List MV} {μ : Mem} {n : Nat} {v0 : MV} : seg σ P call Q ((pc, .invokestatic n, a, 1, 2, x1) :: r) nx ls (v0 :: st) μ = (len4 st ∧ call a [v0] μ fun v μ' => P (pc + 3) ls (v :: st) μ') := rfl
theorem sg_iv2_v {σ : Sg} {P : PT} {call : CT} {Q : QT} {pc a b c x1 nx : Nat} {r : List Ent} {ls : Ls} {st : List MV} {μ : Mem} {n o : Nat} {v1 : MV} : seg σ P call Q ((pc, .invokevirtual n, a, 2, 0, x1) :: r) nx ls (v1 :: Sum.inr (Sum.inr o) :: st) μ = (len4 st ∧ (shp σ o).1 = x1 ∧ call a [Sum.inr (Sum.inr o), v1] μ fun _ μ' => P (pc + 3) ls st μ') := rfl
theorem sg_iv2_i {σ : Sg} {P : PT} {call : CT} {Q : QT} {pc a b c x1 nx : Nat} {r : List Ent} {ls : Ls} {st : List MV} {μ : Mem} {n o : Nat} {v1 : MV} : seg σ P call Q ((pc, .invokevirtual n, a, 2, 1, x1) :: r) nx ls (v1 :: Sum.inr (Sum.inr o) :: st) μ = (len4 st ∧ (shp σ o).1 = x1 ∧ call a [Sum.inr (Sum.inr o), v1] μ fun v μ' => P (pc + 3) ls (v :: st) μ') := rfl
theorem sg_iv2_r {σ : Sg} {P : PT} {call : CT} {Q : QT} {pc a b c x1 nx : Nat} {r : List Ent} {ls : Ls} {st : List MV} {μ : Mem} {n o : Nat} {v1 : MV} : seg σ P call Q ((pc, .invokevirtual n, a, 2, 2, x1) :: r) nx ls (v1 :: Sum.inr (Sum.inr o) :: st) μ = (len4 st ∧ (shp σ o).1 = x1 ∧ call a [Sum.inr (Sum.inr o), v1] μ fun v μ' => P (pc + 3) ls (v :: st) μ') := rfl
theorem sg_is2_1 {σ : Sg} {P : PT} {call : CT} {Q : QT} {pc a b c x1 nx : Nat} {r : List Ent} {ls : Ls} {st : List MV} {μ : Mem} {n : Nat} {v0 v1 : MV} : seg σ P call Q ((pc, .invokestatic n, a, 2, 1, x1) :: r) nx ls (v1 :: v0 :: st) μ = (len4 st ∧ call a [v0, v1] μ fun v μ' => P (pc + 3) ls (v :: st) μ') := rfl
theorem sg_is2_2 {σ : Sg} {P : PT} {call : CT} {Q : QT} {pc a b c x1 nx : Nat} {r : List Ent} {ls : Ls} {st : List MV} {μ : Mem} {n : Nat} {v0 v1 : MV} : seg σ P call Q ((pc, .invokestatic n, a, 2, 2, x1) :: r) nx ls (v1 :: v0 :: st) μ = (len4 st ∧ call a [v0, v1] μ fun v μ' => P (pc + 3) ls (v :: st) μ') := rfl
theorem sg_iv3_v {σ : Sg} {P : PT} {call : CT} {Q : QT} {pc a b c x1 nx : Nat} {r : List Ent} {ls : Ls} {st : List MV} {μ : Mem} {n o : Nat} {v1 v2 : MV} : seg σ P call Q ((pc, .invokevirtual n, a, 3, 0, x1) :: r) nx ls (v2 :: v1 :: Sum.inr (Sum.inr o) :: st) μ = (len4 st ∧ (shp σ o).1 = x1 ∧ call a [Sum.inr (Sum.inr o), v1, v2] μ fun _ μ' => P (pc + 3) ls st μ') := rfl
theorem sg_iv3_i {σ : Sg} {P : PT} {call : CT} {Q : QT} {pc a b c x1 nx : Nat} {r : List Ent} {ls : Ls} {st : List MV} {μ : Mem} {n o : Nat} {v1 v2 : MV} : seg σ P call Q ((pc, .invokevirtual n, a, 3, 1, x1) :: r) nx ls (v2 :: v1 :: Sum.inr (Sum.inr o) :: st) μ = (len4 st ∧ (shp σ o).1 = x1 ∧ call a [Sum.inr (Sum.inr o), v1, v2] μ fun v μ' => P (pc + 3) ls (v :: st) μ') := rfl
theorem sg_iv3_r {σ : Sg} {P : PT} {call : CT} {Q : QT} {pc a b c x1 nx : Nat} {r : List Ent} {ls : Ls} {st : List MV} {μ : Mem} {n o : Nat} {v1 v2 : MV} : seg σ P call Q ((pc, .invokevirtual n, a, 3, 2, x1) :: r) nx ls (v2 :: v1 :: Sum.inr (Sum.inr o) :: st) μ = (len4 st ∧ (shp σ o).1 = x1 ∧ call a [Sum.inr (Sum.inr o), v1, v2] μ fun v μ' => P (pc + 3) ls (v :: st) μ') := rfl
theorem sg_is3_1 {σ : Sg} {P : PT} {call : CT} {Q : QT} {pc a b c x1 nx : Nat} {r : List Ent} {ls : Ls} {st : List MV} {μ : Mem} {n : Nat} {v0 v1 v2 : MV} : seg σ P call Q ((pc, .invokestatic n, a, 3, 1, x1) :: r) nx ls (v2 :: v1 :: v0 :: st) μ = (len4 st ∧ call a [v0, v1, v2] μ fun v μ' => P (pc + 3) ls (v :: st) μ') := rfl
theorem sg_is3_2 {σ : Sg} {P : PT} {call : CT} {Q : QT} {pc a b c x1 nx : Nat} {r : List Ent} {ls : Ls} {st : List MV} {μ : Mem} {n : Nat} {v0 v1 v2 : MV} : seg σ P call Q ((pc, .invokestatic n, a, 3, 2, x1) :: r) nx ls (v2 :: v1 :: v0 :: st) μ = (len4 st ∧ call a [v0, v1, v2] μ fun v μ' => P (pc + 3) ls (v :: st) μ') := rfl
theorem sg_iv4_v {σ : Sg} {P : PT} {call : CT} {Q : QT} {pc a b c x1 nx : Nat} {r : List Ent} {ls : Ls} {st : List MV} {μ : Mem} {n o : Nat} {v1 v2 v3 : MV} : seg σ P call Q ((pc, .invokevirtual n, a, 4, 0, x1) :: r) nx ls (v3 :: v2 :: v1 :: Sum.inr (Sum.inr o) :: st) μ = (len4 st ∧ (shp σ o).1 = x1 ∧ call a [Sum.inr (Sum.inr o), v1, v2, v3] μ fun _ μ' => P (pc + 3) ls st μ') := rfl
theorem sg_iv4_i {σ : Sg} {P : PT} {call : CT} {Q : QT} {pc a b c x1 nx : Nat} {r : List Ent} {ls : Ls} {st : List MV} {μ : Mem} {n o : Nat} {v1 v2 v3 : MV} : seg σ P call Q ((pc, .invokevirtual n, a, 4, 1, x1) :: r) nx ls (v3 :: v2 :: v1 :: Sum.inr (Sum.inr o) :: st) μ = (len4 st ∧ (shp σ o).1 = x1 ∧ call a [Sum.inr (Sum.inr o), v1, v2, v3] μ fun v μ' => P (pc + 3) ls (v :: st) μ') := rfl
theorem sg_iv4_r {σ : Sg} {P : PT} {call : CT} {Q : QT} {pc a b c x1 nx : Nat} {r : List Ent} {ls : Ls} {st : List MV} {μ : Mem} {n o : Nat} {v1 v2 v3 : MV} : seg σ P call Q ((pc, .invokevirtual n, a, 4, 2, x1) :: r) nx ls (v3 :: v2 :: v1 :: Sum.inr (Sum.inr o) :: st) μ = (len4 st ∧ (shp σ o).1 = x1 ∧ call a [Sum.inr (Sum.inr o), v1, v2, v3] μ fun v μ' => P (pc + 3) ls (v :: st) μ') := rfl
theorem sg_min {σ : Sg} {P : PT} {call : CT} {Q : QT} {pc a b c x1 nx : Nat} {r : List Ent} {ls : Ls} {st : List MV} {μ : Mem} {n : Nat} {x y : Int} : seg σ P call Q ((pc, .invokestatic n, a, b, 10, x1) :: r) nx ls (Sum.inl y :: Sum.inl x :: st) μ = ((len4 st ∧ inR x) ∧ inR y ∧ seg σ P call Q r nx ls (Sum.inl (if y < x then y else x) :: st) μ) := rfl
theorem sg_acopy {σ : Sg} {P : PT} {call : CT} {Q : QT} {pc a b c x1 nx : Nat} {r : List Ent} {ls : Ls} {st : List MV} {μ : Mem} {n k0 k1 : Nat} {n1 sp dp : Int} : seg σ P call Q ((pc, .invokestatic n, a, b, 13, x1) :: r) nx ls (Sum.inl n1 :: Sum.inl dp :: Sum.inr (Sum.inr k1) :: Sum.inl sp :: Sum.inr (Sum.inr k0) :: st) μ = ((len4 st ∧ (shp σ k0).1 = 100 ∧ (shp σ k1).1 = 100) ∧ (0 ≤ sp ∧ 0 ≤ dp ∧ 0 ≤ n1) ∧ (sp + n1 ≤ ((shp σ k0).2 : Int) ∧ dp + n1 ≤ ((shp σ k1).2 : Int)) ∧ seg σ P call Q r nx ls st (mcp μ k0 sp.toNat k1 dp.toNat n1.toNat)) := rfl
theorem sg_nil {σ : Sg} {P : PT} {call : CT} {Q : QT} {nx : Nat} {ls : Ls} {st : List MV} {μ : Mem} : seg σ P call Q [] nx ls st μ = P nx ls st μ := rfl
theorem ldI_z {x : Int} {t : Ls} {f : Int → Prop} : ldI (some (Sum.inl x) :: t) 0 f = f x := rfl
theorem ldI_s {h : Option MV} {t : Ls} {n : Nat} {f : Int → Prop} : ldI (h :: t) (n + 1) f = ldI t n f := by simp [ldI]
theorem ldL_z {x : Int64} {t : Ls} {f : Int64 → Prop} : ldL (some (Sum.inr (Sum.inl x)) :: t) 0 f = f x := rfl
theorem ldL_s {h : Option MV} {t : Ls} {n : Nat} {f : Int64 → Prop} : ldL (h :: t) (n + 1) f = ldL t n f := by simp [ldL]
theorem ldR_z {x : Nat} {t : Ls} {f : Nat → Prop} : ldR (some (Sum.inr (Sum.inr x)) :: t) 0 f = f x := rfl
theorem ldR_s {h : Option MV} {t : Ls} {n : Nat} {f : Nat → Prop} : ldR (h :: t) (n + 1) f = ldR t n f := by simp [ldR]
theorem stL_z {h v : Option MV} {t : Ls} : stL (h :: t) 0 v = v :: t := rfl
theorem stL_s {h v : Option MV} {t : Ls} {n : Nat} : stL (h :: t) (n + 1) v = h :: stL t n v := rfl
theorem nLg_n : nLg none = True := rfl
theorem nLg_i {x : Int} : nLg (some (Sum.inl x)) = True := rfl
theorem nLg_r {x : Nat} : nLg (some (Sum.inr (Sum.inr x))) = True := rfl
theorem okS_z {h : Option MV} {t : Ls} : okS (h :: t) 0 = True := rfl
theorem okS_1 {h h1 : Option MV} {t : Ls} : okS (h :: h1 :: t) 1 = nLg h := rfl
theorem okS_s {h : Option MV} {t : Ls} {n : Nat} : okS (h :: t) (n + 2) = okS t (n + 1) := by cases t <;> rfl
theorem okS2_z {h h1 : Option MV} {t : Ls} : okS2 (h :: h1 :: t) 0 = True := rfl
theorem okS2_1 {h h1 h2 : Option MV} {t : Ls} : okS2 (h :: h1 :: h2 :: t) 1 = nLg h := rfl
theorem okS2_s {h : Option MV} {t : Ls} {n : Nat} : okS2 (h :: t) (n + 2) = okS2 t (n + 1) := by cases t with | nil => rfl | cons a t => cases t <;> rfl
theorem swc_n {pc : Nat} {K : Nat → Prop} {x v : Int} : swc pc K x v [] = True := rfl
theorem swc_c {pc : Nat} {K : Nat → Prop} {x v o : Int} {os : List Int} : swc pc K x v (o :: os) = ((x = v → K ((pc : Int) + o).toNat) ∧ swc pc K x (v + 1) os) := rfl
theorem ms_at (μ : Mem) (k j : Nat) (v : Int) (k' j' : Nat) : ms μ k j v k' j' = if k' = k ∧ j' = j then v else μ k' j' := rfl
theorem mcp_at (μ : Mem) (k0 sp k1 dp n k j : Nat) : mcp μ k0 sp k1 dp n k j = if k = k1 ∧ dp ≤ j ∧ j < dp + n then μ k0 (sp + (j - dp)) else μ k j := rfl
theorem ldI_1 {h0 : Option MV} {x : Int} {t : Ls} {f : Int → Prop} : ldI (h0 :: some (Sum.inl x) :: t) 1 f = f x := rfl
theorem ldL_1 {h0 : Option MV} {x : Int64} {t : Ls} {f : Int64 → Prop} : ldL (h0 :: some (Sum.inr (Sum.inl x)) :: t) 1 f = f x := rfl
theorem ldR_1 {h0 : Option MV} {x : Nat} {t : Ls} {f : Nat → Prop} : ldR (h0 :: some (Sum.inr (Sum.inr x)) :: t) 1 f = f x := rfl
theorem stL_1 {h0 : Option MV} {h v : Option MV} {t : Ls} : stL (h0 :: h :: t) 1 v = h0 :: v :: t := rfl
theorem ldI_2 {h0 h1 : Option MV} {x : Int} {t : Ls} {f : Int → Prop} : ldI (h0 :: h1 :: some (Sum.inl x) :: t) 2 f = f x := rfl
theorem ldL_2 {h0 h1 : Option MV} {x : Int64} {t : Ls} {f : Int64 → Prop} : ldL (h0 :: h1 :: some (Sum.inr (Sum.inl x)) :: t) 2 f = f x := rfl
theorem ldR_2 {h0 h1 : Option MV} {x : Nat} {t : Ls} {f : Nat → Prop} : ldR (h0 :: h1 :: some (Sum.inr (Sum.inr x)) :: t) 2 f = f x := rfl
theorem stL_2 {h0 h1 : Option MV} {h v : Option MV} {t : Ls} : stL (h0 :: h1 :: h :: t) 2 v = h0 :: h1 :: v :: t := rfl
theorem okS_2 {h0 h1 : Option MV} {h : Option MV} {t : Ls} : okS (h0 :: h1 :: h :: t) 2 = nLg h1 := rfl
theorem okS2_2 {h0 h1 : Option MV} {h h' : Option MV} {t : Ls} : okS2 (h0 :: h1 :: h :: h' :: t) 2 = nLg h1 := rfl
theorem ldI_3 {h0 h1 h2 : Option MV} {x : Int} {t : Ls} {f : Int → Prop} : ldI (h0 :: h1 :: h2 :: some (Sum.inl x) :: t) 3 f = f x := rfl
theorem ldL_3 {h0 h1 h2 : Option MV} {x : Int64} {t : Ls} {f : Int64 → Prop} : ldL (h0 :: h1 :: h2 :: some (Sum.inr (Sum.inl x)) :: t) 3 f = f x := rfl
theorem ldR_3 {h0 h1 h2 : Option MV} {x : Nat} {t : Ls} {f : Nat → Prop} : ldR (h0 :: h1 :: h2 :: some (Sum.inr (Sum.inr x)) :: t) 3 f = f x := rfl
theorem stL_3 {h0 h1 h2 : Option MV} {h v : Option MV} {t : Ls} : stL (h0 :: h1 :: h2 :: h :: t) 3 v = h0 :: h1 :: h2 :: v :: t := rfl
theorem okS_3 {h0 h1 h2 : Option MV} {h : Option MV} {t : Ls} : okS (h0 :: h1 :: h2 :: h :: t) 3 = nLg h2 := rfl
theorem okS2_3 {h0 h1 h2 : Option MV} {h h' : Option MV} {t : Ls} : okS2 (h0 :: h1 :: h2 :: h :: h' :: t) 3 = nLg h2 := rfl
theorem ldI_4 {h0 h1 h2 h3 : Option MV} {x : Int} {t : Ls} {f : Int → Prop} : ldI (h0 :: h1 :: h2 :: h3 :: some (Sum.inl x) :: t) 4 f = f x := rfl
theorem ldL_4 {h0 h1 h2 h3 : Option MV} {x : Int64} {t : Ls} {f : Int64 → Prop} : ldL (h0 :: h1 :: h2 :: h3 :: some (Sum.inr (Sum.inl x)) :: t) 4 f = f x := rfl
theorem ldR_4 {h0 h1 h2 h3 : Option MV} {x : Nat} {t : Ls} {f : Nat → Prop} : ldR (h0 :: h1 :: h2 :: h3 :: some (Sum.inr (Sum.inr x)) :: t) 4 f = f x := rfl
theorem stL_4 {h0 h1 h2 h3 : Option MV} {h v : Option MV} {t : Ls} : stL (h0 :: h1 :: h2 :: h3 :: h :: t) 4 v = h0 :: h1 :: h2 :: h3 :: v :: t := rfl
theorem okS_4 {h0 h1 h2 h3 : Option MV} {h : Option MV} {t : Ls} : okS (h0 :: h1 :: h2 :: h3 :: h :: t) 4 = nLg h3 := rfl
theorem okS2_4 {h0 h1 h2 h3 : Option MV} {h h' : Option MV} {t : Ls} : okS2 (h0 :: h1 :: h2 :: h3 :: h :: h' :: t) 4 = nLg h3 := rfl
theorem ldI_5 {h0 h1 h2 h3 h4 : Option MV} {x : Int} {t : Ls} {f : Int → Prop} : ldI (h0 :: h1 :: h2 :: h3 :: h4 :: some (Sum.inl x) :: t) 5 f = f x := rfl
theorem ldL_5 {h0 h1 h2 h3 h4 : Option MV} {x : Int64} {t : Ls} {f : Int64 → Prop} : ldL (h0 :: h1 :: h2 :: h3 :: h4 :: some (Sum.inr (Sum.inl x)) :: t) 5 f = f x := rfl
theorem ldR_5 {h0 h1 h2 h3 h4 : Option MV} {x : Nat} {t : Ls} {f : Nat → Prop} : ldR (h0 :: h1 :: h2 :: h3 :: h4 :: some (Sum.inr (Sum.inr x)) :: t) 5 f = f x := rfl
theorem stL_5 {h0 h1 h2 h3 h4 : Option MV} {h v : Option MV} {t : Ls} : stL (h0 :: h1 :: h2 :: h3 :: h4 :: h :: t) 5 v = h0 :: h1 :: h2 :: h3 :: h4 :: v :: t := rfl
theorem okS_5 {h0 h1 h2 h3 h4 : Option MV} {h : Option MV} {t : Ls} : okS (h0 :: h1 :: h2 :: h3 :: h4 :: h :: t) 5 = nLg h4 := rfl
theorem okS2_5 {h0 h1 h2 h3 h4 : Option MV} {h h' : Option MV} {t : Ls} : okS2 (h0 :: h1 :: h2 :: h3 :: h4 :: h :: h' :: t) 5 = nLg h4 := rfl
theorem ldI_6 {h0 h1 h2 h3 h4 h5 : Option MV} {x : Int} {t : Ls} {f : Int → Prop} : ldI (h0 :: h1 :: h2 :: h3 :: h4 :: h5 :: some (Sum.inl x) :: t) 6 f = f x := rfl
theorem ldL_6 {h0 h1 h2 h3 h4 h5 : Option MV} {x : Int64} {t : Ls} {f : Int64 → Prop} : ldL (h0 :: h1 :: h2 :: h3 :: h4 :: h5 :: some (Sum.inr (Sum.inl x)) :: t) 6 f = f x := rfl
theorem ldR_6 {h0 h1 h2 h3 h4 h5 : Option MV} {x : Nat} {t : Ls} {f : Nat → Prop} : ldR (h0 :: h1 :: h2 :: h3 :: h4 :: h5 :: some (Sum.inr (Sum.inr x)) :: t) 6 f = f x := rfl
theorem stL_6 {h0 h1 h2 h3 h4 h5 : Option MV} {h v : Option MV} {t : Ls} : stL (h0 :: h1 :: h2 :: h3 :: h4 :: h5 :: h :: t) 6 v = h0 :: h1 :: h2 :: h3 :: h4 :: h5 :: v :: t := rfl
theorem okS_6 {h0 h1 h2 h3 h4 h5 : Option MV} {h : Option MV} {t : Ls} : okS (h0 :: h1 :: h2 :: h3 :: h4 :: h5 :: h :: t) 6 = nLg h5 := rfl
theorem okS2_6 {h0 h1 h2 h3 h4 h5 : Option MV} {h h' : Option MV} {t : Ls} : okS2 (h0 :: h1 :: h2 :: h3 :: h4 :: h5 :: h :: h' :: t) 6 = nLg h5 := rfl
theorem ldI_7 {h0 h1 h2 h3 h4 h5 h6 : Option MV} {x : Int} {t : Ls} {f : Int → Prop} : ldI (h0 :: h1 :: h2 :: h3 :: h4 :: h5 :: h6 :: some (Sum.inl x) :: t) 7 f = f x := rfl
theorem ldL_7 {h0 h1 h2 h3 h4 h5 h6 : Option MV} {x : Int64} {t : Ls} {f : Int64 → Prop} : ldL (h0 :: h1 :: h2 :: h3 :: h4 :: h5 :: h6 :: some (Sum.inr (Sum.inl x)) :: t) 7 f = f x := rfl
theorem ldR_7 {h0 h1 h2 h3 h4 h5 h6 : Option MV} {x : Nat} {t : Ls} {f : Nat → Prop} : ldR (h0 :: h1 :: h2 :: h3 :: h4 :: h5 :: h6 :: some (Sum.inr (Sum.inr x)) :: t) 7 f = f x := rfl
theorem stL_7 {h0 h1 h2 h3 h4 h5 h6 : Option MV} {h v : Option MV} {t : Ls} : stL (h0 :: h1 :: h2 :: h3 :: h4 :: h5 :: h6 :: h :: t) 7 v = h0 :: h1 :: h2 :: h3 :: h4 :: h5 :: h6 :: v :: t := rfl
theorem okS_7 {h0 h1 h2 h3 h4 h5 h6 : Option MV} {h : Option MV} {t : Ls} : okS (h0 :: h1 :: h2 :: h3 :: h4 :: h5 :: h6 :: h :: t) 7 = nLg h6 := rfl
theorem okS2_7 {h0 h1 h2 h3 h4 h5 h6 : Option MV} {h h' : Option MV} {t : Ls} : okS2 (h0 :: h1 :: h2 :: h3 :: h4 :: h5 :: h6 :: h :: h' :: t) 7 = nLg h6 := rfl
theorem ldI_8 {h0 h1 h2 h3 h4 h5 h6 h7 : Option MV} {x : Int} {t : Ls} {f : Int → Prop} : ldI (h0 :: h1 :: h2 :: h3 :: h4 :: h5 :: h6 :: h7 :: some (Sum.inl x) :: t) 8 f = f x := rfl
theorem ldL_8 {h0 h1 h2 h3 h4 h5 h6 h7 : Option MV} {x : Int64} {t : Ls} {f : Int64 → Prop} : ldL (h0 :: h1 :: h2 :: h3 :: h4 :: h5 :: h6 :: h7 :: some (Sum.inr (Sum.inl x)) :: t) 8 f = f x := rfl
theorem ldR_8 {h0 h1 h2 h3 h4 h5 h6 h7 : Option MV} {x : Nat} {t : Ls} {f : Nat → Prop} : ldR (h0 :: h1 :: h2 :: h3 :: h4 :: h5 :: h6 :: h7 :: some (Sum.inr (Sum.inr x)) :: t) 8 f = f x := rfl
theorem stL_8 {h0 h1 h2 h3 h4 h5 h6 h7 : Option MV} {h v : Option MV} {t : Ls} : stL (h0 :: h1 :: h2 :: h3 :: h4 :: h5 :: h6 :: h7 :: h :: t) 8 v = h0 :: h1 :: h2 :: h3 :: h4 :: h5 :: h6 :: h7 :: v :: t := rfl
theorem okS_8 {h0 h1 h2 h3 h4 h5 h6 h7 : Option MV} {h : Option MV} {t : Ls} : okS (h0 :: h1 :: h2 :: h3 :: h4 :: h5 :: h6 :: h7 :: h :: t) 8 = nLg h7 := rfl
theorem okS2_8 {h0 h1 h2 h3 h4 h5 h6 h7 : Option MV} {h h' : Option MV} {t : Ls} : okS2 (h0 :: h1 :: h2 :: h3 :: h4 :: h5 :: h6 :: h7 :: h :: h' :: t) 8 = nLg h7 := rfl
theorem ldI_9 {h0 h1 h2 h3 h4 h5 h6 h7 h8 : Option MV} {x : Int} {t : Ls} {f : Int → Prop} : ldI (h0 :: h1 :: h2 :: h3 :: h4 :: h5 :: h6 :: h7 :: h8 :: some (Sum.inl x) :: t) 9 f = f x := rfl
theorem ldL_9 {h0 h1 h2 h3 h4 h5 h6 h7 h8 : Option MV} {x : Int64} {t : Ls} {f : Int64 → Prop} : ldL (h0 :: h1 :: h2 :: h3 :: h4 :: h5 :: h6 :: h7 :: h8 :: some (Sum.inr (Sum.inl x)) :: t) 9 f = f x := rfl
theorem ldR_9 {h0 h1 h2 h3 h4 h5 h6 h7 h8 : Option MV} {x : Nat} {t : Ls} {f : Nat → Prop} : ldR (h0 :: h1 :: h2 :: h3 :: h4 :: h5 :: h6 :: h7 :: h8 :: some (Sum.inr (Sum.inr x)) :: t) 9 f = f x := rfl
theorem stL_9 {h0 h1 h2 h3 h4 h5 h6 h7 h8 : Option MV} {h v : Option MV} {t : Ls} : stL (h0 :: h1 :: h2 :: h3 :: h4 :: h5 :: h6 :: h7 :: h8 :: h :: t) 9 v = h0 :: h1 :: h2 :: h3 :: h4 :: h5 :: h6 :: h7 :: h8 :: v :: t := rfl
theorem okS_9 {h0 h1 h2 h3 h4 h5 h6 h7 h8 : Option MV} {h : Option MV} {t : Ls} : okS (h0 :: h1 :: h2 :: h3 :: h4 :: h5 :: h6 :: h7 :: h8 :: h :: t) 9 = nLg h8 := rfl
theorem okS2_9 {h0 h1 h2 h3 h4 h5 h6 h7 h8 : Option MV} {h h' : Option MV} {t : Ls} : okS2 (h0 :: h1 :: h2 :: h3 :: h4 :: h5 :: h6 :: h7 :: h8 :: h :: h' :: t) 9 = nLg h8 := rfl
theorem ldI_10 {h0 h1 h2 h3 h4 h5 h6 h7 h8 h9 : Option MV} {x : Int} {t : Ls} {f : Int → Prop} : ldI (h0 :: h1 :: h2 :: h3 :: h4 :: h5 :: h6 :: h7 :: h8 :: h9 :: some (Sum.inl x) :: t) 10 f = f x := rfl
theorem ldL_10 {h0 h1 h2 h3 h4 h5 h6 h7 h8 h9 : Option MV} {x : Int64} {t : Ls} {f : Int64 → Prop} : ldL (h0 :: h1 :: h2 :: h3 :: h4 :: h5 :: h6 :: h7 :: h8 :: h9 :: some (Sum.inr (Sum.inl x)) :: t) 10 f = f x := rfl
theorem ldR_10 {h0 h1 h2 h3 h4 h5 h6 h7 h8 h9 : Option MV} {x : Nat} {t : Ls} {f : Nat → Prop} : ldR (h0 :: h1 :: h2 :: h3 :: h4 :: h5 :: h6 :: h7 :: h8 :: h9 :: some (Sum.inr (Sum.inr x)) :: t) 10 f = f x := rfl
theorem stL_10 {h0 h1 h2 h3 h4 h5 h6 h7 h8 h9 : Option MV} {h v : Option MV} {t : Ls} : stL (h0 :: h1 :: h2 :: h3 :: h4 :: h5 :: h6 :: h7 :: h8 :: h9 :: h :: t) 10 v = h0 :: h1 :: h2 :: h3 :: h4 :: h5 :: h6 :: h7 :: h8 :: h9 :: v :: t := rfl
theorem okS_10 {h0 h1 h2 h3 h4 h5 h6 h7 h8 h9 : Option MV} {h : Option MV} {t : Ls} : okS (h0 :: h1 :: h2 :: h3 :: h4 :: h5 :: h6 :: h7 :: h8 :: h9 :: h :: t) 10 = nLg h9 := rfl
theorem okS2_10 {h0 h1 h2 h3 h4 h5 h6 h7 h8 h9 : Option MV} {h h' : Option MV} {t : Ls} : okS2 (h0 :: h1 :: h2 :: h3 :: h4 :: h5 :: h6 :: h7 :: h8 :: h9 :: h :: h' :: t) 10 = nLg h9 := rfl
theorem ldI_11 {h0 h1 h2 h3 h4 h5 h6 h7 h8 h9 h10 : Option MV} {x : Int} {t : Ls} {f : Int → Prop} : ldI (h0 :: h1 :: h2 :: h3 :: h4 :: h5 :: h6 :: h7 :: h8 :: h9 :: h10 :: some (Sum.inl x) :: t) 11 f = f x := rfl
theorem ldL_11 {h0 h1 h2 h3 h4 h5 h6 h7 h8 h9 h10 : Option MV} {x : Int64} {t : Ls} {f : Int64 → Prop} : ldL (h0 :: h1 :: h2 :: h3 :: h4 :: h5 :: h6 :: h7 :: h8 :: h9 :: h10 :: some (Sum.inr (Sum.inl x)) :: t) 11 f = f x := rfl
theorem ldR_11 {h0 h1 h2 h3 h4 h5 h6 h7 h8 h9 h10 : Option MV} {x : Nat} {t : Ls} {f : Nat → Prop} : ldR (h0 :: h1 :: h2 :: h3 :: h4 :: h5 :: h6 :: h7 :: h8 :: h9 :: h10 :: some (Sum.inr (Sum.inr x)) :: t) 11 f = f x := rfl
theorem stL_11 {h0 h1 h2 h3 h4 h5 h6 h7 h8 h9 h10 : Option MV} {h v : Option MV} {t : Ls} : stL (h0 :: h1 :: h2 :: h3 :: h4 :: h5 :: h6 :: h7 :: h8 :: h9 :: h10 :: h :: t) 11 v = h0 :: h1 :: h2 :: h3 :: h4 :: h5 :: h6 :: h7 :: h8 :: h9 :: h10 :: v :: t := rfl
theorem okS_11 {h0 h1 h2 h3 h4 h5 h6 h7 h8 h9 h10 : Option MV} {h : Option MV} {t : Ls} : okS (h0 :: h1 :: h2 :: h3 :: h4 :: h5 :: h6 :: h7 :: h8 :: h9 :: h10 :: h :: t) 11 = nLg h10 := rfl
theorem okS2_11 {h0 h1 h2 h3 h4 h5 h6 h7 h8 h9 h10 : Option MV} {h h' : Option MV} {t : Ls} : okS2 (h0 :: h1 :: h2 :: h3 :: h4 :: h5 :: h6 :: h7 :: h8 :: h9 :: h10 :: h :: h' :: t) 11 = nLg h10 := rfl
theorem ldI_12 {h0 h1 h2 h3 h4 h5 h6 h7 h8 h9 h10 h11 : Option MV} {x : Int} {t : Ls} {f : Int → Prop} : ldI (h0 :: h1 :: h2 :: h3 :: h4 :: h5 :: h6 :: h7 :: h8 :: h9 :: h10 :: h11 :: some (Sum.inl x) :: t) 12 f = f x := rfl
theorem ldL_12 {h0 h1 h2 h3 h4 h5 h6 h7 h8 h9 h10 h11 : Option MV} {x : Int64} {t : Ls} {f : Int64 → Prop} : ldL (h0 :: h1 :: h2 :: h3 :: h4 :: h5 :: h6 :: h7 :: h8 :: h9 :: h10 :: h11 :: some (Sum.inr (Sum.inl x)) :: t) 12 f = f x := rfl
theorem ldR_12 {h0 h1 h2 h3 h4 h5 h6 h7 h8 h9 h10 h11 : Option MV} {x : Nat} {t : Ls} {f : Nat → Prop} : ldR (h0 :: h1 :: h2 :: h3 :: h4 :: h5 :: h6 :: h7 :: h8 :: h9 :: h10 :: h11 :: some (Sum.inr (Sum.inr x)) :: t) 12 f = f x := rfl
theorem stL_12 {h0 h1 h2 h3 h4 h5 h6 h7 h8 h9 h10 h11 : Option MV} {h v : Option MV} {t : Ls} : stL (h0 :: h1 :: h2 :: h3 :: h4 :: h5 :: h6 :: h7 :: h8 :: h9 :: h10 :: h11 :: h :: t) 12 v = h0 :: h1 :: h2 :: h3 :: h4 :: h5 :: h6 :: h7 :: h8 :: h9 :: h10 :: h11 :: v :: t := rfl
theorem okS_12 {h0 h1 h2 h3 h4 h5 h6 h7 h8 h9 h10 h11 : Option MV} {h : Option MV} {t : Ls} : okS (h0 :: h1 :: h2 :: h3 :: h4 :: h5 :: h6 :: h7 :: h8 :: h9 :: h10 :: h11 :: h :: t) 12 = nLg h11 := rfl
theorem okS2_12 {h0 h1 h2 h3 h4 h5 h6 h7 h8 h9 h10 h11 : Option MV} {h h' : Option MV} {t : Ls} : okS2 (h0 :: h1 :: h2 :: h3 :: h4 :: h5 :: h6 :: h7 :: h8 :: h9 :: h10 :: h11 :: h :: h' :: t) 12 = nLg h11 := rfl
theorem ldI_13 {h0 h1 h2 h3 h4 h5 h6 h7 h8 h9 h10 h11 h12 : Option MV} {x : Int} {t : Ls} {f : Int → Prop} : ldI (h0 :: h1 :: h2 :: h3 :: h4 :: h5 :: h6 :: h7 :: h8 :: h9 :: h10 :: h11 :: h12 :: some (Sum.inl x) :: t) 13 f = f x := rfl
theorem ldL_13 {h0 h1 h2 h3 h4 h5 h6 h7 h8 h9 h10 h11 h12 : Option MV} {x : Int64} {t : Ls} {f : Int64 → Prop} : ldL (h0 :: h1 :: h2 :: h3 :: h4 :: h5 :: h6 :: h7 :: h8 :: h9 :: h10 :: h11 :: h12 :: some (Sum.inr (Sum.inl x)) :: t) 13 f = f x := rfl
theorem ldR_13 {h0 h1 h2 h3 h4 h5 h6 h7 h8 h9 h10 h11 h12 : Option MV} {x : Nat} {t : Ls} {f : Nat → Prop} : ldR (h0 :: h1 :: h2 :: h3 :: h4 :: h5 :: h6 :: h7 :: h8 :: h9 :: h10 :: h11 :: h12 :: some (Sum.inr (Sum.inr x)) :: t) 13 f = f x := rfl
theorem stL_13 {h0 h1 h2 h3 h4 h5 h6 h7 h8 h9 h10 h11 h12 : Option MV} {h v : Option MV} {t : Ls} : stL (h0 :: h1 :: h2 :: h3 :: h4 :: h5 :: h6 :: h7 :: h8 :: h9 :: h10 :: h11 :: h12 :: h :: t) 13 v = h0 :: h1 :: h2 :: h3 :: h4 :: h5 :: h6 :: h7 :: h8 :: h9 :: h10 :: h11 :: h12 :: v :: t := rfl
theorem okS_13 {h0 h1 h2 h3 h4 h5 h6 h7 h8 h9 h10 h11 h12 : Option MV} {h : Option MV} {t : Ls} : okS (h0 :: h1 :: h2 :: h3 :: h4 :: h5 :: h6 :: h7 :: h8 :: h9 :: h10 :: h11 :: h12 :: h :: t) 13 = nLg h12 := rfl
theorem okS2_13 {h0 h1 h2 h3 h4 h5 h6 h7 h8 h9 h10 h11 h12 : Option MV} {h h' : Option MV} {t : Ls} : okS2 (h0 :: h1 :: h2 :: h3 :: h4 :: h5 :: h6 :: h7 :: h8 :: h9 :: h10 :: h11 :: h12 :: h :: h' :: t) 13 = nLg h12 := rfl
theorem ldI_14 {h0 h1 h2 h3 h4 h5 h6 h7 h8 h9 h10 h11 h12 h13 : Option MV} {x : Int} {t : Ls} {f : Int → Prop} : ldI (h0 :: h1 :: h2 :: h3 :: h4 :: h5 :: h6 :: h7 :: h8 :: h9 :: h10 :: h11 :: h12 :: h13 :: some (Sum.inl x) :: t) 14 f = f x := rfl
theorem ldL_14 {h0 h1 h2 h3 h4 h5 h6 h7 h8 h9 h10 h11 h12 h13 : Option MV} {x : Int64} {t : Ls} {f : Int64 → Prop} : ldL (h0 :: h1 :: h2 :: h3 :: h4 :: h5 :: h6 :: h7 :: h8 :: h9 :: h10 :: h11 :: h12 :: h13 :: some (Sum.inr (Sum.inl x)) :: t) 14 f = f x := rfl
theorem ldR_14 {h0 h1 h2 h3 h4 h5 h6 h7 h8 h9 h10 h11 h12 h13 : Option MV} {x : Nat} {t : Ls} {f : Nat → Prop} : ldR (h0 :: h1 :: h2 :: h3 :: h4 :: h5 :: h6 :: h7 :: h8 :: h9 :: h10 :: h11 :: h12 :: h13 :: some (Sum.inr (Sum.inr x)) :: t) 14 f = f x := rfl
theorem stL_14 {h0 h1 h2 h3 h4 h5 h6 h7 h8 h9 h10 h11 h12 h13 : Option MV} {h v : Option MV} {t : Ls} : stL (h0 :: h1 :: h2 :: h3 :: h4 :: h5 :: h6 :: h7 :: h8 :: h9 :: h10 :: h11 :: h12 :: h13 :: h :: t) 14 v = h0 :: h1 :: h2 :: h3 :: h4 :: h5 :: h6 :: h7 :: h8 :: h9 :: h10 :: h11 :: h12 :: h13 :: v :: t := rfl
theorem okS_14 {h0 h1 h2 h3 h4 h5 h6 h7 h8 h9 h10 h11 h12 h13 : Option MV} {h : Option MV} {t : Ls} : okS (h0 :: h1 :: h2 :: h3 :: h4 :: h5 :: h6 :: h7 :: h8 :: h9 :: h10 :: h11 :: h12 :: h13 :: h :: t) 14 = nLg h13 := rfl
theorem okS2_14 {h0 h1 h2 h3 h4 h5 h6 h7 h8 h9 h10 h11 h12 h13 : Option MV} {h h' : Option MV} {t : Ls} : okS2 (h0 :: h1 :: h2 :: h3 :: h4 :: h5 :: h6 :: h7 :: h8 :: h9 :: h10 :: h11 :: h12 :: h13 :: h :: h' :: t) 14 = nLg h13 := rfl
theorem ldI_15 {h0 h1 h2 h3 h4 h5 h6 h7 h8 h9 h10 h11 h12 h13 h14 : Option MV} {x : Int} {t : Ls} {f : Int → Prop} : ldI (h0 :: h1 :: h2 :: h3 :: h4 :: h5 :: h6 :: h7 :: h8 :: h9 :: h10 :: h11 :: h12 :: h13 :: h14 :: some (Sum.inl x) :: t) 15 f = f x := rfl
theorem ldL_15 {h0 h1 h2 h3 h4 h5 h6 h7 h8 h9 h10 h11 h12 h13 h14 : Option MV} {x : Int64} {t : Ls} {f : Int64 → Prop} : ldL (h0 :: h1 :: h2 :: h3 :: h4 :: h5 :: h6 :: h7 :: h8 :: h9 :: h10 :: h11 :: h12 :: h13 :: h14 :: some (Sum.inr (Sum.inl x)) :: t) 15 f = f x := rfl
theorem ldR_15 {h0 h1 h2 h3 h4 h5 h6 h7 h8 h9 h10 h11 h12 h13 h14 : Option MV} {x : Nat} {t : Ls} {f : Nat → Prop} : ldR (h0 :: h1 :: h2 :: h3 :: h4 :: h5 :: h6 :: h7 :: h8 :: h9 :: h10 :: h11 :: h12 :: h13 :: h14 :: some (Sum.inr (Sum.inr x)) :: t) 15 f = f x := rfl
theorem stL_15 {h0 h1 h2 h3 h4 h5 h6 h7 h8 h9 h10 h11 h12 h13 h14 : Option MV} {h v : Option MV} {t : Ls} : stL (h0 :: h1 :: h2 :: h3 :: h4 :: h5 :: h6 :: h7 :: h8 :: h9 :: h10 :: h11 :: h12 :: h13 :: h14 :: h :: t) 15 v = h0 :: h1 :: h2 :: h3 :: h4 :: h5 :: h6 :: h7 :: h8 :: h9 :: h10 :: h11 :: h12 :: h13 :: h14 :: v :: t := rfl
theorem okS_15 {h0 h1 h2 h3 h4 h5 h6 h7 h8 h9 h10 h11 h12 h13 h14 : Option MV} {h : Option MV} {t : Ls} : okS (h0 :: h1 :: h2 :: h3 :: h4 :: h5 :: h6 :: h7 :: h8 :: h9 :: h10 :: h11 :: h12 :: h13 :: h14 :: h :: t) 15 = nLg h14 := rfl
theorem okS2_15 {h0 h1 h2 h3 h4 h5 h6 h7 h8 h9 h10 h11 h12 h13 h14 : Option MV} {h h' : Option MV} {t : Ls} : okS2 (h0 :: h1 :: h2 :: h3 :: h4 :: h5 :: h6 :: h7 :: h8 :: h9 :: h10 :: h11 :: h12 :: h13 :: h14 :: h :: h' :: t) 15 = nLg h14 := rfl
theorem len4_0 : len4 [] = True := rfl
theorem len4_1 {v0 : MV} : len4 [v0] = True := rfl
theorem len4_2 {v0 v1 : MV} : len4 [v0, v1] = True := rfl
theorem len4_3 {v0 v1 v2 : MV} : len4 [v0, v1, v2] = True := rfl
theorem len4_4 {v0 v1 v2 v3 : MV} : len4 [v0, v1, v2, v3] = True := rfl
theorem tc_c (a b : Nat) : (a : Int) + (b : Int) = ((a + b : Nat) : Int) := (Int.natCast_add a b).symm
theorem tc_l (a b : Nat) : (a : Int) + no_index (OfNat.ofNat b : Int) = ((a + OfNat.ofNat b : Nat) : Int) := rfl
theorem tc_r (a b : Nat) : no_index (OfNat.ofNat a : Int) + (b : Int) = ((OfNat.ofNat a + b : Nat) : Int) := (Int.natCast_add (OfNat.ofNat a) b).symm
theorem tc_m (a b : Nat) : (a : Int) * no_index (OfNat.ofNat b : Int) = ((a * OfNat.ofNat b : Nat) : Int) := rfl
theorem tc_n (a b : Nat) : no_index (OfNat.ofNat a : Int) * (b : Int) = ((OfNat.ofNat a * b : Nat) : Int) := rfl
theorem tc_o (n : Nat) : ((no_index (OfNat.ofNat n : Nat) : Nat) : Int) = (OfNat.ofNat n : Int) := rfl
theorem lit_a (a m n : Nat) : a + no_index (OfNat.ofNat m) + no_index (OfNat.ofNat n) = a + (OfNat.ofNat m + OfNat.ofNat n) := Nat.add_assoc _ _ _
theorem tc_0 (a : Nat) : (0 ≤ (a : Int)) = True := by simp
end
section
theorem p1_m {st : List MV} {f g : Int → List MV → Prop} (h : ∀ x r, f x r → g x r) : p1 st f → p1 st g := by
  unfold p1; split <;> first | exact h _ _ | exact id
theorem p2_m {st : List MV} {f g : Int → Int → List MV → Prop} (h : ∀ x y r, f x y r → g x y r) : p2 st f → p2 st g := by
  unfold p2; split <;> first | exact h _ _ _ | exact id
theorem pR_m {st : List MV} {f g : Nat → List MV → Prop} (h : ∀ x r, f x r → g x r) : pR st f → pR st g := by
  unfold pR; split <;> first | exact h _ _ | exact id
theorem pA_m {st : List MV} {f g : Nat → Int → List MV → Prop} (h : ∀ x y r, f x y r → g x y r) : pA st f → pA st g := by
  unfold pA; split <;> first | exact h _ _ _ | exact id
theorem pAS_m {st : List MV} {f g : Nat → Int → Int → List MV → Prop} (h : ∀ x y z r, f x y z r → g x y z r) : pAS st f → pAS st g := by
  unfold pAS; split <;> first | exact h _ _ _ _ | exact id
theorem pL_m {st : List MV} {f g : Int64 → List MV → Prop} (h : ∀ x r, f x r → g x r) : pL st f → pL st g := by
  unfold pL; split <;> first | exact h _ _ | exact id
theorem pLL_m {st : List MV} {f g : Int64 → Int64 → List MV → Prop} (h : ∀ x y r, f x y r → g x y r) : pLL st f → pLL st g := by
  unfold pLL; split <;> first | exact h _ _ _ | exact id
theorem pLI_m {st : List MV} {f g : Int64 → Int → List MV → Prop} (h : ∀ x y r, f x y r → g x y r) : pLI st f → pLI st g := by
  unfold pLI; split <;> first | exact h _ _ _ | exact id
theorem pD_m {st : List MV} {f g : MV → List MV → Prop} (h : ∀ x r, f x r → g x r) : pD st f → pD st g := by
  unfold pD; split <;> first | exact h _ _ | exact id
theorem pC_m {st : List MV} {f g : Nat → Int → Nat → Int → Int → List MV → Prop} (h : ∀ a b c d e r, f a b c d e r → g a b c d e r) : pC st f → pC st g := by
  unfold pC; split <;> first | exact h _ _ _ _ _ _ | exact id
theorem tk_m {n : Nat} {st : List MV} {f g : List MV → List MV → Prop} (h : ∀ x r, f x r → g x r) : tk n st f → tk n st g := by
  unfold tk; split <;> first | exact h _ _ | exact id
theorem ldI_m {ls : Ls} {f g : Int → Prop} (h : ∀ x, f x → g x) : ∀ {n : Nat}, ldI ls n f → ldI ls n g := by
  induction ls with
  | nil => intro n q; cases n <;> exact q
  | cons a t ih =>
    intro n q
    cases n with
    | zero => revert q; simp only [ldI]; split <;> first | exact h _ | exact id
    | succ n => exact ih (n := n) q
theorem ldL_m {ls : Ls} {f g : Int64 → Prop} (h : ∀ x, f x → g x) : ∀ {n : Nat}, ldL ls n f → ldL ls n g := by
  induction ls with
  | nil => intro n q; cases n <;> exact q
  | cons a t ih =>
    intro n q
    cases n with
    | zero => revert q; simp only [ldL]; split <;> first | exact h _ | exact id
    | succ n => exact ih (n := n) q
theorem ldR_m {ls : Ls} {f g : Nat → Prop} (h : ∀ x, f x → g x) : ∀ {n : Nat}, ldR ls n f → ldR ls n g := by
  induction ls with
  | nil => intro n q; cases n <;> exact q
  | cons a t ih =>
    intro n q
    cases n with
    | zero => revert q; simp only [ldR]; split <;> first | exact h _ | exact id
    | succ n => exact ih (n := n) q
theorem cEq_m {x y : Int} {a b a' b' : Prop} (h1 : a → a') (h2 : b → b') : cEq x y a b → cEq x y a' b' := fun h => ⟨fun q => h1 (h.1 q), fun q => ⟨(h.2 q).1, (h.2 q).2.1, h2 (h.2 q).2.2⟩⟩
theorem cLt_m {x y : Int} {a b a' b' : Prop} (h1 : a → a') (h2 : b → b') : cLt x y a b → cLt x y a' b' := fun h => ⟨h.1, h.2.1, fun q => h1 (h.2.2.1 q), fun q => h2 (h.2.2.2 q)⟩
theorem cnd_m {c : ClassFile.Cond} {x y : Int} {a b a' b' : Prop} (h1 : a → a') (h2 : b → b') : cnd c x y a b → cnd c x y a' b' := by
  cases c
  · exact cEq_m h1 h2
  · exact cEq_m h2 h1
  · exact cLt_m h1 h2
  · exact cLt_m h2 h1
  · exact cLt_m h1 h2
  · exact cLt_m h2 h1
theorem swc_m {pc : Nat} {K K' : Nat → Prop} {x : Int} (h : ∀ t, K t → K' t) : ∀ {os : List Int} {v : Int}, swc pc K x v os → swc pc K' x v os
  | [], _, _ => trivial
  | _ :: _, _, q => ⟨fun e => h _ (q.1 e), swc_m h q.2⟩
def CM (call : CT) : Prop := ∀ mi vs μ (Q Q' : QT), (∀ v μ, Q v μ → Q' v μ) → call mi vs μ Q → call mi vs μ Q'
theorem stp_m {σ : Sg} {P P' : PT} {call : CT} {Q Q' : QT} {pc a b c x1 : Nat} {k k' : Ls → List MV → Mem → Prop} (hP : ∀ pc ls st μ, P pc ls st μ → P' pc ls st μ) (hQ : ∀ v μ, Q v μ → Q' v μ) (hk : ∀ ls st μ, k ls st μ → k' ls st μ) (hc : CM call) {i : Instr} {ls : Ls} {st : List MV} {μ : Mem} :
    stp σ P call Q pc i a b c x1 k ls st μ → stp σ P' call Q' pc i a b c x1 k' ls st μ := by
  intro h
  cases i with
  | iconst n => exact hk _ _ _ h
  | bipush n => exact hk _ _ _ h
  | sipush n => exact hk _ _ _ h
  | lconst n => exact hk _ _ _ h
  | ldc2_w n => exact hk _ _ _ h
  | iload n => exact ldI_m (fun x h => hk _ _ _ h) h
  | iload_n n => exact ldI_m (fun x h => hk _ _ _ h) h
  | lload n => exact ldL_m (fun x h => hk _ _ _ h) h
  | lload_n n => exact ldL_m (fun x h => hk _ _ _ h) h
  | aload n => exact ldR_m (fun x h => hk _ _ _ h) h
  | aload_n n => exact ldR_m (fun x h => hk _ _ _ h) h
  | istore n => exact p1_m (fun x r h => ⟨h.1, hk _ _ _ h.2⟩) h
  | istore_n n => exact p1_m (fun x r h => ⟨h.1, hk _ _ _ h.2⟩) h
  | astore n => exact pR_m (fun x r h => ⟨h.1, hk _ _ _ h.2⟩) h
  | astore_n n => exact pR_m (fun x r h => ⟨h.1, hk _ _ _ h.2⟩) h
  | lstore n => exact pL_m (fun x r h => ⟨h.1, hk _ _ _ h.2⟩) h
  | lstore_n n => exact pL_m (fun x r h => ⟨h.1, hk _ _ _ h.2⟩) h
  | iinc n d => exact ldI_m (fun x h => ⟨h.1, hk _ _ _ h.2⟩) h
  | iadd => exact p2_m (fun x y r h => hk _ _ _ h) h
  | isub => exact p2_m (fun x y r h => hk _ _ _ h) h
  | imul => exact p2_m (fun x y r h => hk _ _ _ h) h
  | iand => exact p2_m (fun x y r h => hk _ _ _ h) h
  | ior => exact p2_m (fun x y r h => hk _ _ _ h) h
  | ishl => exact p2_m (fun x y r h => hk _ _ _ h) h
  | ishr => exact p2_m (fun x y r h => hk _ _ _ h) h
  | i2c => exact p1_m (fun x r h => hk _ _ _ h) h
  | i2l => exact p1_m (fun x r h => hk _ _ _ h) h
  | l2i => exact pL_m (fun x r h => hk _ _ _ h) h
  | land => exact pLL_m (fun x y r h => hk _ _ _ h) h
  | lushr => exact pLI_m (fun x y r h => hk _ _ _ h) h
  | lcmp => exact pLL_m (fun x y r h => hk _ _ _ h) h
  | dup => revert h; simp only [stp]; exact pD_m (fun x r h => hk _ _ _ h)
  | dup2 => revert h; simp only [stp]; exact pD_m (fun x r => pD_m (fun x r h => hk _ _ _ h))
  | pop => revert h; simp only [stp]; exact pD_m (fun x r h => hk _ _ _ h)
  | goto o => exact hP _ _ _ _ h
  | ifCond cc o => exact p1_m (fun x r h => cnd_m (hP _ _ _ _) (hk _ _ _) h) h
  | if_icmp cc o => exact p2_m (fun x y r h => cnd_m (hP _ _ _ _) (hk _ _ _) h) h
  | tableswitch d lo hi offs => exact p1_m (fun x r h => ⟨h.1, swc_m (fun t => hP _ _ _ _) h.2.1, fun q => hP _ _ _ _ (h.2.2 q)⟩) h
  | getfield n =>
    refine pR_m (fun o r h => ⟨h.1, ?_⟩) h
    have h2 := h.2
    revert h2
    split
    · exact hk _ _ _
    · exact hk _ _ _
    · exact fun q => ⟨q.1, hk _ _ _ q.2⟩
  | putfield n =>
    revert h
    simp only [stp]
    split
    · exact fun h => ⟨h.1, h.2.1, hk _ _ _ h.2.2⟩
    · exact id
  | iaload => exact pA_m (fun x y r h => ⟨h.1, h.2.1, h.2.2.1, hk _ _ _ h.2.2.2⟩) h
  | caload => exact pA_m (fun x y r h => ⟨h.1, h.2.1, h.2.2.1, hk _ _ _ h.2.2.2⟩) h
  | baload => exact pA_m (fun x y r h => ⟨h.1, h.2.1, h.2.2.1, hk _ _ _ h.2.2.2⟩) h
  | aaload => exact pA_m (fun x y r h => ⟨h.1, h.2.1, h.2.2.1, h.2.2.2.1, hk _ _ _ h.2.2.2.2⟩) h
  | iastore => exact pAS_m (fun x y z r h => ⟨h.1, h.2.1, h.2.2.1, hk _ _ _ h.2.2.2⟩) h
  | castore => exact pAS_m (fun x y z r h => ⟨h.1, h.2.1, h.2.2.1, h.2.2.2.1, hk _ _ _ h.2.2.2.2⟩) h
  | bastore => exact pAS_m (fun x y z r h => ⟨h.1, h.2.1, h.2.2.1, h.2.2.2.1, hk _ _ _ h.2.2.2.2⟩) h
  | ireturn => exact p1_m (fun x r h => ⟨h.1, h.2.1, hQ _ _ h.2.2⟩) h
  | return_ => exact ⟨h.1, hQ _ _ h.2⟩
  | areturn => exact pR_m (fun x r h => ⟨h.1, hQ _ _ h.2⟩) h
  | invokevirtual n => revert h; simp only [stp]; exact tk_m (fun vs r h => ⟨h.1, h.2.1, hc _ _ _ _ _ (fun v μ h => hP _ _ _ _ h) h.2.2⟩)
  | invokestatic n =>
    revert h
    simp only [stp]
    split
    · exact p2_m (fun x y r h => ⟨h.1, h.2.1, hk _ _ _ h.2.2⟩)
    · exact pC_m (fun a b c d e r h => ⟨h.1, h.2.1, h.2.2.1, hk _ _ _ h.2.2.2⟩)
    · exact tk_m (fun vs r h => ⟨h.1, hc _ _ _ _ _ (fun v μ h => hP _ _ _ _ h) h.2⟩)
  | _ => exact (h : False).elim
theorem seg_m {σ : Sg} {P P' : PT} {call : CT} {Q Q' : QT} (hP : ∀ pc ls st μ, P pc ls st μ → P' pc ls st μ) (hQ : ∀ v μ, Q v μ → Q' v μ) (hc : CM call) : ∀ {l : List Ent} {nx : Nat} {ls : Ls} {st : List MV} {μ : Mem},
    seg σ P call Q l nx ls st μ → seg σ P' call Q' l nx ls st μ
  | [], _, _, _, _, h => hP _ _ _ _ h
  | (_, _, _, _, _, _) :: _, _, _, _, _, h => stp_m hP hQ (fun _ _ _ h => seg_m hP hQ hc h) hc h
theorem wp_m {σ : Sg} {call : CT} {mi : Nat} {Q Q' : QT} (hQ : ∀ v μ, Q v μ → Q' v μ) (hc : CM call) {pc : Nat} {ls : Ls} {st : List MV} {μ : Mem} (h : wp σ call mi Q pc ls st μ) : wp σ call mi Q' pc ls st μ :=
  ⟨trivial, fun P hP => h.2 P fun pc l nx ls st μ hb hs => hP pc l nx ls st μ hb (seg_m (fun _ _ _ _ h => h) hQ hc hs)⟩
theorem Call_m (σ : Sg) : ∀ d : Nat, CM (Call σ d)
  | 0, _, _, _, _, _, _, h => h
  | d + 1, _, _, _, _, _, hQ, h => ⟨h.1, h.2.1, wp_m hQ (Call_m σ d) h.2.2⟩
theorem wp_go {σ : Sg} {d mi : Nat} {Q : QT} {pc : Nat} {l : List Ent} {nx : Nat} {ls : Ls} {st : List MV} {μ : Mem} (hb : blk mi pc = some (l, nx)) (h : seg σ (wp σ (Call σ d) mi Q) (Call σ d) Q l nx ls st μ) : wp σ (Call σ d) mi Q pc ls st μ :=
  ⟨trivial, fun P hP => hP pc l nx ls st μ hb (seg_m (fun _ _ _ _ h => h.2 P hP) (fun _ _ h => h) (Call_m σ d) h)⟩
theorem Call_go {σ : Sg} {d mi : Nat} {vs : List MV} {Q : QT} {ls : Ls} {μ : Mem} (h1 : vs.length = nM mi) (h2 : (argL vs).length ≤ lM mi) (h3 : iniL mi vs = ls) (h : wp σ (Call σ d) mi Q 0 ls [] μ) : Call σ (d + 1) mi vs μ Q := ⟨h1, h2, by rw [h3]; exact h⟩
end
section
/-! the tables of the code against the bytes and the words -/
def ilen (i : Instr) : Nat := match i with
  | .iload _ => 2 | .lload _ => 2 | .aload _ => 2 | .istore _ => 2 | .lstore _ => 2 | .astore _ => 2 | .bipush _ => 2
  | .sipush _ => 3 | .ldc2_w _ => 3 | .iinc _ _ => 3 | .goto _ => 3 | .ifCond _ _ => 3 | .if_icmp _ _ => 3 | .getfield _ => 3 | .putfield _ => 3 | .invokevirtual _ => 3 | .invokestatic _ => 3
  | _ => 1
def isTsw (i : Instr) : Bool := match i with
  | .tableswitch _ _ _ _ => true
  | _ => false
def ckD (mi pc : Nat) (i : Instr) : Bool := match decode (bM mi) pc with
  | .ok (j, n) => decide (j = i) && (isTsw i || n == ilen i)
  | _ => false
def ckI (mi pc : Nat) (i : Instr) (a b c e np : Nat) : Bool := match i with
  | .bipush n => decide ((Int8.ofInt n).toInt32 = Int32.ofInt n) && np == pc + 2
  | .sipush n => decide ((Int16.ofInt n).toInt32 = Int32.ofInt n) && np == pc + 3
  | .goto o => decide ((pc : Int) + o = (a : Int))
  | .ifCond _ o => decide ((pc : Int) + o = (a : Int)) && np == pc + 3
  | .if_icmp _ o => decide ((pc : Int) + o = (a : Int)) && np == pc + 3
  | .tableswitch d lo hi offs => decide (0 ≤ (pc : Int) + d) && offs.toList.all (fun o => decide (0 ≤ (pc : Int) + o)) && decide (lo + offs.size = hi + 1)
  | .getfield x => flt.contains (oM mi, x, a, b) && decide (a < 7) && decide (b < NX a) && decide ((fks a)[b]? = some c) && np == pc + 3
  | .putfield x => flt.contains (oM mi, x, a, b) && decide (a < 7) && decide (b < NX a) && decide ((fks a)[b]? = some c) && np == pc + 3 && decide (((TX a) b).2.2.2 = false) && decide (((TX a) b).2.2.1 = (if c = 0 then "I" else "Z"))
  | .aaload => [(103, 1, 7), (104, 1, 55), (105, 12, 55)].contains (a, b, c) && np == pc + 1
  | .ireturn => if a = 0 then decide (rM mi = some .int) else if a = 1 then decide (rM mi = some .boolean) else decide (a = 2) && decide (rM mi = some .char)
  | .return_ => decide (rM mi = none)
  | .areturn => decide (rM mi = some (.object RX1))
  | .invokevirtual x => cltV.contains (oM mi, x, a) && mVs.contains a && b == nM a && c == kM a && e == oM a && np == pc + 3
  | .invokestatic x => (match c with
    | 10 => clt4.contains (oM mi, x, c)
    | 13 => clt4.contains (oM mi, x, c)
    | 1 => cltS.contains (oM mi, x, a) && mSs.contains a && b == nM a && kM a == 1
    | 2 => cltN.contains (oM mi, x, a) && mSs.contains a && b == nM a && kM a == 1
    | _ => false) && np == pc + 3
  | .ldc2_w x => cklt.contains (oM mi, x, a) && np == pc + 3
  | i => np == pc + ilen i
def hpc : List Ent → Nat → Nat
  | [], nx => nx
  | q :: _, _ => q.1
def ckL (mi : Nat) : List Ent → Nat → Bool
  | [], _ => true
  | (pc, i, a, b, c, e) :: r, nx => ckD mi pc i && ckI mi pc i a b c e (hpc r nx) && ckL mi r nx
def ckM (mi : Nat) : Bool := (bkOf mi).all (fun q => ckL mi q.2.1 q.2.2 && hpc q.2.1 q.2.2 == q.1)
theorem ck0 : ckM 0 = true := by decide +kernel
theorem ck1 : ckM 1 = true := by decide +kernel
theorem ck2 : ckM 2 = true := by decide +kernel
theorem ck3 : ckM 3 = true := by decide +kernel
theorem ck4 : ckM 4 = true := by decide +kernel
theorem ck5 : ckM 5 = true := by decide +kernel
theorem ck6 : ckM 6 = true := by decide +kernel
theorem ck7 : ckM 7 = true := by decide +kernel
theorem ck8 : ckM 8 = true := by decide +kernel
theorem ck9 : ckM 9 = true := by decide +kernel
theorem ck10 : ckM 10 = true := by decide +kernel
theorem ck11 : ckM 11 = true := by decide +kernel
theorem ck12 : ckM 12 = true := by decide +kernel
theorem ck13 : ckM 13 = true := by decide +kernel
theorem ck14 : ckM 14 = true := by decide +kernel
theorem ck15 : ckM 15 = true := by decide +kernel
theorem ck16 : ckM 16 = true := by decide +kernel
theorem ck17 : ckM 17 = true := by decide +kernel
theorem ck18 : ckM 18 = true := by decide +kernel
theorem ck19 : ckM 19 = true := by decide +kernel
theorem ck20 : ckM 20 = true := by decide +kernel
theorem ck21 : ckM 21 = true := by decide +kernel
theorem ck22 : ckM 22 = true := by decide +kernel
theorem ck23 : ckM 23 = true := by decide +kernel
theorem ck24 : ckM 24 = true := by decide +kernel
theorem ck25 : ckM 25 = true := by decide +kernel
theorem ck26 : ckM 26 = true := by decide +kernel
theorem ck27 : ckM 27 = true := by decide +kernel
theorem ck28 : ckM 28 = true := by decide +kernel
theorem ck29 : ckM 29 = true := by decide +kernel
theorem ck30 : ckM 30 = true := by decide +kernel
theorem ck31 : ckM 31 = true := by decide +kernel
theorem ck32 : ckM 32 = true := by decide +kernel
theorem ck33 : ckM 33 = true := by decide +kernel
theorem ck34 : ckM 34 = true := by decide +kernel
theorem ck35 : ckM 35 = true := by decide +kernel
theorem ck36 : ckM 36 = true := by decide +kernel
theorem ck37 : ckM 37 = true := by decide +kernel
theorem ck38 : ckM 38 = true := by decide +kernel
theorem ck39 : ckM 39 = true := by decide +kernel
theorem ck40 : ckM 40 = true := by decide +kernel
theorem ck41 : ckM 41 = true := by decide +kernel
theorem ck42 : ckM 42 = true := by decide +kernel
theorem ck43 : ckM 43 = true := by decide +kernel
theorem ck44 : ckM 44 = true := by decide +kernel
theorem ck45 : ckM 45 = true := by decide +kernel
theorem ck46 : ckM 46 = true := by decide +kernel
theorem ck47 : ckM 47 = true := by decide +kernel
theorem ck48 : ckM 48 = true := by decide +kernel
theorem ck49 : ckM 49 = true := by decide +kernel
theorem ck50 : ckM 50 = true := by decide +kernel
theorem ck51 : ckM 51 = true := by decide +kernel
theorem ck52 : ckM 52 = true := by decide +kernel
theorem ck53 : ckM 53 = true := by decide +kernel
theorem ck54 : ckM 54 = true := by decide +kernel
theorem ck55 : ckM 55 = true := by decide +kernel
theorem ck56 : ckM 56 = true := by decide +kernel
theorem ck57 : ckM 57 = true := by decide +kernel
theorem ck58 : ckM 58 = true := by decide +kernel
theorem ck59 : ckM 59 = true := by decide +kernel
theorem ck60 : ckM 60 = true := by decide +kernel
theorem ck61 : ckM 61 = true := by decide +kernel
theorem ck62 : ckM 62 = true := by decide +kernel
theorem ck63 : ckM 63 = true := by decide +kernel
theorem ck64 : ckM 64 = true := by decide +kernel
theorem ck65 : ckM 65 = true := by decide +kernel
theorem ck66 : ckM 66 = true := by decide +kernel
theorem ck67 : ckM 67 = true := by decide +kernel
theorem ck68 : ckM 68 = true := by decide +kernel
theorem ck69 : ckM 69 = true := by decide +kernel
theorem ck_all : ∀ k, k < 70 → ckM k = true := by
  intro k hk
  match k, hk with
  | 0, _ => exact ck0
  | 1, _ => exact ck1
  | 2, _ => exact ck2
  | 3, _ => exact ck3
  | 4, _ => exact ck4
  | 5, _ => exact ck5
  | 6, _ => exact ck6
  | 7, _ => exact ck7
  | 8, _ => exact ck8
  | 9, _ => exact ck9
  | 10, _ => exact ck10
  | 11, _ => exact ck11
  | 12, _ => exact ck12
  | 13, _ => exact ck13
  | 14, _ => exact ck14
  | 15, _ => exact ck15
  | 16, _ => exact ck16
  | 17, _ => exact ck17
  | 18, _ => exact ck18
  | 19, _ => exact ck19
  | 20, _ => exact ck20
  | 21, _ => exact ck21
  | 22, _ => exact ck22
  | 23, _ => exact ck23
  | 24, _ => exact ck24
  | 25, _ => exact ck25
  | 26, _ => exact ck26
  | 27, _ => exact ck27
  | 28, _ => exact ck28
  | 29, _ => exact ck29
  | 30, _ => exact ck30
  | 31, _ => exact ck31
  | 32, _ => exact ck32
  | 33, _ => exact ck33
  | 34, _ => exact ck34
  | 35, _ => exact ck35
  | 36, _ => exact ck36
  | 37, _ => exact ck37
  | 38, _ => exact ck38
  | 39, _ => exact ck39
  | 40, _ => exact ck40
  | 41, _ => exact ck41
  | 42, _ => exact ck42
  | 43, _ => exact ck43
  | 44, _ => exact ck44
  | 45, _ => exact ck45
  | 46, _ => exact ck46
  | 47, _ => exact ck47
  | 48, _ => exact ck48
  | 49, _ => exact ck49
  | 50, _ => exact ck50
  | 51, _ => exact ck51
  | 52, _ => exact ck52
  | 53, _ => exact ck53
  | 54, _ => exact ck54
  | 55, _ => exact ck55
  | 56, _ => exact ck56
  | 57, _ => exact ck57
  | 58, _ => exact ck58
  | 59, _ => exact ck59
  | 60, _ => exact ck60
  | 61, _ => exact ck61
  | 62, _ => exact ck62
  | 63, _ => exact ck63
  | 64, _ => exact ck64
  | 65, _ => exact ck65
  | 66, _ => exact ck66
  | 67, _ => exact ck67
  | 68, _ => exact ck68
  | 69, _ => exact ck69
  | n + 70, h => exact absurd h (by omega)
def ckMeth (k : Nat) : Bool := decide ((yM k).cls = RX (oM k)) && decide (plainName (yM k).cls = true) && decide ((yM k).cls ≠ "java/lang/invoke/MethodHandle") && decide ((yM k).cls ≠ "java/lang/invoke/VarHandle") && decide ((parseMethodDescriptor (yM k).desc).map (fun d => d.parameters.length) = some (if mSs.contains k then nM k else nM k - 1)) && decide (lM k ≤ 17) && decide (oM k < 7) && (if kM k = 0 then decide (rM k = none) else if kM k = 1 then decide (rM k = some .int) || decide (rM k = some .boolean) || decide (rM k = some .char) else decide (rM k = some (.object RX1)))
theorem meth_ok : (List.range 70).all ckMeth = true := by decide +kernel
end
section
/-! THE WORLD of the small machine as cells of the heap -/
def tr (base : Nat) : MV → Value
  | .inl x => .int (Int32.ofInt x)
  | .inr (.inl y) => .long y
  | .inr (.inr k) => .ref (base + k)
def fldV (base : Nat) (σ : Sg) (μ : Mem) (k j f : Nat) : Value := match f with
  | 0 => .int (Int32.ofInt (μ k j))
  | 1 => .int (Int32.ofInt (μ k j))
  | n + 2 => if σ.2 k j = true then .ref (base + (k + n)) else .null
def ptrs (base : Nat) (σ : Sg) (k b c : Nat) : Nat → Option Nat := fun j => if σ.2 k j = true then some (base + (k + b + c * j)) else none
def entV (base : Nat) (cA : Nat → ClassId) (σ : Sg) (μ : Mem) (k kd n : Nat) : va_E :=
  if kd = 100 then .inl (cA 0, n, .inl fun j => Int32.ofInt (μ k j))
  else if kd = 101 then .inl (cA 1, n, .inl fun j => Int32.ofInt (μ k j))
  else if kd = 102 then .inl (cA 2, n, .inl fun j => Int32.ofInt (μ k j))
  else if kd = 103 then .inl (cA 3, n, .inr (.inr (.inr (.inr (ptrs base σ k 1 7)))))
  else if kd = 104 then .inl (cA 4, n, .inr (.inr (.inr (.inr (ptrs base σ k 1 55)))))
  else if kd = 105 then .inl (cA 4, n, .inr (.inr (.inr (.inr (ptrs base σ k 12 55)))))
  else .inr (kd, (fks kd).mapIdx (fun j f => fldV base σ μ k j f))
def ent (base : Nat) (cA : Nat → ClassId) (σ : Sg) (μ : Mem) (k : Nat) : va_E := entV base cA σ μ k (lay.getD k (999, 0)).1 (lay.getD k (999, 0)).2
def wl (base : Nat) (cA : Nat → ClassId) (σ : Sg) (μ : Mem) : va_W := (List.range σ.1).map (fun k => (base + k, ent base cA σ μ k))
def tysA (cA : Nat → ClassId) : List (ClassId × FieldType) := [(cA 0, .int), (cA 1, .char), (cA 2, .boolean), (cA 3, .object RX1), (cA 4, .object RX5)]
def AA (base : Nat) : Nat → Prop := fun q => base ≤ q
theorem shp_of {σ : Sg} {k kd : Nat} (h : (shp σ k).1 = kd) (hk : kd ≠ 999) : k < σ.1 ∧ (lay.getD k (999, 0)).1 = kd ∧ (shp σ k).2 = (lay.getD k (999, 0)).2 := by
  unfold shp at h ⊢
  by_cases q : k < σ.1
  · rw [if_pos q] at h ⊢; exact ⟨q, h, rfl⟩
  · rw [if_neg q] at h; exact absurd h.symm hk
theorem wl_at {base : Nat} {cA : Nat → ClassId} {σ : Sg} {μ : Mem} {k : Nat} (hk : k < σ.1) : (wl base cA σ μ)[k]? = some (base + k, ent base cA σ μ k) := by
  simp [wl, hk]
theorem wl_of {base : Nat} {cA : Nat → ClassId} {σ : Sg} {μ : Mem} {k : Nat} {q : Nat × va_E} (h : (wl base cA σ μ)[k]? = some q) : k < σ.1 ∧ q = (base + k, ent base cA σ μ k) := by
  by_cases hk : k < σ.1
  · rw [wl_at hk] at h; exact ⟨hk, (Option.some.inj h).symm⟩
  · simp [wl, hk] at h
theorem ent_congr {base : Nat} {cA : Nat → ClassId} {σ : Sg} {μ μ' : Mem} {k : Nat} (h : μ' k = μ k) : ent base cA σ μ' k = ent base cA σ μ k := by
  simp only [ent, entV, fldV, h]
theorem wl_set {base : Nat} {cA : Nat → ClassId} {σ : Sg} {μ μ' : Mem} {k : Nat} {e' : va_E} (he : e' = ent base cA σ μ' k) (hne : ∀ i, i ≠ k → μ' i = μ i) : (wl base cA σ μ).set k (base + k, e') = wl base cA σ μ' := by
  apply List.ext_getElem?
  intro i
  by_cases hi : i < σ.1
  · by_cases hik : k = i
    · subst hik
      rw [List.getElem?_set_self (by simp [wl, hi]), wl_at hi, he]
    · rw [List.getElem?_set_ne hik, wl_at hi, wl_at hi, ent_congr (hne i (fun q => hik q.symm))]
  · have h1 : (wl base cA σ μ').length ≤ i := by simp [wl]; omega
    have h2 : ((wl base cA σ μ).set k (base + k, e')).length ≤ i := by simp [wl]; omega
    rw [List.getElem?_eq_none h1, List.getElem?_eq_none h2]
/-- the addresses of a world's cells -/
def AC (base : Nat) (σ : Sg) : Nat → Prop := fun q => base ≤ q ∧ q < base + σ.1
theorem wl_D {base : Nat} {cA : Nat → ClassId} {σ : Sg} {μ : Mem} {A : Nat → Prop} (hA : ∀ q, AC base σ q → A q) : va_D A (wl base cA σ μ) := by
  refine ⟨fun i j p q hi hj hpq => ?_, fun k q hk => ?_⟩
  · obtain ⟨-, rfl⟩ := wl_of hi
    obtain ⟨-, rfl⟩ := wl_of hj
    have : base + i = base + j := hpq
    omega
  · obtain ⟨h2, rfl⟩ := wl_of hk
    exact hA _ ⟨Nat.le_add_right _ _, Nat.add_lt_add_left h2 _⟩
theorem lay_small : ∀ q ∈ lay, q.2 < 6000 := by decide +kernel
theorem shp_small (σ : Sg) (k : Nat) : (shp σ k).2 < 6000 := by
  unfold shp
  split
  · by_cases hk : k < lay.length
    · have := lay_small (lay.getD k (999, 0)) (by simp [List.getD, hk])
      exact this
    · simp [List.getD, hk]
  · decide
theorem ms_ne {μ : Mem} {k j : Nat} {v : Int} : ∀ i, i ≠ k → ms μ k j v i = μ i := by
  intro i hi
  funext j'
  simp [ms, hi]
theorem mcp_ne {μ : Mem} {k0 sp k1 dp n : Nat} : ∀ i, i ≠ k1 → mcp μ k0 sp k1 dp n i = μ i := by
  intro i hi
  funext j'
  simp [mcp, hi]
-- numbers
theorem inR_toInt {x : Int} (h : inR x) : (Int32.ofInt x).toInt = x := Int32.toInt_ofInt_of_le h.1 (by have := h.2; omega)
theorem i32_lt {x y : Int} (hx : inR x) (hy : inR y) : Int32.ofInt x < Int32.ofInt y ↔ x < y := by
  rw [Int32.lt_iff_toInt_lt, inR_toInt hx, inR_toInt hy]
theorem i32_le {x y : Int} (hx : inR x) (hy : inR y) : Int32.ofInt x ≤ Int32.ofInt y ↔ x ≤ y := by
  rw [Int32.le_iff_toInt_le, inR_toInt hx, inR_toInt hy]
theorem i32_inj {x y : Int} (hx : inR x) (hy : inR y) (h : Int32.ofInt x = Int32.ofInt y) : x = y := by
  rw [← inR_toInt hx, ← inR_toInt hy, h]
theorem cEq_u {x y : Int} {a b : Prop} (h : cEq x y a b) : (Int32.ofInt x = Int32.ofInt y → a) ∧ (¬ Int32.ofInt x = Int32.ofInt y → b) := by
  by_cases e : x = y
  · exact ⟨fun _ => h.1 e, fun q => absurd (by rw [e]) q⟩
  · obtain ⟨h1, h2, h3⟩ := h.2 e
    exact ⟨fun q => absurd (i32_inj h1 h2 q) e, fun _ => h3⟩
theorem cLt_u {x y : Int} {a b : Prop} (h : cLt x y a b) : (Int32.ofInt x < Int32.ofInt y → a) ∧ (¬ Int32.ofInt x < Int32.ofInt y → b) :=
  ⟨fun q => h.2.2.1 ((i32_lt h.1 h.2.1).mp q), fun q => h.2.2.2 (Int.not_lt.mp (fun z => q ((i32_lt h.1 h.2.1).mpr z)))⟩
theorem cLt_v {x y : Int} {a b : Prop} (h : cLt x y a b) : (Int32.ofInt y ≤ Int32.ofInt x → b) ∧ (¬ Int32.ofInt y ≤ Int32.ofInt x → a) :=
  ⟨fun q => h.2.2.2 ((i32_le h.2.1 h.1).mp q), fun q => h.2.2.1 (Int.not_le.mp (fun z => q ((i32_le h.2.1 h.1).mpr z)))⟩
theorem clamp_i {i : Int} {n : Nat} (h0 : 0 ≤ i) (h1 : i < (n : Int)) (hn : n < 6000) : (Int32.ofInt i).toNatClampNeg = i.toNat := by
  have : (Int32.ofInt i).toInt = i := inR_toInt ⟨by omega, by omega⟩
  show (Int32.ofInt i).toInt.toNat = _
  rw [this]
theorem in_i {i : Int} {n : Nat} (h0 : 0 ≤ i) (h1 : i < (n : Int)) (hn : n < 6000) : vp_in (Int32.ofInt i) n := by
  rw [vp_in_iff, inR_toInt ⟨by omega, by omega⟩]
  exact ⟨h0, h1⟩
-- locals
def LR (base nL : Nat) (ls : Ls) (lsA : Array Slot) : Prop := lsA.size = nL ∧ lv_wf lsA ∧ ls.length = nL ∧ ∀ (i : Nat) (v : MV), ls[i]? = some (some v) → lsA[i]? = some (.val (tr base v))
def lpk (base : Nat) (ls : Ls) : List (Nat × Value) := (List.range ls.length).filterMap (fun i => (ls.getD i none).map (fun v => (i, tr base v)))
theorem lpk_mem {base : Nat} {ls : Ls} {i : Nat} {v : MV} (h : ls[i]? = some (some v)) : (i, tr base v) ∈ lpk base ls := by
  have hi : i < ls.length := (List.getElem?_eq_some_iff.mp h).1
  refine List.mem_filterMap.mpr ⟨i, List.mem_range.mpr hi, ?_⟩
  simp [List.getD, h]
theorem lpk_of {base : Nat} {ls : Ls} {q : Nat × Value} (h : q ∈ lpk base ls) : ∃ v, ls[q.1]? = some (some v) ∧ q.2 = tr base v := by
  obtain ⟨i, hi, h⟩ := List.mem_filterMap.mp h
  have hi := List.mem_range.mp hi
  cases e : ls.getD i none with
  | none => rw [e] at h; cases h
  | some v =>
    rw [e] at h
    cases h
    refine ⟨v, ?_, rfl⟩
    rw [← e]
    simp [List.getD, hi]
theorem LR.has {base nL : Nat} {ls : Ls} {lsA : Array Slot} (h : LR base nL ls lsA) : lv_has lsA nL (lpk base ls) := by
  refine ⟨h.1, h.2.1, fun q hq => ?_⟩
  obtain ⟨v, h1, h2⟩ := lpk_of hq
  rw [h2]
  exact h.2.2.2 _ v h1
theorem stL_len (x : Option MV) : ∀ (ls : Ls) (i : Nat), (stL ls i x).length = ls.length
  | [], i => by cases i <;> rfl
  | _ :: _, 0 => rfl
  | _ :: t, i + 1 => by show (stL t i x).length + 1 = t.length + 1; rw [stL_len x t i]
theorem stL_get (x : Option MV) : ∀ (ls : Ls) (i j : Nat), (stL ls i x)[j]? = if j = i ∧ i < ls.length then some x else ls[j]?
  | [], i, j => by cases i <;> simp [stL]
  | h :: t, 0, j => by cases j <;> simp [stL]
  | h :: t, i + 1, 0 => by simp [stL]
  | h :: t, i + 1, j + 1 => by
    show (stL t i x)[j]? = _
    rw [stL_get x t i j]
    simp
theorem okS_lt : ∀ (ls : Ls) (i : Nat), okS ls i → i < ls.length
  | [], i, h => by cases i with | zero => exact h.elim | succ i => cases i <;> exact h.elim
  | _ :: _, 0, _ => Nat.zero_lt_succ _
  | [_], 1, h => h.elim
  | _ :: _ :: _, 1, _ => by simp
  | h :: t, n + 2, q => by
    rw [okS_s] at q
    have := okS_lt t (n + 1) q
    simp only [List.length_cons]
    omega
theorem okS_get : ∀ (ls : Ls) (i : Nat) (o : Option MV), okS ls (i + 1) → ls[i]? = some o → nLg o
  | [], i, o, _, h => by simp at h
  | [_], 0, o, q, _ => q.elim
  | h :: _ :: _, 0, o, q, e => by
    have : h = o := by simpa using e
    rw [← this]; exact q
  | h :: t, n + 1, o, q, e => by
    rw [okS_s] at q
    exact okS_get t n o q (by simpa using e)
theorem okS2_lt : ∀ (ls : Ls) (i : Nat), okS2 ls i → i + 1 < ls.length
  | [], i, h => by cases i with | zero => exact h.elim | succ i => cases i <;> exact h.elim
  | [_], 0, h => h.elim
  | _ :: _ :: _, 0, _ => by simp
  | [_], 1, h => h.elim
  | [_, _], 1, h => h.elim
  | _ :: _ :: _ :: _, 1, _ => by simp
  | h :: t, n + 2, q => by
    rw [okS2_s] at q
    have := okS2_lt t (n + 1) q
    simp only [List.length_cons]
    omega
theorem okS2_get : ∀ (ls : Ls) (i : Nat) (o : Option MV), okS2 ls (i + 1) → ls[i]? = some o → nLg o
  | [], i, o, _, h => by simp at h
  | [_], 0, o, q, _ => q.elim
  | [_, _], 0, o, q, _ => q.elim
  | h :: _ :: _ :: _, 0, o, q, e => by
    have : h = o := by simpa using e
    rw [← this]; exact q
  | h :: t, n + 1, o, q, e => by
    rw [okS2_s] at q
    exact okS2_get t n o q (by simpa using e)
theorem nLg_cat {base : Nat} {v : MV} (h : nLg (some v)) : (tr base v).category = 1 := by
  rcases v with x | x | k
  · rfl
  · exact h.elim
  · rfl
theorem LR_st {base nL : Nat} {ls : Ls} {lsA : Array Slot} {i : Nat} {v : MV} (hok : okS ls i) (hlen : ls.length = nL)
    (h : lv_has lsA nL ((i, tr base v) :: (lpk base ls).filter (fun q => !(q.1 == i) && !(q.1 + 1 == i && q.2.category == 2)))) : LR base nL (stL ls i (some v)) lsA := by
  refine ⟨h.1, h.2.1, by rw [stL_len]; exact hlen, fun j w hj => ?_⟩
  rw [stL_get] at hj
  by_cases hji : j = i
  · rw [if_pos ⟨hji, okS_lt _ _ hok⟩] at hj
    have e : v = w := by simpa using hj
    rw [hji, ← e]
    exact h.2.2 _ List.mem_cons_self
  · rw [if_neg (fun q => hji q.1)] at hj
    refine h.2.2 (j, tr base w) (List.mem_cons_of_mem _ (List.mem_filter.mpr ⟨lpk_mem hj, ?_⟩))
    by_cases hj1 : j + 1 = i
    · subst hj1
      have := nLg_cat (base := base) (okS_get ls j _ hok hj)
      simp [this]
    · simp [hji, hj1]
theorem LR_st2 {base nL : Nat} {ls : Ls} {lsA : Array Slot} {i : Nat} {v : MV} (hok : okS2 ls i) (hlen : ls.length = nL)
    (h : lv_has lsA nL ((i, tr base v) :: (lpk base ls).filter (fun q => !(q.1 == i) && (!(q.1 == i + 1) && !(q.1 + 1 == i && q.2.category == 2))))) : LR base nL (stL (stL ls i (some v)) (i + 1) none) lsA := by
  refine ⟨h.1, h.2.1, by rw [stL_len, stL_len]; exact hlen, fun j w hj => ?_⟩
  rw [stL_get, stL_get, stL_len] at hj
  have hl := okS2_lt _ _ hok
  by_cases hj2 : j = i + 1
  · rw [if_pos ⟨hj2, hl⟩] at hj
    cases hj
  · rw [if_neg (fun q => hj2 q.1)] at hj
    by_cases hji : j = i
    · rw [if_pos ⟨hji, by omega⟩] at hj
      have e : v = w := by simpa using hj
      rw [hji, ← e]
      exact h.2.2 _ List.mem_cons_self
    · rw [if_neg (fun q => hji q.1)] at hj
      refine h.2.2 (j, tr base w) (List.mem_cons_of_mem _ (List.mem_filter.mpr ⟨lpk_mem hj, ?_⟩))
      by_cases hj1 : j + 1 = i
      · subst hj1
        have := nLg_cat (base := base) (okS2_get ls j _ hok hj)
        simp [this]
        omega
      · simp [hji, hj1, hj2]
-- what an operand's reading says
theorem p1_g {st : List MV} {f : Int → List MV → Prop} (h : p1 st f) : ∃ x r, st = .inl x :: r ∧ f x r := by
  unfold p1 at h; split at h
  · exact ⟨_, _, rfl, h⟩
  · exact h.elim
theorem p2_g {st : List MV} {f : Int → Int → List MV → Prop} (h : p2 st f) : ∃ x y r, st = .inl y :: .inl x :: r ∧ f x y r := by
  unfold p2 at h; split at h
  · exact ⟨_, _, _, rfl, h⟩
  · exact h.elim
theorem pR_g {st : List MV} {f : Nat → List MV → Prop} (h : pR st f) : ∃ x r, st = .inr (.inr x) :: r ∧ f x r := by
  unfold pR at h; split at h
  · exact ⟨_, _, rfl, h⟩
  · exact h.elim
theorem pA_g {st : List MV} {f : Nat → Int → List MV → Prop} (h : pA st f) : ∃ k i r, st = .inl i :: .inr (.inr k) :: r ∧ f k i r := by
  unfold pA at h; split at h
  · exact ⟨_, _, _, rfl, h⟩
  · exact h.elim
theorem pAS_g {st : List MV} {f : Nat → Int → Int → List MV → Prop} (h : pAS st f) : ∃ k i v r, st = .inl v :: .inl i :: .inr (.inr k) :: r ∧ f k i v r := by
  unfold pAS at h; split at h
  · exact ⟨_, _, _, _, rfl, h⟩
  · exact h.elim
theorem pL_g {st : List MV} {f : Int64 → List MV → Prop} (h : pL st f) : ∃ x r, st = .inr (.inl x) :: r ∧ f x r := by
  unfold pL at h; split at h
  · exact ⟨_, _, rfl, h⟩
  · exact h.elim
theorem pLL_g {st : List MV} {f : Int64 → Int64 → List MV → Prop} (h : pLL st f) : ∃ x y r, st = .inr (.inl y) :: .inr (.inl x) :: r ∧ f x y r := by
  unfold pLL at h; split at h
  · exact ⟨_, _, _, rfl, h⟩
  · exact h.elim
theorem pLI_g {st : List MV} {f : Int64 → Int → List MV → Prop} (h : pLI st f) : ∃ x y r, st = .inl y :: .inr (.inl x) :: r ∧ f x y r := by
  unfold pLI at h; split at h
  · exact ⟨_, _, _, rfl, h⟩
  · exact h.elim
theorem pD_g {st : List MV} {f : MV → List MV → Prop} (h : pD st f) : ∃ v r, st = v :: r ∧ nLg (some v) ∧ f v r := by
  unfold pD at h; split at h
  · exact ⟨_, _, rfl, trivial, h⟩
  · exact ⟨_, _, rfl, trivial, h⟩
  · exact h.elim
theorem pC_g {st : List MV} {f : Nat → Int → Nat → Int → Int → List MV → Prop} (h : pC st f) : ∃ k0 sp k1 dp n r, st = .inl n :: .inl dp :: .inr (.inr k1) :: .inl sp :: .inr (.inr k0) :: r ∧ f k0 sp k1 dp n r := by
  unfold pC at h; split at h
  · exact ⟨_, _, _, _, _, _, rfl, h⟩
  · exact h.elim
theorem tk_g {n : Nat} {st : List MV} {f : List MV → List MV → Prop} (h : tk n st f) : ∃ vs r, st = vs.reverse ++ r ∧ vs.length = n ∧ f vs r := by
  unfold tk at h; split at h
  · exact ⟨[], _, rfl, rfl, h⟩
  · exact ⟨[_], _, rfl, rfl, h⟩
  · exact ⟨[_, _], _, rfl, rfl, h⟩
  · exact ⟨[_, _, _], _, rfl, rfl, h⟩
  · exact ⟨[_, _, _, _], _, rfl, rfl, h⟩
  · exact h.elim
theorem ldI_g : ∀ {ls : Ls} {n : Nat} {f : Int → Prop}, ldI ls n f → ∃ x, ls[n]? = some (some (.inl x)) ∧ f x
  | [], n, f, h => by cases n <;> exact h.elim
  | a :: t, 0, f, h => by
    simp only [ldI] at h
    split at h
    · exact ⟨_, rfl, h⟩
    · exact h.elim
  | a :: t, n + 1, f, h => ldI_g (ls := t) (n := n) (by rw [ldI_s] at h; exact h)
theorem ldL_g : ∀ {ls : Ls} {n : Nat} {f : Int64 → Prop}, ldL ls n f → ∃ x, ls[n]? = some (some (.inr (.inl x))) ∧ f x
  | [], n, f, h => by cases n <;> exact h.elim
  | a :: t, 0, f, h => by
    simp only [ldL] at h
    split at h
    · exact ⟨_, rfl, h⟩
    · exact h.elim
  | a :: t, n + 1, f, h => ldL_g (ls := t) (n := n) (by rw [ldL_s] at h; exact h)
theorem ldR_g : ∀ {ls : Ls} {n : Nat} {f : Nat → Prop}, ldR ls n f → ∃ x, ls[n]? = some (some (.inr (.inr x))) ∧ f x
  | [], n, f, h => by cases n <;> exact h.elim
  | a :: t, 0, f, h => by
    simp only [ldR] at h
    split at h
    · exact ⟨_, rfl, h⟩
    · exact h.elim
  | a :: t, n + 1, f, h => ldR_g (ls := t) (n := n) (by rw [ldR_s] at h; exact h)
theorem len4_cat {base : Nat} : ∀ {r : List MV}, len4 r → ((r.map (tr base)).map fun v => v.category).sum ≤ 8 := by
  intro r h
  have h1 : ∀ v : MV, (tr base v).category ≤ 2 := fun v => by rcases v with x | x | k <;> simp [tr, Value.category]
  have h2 : r.length ≤ 4 := by unfold len4 at h; split at h <;> simp_all
  have h3 : ∀ r : List MV, ((r.map (tr base)).map fun v => v.category).sum ≤ 2 * r.length := by
    intro r
    induction r with
    | nil => simp
    | cons a t ih => simp only [List.map_cons, List.sum_cons, List.length_cons]; have := h1 a; omega
  have := h3 r
  omega
theorem swc_g {pc : Nat} {K : Nat → Prop} {x : Int} : ∀ {os : List Int} {v : Int} {i : Nat} {o : Int}, swc pc K x v os → os[i]? = some o → x = v + i → K ((pc : Int) + o).toNat
  | [], _, _, _, _, h, _ => by simp at h
  | a :: t, v, 0, o, q, h, e => by
    have : a = o := by simpa using h
    rw [← this]; exact q.1 (by omega)
  | a :: t, v, i + 1, o, q, h, e => swc_g (os := t) (v := v + 1) (i := i) q.2 (by simpa using h) (by omega)
end
section
/-! THE SMALL MACHINE IS SOUND: what it comes to, the machine comes to -/
def rmD (d : Nat) : Room := { frames := d, cells := 0, slots := 0, locals := 36 * d }
def WdH (D : va_G) (base : Nat) (cA : Nat → ClassId) (σ : Sg) (μ : Mem) (H : Heap) : Prop := va_P D vwCl (wl base cA σ μ) H
def WdK (D : va_G) (cA : Nat → ClassId) (U : State) : Prop := va_K D vwCl (tysA cA) U ∧ ∀ w ∈ nestW, va_Nw w U
def Wd (D : va_G) (base : Nat) (cA : Nat → ClassId) (σ : Sg) (μ : Mem) (U : State) : Prop := WdH D base cA σ μ U.heap ∧ WdK D cA U
def QcM (D : va_G) (base : Nat) (cA : Nat → ClassId) (σ : Sg) (mi : Nat) (Q : QT) : Array Value → State → Outcome → State → Prop :=
  if kM mi = 0 then va_Qv (fun u : Mem => Q (.inl 0) u) (fun u t => Wd D base cA σ u t) (AC base σ)
  else if kM mi = 1 then va_Qi (fun (r : Int32) (u : Int × Mem) => r = Int32.ofInt u.1 ∧ Q (.inl u.1) u.2) (fun u t => Wd D base cA σ u.2 t) (AC base σ)
  else va_Qr (fun u : Nat × Mem => Q (.inr (.inr u.1)) u.2) (fun u a t => a = base + u.1 ∧ Wd D base cA σ u.2 t) (AC base σ)
def MetOk (l : Launch) (D : va_G) (base : Nat) (cA : Nat → ClassId) (σ : Sg) (d : Nat) : Prop := ∀ (mi : Nat) (vs : List MV) (μ : Mem) (Q : QT), mi < 70 → Call σ d mi vs μ Q →
  Met l (yM mi) (wsM mi) (rmD d) (va_Pc (vs.map (tr base)) (Wd D base cA σ μ)) (QcM D base cA σ mi Q) 0 0 (AC base σ)
theorem nest_tab : ∀ w ∈ nestW, w.onTables = true := by decide +kernel
theorem WdK.moved {D : va_G} {cA : Nat → ClassId} {u U : State} (hvm : u.vm = U.vm) (h : WdK D cA u) : WdK D cA U :=
  ⟨va_K.moved (by rw [hvm]; exact Vm.Alike.refl _) h.1, fun w hw => va_Nw.same (nest_tab w hw) hvm (h.2 w hw)⟩
theorem WdK.warm {D : va_G} {cA : Nat → ClassId} {s U : State} (hW : s.WarmedH U.vm) (h : WdK D cA s) : WdK D cA U := by
  refine ⟨va_K.moved hW.alike h.1, fun w hw => ?_⟩
  obtain ⟨q, -, rfl⟩ := List.mem_map.mp hw
  exact va_Nw.warmM hW (h.2 _ hw)
theorem cls_ok : ∀ a, a < 7 → vwCl[a]? = some (RX a, TX a, NX a) ∧ (∀ w ∈ u_ws (RX a) (TX a) (NX a), w ∈ gW) ∧ (∃ ty : Nat → FieldType, ∀ k, k < NX a → parseFieldDescriptor ((TX a) k).2.2.1 = some (ty k)) ∧ ∀ x, x < NX a → ∀ y, y < NX a → x ≠ y → ((TX a) x).2.1 ≠ ((TX a) y).2.1
  | 0, _ => ⟨rfl, in_gLay0, ⟨tyX0, tyX0_ok⟩, nmX0⟩
  | 1, _ => ⟨rfl, in_gLay1, ⟨tyX1, tyX1_ok⟩, nmX1⟩
  | 2, _ => ⟨rfl, in_gLay2, ⟨tyX2, tyX2_ok⟩, nmX2⟩
  | 3, _ => ⟨rfl, in_gLay3, ⟨tyX3, tyX3_ok⟩, nmX3⟩
  | 4, _ => ⟨rfl, in_gLay4, ⟨tyX4, tyX4_ok⟩, nmX4⟩
  | 5, _ => ⟨rfl, in_gLay5, ⟨tyX5, tyX5_ok⟩, nmX5⟩
  | 6, _ => ⟨rfl, in_gLay6, ⟨tyX6, tyX6_ok⟩, nmX6⟩
  | n + 7, h => absurd h (by omega)
theorem in_gW_ws {mi : Nat} {w : Cond} (h : w ∈ gW) : w ∈ wsM mi := List.mem_cons_of_mem _ h
theorem meth_at {a : Nat} (h : a < 70) : ckMeth a = true := List.all_eq_true.mp meth_ok a (List.mem_range.mpr h)
theorem mt_len : mt.length = 70 := by decide +kernel
theorem code_in {a : Nat} (h : a < 70) : Cond.code (yM a) (bM a) (lM a) (rM a) ∈ gW := by
  refine in_gCode _ (List.mem_map.mpr ⟨mrow a, ?_, rfl⟩)
  have hl : a < mt.length := by rw [mt_len]; exact h
  have e : mrow a = mt[a] := by simp [mrow, List.getD, hl]
  rw [e]
  exact List.getElem_mem hl
theorem ws_good {mi a : Nat} (h : a < 70) : GoodIn (wsM mi) (wsM a) := by
  intro w hw
  rcases List.mem_cons.mp hw with rfl | hw
  · exact ⟨in_gW_ws (code_in h), gW_gd (code_in h)⟩
  · exact ⟨in_gW_ws hw, gW_gd hw⟩
theorem ini_in {c : Nat} (h : c < 7) : Cond.initialized (RX c) ∈ gW := in_gIni _ (List.mem_map.mpr ⟨c, by
  match c, h with
  | 0, _ | 1, _ | 2, _ | 3, _ | 4, _ | 5, _ | 6, _ => decide
  | n + 7, h => exact absurd h (by omega), rfl⟩)
section SND
variable {p : Program} {l : Launch} {e : Env} {R : Room} {s : State} {m : MethodId} {args : Array Value} {below : List Frame} {meth : Method} {c : Code} {cells slots : Nat} {Qf : State → Prop} {D : va_G} {base : Nat} {cA : Nat → ClassId} {σ : Sg} {nL mi d : Nat} {A : Nat → Prop}
def PS (p : Program) (l : Launch) (e : Env) (R : Room) (s : State) (m : MethodId) (args : Array Value) (below : List Frame) (meth : Method) (c : Code) (cells slots : Nat) (Qf : State → Prop) (D : va_G) (base : Nat) (cA : Nat → ClassId) (σ : Sg) (nL : Nat) (A : Nat → Prop) : PT :=
  fun pc ls st μ => ∀ (H : Heap) (locs : List Loc) (lsA : Array Slot), va_P D vwCl (wl base cA σ μ) H → va_S A s.heap H locs → LR base nL ls lsA →
    W p l e R s m args below meth c H locs cells slots Qf (F0 m pc lsA (st.map (tr base)))
/-- what holds through the whole of a method -/
def Fx (p : Program) (s : State) (m : MethodId) (args : Array Value) (c : Code) (cells slots : Nat) (R : Room) (D : va_G) (base : Nat) (cA : Nat → ClassId) (nL mi d : Nat) (σ : Sg) (A : Nat → Prop) : Prop :=
  p.tables.exec = Jvm.exec ∧ c.code = bM mi ∧ c.maxLocals = nL ∧ s.vm.findClass (RX (oM mi)) = some m.cls ∧ (∀ w ∈ wsM mi, w.before args s = true) ∧ WdK D cA s ∧ d + 1 ≤ R.frames ∧ 36 * d + 36 ≤ R.locals ∧ cells ≤ R.cells ∧ slots ≤ R.slots ∧ ∀ q, AC base σ q → A q
theorem s_getf (F : Fx p s m args c cells slots R D base cA nL mi d σ A) {pc x a b c1 o : Nat} {H : Heap} {locs : List Loc} {lsA : Array Slot} {μ : Mem} {rest : List Value}
    (hf : (oM mi, x, a, b) ∈ flt) (ha : a < 7) (hb : b < NX a) (hk : (fks a)[b]? = some c1) (hd : decode (bM mi) pc = .ok (.getfield x, 3)) (ho : (shp σ o).1 = a)
    (hP : va_P D vwCl (wl base cA σ μ) H)
    (kk : W p l e R s m args below meth c H locs cells slots Qf (F0 m (pc + 3) lsA (fldV base σ μ o b c1 :: rest))) :
    W p l e R s m args below meth c H locs cells slots Qf (F0 m pc lsA (.ref (base + o) :: rest)) := by
  obtain ⟨hx, hbc, hml, hown, hts, ⟨hK, hN⟩, hr⟩ := F
  obtain ⟨hc, hu, -, -⟩ := cls_ok a ha
  obtain ⟨h1, h2, -⟩ := shp_of ho (by omega)
  have he : (wl base cA σ μ)[o]? = some (base + o, .inr (a, (fks a).mapIdx (fun j f => fldV base σ μ o j f))) := by
    rw [wl_at h1]
    unfold ent entV
    rw [h2, if_neg (by omega), if_neg (by omega), if_neg (by omega), if_neg (by omega), if_neg (by omega), if_neg (by omega)]
  have hlink : (Cond.fieldLink (RX (oM mi)) x ((TX a) b).1 ((TX a) b).2.1 ((TX a) b).2.2.1).before args s = true := hts _ (in_gW_ws (in_gFld _ (List.mem_map.mpr ⟨_, hf, rfl⟩)))
  exact va_get (own := RX (oM mi)) hx hbc hts (fun w hw => in_gW_ws (hu w hw)) hown hK hP o he hc b hb hlink (fun _ h => h) (by rw [List.getElem?_mapIdx, hk]; rfl) hd kk
theorem s_putf (F : Fx p s m args c cells slots R D base cA nL mi d σ A) {pc x a b c1 o : Nat} {v : Int} {H : Heap} {locs : List Loc} {lsA : Array Slot} {μ : Mem} {rest : List Value}
    (hf : (oM mi, x, a, b) ∈ flt) (ha : a < 7) (hb : b < NX a) (hk : (fks a)[b]? = some c1) (hfin : ((TX a) b).2.2.2 = false) (hty : ((TX a) b).2.2.1 = (if c1 = 0 then "I" else "Z")) (hv : pfv c1 v)
    (hd : decode (bM mi) pc = .ok (.putfield x, 3)) (ho : (shp σ o).1 = a)
    (hP : va_P D vwCl (wl base cA σ μ) H) (hS : va_S A s.heap H locs)
    (kk : ∀ (H1 : Heap) (locs1 : List Loc), va_P D vwCl (wl base cA σ (ms μ o b v)) H1 → va_S A s.heap H1 locs1 → W p l e R s m args below meth c H1 locs1 cells slots Qf (F0 m (pc + 3) lsA rest)) :
    W p l e R s m args below meth c H locs cells slots Qf (F0 m pc lsA (.int (Int32.ofInt v) :: .ref (base + o) :: rest)) := by
  obtain ⟨hx, hbc, hml, hown, hts, ⟨hK, hN⟩, hr⟩ := F
  have hA := hr.2.2.2.2
  obtain ⟨hc, hu, ⟨ty, hty0⟩, hnm⟩ := cls_ok a ha
  obtain ⟨h1, h2, -⟩ := shp_of ho (by omega)
  have hent : ∀ ν : Mem, ent base cA σ ν o = .inr (a, (fks a).mapIdx (fun j f => fldV base σ ν o j f)) := by
    intro ν
    unfold ent entV
    rw [h2, if_neg (by omega), if_neg (by omega), if_neg (by omega), if_neg (by omega), if_neg (by omega), if_neg (by omega)]
  have he : (wl base cA σ μ)[o]? = some (base + o, .inr (a, (fks a).mapIdx (fun j f => fldV base σ μ o j f))) := by rw [wl_at h1, hent]
  have hlink : (Cond.fieldLink (RX (oM mi)) x ((TX a) b).1 ((TX a) b).2.1 ((TX a) b).2.2.1).before args s = true := hts _ (in_gW_ws (in_gFld _ (List.mem_map.mpr ⟨_, hf, rfl⟩)))
  have hbl : b < (fks a).length := (List.getElem?_eq_some_iff.mp hk).1
  have hset : ((fks a).mapIdx (fun j f => fldV base σ μ o j f)).set b (.int (Int32.ofInt v)) = (fks a).mapIdx (fun j f => fldV base σ (ms μ o b v) o j f) := by
    apply List.ext_getElem?
    intro i
    by_cases hib : b = i
    · subst hib
      rw [List.getElem?_set_self (by simpa using hbl), List.getElem?_mapIdx, hk]
      rcases c1 with _ | _ | n
      · simp [fldV, ms]
      · simp [fldV, ms]
      · exact hv.elim
    · rw [List.getElem?_set_ne hib, List.getElem?_mapIdx, List.getElem?_mapIdx]
      cases (fks a)[i]? with
      | none => rfl
      | some f =>
        have hib' : ¬ i = b := fun q => hib q.symm
        match f with
        | 0 => simp [fldV, ms, hib']
        | 1 => simp [fldV, ms, hib']
        | n + 2 => simp [fldV]
  have fin : ∀ (t : FieldType), parseFieldDescriptor ((TX a) b).2.2.1 = some t → narrow t (.int (Int32.ofInt v)) = .int (Int32.ofInt v) → fits t (.int (Int32.ofInt v)) = true →
      W p l e R s m args below meth c H locs cells slots Qf (F0 m pc lsA (.int (Int32.ofInt v) :: .ref (base + o) :: rest)) := by
    intro t ht hn hfit
    refine va_put (own := RX (oM mi)) hx hbc hts (fun w hw => in_gW_ws (hu w hw)) ty hty0 hnm hown hK hP (wl_D hA) hS o he hc b hb hlink (fun _ h => h) hfin ht hn hfit (by simpa using hbl) hd (fun H1 locs1 q1 q2 q3 => ?_)
    rw [hset, wl_set (by rw [hent]) ms_ne] at q1
    exact kk H1 locs1 q1 q3
  rcases c1 with _ | _ | n
  · exact fin .int (by rw [hty]; decide +kernel) rfl rfl
  · rcases hv with rfl | rfl
    · exact fin .boolean (by rw [hty]; decide +kernel) rfl rfl
    · exact fin .boolean (by rw [hty]; decide +kernel) rfl rfl
  · exact hv.elim
theorem ent_a {k kd n : Nat} {μ : Mem} (h1 : (lay.getD k (999, 0)).1 = kd) (h2 : n = (lay.getD k (999, 0)).2) : ent base cA σ μ k = entV base cA σ μ k kd n := by
  unfold ent; rw [h1, h2]
theorem upd_ms {μ : Mem} {o : Nat} {i v : Int} {n : Nat} (h0 : 0 ≤ i) (h1 : i < (n : Int)) (hn : n < 6000) : upd (fun j => Int32.ofInt (μ o j)) (Int32.ofInt i).toNatClampNeg (Int32.ofInt v) = fun j => Int32.ofInt (ms μ o i.toNat v o j) := by
  funext j
  rw [clamp_i h0 h1 hn]
  unfold upd ms
  by_cases hj : j = i.toNat
  · simp [hj]
  · simp [hj]
theorem s_alen {o kd : Nat} (h : (shp σ o).1 = kd) (hk : kd ≠ 999) (μ : Mem) : (wl base cA σ μ)[o]? = some (base + o, entV base cA σ μ o kd (shp σ o).2) ∧ (shp σ o).2 < 6000 ∧ ent base cA σ μ o = entV base cA σ μ o kd (shp σ o).2 := by
  obtain ⟨h1, h2, h3⟩ := shp_of h hk
  exact ⟨by rw [wl_at h1, ent_a h2 h3], shp_small σ o, ent_a h2 h3⟩
theorem nar_c {v : Int} (h : 0 ≤ v ∧ v < 65536) : vp_nar .char (Int32.ofInt v) = Int32.ofInt v := by
  obtain ⟨n, rfl⟩ : ∃ n : Nat, v = (n : Int) := ⟨v.toNat, by omega⟩
  have hn : n < 65536 := by omega
  have e : Int32.ofInt (n : Int) = nI n := by unfold nI; exact (Int32.ofInt_eq_ofNat).symm ▸ rfl
  rw [e]
  have := (pk_charN hn).1
  unfold vp_nar
  rw [this]
theorem nar_z {v : Int} (h : v = 0 ∨ v = 1) : vp_nar .boolean (Int32.ofInt v) = Int32.ofInt v := by
  rcases h with rfl | rfl <;> rfl
end SND
end
section
section SN2
variable {p : Program} {l : Launch} {e : Env} {R : Room} {s : State} {m : MethodId} {args : Array Value} {below : List Frame} {meth : Method} {c : Code} {cells slots : Nat} {Qf : State → Prop} {D : va_G} {base : Nat} {cA : Nat → ClassId} {σ : Sg} {nL mi d : Nat} {A : Nat → Prop}
theorem frb (vs : List MV) (μ : Mem) : FrameBlind (va_Pc (vs.map (tr base)) (Wd D base cA σ μ)) := fun a U g mk h => ⟨h.1, h.2.1, WdK.moved (u := U) (U := U.calling g mk a) rfl h.2.2⟩
/-- what comes behind a call -/
theorem s_back {pc : Nat} {a : Nat} {H : Heap} {locs : List Loc} {lsA : Array Slot} {ls : Ls} {as : Array Value} {st0 : List Value} {rs : List MV} {PP : PT}
    (hPP : PP = PS p l e R s m args below meth c cells slots Qf D base cA σ nL A)
    (hr : va_Run p l e R s m args below meth c H locs cells slots 0 0 (F0 m pc lsA st0) (rs.map (tr base)) (QcM D base cA σ a (fun v μ' => PP (pc + 3) ls (psh (kM a) v rs) μ') as) (AC base σ))
    (hk : kM a < 3) (hA : ∀ q, AC base σ q → A q) (hS : va_S A s.heap H locs) (hL : LR base nL ls lsA) : W p l e R s m args below meth c H locs cells slots Qf (F0 m pc lsA st0) := by
  subst hPP
  unfold QcM at hr
  rcases (show kM a = 0 ∨ kM a = 1 ∨ kM a = 2 by omega) with h0 | h0 | h0
  · rw [if_pos h0] at hr
    refine va_callv hr hS (fun q _ h => hA q h) (fun q h => hA q h) (fun u t H1 locs1 ht hvm hw hB hz1 hk1 hS1 => ?_)
    have := hw H1 locs1 lsA (by rw [← ht]; exact hB.1) hS1 hL
    unfold psh at this
    rw [if_pos h0] at this
    exact this
  · rw [if_neg (by omega), if_pos h0] at hr
    refine va_calli hr hS (fun q _ h => hA q h) (fun q h => hA q h) (fun r u t H1 locs1 ht hvm hw hB hz1 hk1 hS1 => ?_)
    obtain ⟨rfl, hw⟩ := hw
    have := hw H1 locs1 lsA (by rw [← ht]; exact hB.1) hS1 hL
    unfold psh at this
    rw [if_neg (by omega)] at this
    exact this
  · rw [if_neg (by omega), if_neg (by omega)] at hr
    refine va_callr hr hS (fun q _ h => hA q h) (fun q h => hA q h) (fun u ra t H1 locs1 ht hvm hw hB hz1 hk1 hS1 => ?_)
    obtain ⟨rfl, hB⟩ := hB
    have := hw H1 locs1 lsA (by rw [← ht]; exact hB.1) hS1 hL
    unfold psh at this
    rw [if_neg (by omega)] at this
    exact this
theorem meth_f {a : Nat} (h : a < 70) : (yM a).cls = RX (oM a) ∧ plainName (yM a).cls = true ∧ (yM a).cls ≠ "java/lang/invoke/MethodHandle" ∧ (yM a).cls ≠ "java/lang/invoke/VarHandle" ∧ (parseMethodDescriptor (yM a).desc).map (fun d => d.parameters.length) = some (if mSs.contains a then nM a else nM a - 1) ∧ lM a ≤ 17 ∧ oM a < 7 ∧ kM a < 3 ∧ (kM a = 0 → rM a = none) ∧ (kM a = 1 → rM a = some .int ∨ rM a = some .boolean ∨ rM a = some .char) ∧ (kM a = 2 → rM a = some (.object RX1)) := by
  have q := meth_at h
  unfold ckMeth at q
  simp only [Bool.and_eq_true, decide_eq_true_eq] at q
  obtain ⟨⟨⟨⟨⟨⟨⟨q1, q2⟩, q3⟩, q4⟩, q5⟩, q6⟩, q7⟩, q8⟩ := q
  have hk3 : kM a < 3 := by
    have : (List.range 70).all (fun a => decide (kM a < 3)) = true := by decide +kernel
    exact of_decide_eq_true (List.all_eq_true.mp this a (List.mem_range.mpr h))
  refine ⟨q1, q2, q3, q4, q5, q6, q7, hk3, fun z => ?_, fun z => ?_, fun z => ?_⟩
  · rw [if_pos z] at q8; exact of_decide_eq_true q8
  · rw [if_neg (by omega), if_pos z] at q8
    simp only [Bool.or_eq_true, decide_eq_true_eq] at q8
    rcases q8 with (q | q) | q
    · exact Or.inl q
    · exact Or.inr (Or.inl q)
    · exact Or.inr (Or.inr q)
  · rw [if_neg (by omega), if_neg (by omega)] at q8; exact of_decide_eq_true q8
theorem mV_lt : ∀ a, mVs.contains a = true → a < 70 ∧ mSs.contains a = false := by
  have h : mVs.all (fun a => decide (a < 70) && !mSs.contains a) = true := by decide +kernel
  intro a ha
  have := List.all_eq_true.mp h a (List.contains_iff_mem.mp ha)
  simp only [Bool.and_eq_true, decide_eq_true_eq, Bool.not_eq_true'] at this
  exact this
theorem mS_lt : ∀ a, mSs.contains a = true → a < 70 := by
  have h : mSs.all (fun a => decide (a < 70)) = true := by decide +kernel
  intro a ha
  exact of_decide_eq_true (List.all_eq_true.mp h a (List.contains_iff_mem.mp ha))
theorem s_callV (F : Fx p s m args c cells slots R D base cA nL mi d σ A) (hM : MetOk l D base cA σ d) {pc x a k : Nat} {As rs : List MV} {H : Heap} {locs : List Loc} {lsA : Array Slot} {ls : Ls} {μ : Mem} {PP : PT}
    (hPP : PP = PS p l e R s m args below meth c cells slots Qf D base cA σ nL A)
    (hf : (oM mi, x, a) ∈ cltV) (hm : mVs.contains a = true) (hn : As.length + 1 = nM a) (hd : decode (bM mi) pc = .ok (.invokevirtual x, 3)) (h4 : len4 rs) (hk : (shp σ k).1 = oM a)
    (hc : Call σ d a (.inr (.inr k) :: As) μ (fun v μ' => PP (pc + 3) ls (psh (kM a) v rs) μ'))
    (hP : va_P D vwCl (wl base cA σ μ) H) (hS : va_S A s.heap H locs) (hL : LR base nL ls lsA) :
    W p l e R s m args below meth c H locs cells slots Qf (F0 m pc lsA (((As.map (tr base)).reverse) ++ .ref (base + k) :: rs.map (tr base))) := by
  obtain ⟨ha, hns⟩ := mV_lt a hm
  obtain ⟨f1, f2, f3, f4, f5, f6, f7, f8, -⟩ := meth_f ha
  obtain ⟨hx, hbc, hml, hown, hts, hKN, hrf, hrl, hcl, hsl, hA⟩ := F
  obtain ⟨cl1, cl2, cl3, cl4⟩ := cls_ok (oM a) f7
  obtain ⟨h1, h2, h3⟩ := shp_of hk (by omega)
  have he : (wl base cA σ μ)[k]? = some (base + k, .inr (oM a, (fks (oM a)).mapIdx (fun j f => fldV base σ μ k j f))) := by
    rw [wl_at h1]
    unfold ent entV
    rw [h2, if_neg (by omega), if_neg (by omega), if_neg (by omega), if_neg (by omega), if_neg (by omega), if_neg (by omega)]
  have hgood : GoodIn (wsM mi) (wsV (RX (oM mi)) x (yM a).cls (yM a) (wsM a)) := by
    intro w hw
    unfold wsV at hw
    rcases List.mem_append.mp hw with hw | hw
    · have : w ∈ gW := by
        have hma : a ∈ mVs := List.contains_iff_mem.mp hm
        simp only [List.mem_cons, List.not_mem_nil, or_false] at hw
        rcases hw with rfl | rfl | rfl | rfl
        · exact in_gCv1 _ (List.mem_map.mpr ⟨_, hf, rfl⟩)
        · exact in_gCv2 _ (List.mem_map.mpr ⟨_, hma, rfl⟩)
        · exact in_gCv3 _ (List.mem_map.mpr ⟨_, hma, rfl⟩)
        · rw [f1]; exact ini_in f7
      exact ⟨in_gW_ws this, gW_gd this⟩
    · exact ws_good ha w hw
  have hlen : (As.map (tr base)).length = nM a - 1 := by rw [List.length_map]; omega
  have hsz : lsA.size = nL := hL.1
  refine s_back (a := a) (rs := rs) (ls := ls) hPP (va_runV (As := As.map (tr base)) (rest := rs.map (tr base)) (C := (yM a).cls) (n := nM a - 1) ⟨hx, hbc, hml, hown, hts⟩ (hM a (.inr (.inr k) :: As) μ _ ha hc)
    (cwV (nM a - 1) hts hgood rfl rfl rfl ⟨rfl, f3, f4, by rw [f5, hns]; rfl⟩ ⟨hrf, by show 8 + (lM a + 11) + 36 * d ≤ R.locals; omega⟩)
    ⟨frb _ μ, ?_, fun U hU hW => ⟨rfl, (by unfold WdH; rw [hU]; exact hP), hKN.warm hW⟩⟩ rfl hlen hsz rfl (lv_room (len4_cat h4)) hd ⟨hcl, hsl⟩) f8 hA hS hL
  have := va_recv hKN.1 hP (ci := oM a) (q0 := k) cl1 he
  rw [f1]
  exact this
theorem s_callS (F : Fx p s m args c cells slots R D base cA nL mi d σ A) (hM : MetOk l D base cA σ d) {pc x a : Nat} {As rs : List MV} {H : Heap} {locs : List Loc} {lsA : Array Slot} {ls : Ls} {μ : Mem} {PP : PT}
    (hPP : PP = PS p l e R s m args below meth c cells slots Qf D base cA σ nL A)
    (hf : (oM mi, x, a) ∈ cltS ∨ (oM mi, x, a) ∈ cltN) (hm : mSs.contains a = true) (hn : As.length = nM a) (hd : decode (bM mi) pc = .ok (.invokestatic x, 3)) (h4 : len4 rs)
    (hc : Call σ d a As μ (fun v μ' => PP (pc + 3) ls (psh (kM a) v rs) μ'))
    (hP : va_P D vwCl (wl base cA σ μ) H) (hS : va_S A s.heap H locs) (hL : LR base nL ls lsA) :
    W p l e R s m args below meth c H locs cells slots Qf (F0 m pc lsA (((As.map (tr base)).reverse) ++ rs.map (tr base))) := by
  have ha := mS_lt a hm
  obtain ⟨f1, f2, f3, f4, f5, f6, f7, f8, -⟩ := meth_f ha
  obtain ⟨hx, hbc, hml, hown, hts, hKN, hrf, hrl, hcl, hsl, hA⟩ := F
  have hlen : (As.map (tr base)).length = nM a := by rw [List.length_map]; omega
  have hsz : lsA.size = nL := hL.1
  have hini : (Cond.initialized (yM a).cls).before args s = true := by rw [f1]; exact hts _ (in_gW_ws (ini_in f7))
  have hst : (Cond.static (yM a)).before args s = true := hts _ (in_gW_ws (in_gCs2 _ (List.mem_map.mpr ⟨a, List.contains_iff_mem.mp hm, rfl⟩)))
  have hpar : (parseMethodDescriptor (yM a).desc).map (fun d => d.parameters.length) = some (nM a) := by rw [f5, hm]; rfl
  have hroom : (rmD d).frames + 1 ≤ R.frames ∧ 8 + (lM a + 11) + (rmD d).locals ≤ R.locals := ⟨hrf, by show 8 + (lM a + 11) + 36 * d ≤ R.locals; omega⟩
  rcases hf with hf | hf
  · have hl : (Cond.methodLink (RX (oM mi)) x (yM a)).before args s = true := hts _ (in_gW_ws (in_gCs1 _ (List.mem_map.mpr ⟨_, hf, rfl⟩)))
    exact s_back (a := a) (rs := rs) (ls := ls) hPP (va_runS (As := As.map (tr base)) (rest := rs.map (tr base)) (n := nM a) ⟨hx, hbc, hml, hown, hts⟩ (hM a As μ _ ha hc)
      ⟨callB_of (nM a) hts (ws_good ha) rfl rfl rfl hini hl ⟨f3, f4, hpar⟩ hroom, hst⟩
      ⟨frb _ μ, fun U hU hW => ⟨rfl, (by unfold WdH; rw [hU]; exact hP), hKN.warm hW⟩⟩ rfl hlen hsz rfl (lv_room (len4_cat h4)) hd ⟨hcl, hsl⟩) f8 hA hS hL
  · have hl : va_Nw (.methodLinkNest (RX (oM mi)) x (yM a) RX6) s := hKN.2 _ (List.mem_map.mpr ⟨_, hf, rfl⟩)
    exact s_back (a := a) (rs := rs) (ls := ls) hPP (va_runSN (As := As.map (tr base)) (rest := rs.map (tr base)) (n := nM a) ⟨hx, hbc, hml, hown, hts⟩ (hM a As μ _ ha hc)
      ⟨va_cnB (nM a) hts (ws_good ha) rfl rfl rfl hl hini ⟨f3, f4, hpar⟩ hroom, hst, trivial⟩
      ⟨frb _ μ, fun U hU hW => ⟨rfl, (by unfold WdH; rw [hU]; exact hP), hKN.warm hW⟩⟩ rfl hlen hsz rfl (lv_room (len4_cat h4)) hd ⟨hcl, hsl⟩) f8 hA hS hL
theorem min_i {x y : Int} (hx : inR x) (hy : inR y) : (if Int32.ofInt y < Int32.ofInt x then Int32.ofInt y else Int32.ofInt x) = Int32.ofInt (if y < x then y else x) := by
  by_cases h : y < x
  · rw [if_pos h, if_pos ((i32_lt hy hx).mpr h)]
  · rw [if_neg h, if_neg (fun q => h ((i32_lt hy hx).mp q))]
theorem max_i {x y : Int} (hx : inR x) (hy : inR y) : (if Int32.ofInt x < Int32.ofInt y then Int32.ofInt y else Int32.ofInt x) = Int32.ofInt (if x < y then y else x) := by
  by_cases h : x < y
  · rw [if_pos h, if_pos ((i32_lt hx hy).mpr h)]
  · rw [if_neg h, if_neg (fun q => h ((i32_lt hx hy).mp q))]
theorem i32_zero : Int32.ofInt 0 = 0 := rfl
theorem abs_i {x : Int} (hx : inR x) : (if 0 ≤ Int32.ofInt x then Int32.ofInt x else 0 - Int32.ofInt x) = Int32.ofInt (if 0 ≤ x then x else 0 - x) := by
  have h0 : inR 0 := ⟨by decide, by decide⟩
  by_cases h : 0 ≤ x
  · rw [if_pos h, if_pos (by have := (i32_le h0 hx).mpr h; rw [i32_zero] at this; exact this)]
  · rw [if_neg h, if_neg (fun q => h ((i32_le h0 hx).mp (by rw [i32_zero]; exact q))), Int32.ofInt_sub, i32_zero]
end SN2
end
section
section SN3
variable {p : Program} {l : Launch} {e : Env} {R : Room} {s : State} {m : MethodId} {args : Array Value} {below : List Frame} {meth : Method} {c : Code} {cells slots : Nat} {Qf : State → Prop} {D : va_G} {base : Nat} {cA : Nat → ClassId} {σ : Sg} {nL mi d : Nat} {A : Nat → Prop}
def Rets (p : Program) (l : Launch) (e : Env) (R : Room) (s : State) (m : MethodId) (args : Array Value) (below : List Frame) (meth : Method) (c : Code) (cells slots : Nat) (Qf : State → Prop) (D : va_G) (base : Nat) (cA : Nat → ClassId) (σ : Sg) (mi : Nat) (Q : QT) (A : Nat → Prop) : Prop :=
  ∀ (μ : Mem) (H : Heap) (locs : List Loc) (lsA : Array Slot) (pc : Nat), va_P D vwCl (wl base cA σ μ) H → va_S A s.heap H locs →
    (decode (bM mi) pc = .ok (.return_, 1) → rM mi = none → Q (.inl 0) μ → W p l e R s m args below meth c H locs cells slots Qf (F0 m pc lsA [])) ∧
    (∀ x : Nat, decode (bM mi) pc = .ok (.areturn, 1) → rM mi = some (.object RX1) → Q (.inr (.inr x)) μ → W p l e R s m args below meth c H locs cells slots Qf (F0 m pc lsA [.ref (base + x)])) ∧
    (∀ x : Int, decode (bM mi) pc = .ok (.ireturn, 1) → (rM mi = some .int ∨ (rM mi = some .boolean ∧ (x = 0 ∨ x = 1)) ∨ (rM mi = some .char ∧ 0 ≤ x ∧ x < 65536)) → Q (.inl x) μ → W p l e R s m args below meth c H locs cells slots Qf (F0 m pc lsA [.int (Int32.ofInt x)]))
theorem ckD_of {pc : Nat} {i : Instr} (h : ckD mi pc i = true) (ht : isTsw i = false) {n : Nat} (hn : ilen i = n) : decode (bM mi) pc = .ok (i, n) := by
  unfold ckD at h
  split at h
  · rename_i j n' hj
    simp only [ht, Bool.false_or, Bool.and_eq_true, decide_eq_true_eq, beq_iff_eq] at h
    rw [hj, h.1, h.2, hn]
  · cases h
theorem ckD_sw {pc : Nat} {i : Instr} (h : ckD mi pc i = true) : ∃ n, decode (bM mi) pc = .ok (i, n) := by
  unfold ckD at h
  split at h
  · rename_i j n' hj
    simp only [Bool.and_eq_true, decide_eq_true_eq] at h
    exact ⟨n', by rw [hj, h.1]⟩
  · cases h
theorem nat1 {a : Nat} {P : Prop} (h : (a == 1) = true ∧ P) : P := h.2
set_option maxHeartbeats 4000000 in
theorem stp_s (F : Fx p s m args c cells slots R D base cA nL mi d σ A) (hM : MetOk l D base cA σ d) {Q : QT} (hret : Rets p l e R s m args below meth c cells slots Qf D base cA σ mi Q A)
    {PP : PT} (hPP : PP = PS p l e R s m args below meth c cells slots Qf D base cA σ nL A) {pc np a b c1 e1 : Nat} {i : Instr} {k : Ls → List MV → Mem → Prop} (hD : ckD mi pc i = true) (hC : ckI mi pc i a b c1 e1 np = true)
    (hk : ∀ ls st μ, k ls st μ → PP np ls st μ) {ls : Ls} {st : List MV} {μ : Mem} (h : stp σ PP (Call σ d) Q pc i a b c1 e1 k ls st μ) : PP pc ls st μ := by
  have hPP2 := hPP
  subst hPP
  have F' := F
  obtain ⟨hx, hb, hml, hown, hts, hKN, hrf, hrl, hcl, hsl, hA⟩ := F
  intro H locs lsA hP hS hL
  have hll := hL.2.2.1
  have hsz : c.maxLocals = lsA.size := hml.trans hL.1.symm
  cases i with
  | iconst n =>
    simp only [stp] at h
    have hn := eq_of_beq (show (np == pc + 1) = true from hC); subst hn
    exact lv_iconst hx hb (ckD_of hD rfl rfl) rfl (hk _ _ _ h H locs lsA hP hS hL)
  | bipush n =>
    simp only [stp] at h
    simp only [ckI, Bool.and_eq_true, decide_eq_true_eq, beq_iff_eq] at hC
    obtain ⟨h1, hn⟩ := hC; subst hn
    exact lv_bipush hx hb (ckD_of hD rfl rfl) h1 (hk _ _ _ h H locs lsA hP hS hL)
  | sipush n =>
    simp only [stp] at h
    simp only [ckI, Bool.and_eq_true, decide_eq_true_eq, beq_iff_eq] at hC
    obtain ⟨h1, hn⟩ := hC; subst hn
    exact lv_sipush hx hb (ckD_of hD rfl rfl) h1 (hk _ _ _ h H locs lsA hP hS hL)
  | lconst n =>
    simp only [stp] at h
    have hn := eq_of_beq (show (np == pc + 1) = true from hC); subst hn
    exact lv_lconst hx hb (ckD_of hD rfl rfl) rfl (hk _ _ _ h H locs lsA hP hS hL)
  | ldc2_w n =>
    simp only [stp] at h
    simp only [ckI, Bool.and_eq_true, beq_iff_eq] at hC
    obtain ⟨h1, hn⟩ := hC; subst hn
    exact lv_ldc2 hx hb hown (hts _ (in_gW_ws (in_gCk _ (List.mem_map.mpr ⟨_, List.contains_iff_mem.mp h1, rfl⟩)))) (ckD_of hD rfl rfl) (hk _ _ _ h H locs lsA hP hS hL)
  | iload n =>
    simp only [stp] at h
    obtain ⟨x, e1, h⟩ := ldI_g h
    have hn := eq_of_beq (show (np == pc + 2) = true from hC); subst hn
    exact lv_iload hx hb (ckD_of hD rfl rfl) (hL.2.2.2 _ _ e1) (hk _ _ _ h H locs lsA hP hS hL)
  | iload_n n =>
    simp only [stp] at h
    obtain ⟨x, e1, h⟩ := ldI_g h
    have hn := eq_of_beq (show (np == pc + 1) = true from hC); subst hn
    exact lv_iload_n hx hb (ckD_of hD rfl rfl) rfl (hL.2.2.2 _ _ e1) (hk _ _ _ h H locs lsA hP hS hL)
  | lload n =>
    simp only [stp] at h
    obtain ⟨x, e1, h⟩ := ldL_g h
    have hn := eq_of_beq (show (np == pc + 2) = true from hC); subst hn
    exact lv_lload hx hb (ckD_of hD rfl rfl) (hL.2.2.2 _ _ e1) (hk _ _ _ h H locs lsA hP hS hL)
  | lload_n n =>
    simp only [stp] at h
    obtain ⟨x, e1, h⟩ := ldL_g h
    have hn := eq_of_beq (show (np == pc + 1) = true from hC); subst hn
    exact lv_lload_n hx hb (ckD_of hD rfl rfl) rfl (hL.2.2.2 _ _ e1) (hk _ _ _ h H locs lsA hP hS hL)
  | aload n =>
    simp only [stp] at h
    obtain ⟨x, e1, h⟩ := ldR_g h
    have hn := eq_of_beq (show (np == pc + 2) = true from hC); subst hn
    exact lv_aload hx hb (ckD_of hD rfl rfl) (hL.2.2.2 _ _ e1) (hk _ _ _ h H locs lsA hP hS hL)
  | aload_n n =>
    simp only [stp] at h
    obtain ⟨x, e1, h⟩ := ldR_g h
    have hn := eq_of_beq (show (np == pc + 1) = true from hC); subst hn
    exact lv_aload_n hx hb (ckD_of hD rfl rfl) rfl (hL.2.2.2 _ _ e1) (hk _ _ _ h H locs lsA hP hS hL)
  | istore n =>
    simp only [stp] at h
    obtain ⟨x, r, rfl, hok, h⟩ := p1_g h
    have hn := eq_of_beq (show (np == pc + 2) = true from hC); subst hn
    exact lv_istore hx hb (ckD_of hD rfl rfl) hL.has (hll ▸ okS_lt _ _ hok) rfl (fun ls' hl' => hk _ _ _ h H locs ls' hP hS (LR_st hok hll hl'))
  | istore_n n =>
    simp only [stp] at h
    obtain ⟨x, r, rfl, hok, h⟩ := p1_g h
    have hn := eq_of_beq (show (np == pc + 1) = true from hC); subst hn
    exact lv_istore_n hx hb (ckD_of hD rfl rfl) rfl hL.has (hll ▸ okS_lt _ _ hok) rfl (fun ls' hl' => hk _ _ _ h H locs ls' hP hS (LR_st hok hll hl'))
  | astore n =>
    simp only [stp] at h
    obtain ⟨x, r, rfl, hok, h⟩ := pR_g h
    have hn := eq_of_beq (show (np == pc + 2) = true from hC); subst hn
    exact lv_astore hx hb (ckD_of hD rfl rfl) hL.has (hll ▸ okS_lt _ _ hok) rfl (fun ls' hl' => hk _ _ _ h H locs ls' hP hS (LR_st (v := .inr (.inr x)) hok hll hl'))
  | astore_n n =>
    simp only [stp] at h
    obtain ⟨x, r, rfl, hok, h⟩ := pR_g h
    have hn := eq_of_beq (show (np == pc + 1) = true from hC); subst hn
    exact lv_astore_n hx hb (ckD_of hD rfl rfl) rfl hL.has (hll ▸ okS_lt _ _ hok) rfl (fun ls' hl' => hk _ _ _ h H locs ls' hP hS (LR_st (v := .inr (.inr x)) hok hll hl'))
  | lstore n =>
    simp only [stp] at h
    obtain ⟨x, r, rfl, hok, h⟩ := pL_g h
    have hn := eq_of_beq (show (np == pc + 2) = true from hC); subst hn
    exact lv_lstore hx hb (ckD_of hD rfl rfl) hL.has (hll ▸ okS2_lt _ _ hok) rfl (fun ls' hl' => hk _ _ _ h H locs ls' hP hS (LR_st2 (v := .inr (.inl x)) hok hll hl'))
  | lstore_n n =>
    simp only [stp] at h
    obtain ⟨x, r, rfl, hok, h⟩ := pL_g h
    have hn := eq_of_beq (show (np == pc + 1) = true from hC); subst hn
    exact lv_lstore_n hx hb (ckD_of hD rfl rfl) rfl hL.has (hll ▸ okS2_lt _ _ hok) rfl (fun ls' hl' => hk _ _ _ h H locs ls' hP hS (LR_st2 (v := .inr (.inl x)) hok hll hl'))
  | iinc n dd =>
    simp only [stp] at h
    obtain ⟨x, e1, hok, h⟩ := ldI_g h
    have hn := eq_of_beq (show (np == pc + 3) = true from hC); subst hn
    obtain ⟨kk, hkk⟩ := List.getElem?_of_mem (lpk_mem (base := base) e1)
    exact lv_iinc (v := Int32.ofInt (x + dd)) hx hb (ckD_of hD rfl rfl) hL.has hkk (Int32.ofInt_add x dd).symm (hll ▸ okS_lt _ _ hok) rfl (fun ls' hl' => hk _ _ _ h H locs ls' hP hS (LR_st (v := .inl (x + dd)) hok hll hl'))
  | iadd =>
    simp only [stp] at h
    obtain ⟨x, y, r, rfl, h⟩ := p2_g h
    have hn := eq_of_beq (show (np == pc + 1) = true from hC); subst hn
    refine lv_iadd hx hb (ckD_of hD rfl rfl) ?_
    rw [← Int32.ofInt_add]
    exact hk _ _ _ h H locs lsA hP hS hL
  | isub =>
    simp only [stp] at h
    obtain ⟨x, y, r, rfl, h⟩ := p2_g h
    have hn := eq_of_beq (show (np == pc + 1) = true from hC); subst hn
    refine lv_isub hx hb (ckD_of hD rfl rfl) ?_
    rw [← Int32.ofInt_sub]
    exact hk _ _ _ h H locs lsA hP hS hL
  | imul =>
    simp only [stp] at h
    obtain ⟨x, y, r, rfl, h⟩ := p2_g h
    have hn := eq_of_beq (show (np == pc + 1) = true from hC); subst hn
    refine lv_imul hx hb (ckD_of hD rfl rfl) ?_
    rw [← Int32.ofInt_mul]
    exact hk _ _ _ h H locs lsA hP hS hL
  | iand =>
    simp only [stp] at h
    obtain ⟨x, y, r, rfl, h⟩ := p2_g h
    have hn := eq_of_beq (show (np == pc + 1) = true from hC); subst hn
    refine lv_iand hx hb (ckD_of hD rfl rfl) ?_
    rw [← Int32.ofInt_toInt (Int32.ofInt x &&& Int32.ofInt y)]
    exact hk _ _ _ h H locs lsA hP hS hL
  | ior =>
    simp only [stp] at h
    obtain ⟨x, y, r, rfl, h⟩ := p2_g h
    have hn := eq_of_beq (show (np == pc + 1) = true from hC); subst hn
    refine lv_ior hx hb (ckD_of hD rfl rfl) ?_
    rw [← Int32.ofInt_toInt (Int32.ofInt x ||| Int32.ofInt y)]
    exact hk _ _ _ h H locs lsA hP hS hL
  | ishl =>
    simp only [stp] at h
    obtain ⟨x, y, r, rfl, h⟩ := p2_g h
    have hn := eq_of_beq (show (np == pc + 1) = true from hC); subst hn
    refine lv_ishl hx hb (ckD_of hD rfl rfl) ?_
    rw [← Int32.ofInt_toInt (Int32.ofInt x <<< (Int32.ofInt y &&& 31))]
    exact hk _ _ _ h H locs lsA hP hS hL
  | ishr =>
    simp only [stp] at h
    obtain ⟨x, y, r, rfl, h⟩ := p2_g h
    have hn := eq_of_beq (show (np == pc + 1) = true from hC); subst hn
    refine lv_ishr hx hb (ckD_of hD rfl rfl) ?_
    rw [← Int32.ofInt_toInt (Int32.ofInt x >>> (Int32.ofInt y &&& 31))]
    exact hk _ _ _ h H locs lsA hP hS hL
  | i2c =>
    simp only [stp] at h
    obtain ⟨x, r, rfl, h⟩ := p1_g h
    have hn := eq_of_beq (show (np == pc + 1) = true from hC); subst hn
    exact lv_i2c (v := Int32.ofInt (iI2c x)) hx hb (ckD_of hD rfl rfl) (Int32.ofInt_toInt _).symm (hk _ _ _ h H locs lsA hP hS hL)
  | i2l =>
    simp only [stp] at h
    obtain ⟨x, r, rfl, h⟩ := p1_g h
    have hn := eq_of_beq (show (np == pc + 1) = true from hC); subst hn
    exact lv_i2l hx hb (ckD_of hD rfl rfl) rfl (hk _ _ _ h H locs lsA hP hS hL)
  | l2i =>
    simp only [stp] at h
    obtain ⟨x, r, rfl, h⟩ := pL_g h
    have hn := eq_of_beq (show (np == pc + 1) = true from hC); subst hn
    exact lv_l2i (v := Int32.ofInt x.toInt32.toInt) hx hb (ckD_of hD rfl rfl) (Int32.ofInt_toInt _).symm (hk _ _ _ h H locs lsA hP hS hL)
  | land =>
    simp only [stp] at h
    obtain ⟨x, y, r, rfl, h⟩ := pLL_g h
    have hn := eq_of_beq (show (np == pc + 1) = true from hC); subst hn
    exact lv_land hx hb (ckD_of hD rfl rfl) (hk _ _ _ h H locs lsA hP hS hL)
  | lushr =>
    simp only [stp] at h
    obtain ⟨x, y, r, rfl, h⟩ := pLI_g h
    have hn := eq_of_beq (show (np == pc + 1) = true from hC); subst hn
    exact lv_lushr (v := lUshr x y) hx hb (ckD_of hD rfl rfl) rfl (hk _ _ _ h H locs lsA hP hS hL)
  | lcmp =>
    simp only [stp] at h
    obtain ⟨x, y, r, rfl, h⟩ := pLL_g h
    have hn := eq_of_beq (show (np == pc + 1) = true from hC); subst hn
    refine W.lcmp hx hb (ckD_of hD rfl rfl) ?_
    rw [← Int32.ofInt_toInt (lg_cmp x y)]
    exact hk _ _ _ h H locs lsA hP hS hL
  | dup =>
    simp only [stp] at h
    obtain ⟨v, r, rfl, hv, h⟩ := pD_g h
    have hn := eq_of_beq (show (np == pc + 1) = true from hC); subst hn
    exact lv_dup hx hb (ckD_of hD rfl rfl) (nLg_cat hv) (hk _ _ _ h H locs lsA hP hS hL)
  | dup2 =>
    simp only [stp] at h
    obtain ⟨v, r, rfl, hv, h⟩ := pD_g h
    obtain ⟨w, r2, rfl, hw, h⟩ := pD_g h
    have hn := eq_of_beq (show (np == pc + 1) = true from hC); subst hn
    exact lv_dup2_11 hx hb (ckD_of hD rfl rfl) (nLg_cat hv) (nLg_cat hw) (hk _ _ _ h H locs lsA hP hS hL)
  | pop =>
    simp only [stp] at h
    obtain ⟨v, r, rfl, hv, h⟩ := pD_g h
    have hn := eq_of_beq (show (np == pc + 1) = true from hC); subst hn
    exact lv_pop hx hb (ckD_of hD rfl rfl) (nLg_cat hv) (hk _ _ _ h H locs lsA hP hS hL)
  | goto o =>
    simp only [stp] at h
    simp only [ckI, decide_eq_true_eq] at hC
    exact lv_goto hx hb (ckD_of hD rfl rfl) hC (h H locs lsA hP hS hL)
  | ifCond cc o =>
    simp only [stp] at h
    obtain ⟨x, r, rfl, h⟩ := p1_g h
    simp only [ckI, Bool.and_eq_true, decide_eq_true_eq, beq_iff_eq] at hC
    obtain ⟨h1, hn⟩ := hC; subst hn
    cases cc with
    | eq => have q := cEq_u h; exact lv_if_eq hx hb (ckD_of hD rfl rfl) h1 (fun z => q.1 z H locs lsA hP hS hL) (fun z => hk _ _ _ (q.2 z) H locs lsA hP hS hL)
    | ne => have q := cEq_u h; exact lv_if_ne hx hb (ckD_of hD rfl rfl) h1 (fun z => q.2 z H locs lsA hP hS hL) (fun z => hk _ _ _ (q.1 z) H locs lsA hP hS hL)
    | lt => have q := cLt_u h; exact lv_if_lt hx hb (ckD_of hD rfl rfl) h1 (fun z => q.1 z H locs lsA hP hS hL) (fun z => hk _ _ _ (q.2 z) H locs lsA hP hS hL)
    | ge => have q := cLt_v h; exact lv_if_ge hx hb (ckD_of hD rfl rfl) h1 (fun z => q.1 z H locs lsA hP hS hL) (fun z => hk _ _ _ (q.2 z) H locs lsA hP hS hL)
    | gt => have q := cLt_u h; exact lv_if_gt hx hb (ckD_of hD rfl rfl) h1 (fun z => q.1 z H locs lsA hP hS hL) (fun z => hk _ _ _ (q.2 z) H locs lsA hP hS hL)
    | le => have q := cLt_v h; exact lv_if_le hx hb (ckD_of hD rfl rfl) h1 (fun z => q.1 z H locs lsA hP hS hL) (fun z => hk _ _ _ (q.2 z) H locs lsA hP hS hL)
  | if_icmp cc o =>
    simp only [stp] at h
    obtain ⟨x, y, r, rfl, h⟩ := p2_g h
    simp only [ckI, Bool.and_eq_true, decide_eq_true_eq, beq_iff_eq] at hC
    obtain ⟨h1, hn⟩ := hC; subst hn
    cases cc with
    | eq => have q := cEq_u h; exact lv_icmp_eq hx hb (ckD_of hD rfl rfl) h1 (fun z => q.1 z H locs lsA hP hS hL) (fun z => hk _ _ _ (q.2 z) H locs lsA hP hS hL)
    | ne => have q := cEq_u h; exact lv_icmp_ne hx hb (ckD_of hD rfl rfl) h1 (fun z => q.2 z H locs lsA hP hS hL) (fun z => hk _ _ _ (q.1 z) H locs lsA hP hS hL)
    | lt => have q := cLt_u h; exact lv_icmp_lt hx hb (ckD_of hD rfl rfl) h1 (fun z => q.1 z H locs lsA hP hS hL) (fun z => hk _ _ _ (q.2 z) H locs lsA hP hS hL)
    | ge => have q := cLt_v h; exact lv_icmp_ge hx hb (ckD_of hD rfl rfl) h1 (fun z => q.1 z H locs lsA hP hS hL) (fun z => hk _ _ _ (q.2 z) H locs lsA hP hS hL)
    | gt => have q := cLt_u h; exact lv_icmp_gt hx hb (ckD_of hD rfl rfl) h1 (fun z => q.1 z H locs lsA hP hS hL) (fun z => hk _ _ _ (q.2 z) H locs lsA hP hS hL)
    | le => have q := cLt_v h; exact lv_icmp_le hx hb (ckD_of hD rfl rfl) h1 (fun z => q.1 z H locs lsA hP hS hL) (fun z => hk _ _ _ (q.2 z) H locs lsA hP hS hL)
  | tableswitch dd lo hi offs =>
    simp only [stp] at h
    obtain ⟨x, r, rfl, hr, h2, h3⟩ := p1_g h
    simp only [ckI, Bool.and_eq_true, decide_eq_true_eq] at hC
    obtain ⟨⟨c1, c2⟩, c3⟩ := hC
    obtain ⟨len, hd⟩ := ckD_sw hD
    have hxi := inR_toInt hr
    by_cases hout : x < lo ∨ hi < x
    · exact lv_tableOut hx hb hd (by rw [hxi]; exact hout) (tgt := ((pc : Int) + dd).toNat) (by omega) (h3 hout H locs lsA hP hS hL)
    · have hi1 : (x - lo).toNat < offs.size := by omega
      obtain ⟨o, ho⟩ : ∃ o, offs[(x - lo).toNat]? = some o := ⟨_, Array.getElem?_eq_getElem hi1⟩
      have hol : offs.toList[(x - lo).toNat]? = some o := by rw [Array.getElem?_toList]; exact ho
      have c2' : 0 ≤ (pc : Int) + o := of_decide_eq_true (List.all_eq_true.mp c2 o (List.mem_of_getElem? hol))
      exact lv_tableIn hx hb hd (by rw [hxi]; omega) (by rw [hxi]; omega) (off := o) (by rw [hxi]; exact ho) (tgt := ((pc : Int) + o).toNat) (by omega)
        (swc_g h2 hol (by omega) H locs lsA hP hS hL)
  | getfield n =>
    simp only [stp] at h
    obtain ⟨o, r, rfl, ho, h⟩ := pR_g h
    simp only [ckI, Bool.and_eq_true, decide_eq_true_eq, beq_iff_eq] at hC
    obtain ⟨⟨⟨⟨h1, h2⟩, h3⟩, h4⟩, hn⟩ := hC; subst hn
    refine s_getf F' (List.contains_iff_mem.mp h1) h2 h3 h4 (ckD_of hD rfl rfl) ho hP ?_
    rcases c1 with _ | _ | w
    · exact hk _ _ _ h H locs lsA hP hS hL
    · exact hk _ _ _ h H locs lsA hP hS hL
    · have q := hk _ _ _ h.2 H locs lsA hP hS hL
      have e : fldV base σ μ o b (w + 2) = .ref (base + (o + w)) := by simp only [fldV]; rw [if_pos h.1]
      rw [e]
      exact q
  | putfield n =>
    simp only [stp] at h
    split at h
    · rename_i v o r
      obtain ⟨ho, hv, h⟩ := h
      simp only [ckI, Bool.and_eq_true, decide_eq_true_eq, beq_iff_eq] at hC
      obtain ⟨⟨⟨⟨⟨⟨h1, h2⟩, h3⟩, h4⟩, hn⟩, h5⟩, h6⟩ := hC; subst hn
      exact s_putf F' (List.contains_iff_mem.mp h1) h2 h3 h4 h5 h6 hv (ckD_of hD rfl rfl) ho hP hS (fun H1 locs1 q1 q2 => hk _ _ _ h H1 locs1 lsA q1 q2 hL)
    · exact h.elim
  | iaload =>
    simp only [stp] at h
    obtain ⟨o, i, r, rfl, ho, hi0, hi1, h⟩ := pA_g h
    have hn := eq_of_beq (show (np == pc + 1) = true from hC); subst hn
    obtain ⟨g1, g2, g3⟩ := s_alen (base := base) (cA := cA) ho (by decide) μ
    refine va_iald hx hb hKN.1 hP o 0 g1 rfl (in_i hi0 hi1 g2) (ckD_of hD rfl rfl) ?_
    rw [clamp_i hi0 hi1 g2]
    exact hk _ _ _ h H locs lsA hP hS hL
  | caload =>
    simp only [stp] at h
    obtain ⟨o, i, r, rfl, ho, hi0, hi1, h⟩ := pA_g h
    have hn := eq_of_beq (show (np == pc + 1) = true from hC); subst hn
    obtain ⟨g1, g2, g3⟩ := s_alen (base := base) (cA := cA) ho (by decide) μ
    refine va_cald hx hb hKN.1 hP o 1 g1 rfl (in_i hi0 hi1 g2) (ckD_of hD rfl rfl) ?_
    rw [clamp_i hi0 hi1 g2]
    exact hk _ _ _ h H locs lsA hP hS hL
  | baload =>
    simp only [stp] at h
    obtain ⟨o, i, r, rfl, ho, hi0, hi1, h⟩ := pA_g h
    have hn := eq_of_beq (show (np == pc + 1) = true from hC); subst hn
    obtain ⟨g1, g2, g3⟩ := s_alen (base := base) (cA := cA) ho (by decide) μ
    refine va_zald hx hb hKN.1 hP o 2 g1 rfl (in_i hi0 hi1 g2) (ckD_of hD rfl rfl) ?_
    rw [clamp_i hi0 hi1 g2]
    exact hk _ _ _ h H locs lsA hP hS hL
  | aaload =>
    simp only [stp] at h
    obtain ⟨o, i, r, rfl, ho, hi0, hi1, hs, h⟩ := pA_g h
    simp only [ckI, Bool.and_eq_true, beq_iff_eq] at hC
    obtain ⟨h1, hn⟩ := hC; subst hn
    have q := hk _ _ _ h H locs lsA hP hS hL
    have h1 := List.contains_iff_mem.mp h1
    simp only [List.mem_cons, List.not_mem_nil, or_false, Prod.mk.injEq] at h1
    rcases h1 with ⟨rfl, rfl, rfl⟩ | ⟨rfl, rfl, rfl⟩ | ⟨rfl, rfl, rfl⟩
    · obtain ⟨g1, g2, g3⟩ := s_alen (base := base) (cA := cA) ho (by decide) μ
      refine va_aldq hx hb hKN.1 hP o 3 g1 rfl (in_i hi0 hi1 g2) (ckD_of hD rfl rfl) ?_
      rw [clamp_i hi0 hi1 g2]; unfold ptrs; rw [if_pos hs]; exact q
    · obtain ⟨g1, g2, g3⟩ := s_alen (base := base) (cA := cA) ho (by decide) μ
      refine va_aldq hx hb hKN.1 hP o 4 g1 rfl (in_i hi0 hi1 g2) (ckD_of hD rfl rfl) ?_
      rw [clamp_i hi0 hi1 g2]; unfold ptrs; rw [if_pos hs]; exact q
    · obtain ⟨g1, g2, g3⟩ := s_alen (base := base) (cA := cA) ho (by decide) μ
      refine va_aldq hx hb hKN.1 hP o 4 g1 rfl (in_i hi0 hi1 g2) (ckD_of hD rfl rfl) ?_
      rw [clamp_i hi0 hi1 g2]; unfold ptrs; rw [if_pos hs]; exact q
  | iastore =>
    simp only [stp] at h
    obtain ⟨o, i, v, r, rfl, ho, hi0, hi1, h⟩ := pAS_g h
    have hn := eq_of_beq (show (np == pc + 1) = true from hC); subst hn
    obtain ⟨g1, g2, g3⟩ := s_alen (base := base) (cA := cA) ho (by decide) μ
    obtain ⟨-, -, g4⟩ := s_alen (base := base) (cA := cA) ho (by decide) (ms μ o i.toNat v)
    refine va_iast hx hb hKN.1 hP (wl_D hA) hS o 0 g1 rfl (in_i hi0 hi1 g2) (ckD_of hD rfl rfl) (fun H1 locs1 q1 q2 q3 => ?_)
    rw [upd_ms hi0 hi1 g2, wl_set (by rw [g4]; rfl) ms_ne] at q1
    exact hk _ _ _ h H1 locs1 lsA q1 q3 hL
  | castore =>
    simp only [stp] at h
    obtain ⟨o, i, v, r, rfl, ho, hi0, hi1, hv, h⟩ := pAS_g h
    have hn := eq_of_beq (show (np == pc + 1) = true from hC); subst hn
    obtain ⟨g1, g2, g3⟩ := s_alen (base := base) (cA := cA) ho (by decide) μ
    obtain ⟨-, -, g4⟩ := s_alen (base := base) (cA := cA) ho (by decide) (ms μ o i.toNat v)
    refine va_cast hx hb hKN.1 hP (wl_D hA) hS o 1 g1 rfl (in_i hi0 hi1 g2) (ckD_of hD rfl rfl) (fun H1 locs1 q1 q2 q3 => ?_)
    rw [nar_c hv, upd_ms hi0 hi1 g2, wl_set (by rw [g4]; rfl) ms_ne] at q1
    exact hk _ _ _ h H1 locs1 lsA q1 q3 hL
  | bastore =>
    simp only [stp] at h
    obtain ⟨o, i, v, r, rfl, ho, hi0, hi1, hv, h⟩ := pAS_g h
    have hn := eq_of_beq (show (np == pc + 1) = true from hC); subst hn
    obtain ⟨g1, g2, g3⟩ := s_alen (base := base) (cA := cA) ho (by decide) μ
    obtain ⟨-, -, g4⟩ := s_alen (base := base) (cA := cA) ho (by decide) (ms μ o i.toNat v)
    refine va_zast hx hb hKN.1 hP (wl_D hA) hS o 2 g1 rfl (in_i hi0 hi1 g2) (ckD_of hD rfl rfl) (fun H1 locs1 q1 q2 q3 => ?_)
    rw [nar_z hv, upd_ms hi0 hi1 g2, wl_set (by rw [g4]; rfl) ms_ne] at q1
    exact hk _ _ _ h H1 locs1 lsA q1 q3 hL
  | ireturn =>
    simp only [stp] at h
    obtain ⟨x, r, rfl, rfl, hx1, h⟩ := p1_g h
    simp only [ckI] at hC
    refine (hret μ H locs lsA pc hP hS).2.2 x (ckD_of hD rfl rfl) ?_ h
    by_cases h0 : a = 0
    · rw [if_pos h0] at hC
      exact Or.inl (of_decide_eq_true hC)
    · by_cases h1 : a = 1
      · rw [if_neg h0, if_pos h1] at hC
        rw [if_pos h1] at hx1
        exact Or.inr (Or.inl ⟨of_decide_eq_true hC, hx1⟩)
      · rw [if_neg h0, if_neg h1] at hC
        simp only [Bool.and_eq_true, decide_eq_true_eq] at hC
        rw [if_neg h1, if_pos hC.1] at hx1
        exact Or.inr (Or.inr ⟨hC.2, hx1⟩)
  | return_ =>
    simp only [stp] at h
    obtain ⟨rfl, h⟩ := h
    simp only [ckI, decide_eq_true_eq] at hC
    exact (hret μ H locs lsA pc hP hS).1 (ckD_of hD rfl rfl) hC h
  | areturn =>
    simp only [stp] at h
    obtain ⟨x, r, h0, h1, hq⟩ := pR_g h
    subst h1; subst h0
    simp only [ckI, decide_eq_true_eq] at hC
    exact (hret μ H locs lsA pc hP hS).2.1 x (ckD_of hD rfl rfl) hC hq
  | invokevirtual n =>
    simp only [stp] at h
    obtain ⟨vs, r, h0, hvl, h4, hrc, hq⟩ := tk_g h
    subst h0
    simp only [ckI, Bool.and_eq_true, beq_iff_eq] at hC
    obtain ⟨⟨⟨⟨⟨h1, h2⟩, h3⟩, h5⟩, h6⟩, hn⟩ := hC
    subst h5; subst h6
    rcases vs with _ | ⟨v0, As⟩
    · exact (hrc : False).elim
    · rcases v0 with x0 | x0 | kk
      · exact (hrc : False).elim
      · exact (hrc : False).elim
      · have q := s_callV (As := As) (rs := r) F' hM hPP2 (List.contains_iff_mem.mp h1) h2 (by rw [← h3, ← hvl]; rfl) (ckD_of hD rfl rfl) h4 hrc hq hP hS hL
        have e : List.map (tr base) ((Sum.inr (Sum.inr kk) :: As).reverse ++ r) = ((As.map (tr base)).reverse) ++ .ref (base + kk) :: r.map (tr base) := by
          simp [tr]
        rw [e]
        exact q
  | invokestatic n =>
    simp only [stp] at h
    simp only [ckI, Bool.and_eq_true, beq_iff_eq] at hC
    obtain ⟨hC, hn⟩ := hC; subst hn
    have hMi : (Cond.initialized "java/lang/Math").before args s = true := hts _ (in_gW_ws (in_gNa2 _ (List.mem_of_getElem? (i := 1) rfl)))
    split at h
    · obtain ⟨x, y, r, rfl, ⟨h4, h1⟩, h2, h⟩ := p2_g h
      refine va_mmin hx hb hsz hown (hts _ (in_gW_ws (in_gNat _ (List.mem_map.mpr ⟨_, List.contains_iff_mem.mp hC, rfl⟩)))) (hts _ (in_gW_ws (in_gNa2 _ (List.mem_of_getElem? (i := 0) rfl)))) hMi (hts _ (in_gW_ws (in_gNa2 _ (List.mem_of_getElem? (i := 2) rfl)))) (by omega) (by have := len4_cat (base := base) h4; omega) hcl hsl (ckD_of hD rfl rfl) ?_
      rw [min_i h1 h2]
      exact hk _ _ _ h H locs lsA hP hS hL
    · obtain ⟨k0, sp, k1, dp, nn, r, rfl, ⟨h4, ho0, ho1⟩, ⟨hs0, hd0, hn0⟩, ⟨hs1, hd1⟩, h⟩ := pC_g h
      obtain ⟨g1, g2, g3⟩ := s_alen (base := base) (cA := cA) ho0 (by decide) μ
      obtain ⟨j1, j2, j3⟩ := s_alen (base := base) (cA := cA) ho1 (by decide) μ
      obtain ⟨-, -, g4⟩ := s_alen (base := base) (cA := cA) ho1 (by decide) (mcp μ k0 sp.toNat k1 dp.toNat nn.toNat)
      have rs : inR sp := ⟨by omega, by omega⟩
      have rd : inR dp := ⟨by omega, by omega⟩
      have rn : inR nn := ⟨by omega, by omega⟩
      have z0 : inR 0 := ⟨by decide, by decide⟩
      have cs : (Int32.ofInt sp).toNatClampNeg = sp.toNat := by show (Int32.ofInt sp).toInt.toNat = _; rw [inR_toInt rs]
      have cd : (Int32.ofInt dp).toNatClampNeg = dp.toNat := by show (Int32.ofInt dp).toInt.toNat = _; rw [inR_toInt rd]
      have cn : (Int32.ofInt nn).toNatClampNeg = nn.toNat := by show (Int32.ofInt nn).toInt.toNat = _; rw [inR_toInt rn]
      have neg : ∀ {x : Int}, inR x → 0 ≤ x → ¬ Int32.ofInt x < 0 := fun {x} hr h0 q => by
        rw [← i32_zero, i32_lt hr z0] at q; omega
      refine va_copyi hx hb hsz hown (hts _ (in_gW_ws (in_gNat _ (List.mem_map.mpr ⟨_, List.contains_iff_mem.mp hC, rfl⟩)))) (hts _ (in_gW_ws (in_gNa2 _ (List.mem_of_getElem? (i := 3) rfl)))) (hts _ (in_gW_ws (in_gNa2 _ (List.mem_of_getElem? (i := 4) rfl)))) (hts _ (in_gW_ws (in_gNa2 _ (List.mem_of_getElem? (i := 5) rfl))))
        hKN.1 hP (wl_D hA) hS k0 k1 0 0 g1 j1 rfl rfl rfl (neg rs hs0) (neg rd hd0) (neg rn hn0) (by rw [cs, cn]; omega) (by rw [cd, cn]; omega) (fun _ _ => rfl) (by omega) (by
          have := len4_cat (base := base) h4
          have e : nativeFrameWords "java/lang/System" "arraycopy" 5 = 7 := by decide
          rw [e]; omega) (ckD_of hD rfl rfl) (fun H1 locs1 q1 q2 q3 => ?_)
      rw [cs, cd, cn] at q1
      have e : va_cpy (fun j => Int32.ofInt (μ k0 j)) (fun j => Int32.ofInt (μ k1 j)) sp.toNat dp.toNat nn.toNat = fun j => Int32.ofInt (mcp μ k0 sp.toNat k1 dp.toNat nn.toNat k1 j) := by
        funext j
        unfold va_cpy mcp
        by_cases hj : dp.toNat ≤ j ∧ j < dp.toNat + nn.toNat
        · rw [if_pos hj, if_pos ⟨rfl, hj⟩]
        · rw [if_neg hj, if_neg (fun q => hj q.2)]
      rw [e, wl_set (by rw [g4]; rfl) mcp_ne] at q1
      exact hk _ _ _ h H1 locs1 lsA q1 q3 hL
    · obtain ⟨vs, r, rfl, hvl, h4, h⟩ := tk_g h
      rw [List.map_append, List.map_reverse]
      split at hC
      · exact absurd rfl (by assumption)
      · exact absurd rfl (by assumption)
      · simp only [Bool.and_eq_true, beq_iff_eq] at hC
        obtain ⟨⟨⟨h1, h2⟩, h3⟩, h5⟩ := hC
        exact s_callS (As := vs) (rs := r) F' hM hPP2 (Or.inl (List.contains_iff_mem.mp h1)) h2 (by rw [← h3, ← hvl]) (ckD_of hD rfl rfl) h4 (by rw [h5]; exact h) hP hS hL
      · simp only [Bool.and_eq_true, beq_iff_eq] at hC
        obtain ⟨⟨⟨h1, h2⟩, h3⟩, h5⟩ := hC
        exact s_callS (As := vs) (rs := r) F' hM hPP2 (Or.inr (List.contains_iff_mem.mp h1)) h2 (by rw [← h3, ← hvl]) (ckD_of hD rfl rfl) h4 (by rw [h5]; exact h) hP hS hL
      · cases hC
  | _ => exact (h : False).elim
end SN3
end
section
section SN4
variable {p : Program} {l : Launch} {e : Env} {R : Room} {s : State} {m : MethodId} {args : Array Value} {below : List Frame} {meth : Method} {c : Code} {cells slots : Nat} {Qf : State → Prop} {D : va_G} {base : Nat} {cA : Nat → ClassId} {σ : Sg} {nL mi d : Nat} {A : Nat → Prop}
theorem seg_s (F : Fx p s m args c cells slots R D base cA nL mi d σ A) (hM : MetOk l D base cA σ d) {Q : QT} (hret : Rets p l e R s m args below meth c cells slots Qf D base cA σ mi Q A)
    {PP : PT} (hPP : PP = PS p l e R s m args below meth c cells slots Qf D base cA σ nL A) {nx : Nat} : ∀ {L : List Ent}, ckL mi L nx = true → ∀ {ls : Ls} {st : List MV} {μ : Mem}, seg σ PP (Call σ d) Q L nx ls st μ → PP (hpc L nx) ls st μ
  | [], _, _, _, _, h => h
  | (pc, i, a, b, c1, e1) :: r, hc, _, _, _, h => by
    simp only [ckL, Bool.and_eq_true] at hc
    exact stp_s F hM hret hPP hc.1.1 hc.1.2 (fun _ _ _ h => seg_s F hM hret hPP hc.2 h) h
theorem wp_s (F : Fx p s m args c cells slots R D base cA nL mi d σ A) (hM : MetOk l D base cA σ d) {Q : QT} (hret : Rets p l e R s m args below meth c cells slots Qf D base cA σ mi Q A) (hmi : mi < 70)
    {pc : Nat} {ls : Ls} {st : List MV} {μ : Mem} (h : wp σ (Call σ d) mi Q pc ls st μ) : PS p l e R s m args below meth c cells slots Qf D base cA σ nL A pc ls st μ := by
  refine h.2 _ (fun pc L nx ls st μ hb hs => ?_)
  unfold blk at hb
  cases hf : (bkOf mi).find? (fun b => b.1 == pc) with
  | none => rw [hf] at hb; cases hb
  | some q =>
    rw [hf] at hb
    have hq := List.mem_of_find?_eq_some hf
    have hp : q.1 = pc := by
      have := List.find?_some hf
      exact eq_of_beq this
    have e : q.2 = (L, nx) := Option.some.inj hb
    have hc := List.all_eq_true.mp (show (bkOf mi).all _ = true from ck_all mi hmi) q hq
    simp only [Bool.and_eq_true, beq_iff_eq, e] at hc
    have := seg_s F hM hret rfl hc.1 hs
    rw [hc.2, hp] at this
    exact this
theorem lg1 {v : Value} (h : v.category = 1) (t : List Value) : lg_sl (v :: t) = .val v :: lg_sl t := by simp [lg_sl, List.flatMap_cons, h]
theorem lg2 {v : Value} (h : v.category = 2) (t : List Value) : lg_sl (v :: t) = .val v :: .second :: lg_sl t := by simp [lg_sl, List.flatMap_cons, h]
theorem argL_sl : ∀ (vs : List MV), (lg_sl (vs.map (tr base))).length = (argL vs).length ∧ ∀ (i : Nat) (v : MV), (argL vs)[i]? = some (some v) → (lg_sl (vs.map (tr base)))[i]? = some (.val (tr base v))
  | [] => ⟨rfl, fun i v h => by simp [argL] at h⟩
  | a :: t => by
    have ih := argL_sl t
    have one : (tr base a).category = 1 → argL (a :: t) = some a :: argL t → (lg_sl ((a :: t).map (tr base))).length = (argL (a :: t)).length ∧ ∀ (i : Nat) (v : MV), (argL (a :: t))[i]? = some (some v) → (lg_sl ((a :: t).map (tr base)))[i]? = some (.val (tr base v)) := by
      intro h1 h2
      rw [h2, List.map_cons, lg1 h1]
      refine ⟨by rw [List.length_cons, List.length_cons, ih.1], fun i v h => ?_⟩
      cases i with
      | zero =>
        have e : a = v := by simpa using h
        rw [e]; rfl
      | succ i => simpa using ih.2 i v (by simpa using h)
    rcases a with x | x | k
    · exact one rfl rfl
    · have h2 : argL (Sum.inr (Sum.inl x) :: t) = some (Sum.inr (Sum.inl x)) :: none :: argL t := rfl
      rw [h2, List.map_cons, lg2 (v := tr base (Sum.inr (Sum.inl x))) rfl]
      refine ⟨by rw [List.length_cons, List.length_cons, List.length_cons, List.length_cons, ih.1], fun i v h => ?_⟩
      match i, h with
      | 0, h =>
        have e : Sum.inr (Sum.inl x) = v := by simpa using h
        rw [← e]; rfl
      | 1, h => simp at h
      | i + 2, h => simpa using ih.2 i v (by simpa using h)
    · exact one rfl rfl
theorem met_ok (l : Launch) (D : va_G) (base : Nat) (cA : Nat → ClassId) (σ : Sg) : ∀ d : Nat, MetOk l D base cA σ d
  | 0, _, _, _, _, _, h => h.elim
  | d + 1, mi, vs, μ, Q, hmi, h => by
    have hM := met_ok l D base cA σ d
    obtain ⟨h1, h2, h3⟩ := h
    obtain ⟨f1, f2, f3, f4, f5, f6, f7, f8, f9, f10, f11⟩ := meth_f hmi
    refine Met.ofW (cc := bM mi) (maxL := lM mi) (ret := rM mi) f2 rfl ?_
    intro p e s m args below meth c s₁ B hml hv
    obtain ⟨rfl, hP, hKN⟩ := hv
    have hx := B.exec
    have hb := B.bytes
    have hr := B.returns
    have hts := atoms_spec (ws := wsM mi) B.pre
    have hown : s.vm.findClass (RX (oM mi)) = some m.cls := by rw [← f1]; exact findClass_of_methodNamed B.named
    have hlocks := B.notSynchronized
    have F : Fx p s m (vs.map (tr base)).toArray c 0 0 (headSpec (wsM mi) (rmD (d + 1))).room D base cA (lM mi) mi d σ (AC base σ) := ⟨hx, hb, hml, hown, hts, hKN, Nat.le_refl _, Nat.le_refl _, Nat.le_refl _, Nat.le_refl _, fun _ h => h⟩
    have hret : Rets p l e (headSpec (wsM mi) (rmD (d + 1))).room s m (vs.map (tr base)).toArray below meth c 0 0 (MQ below (QcM D base cA σ mi Q) (vs.map (tr base)).toArray s 0 0 (AC base σ)) D base cA σ mi Q (AC base σ) := by
      intro ν H locs lsA pc hP2 hS
      refine ⟨fun hd hn hq => ?_, fun x hd hn hq => ?_, fun x hd hn hq => ?_⟩
      · have hk : kM mi = 0 := by
          rcases (show kM mi = 0 ∨ kM mi = 1 ∨ kM mi = 2 by omega) with h0 | h0 | h0
          · exact h0
          · rcases f10 h0 with q | q | q <;> rw [hn] at q <;> cases q
          · have := f11 h0; rw [hn] at this; cases this
        refine W.vret hx hb (hr.trans hn) (fun t ht hW => ?_) hS.2.2 hd
        unfold QcM
        rw [if_pos hk]
        exact ⟨⟨ν, rfl, hq, by unfold WdH; rw [ht]; exact hP2, hKN.warm hW⟩, hS.F ht⟩
      · have hk : kM mi = 2 := by
          rcases (show kM mi = 0 ∨ kM mi = 1 ∨ kM mi = 2 by omega) with h0 | h0 | h0
          · have := f9 h0; rw [hn] at this; cases this
          · rcases f10 h0 with q | q | q <;> rw [hn] at q <;> cases q
          · exact h0
        refine W.aret hx hb (hr.trans hn) (Or.inl ⟨_, rfl⟩) (Or.inr ⟨_, rfl⟩) (fun t ht hW => ?_) hS.2.2 hd
        unfold QcM
        rw [if_neg (by omega), if_neg (by omega)]
        exact ⟨⟨(x, ν), base + x, rfl, hq, rfl, by unfold WdH; rw [ht]; exact hP2, hKN.warm hW⟩, hS.F ht⟩
      · have hk : kM mi = 1 := by
          rcases (show kM mi = 0 ∨ kM mi = 1 ∨ kM mi = 2 by omega) with h0 | h0 | h0
          · have := f9 h0
            rcases hn with q | ⟨q, -⟩ | ⟨q, -⟩ <;> rw [this] at q <;> cases q
          · exact h0
          · have := f11 h0
            rcases hn with q | ⟨q, -⟩ | ⟨q, -⟩ <;> rw [this] at q <;> cases q
        have fin : ∀ t : State, t.heap = H → s.WarmedH t.vm → QcM D base cA σ mi Q (vs.map (tr base)).toArray s (.returned (some (.int (Int32.ofInt x)))) t := by
          intro t ht hW
          unfold QcM
          rw [if_neg (by omega), if_pos hk]
          exact ⟨⟨Int32.ofInt x, (x, ν), rfl, ⟨rfl, hq⟩, by unfold WdH; rw [ht]; exact hP2, hKN.warm hW⟩, hS.F ht⟩
        rcases hn with hn | ⟨hn, h0⟩ | ⟨hn, h0⟩
        · exact W.iret hx hb (hr.trans hn) fin hS.2.2 hd
        · exact W.zret hx hb (hr.trans hn) (by rcases h0 with rfl | rfl <;> rfl) fin hS.2.2 hd
        · refine W.zret hx hb (hr.trans hn) ?_ fin hS.2.2 hd
          obtain ⟨n, rfl⟩ : ∃ n : Nat, x = (n : Int) := ⟨x.toNat, by omega⟩
          have hn2 : n < 65536 := by omega
          have e : Int32.ofInt (n : Int) = nI n := by unfold nI; exact (Int32.ofInt_eq_ofNat).symm ▸ rfl
          rw [e]
          exact (pk_charN hn2).1
    have hle := lv_entry (vs.map (tr base)) (n := lM mi) (by rw [(argL_sl (base := base) vs).1]; exact h2)
    rw [lg_entry_eq]
    refine wp_s F hM hret hmi h3 s.heap [] _ hP va_S.rf ⟨hle.1, hle.2.1, ?_, fun i v hi => ?_⟩
    · unfold iniL
      rw [List.length_append, List.length_replicate]
      omega
    · unfold iniL at hi
      have hlt : i < (argL vs).length := by
        rcases Nat.lt_or_ge i (argL vs).length with q | q
        · exact q
        · rw [List.getElem?_append_right q] at hi
          rw [List.getElem?_replicate] at hi
          split at hi
          · cases hi
          · cases hi
      rw [List.getElem?_append_left hlt] at hi
      have q := (argL_sl (base := base) vs).2 i v hi
      show ((lg_sl (vs.map (tr base))) ++ _).toArray[i]? = _
      rw [List.getElem?_toArray, List.getElem?_append_left (by rw [(argL_sl (base := base) vs).1]; exact hlt)]
      exact q
end SN4
end
section
-- Cho.begin
theorem e_1 {σ : Sg} {d : Nat} {Q : QT} {μ : Mem} {a0 : Nat} {a1 : Int} {a2 : Int} (h : wp σ (Call σ d) 1 Q 0 [some (.inr (.inr a0)), some (.inl a1), some (.inl a2)] [] μ) : Call σ (d + 1) 1 [.inr (.inr a0), .inl a1, .inl a2] μ Q := Call_go rfl (Nat.le_of_ble_eq_true rfl) rfl h
-- Cho.choose
theorem e_2 {σ : Sg} {d : Nat} {Q : QT} {μ : Mem} {a0 : Nat} {a1 : Nat} {a2 : Int} (h : wp σ (Call σ d) 2 Q 0 [some (.inr (.inr a0)), some (.inr (.inr a1)), some (.inl a2), none, none, none] [] μ) : Call σ (d + 1) 2 [.inr (.inr a0), .inr (.inr a1), .inl a2] μ Q := Call_go rfl (Nat.le_of_ble_eq_true rfl) rfl h
-- Cho.isFor
theorem e_3 {σ : Sg} {d : Nat} {Q : QT} {μ : Mem} {a0 : Nat} {a1 : Nat} {a2 : Int} (h : wp σ (Call σ d) 3 Q 0 [some (.inr (.inr a0)), some (.inr (.inr a1)), some (.inl a2), none, none] [] μ) : Call σ (d + 1) 3 [.inr (.inr a0), .inr (.inr a1), .inl a2] μ Q := Call_go rfl (Nat.le_of_ble_eq_true rfl) rfl h
-- Hea.breakTime
theorem e_5 {σ : Sg} {d : Nat} {Q : QT} {μ : Mem} {a0 : Nat} {a1 : Int} (h : wp σ (Call σ d) 5 Q 0 [some (.inr (.inr a0)), some (.inl a1), none, none] [] μ) : Call σ (d + 1) 5 [.inr (.inr a0), .inl a1] μ Q := Call_go rfl (Nat.le_of_ble_eq_true rfl) rfl h
-- Hea.sentenceTime
theorem e_6 {σ : Sg} {d : Nat} {Q : QT} {μ : Mem} {a0 : Nat} {a1 : Int} (h : wp σ (Call σ d) 6 Q 0 [some (.inr (.inr a0)), some (.inl a1)] [] μ) : Call σ (d + 1) 6 [.inr (.inr a0), .inl a1] μ Q := Call_go rfl (Nat.le_of_ble_eq_true rfl) rfl h
-- Hea.total
theorem e_7 {σ : Sg} {d : Nat} {Q : QT} {μ : Mem} {a0 : Nat} (h : wp σ (Call σ d) 7 Q 0 [some (.inr (.inr a0))] [] μ) : Call σ (d + 1) 7 [.inr (.inr a0)] μ Q := Call_go rfl (Nat.le_of_ble_eq_true rfl) rfl h
-- Hea.noticeSeconds
theorem e_8 {σ : Sg} {d : Nat} {Q : QT} {μ : Mem} {a0 : Nat} (h : wp σ (Call σ d) 8 Q 0 [some (.inr (.inr a0))] [] μ) : Call σ (d + 1) 8 [.inr (.inr a0)] μ Q := Call_go rfl (Nat.le_of_ble_eq_true rfl) rfl h
-- Hea.countNotices
theorem e_9 {σ : Sg} {d : Nat} {Q : QT} {μ : Mem} {a0 : Nat} (h : wp σ (Call σ d) 9 Q 0 [some (.inr (.inr a0)), none, none] [] μ) : Call σ (d + 1) 9 [.inr (.inr a0)] μ Q := Call_go rfl (Nat.le_of_ble_eq_true rfl) rfl h
-- Hea.placeHeardAt
theorem e_10 {σ : Sg} {d : Nat} {Q : QT} {μ : Mem} {a0 : Nat} {a1 : Int} (h : wp σ (Call σ d) 10 Q 0 [some (.inr (.inr a0)), some (.inl a1), none, none] [] μ) : Call σ (d + 1) 10 [.inr (.inr a0), .inl a1] μ Q := Call_go rfl (Nat.le_of_ble_eq_true rfl) rfl h
-- Hea.copyFrom
theorem e_11 {σ : Sg} {d : Nat} {Q : QT} {μ : Mem} {a0 : Nat} {a1 : Nat} (h : wp σ (Call σ d) 11 Q 0 [some (.inr (.inr a0)), some (.inr (.inr a1))] [] μ) : Call σ (d + 1) 11 [.inr (.inr a0), .inr (.inr a1)] μ Q := Call_go rfl (Nat.le_of_ble_eq_true rfl) rfl h
-- Hea.isLike
theorem e_12 {σ : Sg} {d : Nat} {Q : QT} {μ : Mem} {a0 : Nat} {a1 : Nat} (h : wp σ (Call σ d) 12 Q 0 [some (.inr (.inr a0)), some (.inr (.inr a1)), none] [] μ) : Call σ (d + 1) 12 [.inr (.inr a0), .inr (.inr a1)] μ Q := Call_go rfl (Nat.le_of_ble_eq_true rfl) rfl h
-- His.keep
theorem e_14 {σ : Sg} {d : Nat} {Q : QT} {μ : Mem} {a0 : Nat} {a1 : Nat} (h : wp σ (Call σ d) 14 Q 0 [some (.inr (.inr a0)), some (.inr (.inr a1))] [] μ) : Call σ (d + 1) 14 [.inr (.inr a0), .inr (.inr a1)] μ Q := Call_go rfl (Nat.le_of_ble_eq_true rfl) rfl h
-- Sen.timeOf
theorem e_17 {σ : Sg} {d : Nat} {Q : QT} {μ : Mem} {a0 : Nat} {a1 : Int} (h : wp σ (Call σ d) 17 Q 0 [some (.inr (.inr a0)), some (.inl a1), none, none] [] μ) : Call σ (d + 1) 17 [.inr (.inr a0), .inl a1] μ Q := Call_go rfl (Nat.le_of_ble_eq_true rfl) rfl h
-- Sen.total
theorem e_18 {σ : Sg} {d : Nat} {Q : QT} {μ : Mem} {a0 : Nat} (h : wp σ (Call σ d) 18 Q 0 [some (.inr (.inr a0))] [] μ) : Call σ (d + 1) 18 [.inr (.inr a0)] μ Q := Call_go rfl (Nat.le_of_ble_eq_true rfl) rfl h
-- Sen.placeAtTime
theorem e_19 {σ : Sg} {d : Nat} {Q : QT} {μ : Mem} {a0 : Nat} {a1 : Int} (h : wp σ (Call σ d) 19 Q 0 [some (.inr (.inr a0)), some (.inl a1), none, none] [] μ) : Call σ (d + 1) 19 [.inr (.inr a0), .inl a1] μ Q := Call_go rfl (Nat.le_of_ble_eq_true rfl) rfl h
-- Sen.placeOf
theorem e_20 {σ : Sg} {d : Nat} {Q : QT} {μ : Mem} {a0 : Nat} {a1 : Int} (h : wp σ (Call σ d) 20 Q 0 [some (.inr (.inr a0)), some (.inl a1), none] [] μ) : Call σ (d + 1) 20 [.inr (.inr a0), .inl a1] μ Q := Call_go rfl (Nat.le_of_ble_eq_true rfl) rfl h
-- Sen.chapterOf
theorem e_21 {σ : Sg} {d : Nat} {Q : QT} {μ : Mem} {a0 : Nat} {a1 : Int} (h : wp σ (Call σ d) 21 Q 0 [some (.inr (.inr a0)), some (.inl a1), none, none] [] μ) : Call σ (d + 1) 21 [.inr (.inr a0), .inl a1] μ Q := Call_go rfl (Nat.le_of_ble_eq_true rfl) rfl h
-- Sen.chapters
theorem e_22 {σ : Sg} {d : Nat} {Q : QT} {μ : Mem} {a0 : Nat} (h : wp σ (Call σ d) 22 Q 0 [some (.inr (.inr a0))] [] μ) : Call σ (d + 1) 22 [.inr (.inr a0)] μ Q := Call_go rfl (Nat.le_of_ble_eq_true rfl) rfl h
-- Sen.firstOfChapter
theorem e_23 {σ : Sg} {d : Nat} {Q : QT} {μ : Mem} {a0 : Nat} {a1 : Int} (h : wp σ (Call σ d) 23 Q 0 [some (.inr (.inr a0)), some (.inl a1), none, none] [] μ) : Call σ (d + 1) 23 [.inr (.inr a0), .inl a1] μ Q := Call_go rfl (Nat.le_of_ble_eq_true rfl) rfl h
-- Sen.copyFrom
theorem e_24 {σ : Sg} {d : Nat} {Q : QT} {μ : Mem} {a0 : Nat} {a1 : Nat} (h : wp σ (Call σ d) 24 Q 0 [some (.inr (.inr a0)), some (.inr (.inr a1))] [] μ) : Call σ (d + 1) 24 [.inr (.inr a0), .inr (.inr a1)] μ Q := Call_go rfl (Nat.le_of_ble_eq_true rfl) rfl h
-- Sen.isLike
theorem e_25 {σ : Sg} {d : Nat} {Q : QT} {μ : Mem} {a0 : Nat} {a1 : Nat} (h : wp σ (Call σ d) 25 Q 0 [some (.inr (.inr a0)), some (.inr (.inr a1)), none] [] μ) : Call σ (d + 1) 25 [.inr (.inr a0), .inr (.inr a1)] μ Q := Call_go rfl (Nat.le_of_ble_eq_true rfl) rfl h
-- Sta.hasSentence
theorem e_27 {σ : Sg} {d : Nat} {Q : QT} {μ : Mem} {a0 : Nat} {a1 : Int} (h : wp σ (Call σ d) 27 Q 0 [some (.inr (.inr a0)), some (.inl a1)] [] μ) : Call σ (d + 1) 27 [.inr (.inr a0), .inl a1] μ Q := Call_go rfl (Nat.le_of_ble_eq_true rfl) rfl h
-- Sta.hasNotice
theorem e_28 {σ : Sg} {d : Nat} {Q : QT} {μ : Mem} {a0 : Nat} {a1 : Int} (h : wp σ (Call σ d) 28 Q 0 [some (.inr (.inr a0)), some (.inl a1)] [] μ) : Call σ (d + 1) 28 [.inr (.inr a0), .inl a1] μ Q := Call_go rfl (Nat.le_of_ble_eq_true rfl) rfl h
-- Sta.hasListener
theorem e_29 {σ : Sg} {d : Nat} {Q : QT} {μ : Mem} {a0 : Nat} {a1 : Int} (h : wp σ (Call σ d) 29 Q 0 [some (.inr (.inr a0)), some (.inl a1)] [] μ) : Call σ (d + 1) 29 [.inr (.inr a0), .inl a1] μ Q := Call_go rfl (Nat.le_of_ble_eq_true rfl) rfl h
-- Sta.isRowFull
theorem e_30 {σ : Sg} {d : Nat} {Q : QT} {μ : Mem} {a0 : Nat} {a1 : Int} (h : wp σ (Call σ d) 30 Q 0 [some (.inr (.inr a0)), some (.inl a1)] [] μ) : Call σ (d + 1) 30 [.inr (.inr a0), .inl a1] μ Q := Call_go rfl (Nat.le_of_ble_eq_true rfl) rfl h
-- Sta.inRow
theorem e_31 {σ : Sg} {d : Nat} {Q : QT} {μ : Mem} {a0 : Nat} {a1 : Int} {a2 : Int} (h : wp σ (Call σ d) 31 Q 0 [some (.inr (.inr a0)), some (.inl a1), some (.inl a2)] [] μ) : Call σ (d + 1) 31 [.inr (.inr a0), .inl a1, .inl a2] μ Q := Call_go rfl (Nat.le_of_ble_eq_true rfl) rfl h
-- Sta.appendToRow
theorem e_32 {σ : Sg} {d : Nat} {Q : QT} {μ : Mem} {a0 : Nat} {a1 : Int} {a2 : Int} (h : wp σ (Call σ d) 32 Q 0 [some (.inr (.inr a0)), some (.inl a1), some (.inl a2)] [] μ) : Call σ (d + 1) 32 [.inr (.inr a0), .inl a1, .inl a2] μ Q := Call_go rfl (Nat.le_of_ble_eq_true rfl) rfl h
-- Sta.isInRow
theorem e_33 {σ : Sg} {d : Nat} {Q : QT} {μ : Mem} {a0 : Nat} {a1 : Int} {a2 : Int} (h : wp σ (Call σ d) 33 Q 0 [some (.inr (.inr a0)), some (.inl a1), some (.inl a2), none] [] μ) : Call σ (d + 1) 33 [.inr (.inr a0), .inl a1, .inl a2] μ Q := Call_go rfl (Nat.le_of_ble_eq_true rfl) rfl h
-- Sta.countBreaksWith
theorem e_34 {σ : Sg} {d : Nat} {Q : QT} {μ : Mem} {a0 : Nat} {a1 : Int} (h : wp σ (Call σ d) 34 Q 0 [some (.inr (.inr a0)), some (.inl a1), none, none] [] μ) : Call σ (d + 1) 34 [.inr (.inr a0), .inl a1] μ Q := Call_go rfl (Nat.le_of_ble_eq_true rfl) rfl h
-- Sta.insertSentence
theorem e_35 {σ : Sg} {d : Nat} {Q : QT} {μ : Mem} {a0 : Nat} {a1 : Int} {a2 : Int} (h : wp σ (Call σ d) 35 Q 0 [some (.inr (.inr a0)), some (.inl a1), some (.inl a2), none] [] μ) : Call σ (d + 1) 35 [.inr (.inr a0), .inl a1, .inl a2] μ Q := Call_go rfl (Nat.le_of_ble_eq_true rfl) rfl h
-- Sta.removeSentence
theorem e_36 {σ : Sg} {d : Nat} {Q : QT} {μ : Mem} {a0 : Nat} {a1 : Int} (h : wp σ (Call σ d) 36 Q 0 [some (.inr (.inr a0)), some (.inl a1), none] [] μ) : Call σ (d + 1) 36 [.inr (.inr a0), .inl a1] μ Q := Call_go rfl (Nat.le_of_ble_eq_true rfl) rfl h
-- Sta.moveSentence
theorem e_37 {σ : Sg} {d : Nat} {Q : QT} {μ : Mem} {a0 : Nat} {a1 : Int} {a2 : Int} (h : wp σ (Call σ d) 37 Q 0 [some (.inr (.inr a0)), some (.inl a1), some (.inl a2)] [] μ) : Call σ (d + 1) 37 [.inr (.inr a0), .inl a1, .inl a2] μ Q := Call_go rfl (Nat.le_of_ble_eq_true rfl) rfl h
-- Sta.copyFrom
theorem e_38 {σ : Sg} {d : Nat} {Q : QT} {μ : Mem} {a0 : Nat} {a1 : Nat} (h : wp σ (Call σ d) 38 Q 0 [some (.inr (.inr a0)), some (.inr (.inr a1)), none] [] μ) : Call σ (d + 1) 38 [.inr (.inr a0), .inr (.inr a1)] μ Q := Call_go rfl (Nat.le_of_ble_eq_true rfl) rfl h
-- NS.putIn
theorem e_40 {σ : Sg} {d : Nat} {Q : QT} {μ : Mem} {a0 : Nat} {a1 : Int} {a2 : Int} (h : wp σ (Call σ d) 40 Q 0 [some (.inr (.inr a0)), some (.inl a1), some (.inl a2)] [] μ) : Call σ (d + 1) 40 [.inr (.inr a0), .inl a1, .inl a2] μ Q := Call_go rfl (Nat.le_of_ble_eq_true rfl) rfl h
-- NS.cutOut
theorem e_41 {σ : Sg} {d : Nat} {Q : QT} {μ : Mem} {a0 : Nat} {a1 : Int} (h : wp σ (Call σ d) 41 Q 0 [some (.inr (.inr a0)), some (.inl a1), none] [] μ) : Call σ (d + 1) 41 [.inr (.inr a0), .inl a1] μ Q := Call_go rfl (Nat.le_of_ble_eq_true rfl) rfl h
-- NS.change
theorem e_42 {σ : Sg} {d : Nat} {Q : QT} {μ : Mem} {a0 : Nat} {a1 : Int} {a2 : Int} (h : wp σ (Call σ d) 42 Q 0 [some (.inr (.inr a0)), some (.inl a1), some (.inl a2), none] [] μ) : Call σ (d + 1) 42 [.inr (.inr a0), .inl a1, .inl a2] μ Q := Call_go rfl (Nat.le_of_ble_eq_true rfl) rfl h
-- NS.chapter
theorem e_43 {σ : Sg} {d : Nat} {Q : QT} {μ : Mem} {a0 : Nat} {a1 : Int} {a2 : Int} (h : wp σ (Call σ d) 43 Q 0 [some (.inr (.inr a0)), some (.inl a1), some (.inl a2), none] [] μ) : Call σ (d + 1) 43 [.inr (.inr a0), .inl a1, .inl a2] μ Q := Call_go rfl (Nat.le_of_ble_eq_true rfl) rfl h
-- NS.notice
theorem e_44 {σ : Sg} {d : Nat} {Q : QT} {μ : Mem} {a0 : Nat} {a1 : Int} {a2 : Int} (h : wp σ (Call σ d) 44 Q 0 [some (.inr (.inr a0)), some (.inl a1), some (.inl a2), none] [] μ) : Call σ (d + 1) 44 [.inr (.inr a0), .inl a1, .inl a2] μ Q := Call_go rfl (Nat.le_of_ble_eq_true rfl) rfl h
-- NS.book
theorem e_45 {σ : Sg} {d : Nat} {Q : QT} {μ : Mem} {a0 : Nat} {a1 : Int} {a2 : Int} (h : wp σ (Call σ d) 45 Q 0 [some (.inr (.inr a0)), some (.inl a1), some (.inl a2)] [] μ) : Call σ (d + 1) 45 [.inr (.inr a0), .inl a1, .inl a2] μ Q := Call_go rfl (Nat.le_of_ble_eq_true rfl) rfl h
-- NS.empty
theorem e_46 {σ : Sg} {d : Nat} {Q : QT} {μ : Mem} {a0 : Nat} {a1 : Int} (h : wp σ (Call σ d) 46 Q 0 [some (.inr (.inr a0)), some (.inl a1), none] [] μ) : Call σ (d + 1) 46 [.inr (.inr a0), .inl a1] μ Q := Call_go rfl (Nat.le_of_ble_eq_true rfl) rfl h
-- NS.listener
theorem e_47 {σ : Sg} {d : Nat} {Q : QT} {μ : Mem} {a0 : Nat} {a1 : Int} {a2 : Int} (h : wp σ (Call σ d) 47 Q 0 [some (.inr (.inr a0)), some (.inl a1), some (.inl a2), none] [] μ) : Call σ (d + 1) 47 [.inr (.inr a0), .inl a1, .inl a2] μ Q := Call_go rfl (Nat.le_of_ble_eq_true rfl) rfl h
-- NS.load
theorem e_48 {σ : Sg} {d : Nat} {Q : QT} {μ : Mem} {a0 : Nat} {a1 : Int} {a2 : Int} (h : wp σ (Call σ d) 48 Q 0 [some (.inr (.inr a0)), some (.inl a1), some (.inl a2)] [] μ) : Call σ (d + 1) 48 [.inr (.inr a0), .inl a1, .inl a2] μ Q := Call_go rfl (Nat.le_of_ble_eq_true rfl) rfl h
-- NS.sentence
theorem e_49 {σ : Sg} {d : Nat} {Q : QT} {μ : Mem} {a0 : Nat} {a1 : Int} {a2 : Int} (h : wp σ (Call σ d) 49 Q 0 [some (.inr (.inr a0)), some (.inl a1), some (.inl a2)] [] μ) : Call σ (d + 1) 49 [.inr (.inr a0), .inl a1, .inl a2] μ Q := Call_go rfl (Nat.le_of_ble_eq_true rfl) rfl h
-- NS.marked
theorem e_50 {σ : Sg} {d : Nat} {Q : QT} {μ : Mem} {a0 : Nat} {a1 : Int} (h : wp σ (Call σ d) 50 Q 0 [some (.inr (.inr a0)), some (.inl a1)] [] μ) : Call σ (d + 1) 50 [.inr (.inr a0), .inl a1] μ Q := Call_go rfl (Nat.le_of_ble_eq_true rfl) rfl h
-- NS.booked
theorem e_51 {σ : Sg} {d : Nat} {Q : QT} {μ : Mem} {a0 : Nat} {a1 : Int} {a2 : Int} (h : wp σ (Call σ d) 51 Q 0 [some (.inr (.inr a0)), some (.inl a1), some (.inl a2)] [] μ) : Call σ (d + 1) 51 [.inr (.inr a0), .inl a1, .inl a2] μ Q := Call_go rfl (Nat.le_of_ble_eq_true rfl) rfl h
-- NS.ofNotice
theorem e_52 {σ : Sg} {d : Nat} {Q : QT} {μ : Mem} {a0 : Nat} {a1 : Int} {a2 : Int} (h : wp σ (Call σ d) 52 Q 0 [some (.inr (.inr a0)), some (.inl a1), some (.inl a2)] [] μ) : Call σ (d + 1) 52 [.inr (.inr a0), .inl a1, .inl a2] μ Q := Call_go rfl (Nat.le_of_ble_eq_true rfl) rfl h
-- NS.of
theorem e_53 {σ : Sg} {d : Nat} {Q : QT} {μ : Mem} {a0 : Nat} {a1 : Int} {a2 : Int} (h : wp σ (Call σ d) 53 Q 0 [some (.inr (.inr a0)), some (.inl a1), some (.inl a2)] [] μ) : Call σ (d + 1) 53 [.inr (.inr a0), .inl a1, .inl a2] μ Q := Call_go rfl (Nat.le_of_ble_eq_true rfl) rfl h
-- NS.count
theorem e_54 {σ : Sg} {d : Nat} {Q : QT} {μ : Mem} {a0 : Nat} {a1 : Int} (h : wp σ (Call σ d) 54 Q 0 [some (.inr (.inr a0)), some (.inl a1)] [] μ) : Call σ (d + 1) 54 [.inr (.inr a0), .inl a1] μ Q := Call_go rfl (Nat.le_of_ble_eq_true rfl) rfl h
-- NS.heard
theorem e_55 {σ : Sg} {d : Nat} {Q : QT} {μ : Mem} {a0 : Nat} {a1 : Int} {a2 : Int} (h : wp σ (Call σ d) 55 Q 0 [some (.inr (.inr a0)), some (.inl a1), some (.inl a2), none] [] μ) : Call σ (d + 1) 55 [.inr (.inr a0), .inl a1, .inl a2] μ Q := Call_go rfl (Nat.le_of_ble_eq_true rfl) rfl h
-- NS.whenHeard
theorem e_56 {σ : Sg} {d : Nat} {Q : QT} {μ : Mem} {a0 : Nat} {a1 : Int} {a2 : Int} (h : wp σ (Call σ d) 56 Q 0 [some (.inr (.inr a0)), some (.inl a1), some (.inl a2), none, none] [] μ) : Call σ (d + 1) 56 [.inr (.inr a0), .inl a1, .inl a2] μ Q := Call_go rfl (Nat.le_of_ble_eq_true rfl) rfl h
-- NS.heardAt
theorem e_57 {σ : Sg} {d : Nat} {Q : QT} {μ : Mem} {a0 : Nat} {a1 : Int} {a2 : Int} {a3 : Int} (h : wp σ (Call σ d) 57 Q 0 [some (.inr (.inr a0)), some (.inl a1), some (.inl a2), some (.inl a3), none, none, none, none] [] μ) : Call σ (d + 1) 57 [.inr (.inr a0), .inl a1, .inl a2, .inl a3] μ Q := Call_go rfl (Nat.le_of_ble_eq_true rfl) rfl h
-- NS.chapterAt
theorem e_58 {σ : Sg} {d : Nat} {Q : QT} {μ : Mem} {a0 : Nat} {a1 : Int} {a2 : Int} (h : wp σ (Call σ d) 58 Q 0 [some (.inr (.inr a0)), some (.inl a1), some (.inl a2), none] [] μ) : Call σ (d + 1) 58 [.inr (.inr a0), .inl a1, .inl a2] μ Q := Call_go rfl (Nat.le_of_ble_eq_true rfl) rfl h
-- NS.open
theorem e_59 {σ : Sg} {d : Nat} {Q : QT} {μ : Mem} {a0 : Nat} {a1 : Int} {a2 : Int} {a3 : Int} (h : wp σ (Call σ d) 59 Q 0 [some (.inr (.inr a0)), some (.inl a1), some (.inl a2), some (.inl a3), none, none] [] μ) : Call σ (d + 1) 59 [.inr (.inr a0), .inl a1, .inl a2, .inl a3] μ Q := Call_go rfl (Nat.le_of_ble_eq_true rfl) rfl h
-- NS.enough
theorem e_60 {σ : Sg} {d : Nat} {Q : QT} {μ : Mem} {a0 : Nat} {a1 : Int} (h : wp σ (Call σ d) 60 Q 0 [some (.inr (.inr a0)), some (.inl a1), none, none, none] [] μ) : Call σ (d + 1) 60 [.inr (.inr a0), .inl a1] μ Q := Call_go rfl (Nat.le_of_ble_eq_true rfl) rfl h
-- NS.isWithin
theorem e_61 {σ : Sg} {d : Nat} {Q : QT} {μ : Mem} {a0 : Int} {a1 : Int} {a2 : Int} (h : wp σ (Call σ d) 61 Q 0 [some (.inl a0), some (.inl a1), some (.inl a2)] [] μ) : Call σ (d + 1) 61 [.inl a0, .inl a1, .inl a2] μ Q := Call_go rfl (Nat.le_of_ble_eq_true rfl) rfl h
-- NS.asNumber
theorem e_62 {σ : Sg} {d : Nat} {Q : QT} {μ : Mem} {a0 : Int} (h : wp σ (Call σ d) 62 Q 0 [some (.inl a0)] [] μ) : Call σ (d + 1) 62 [.inl a0] μ Q := Call_go rfl (Nat.le_of_ble_eq_true rfl) rfl h
-- NS.hearingOf
theorem e_63 {σ : Sg} {d : Nat} {Q : QT} {μ : Mem} {a0 : Nat} {a1 : Int} (h : wp σ (Call σ d) 63 Q 0 [some (.inr (.inr a0)), some (.inl a1)] [] μ) : Call σ (d + 1) 63 [.inr (.inr a0), .inl a1] μ Q := Call_go rfl (Nat.le_of_ble_eq_true rfl) rfl h
-- NS.hearNow
theorem e_64 {σ : Sg} {d : Nat} {Q : QT} {μ : Mem} {a0 : Nat} {a1 : Int} {a2 : Nat} (h : wp σ (Call σ d) 64 Q 0 [some (.inr (.inr a0)), some (.inl a1), some (.inr (.inr a2)), none, none] [] μ) : Call σ (d + 1) 64 [.inr (.inr a0), .inl a1, .inr (.inr a2)] μ Q := Call_go rfl (Nat.le_of_ble_eq_true rfl) rfl h
-- NS.isOutOfDate
theorem e_65 {σ : Sg} {d : Nat} {Q : QT} {μ : Mem} {a0 : Nat} {a1 : Int} (h : wp σ (Call σ d) 65 Q 0 [some (.inr (.inr a0)), some (.inl a1)] [] μ) : Call σ (d + 1) 65 [.inr (.inr a0), .inl a1] μ Q := Call_go rfl (Nat.le_of_ble_eq_true rfl) rfl h
-- NS.outOfDateListeners
theorem e_66 {σ : Sg} {d : Nat} {Q : QT} {μ : Mem} {a0 : Nat} (h : wp σ (Call σ d) 66 Q 0 [some (.inr (.inr a0)), none, none] [] μ) : Call σ (d + 1) 66 [.inr (.inr a0)] μ Q := Call_go rfl (Nat.le_of_ble_eq_true rfl) rfl h
-- NS.longestListener
theorem e_67 {σ : Sg} {d : Nat} {Q : QT} {μ : Mem} {a0 : Nat} (h : wp σ (Call σ d) 67 Q 0 [some (.inr (.inr a0)), none, none, none, none] [] μ) : Call σ (d + 1) 67 [.inr (.inr a0)] μ Q := Call_go rfl (Nat.le_of_ble_eq_true rfl) rfl h
-- NS.chooseAll
theorem e_68 {σ : Sg} {d : Nat} {Q : QT} {μ : Mem} {a0 : Nat} {a1 : Int} {a2 : Int} (h : wp σ (Call σ d) 68 Q 0 [some (.inr (.inr a0)), some (.inl a1), some (.inl a2), none] [] μ) : Call σ (d + 1) 68 [.inr (.inr a0), .inl a1, .inl a2] μ Q := Call_go rfl (Nat.le_of_ble_eq_true rfl) rfl h
-- NS.countHearers
theorem e_69 {σ : Sg} {d : Nat} {Q : QT} {μ : Mem} {a0 : Nat} {a1 : Int} (h : wp σ (Call σ d) 69 Q 0 [some (.inr (.inr a0)), some (.inl a1), none, none] [] μ) : Call σ (d + 1) 69 [.inr (.inr a0), .inl a1] μ Q := Call_go rfl (Nat.le_of_ble_eq_true rfl) rfl h
end
section
/-! sums, first places -/
def sm (f : Nat → Int) : Nat → Int
  | 0 => 0
  | n + 1 => sm f n + f n
theorem sm_s (f : Nat → Int) (n : Nat) : sm f (n + 1) = sm f n + f n := rfl
theorem sm_0 (f : Nat → Int) : sm f 0 = 0 := rfl
theorem sm_c {f g : Nat → Int} : ∀ {n : Nat}, (∀ i, i < n → f i = g i) → sm f n = sm g n
  | 0, _ => rfl
  | n + 1, h => by rw [sm_s, sm_s, sm_c (fun i hi => h i (by omega)), h n (by omega)]
theorem sm_b {f : Nat → Int} {b : Int} : ∀ {n : Nat}, (∀ i, i < n → 0 ≤ f i ∧ f i ≤ b) → 0 ≤ sm f n ∧ sm f n ≤ b * n
  | 0, _ => ⟨Int.le_refl 0, by simp [sm]⟩
  | n + 1, h => by
    have h1 := sm_b (n := n) (fun i hi => h i (by omega))
    have h2 := h n (by omega)
    rw [sm_s, Int.natCast_succ, Int.mul_add]
    omega
theorem sm_a (f g : Nat → Int) : ∀ n : Nat, sm (fun i => f i + g i) n = sm f n + sm g n
  | 0 => rfl
  | n + 1 => by rw [sm_s, sm_s, sm_s, sm_a f g n]; omega
theorem sm_mono {f : Nat → Int} {m n : Nat} (hmn : m ≤ n) (h : ∀ i, i < n → 0 ≤ f i) : sm f m ≤ sm f n := by
  induction n with
  | zero => have : m = 0 := by omega
            rw [this]; exact Int.le_refl _
  | succ n ih =>
    rcases Nat.lt_or_ge m (n + 1) with q | q
    · have h1 := ih (by omega) (fun i hi => h i (by omega))
      have h2 := h n (by omega)
      rw [sm_s]
      omega
    · have : m = n + 1 := by omega
      rw [this]; exact Int.le_refl _
/-- the first place below n where p holds, else e -/
def fsI (p : Nat → Bool) (e : Int) (n : Nat) : Int := match (List.range n).find? p with
  | some i => (i : Int)
  | none => e
theorem fsI_s {p : Nat → Bool} {e : Int} {n i : Nat} (hi : i < n) (hp : p i = true) (hm : ∀ j, j < i → p j = false) : fsI p e n = (i : Int) := by
  have : (List.range n).find? p = some i := by
    rw [List.find?_range_eq_some]
    exact ⟨hp, List.mem_range.mpr hi, fun j hj => by rw [hm j hj]; rfl⟩
  unfold fsI
  rw [this]
theorem fsI_n {p : Nat → Bool} {e : Int} {n : Nat} (hm : ∀ j, j < n → p j = false) : fsI p e n = e := by
  have : (List.range n).find? p = none := by
    rw [List.find?_eq_none]
    intro j hj
    rw [hm j (List.mem_range.mp hj)]
    decide
  unfold fsI
  rw [this]
theorem fsI_c {p q : Nat → Bool} {e : Int} {n : Nat} (h : ∀ i, i < n → p i = q i) : fsI p e n = fsI q e n := by
  by_cases hx : ∃ i, i < n ∧ p i = true ∧ ∀ j, j < i → p j = false
  · obtain ⟨i, h1, h2, h3⟩ := hx
    rw [fsI_s h1 h2 h3, fsI_s h1 (by rw [← h i h1]; exact h2) (fun j hj => by rw [← h j (by omega)]; exact h3 j hj)]
  · have hn : ∀ j, j < n → p j = false := by
      intro j
      induction j using Nat.strongRecOn with
      | ind j ih =>
        intro hj
        cases hp : p j with
        | false => rfl
        | true => exact absurd ⟨j, hj, hp, fun k hk => ih k hk (by omega)⟩ hx
    rw [fsI_n hn, fsI_n (fun j hj => by rw [← h j hj]; exact hn j hj)]
theorem ne_a (a n : Nat) : (a = a + (n + 1)) = False := by simp
theorem ne_b (a n : Nat) : (a + (n + 1) = a) = False := by simp
-- the layout around an object
def iSen (σ : Sg) (s : Nat) : Prop := (shp σ s).1 = 4 ∧ shp σ (s + 1) = (100, 24) ∧ shp σ (s + 2) = (100, 24) ∧ shp σ (s + 3) = (100, 24) ∧ σ.2 s 0 = true ∧ σ.2 s 1 = true ∧ σ.2 s 2 = true
def iHea (σ : Sg) (h : Nat) : Prop := (shp σ h).1 = 1 ∧ iSen σ (h + 1) ∧ shp σ (h + 5) = (100, 24) ∧ shp σ (h + 6) = (100, 24) ∧ σ.2 h 0 = true ∧ σ.2 h 1 = true ∧ σ.2 h 2 = true
def iSta (σ : Sg) (S : Nat) : Prop := (shp σ S).1 = 5 ∧ iSen σ (S + 1) ∧ (shp σ (S + 5) = (100, 24) ∧ shp σ (S + 6) = (100, 96) ∧ shp σ (S + 7) = (100, 8) ∧ shp σ (S + 8) = (100, 8) ∧ shp σ (S + 9) = (100, 6) ∧ shp σ (S + 10) = (100, 6) ∧ shp σ (S + 11) = (102, 6) ∧ shp σ (S + 12) = (103, 6)) ∧ (∀ l, l < 6 → iHea σ (S + 13 + 7 * l)) ∧ (∀ j, j < 9 → σ.2 S j = true) ∧ ∀ l, l < 6 → σ.2 (S + 12) l = true
def iCho (σ : Sg) (c : Nat) : Prop := (shp σ c).1 = 0
def iHis (σ : Sg) (c : Nat) : Prop := (shp σ c).1 = 2 ∧ shp σ (c + 1) = (104, 6) ∧ σ.2 c 0 = true ∧ ∀ l, l < 6 → σ.2 (c + 1) l = true ∧ iSta σ (c + 2 + 55 * l)
def iPad (σ : Sg) (c : Nat) : Prop := (shp σ c).1 = 3 ∧ shp σ (c + 1) = (101, 60) ∧ σ.2 c 0 = true
def bI (p : Prop) [Decidable p] : Int := if p then 1 else 0
end
section
-- Sen.timeOf: blocks [0, 4, 24]
theorem k_Sen_timeOf {σ : Sg} {d : Nat} {Q : QT} {μ : Mem} {S p : Nat} (hS : iSen σ S) (hp : p ≤ 24) (h : Q (.inl (sm (μ (S + 2)) p)) μ) : Call σ (d + 1) 17 [.inr (.inr S), .inl (p : Int)] μ Q := by
  refine e_17 ?_
  obtain ⟨s0, s1, s2, s3, q0, q1, q2⟩ := hS
  have loop : ∀ k i : Nat, i + k = p → wp σ (Call σ d) 17 Q 4 [some (.inr (.inr S)), some (.inl (p : Int)), some (.inl (sm (μ (S + 2)) i)), some (.inl (i : Int))] [] μ := by
    intro k
    induction k with
    | zero =>
      intro i hi
      obtain rfl : i = p := by omega
      refine wp_go b17_4 ?_; simp only [l17_4, sg_iload_3, sg_iload_1, sg_ic_ge, sg_iload_2, sg_aload_0, sg_getfp, sg_iaload, sg_iadd, sg_istore_2, sg_iinc, ldI_3, okS_3, stL_3, sg_goto, nLg_n, nLg_i, nLg_r, tc_c, tc_l, tc_r, tc_m, tc_n, tc_o, tc_0, inR, true_and, and_true, ne_eq, not_true_eq_false, not_false_eq_true, true_imp_iff, false_imp_iff, Int.toNat_natCast, lit_a, Nat.reduceAdd, or_true, true_or, or_false, false_or, Int.reduceEq, Int.reduceNe, Int.reduceLT, Int.reduceLE, Int.reduceNeg, sg_nil]
      repeat' (first | with_reducible apply And.intro | intro _)
      all_goals (try omega)
      refine wp_go b17_24 ?_; simp only [l17_24, sg_iload_2, sg_iret0, nLg_n, nLg_i, nLg_r, tc_c, tc_l, tc_r, tc_m, tc_n, tc_o, tc_0, inR, true_and, and_true, ne_eq, not_true_eq_false, not_false_eq_true, true_imp_iff, false_imp_iff, Int.toNat_natCast, lit_a, Nat.reduceAdd, or_true, true_or, or_false, false_or, Int.reduceEq, Int.reduceNe, Int.reduceLT, Int.reduceLE, Int.reduceNeg, sg_nil]
      exact h
    | succ k ih =>
      intro i hi
      refine wp_go b17_4 ?_; simp only [l17_4, sg_iload_3, sg_iload_1, sg_ic_ge, sg_iload_2, sg_aload_0, sg_getfp, sg_iaload, sg_iadd, sg_istore_2, sg_iinc, ldI_3, okS_3, stL_3, sg_goto, nLg_n, nLg_i, nLg_r, tc_c, tc_l, tc_r, tc_m, tc_n, tc_o, tc_0, inR, true_and, and_true, ne_eq, not_true_eq_false, not_false_eq_true, true_imp_iff, false_imp_iff, Int.toNat_natCast, lit_a, Nat.reduceAdd, or_true, true_or, or_false, false_or, Int.reduceEq, Int.reduceNe, Int.reduceLT, Int.reduceLE, Int.reduceNeg, sg_nil, s0, s1, s2, s3, q0, q1, q2]
      repeat' (first | with_reducible apply And.intro | intro _)
      all_goals (try omega)
      exact ih (i + 1) (by omega)
  refine wp_go b17_0 ?_; simp only [l17_0, sg_iconst, sg_istore_2, sg_istore_3, nLg_n, nLg_i, nLg_r, tc_c, tc_l, tc_r, tc_m, tc_n, tc_o, tc_0, inR, true_and, and_true, ne_eq, not_true_eq_false, not_false_eq_true, true_imp_iff, false_imp_iff, Int.toNat_natCast, lit_a, Nat.reduceAdd, or_true, true_or, or_false, false_or, Int.reduceEq, Int.reduceNe, Int.reduceLT, Int.reduceLE, Int.reduceNeg, sg_nil]
  exact loop p 0 (by omega)
-- Sen.total: blocks [0, 8]
theorem k_Sen_total {σ : Sg} {d : Nat} {Q : QT} {μ : Mem} {S n : Nat} (hS : iSen σ S) (hn : μ S 3 = n) (hp : n ≤ 24) (h : Q (.inl (sm (μ (S + 2)) n)) μ) : Call σ (d + 2) 18 [.inr (.inr S)] μ Q := by
  refine e_18 ?_
  obtain ⟨s0, s1, s2, s3, q0, q1, q2⟩ := id hS
  refine wp_go b18_0 ?_; simp only [l18_0, sg_aload_0, sg_getf0, sg_iv2_i, len4_0, len4_1, len4_2, len4_3, len4_4, nLg_n, nLg_i, nLg_r, tc_c, tc_l, tc_r, tc_m, tc_n, tc_o, tc_0, inR, true_and, and_true, ne_eq, not_true_eq_false, not_false_eq_true, true_imp_iff, false_imp_iff, Int.toNat_natCast, lit_a, Nat.reduceAdd, or_true, true_or, or_false, false_or, Int.reduceEq, Int.reduceNe, Int.reduceLT, Int.reduceLE, Int.reduceNeg, sg_nil, s0, hn]
  refine k_Sen_timeOf hS hp ?_
  refine wp_go b18_8 ?_; simp only [l18_8, sg_iret0, nLg_n, nLg_i, nLg_r, tc_c, tc_l, tc_r, tc_m, tc_n, tc_o, tc_0, inR, true_and, and_true, ne_eq, not_true_eq_false, not_false_eq_true, true_imp_iff, false_imp_iff, Int.toNat_natCast, lit_a, Nat.reduceAdd, or_true, true_or, or_false, false_or, Int.reduceEq, Int.reduceNe, Int.reduceLT, Int.reduceLE, Int.reduceNeg, sg_nil]
  exact h
-- Sen.placeAtTime: blocks [0, 4, 28, 34]
theorem k_Sen_placeAtTime {σ : Sg} {d : Nat} {Q : QT} {μ : Mem} {S n : Nat} {t : Int} (hS : iSen σ S) (hn : μ S 3 = n) (hp : n ≤ 24) (hb : ∀ i, i < n → 0 ≤ μ (S + 2) i ∧ μ (S + 2) i ≤ 300) (ht : inR t) (h : Q (.inl (fsI (fun i => decide (t < sm (μ (S + 2)) (i + 1))) (-6) n)) μ) : Call σ (d + 1) 19 [.inr (.inr S), .inl t] μ Q := by
  refine e_19 ?_
  obtain ⟨s0, s1, s2, s3, q0, q1, q2⟩ := hS
  have ht2 := ht
  unfold inR at ht2
  have loop : ∀ k i : Nat, i + k = n → (∀ j, j < i → ¬ t < sm (μ (S + 2)) (j + 1)) → wp σ (Call σ d) 19 Q 4 [some (.inr (.inr S)), some (.inl t), some (.inl (sm (μ (S + 2)) i)), some (.inl (i : Int))] [] μ := by
    intro k
    induction k with
    | zero =>
      intro i hi hm
      obtain rfl : i = n := by omega
      rw [fsI_n (fun j hj => decide_eq_false (hm j hj))] at h
      refine wp_go b19_4 ?_; simp only [l19_4, sg_iload_3, sg_aload_0, sg_getf0, sg_ic_ge, sg_iload_2, sg_getfp, sg_iaload, sg_iadd, sg_istore_2, sg_iload_1, sg_iret0, nLg_n, nLg_i, nLg_r, tc_c, tc_l, tc_r, tc_m, tc_n, tc_o, tc_0, inR, true_and, and_true, ne_eq, not_true_eq_false, not_false_eq_true, true_imp_iff, false_imp_iff, Int.toNat_natCast, lit_a, Nat.reduceAdd, or_true, true_or, or_false, false_or, Int.reduceEq, Int.reduceNe, Int.reduceLT, Int.reduceLE, Int.reduceNeg, sg_nil, s0, hn]
      repeat' (first | with_reducible apply And.intro | (intro _) | ((first | refine wp_go b19_0 ?_ | refine wp_go b19_28 ?_ | refine wp_go b19_34 ?_); simp only [l19_0, l19_28, l19_34, sg_iconst, sg_istore_2, sg_istore_3, sg_iinc, ldI_3, okS_3, stL_3, sg_goto, sg_bipush, sg_iret0, nLg_n, nLg_i, nLg_r, tc_c, tc_l, tc_r, tc_m, tc_n, tc_o, tc_0, inR, true_and, and_true, ne_eq, not_true_eq_false, not_false_eq_true, true_imp_iff, false_imp_iff, Int.toNat_natCast, lit_a, Nat.reduceAdd, or_true, true_or, or_false, false_or, Int.reduceEq, Int.reduceNe, Int.reduceLT, Int.reduceLE, Int.reduceNeg, sg_nil]))
      all_goals (try omega)
    | succ k ih =>
      intro i hi hm
      have b1 := sm_b (f := μ (S + 2)) (n := i + 1) (fun j hj => hb j (by omega))
      rw [sm_s] at b1
      refine wp_go b19_4 ?_; simp only [l19_4, sg_iload_3, sg_aload_0, sg_getf0, sg_ic_ge, sg_iload_2, sg_getfp, sg_iaload, sg_iadd, sg_istore_2, sg_iload_1, sg_iret0, nLg_n, nLg_i, nLg_r, tc_c, tc_l, tc_r, tc_m, tc_n, tc_o, tc_0, inR, true_and, and_true, ne_eq, not_true_eq_false, not_false_eq_true, true_imp_iff, false_imp_iff, Int.toNat_natCast, lit_a, Nat.reduceAdd, or_true, true_or, or_false, false_or, Int.reduceEq, Int.reduceNe, Int.reduceLT, Int.reduceLE, Int.reduceNeg, sg_nil, s0, s1, s2, s3, q0, q1, q2, hn]
      repeat' (first | with_reducible apply And.intro | (intro _) | ((first | refine wp_go b19_0 ?_ | refine wp_go b19_28 ?_ | refine wp_go b19_34 ?_); simp only [l19_0, l19_28, l19_34, sg_iconst, sg_istore_2, sg_istore_3, sg_iinc, ldI_3, okS_3, stL_3, sg_goto, sg_bipush, sg_iret0, nLg_n, nLg_i, nLg_r, tc_c, tc_l, tc_r, tc_m, tc_n, tc_o, tc_0, inR, true_and, and_true, ne_eq, not_true_eq_false, not_false_eq_true, true_imp_iff, false_imp_iff, Int.toNat_natCast, lit_a, Nat.reduceAdd, or_true, true_or, or_false, false_or, Int.reduceEq, Int.reduceNe, Int.reduceLT, Int.reduceLE, Int.reduceNeg, sg_nil]))
      all_goals (try omega)
      · rw [fsI_s (i := i) (by omega) (decide_eq_true (by rw [sm_s]; assumption)) (fun j hj => decide_eq_false (hm j hj))] at h
        exact h
      · exact ih (i + 1) (by omega) (fun j hj => by
          rcases Nat.lt_or_ge j i with q | q
          · exact hm j q
          · have : j = i := by omega
            subst this; rw [sm_s]; omega)
  refine wp_go b19_0 ?_; simp only [l19_0, sg_iconst, sg_istore_2, sg_istore_3, nLg_n, nLg_i, nLg_r, tc_c, tc_l, tc_r, tc_m, tc_n, tc_o, tc_0, inR, true_and, and_true, ne_eq, not_true_eq_false, not_false_eq_true, true_imp_iff, false_imp_iff, Int.toNat_natCast, lit_a, Nat.reduceAdd, or_true, true_or, or_false, false_or, Int.reduceEq, Int.reduceNe, Int.reduceLT, Int.reduceLE, Int.reduceNeg, sg_nil]
  exact loop n 0 (by omega) (fun j hj => absurd hj (by omega))
-- Sen.placeOf: blocks [0, 2, 22, 28]
theorem k_Sen_placeOf {σ : Sg} {d : Nat} {Q : QT} {μ : Mem} {S n : Nat} {t : Int} (hS : iSen σ S) (hn : μ S 3 = n) (hp : n ≤ 24) (hb : ∀ i, i < n → inR (μ (S + 1) i)) (ht : inR t) (h : Q (.inl (fsI (fun i => decide (μ (S + 1) i = t)) (-1) n)) μ) : Call σ (d + 1) 20 [.inr (.inr S), .inl t] μ Q := by
  refine e_20 ?_
  obtain ⟨s0, s1, s2, s3, q0, q1, q2⟩ := hS
  have ht2 := ht
  unfold inR at ht2
  have loop : ∀ k i : Nat, i + k = n → (∀ j, j < i → ¬ μ (S + 1) j = t) → wp σ (Call σ d) 20 Q 2 [some (.inr (.inr S)), some (.inl t), some (.inl (i : Int))] [] μ := by
    intro k
    induction k with
    | zero =>
      intro i hi hm
      obtain rfl : i = n := by omega
      rw [fsI_n (fun j hj => decide_eq_false (hm j hj))] at h
      refine wp_go b20_2 ?_; simp only [l20_2, sg_iload_2, sg_aload_0, sg_getf0, sg_ic_ge, sg_getfp, sg_iaload, sg_iload_1, sg_ic_ne, sg_iret0, nLg_n, nLg_i, nLg_r, tc_c, tc_l, tc_r, tc_m, tc_n, tc_o, tc_0, inR, true_and, and_true, ne_eq, not_true_eq_false, not_false_eq_true, true_imp_iff, false_imp_iff, Int.toNat_natCast, lit_a, Nat.reduceAdd, or_true, true_or, or_false, false_or, Int.reduceEq, Int.reduceNe, Int.reduceLT, Int.reduceLE, Int.reduceNeg, sg_nil, s0, hn]
      repeat' (first | with_reducible apply And.intro | (intro _) | ((first | refine wp_go b20_0 ?_ | refine wp_go b20_22 ?_ | refine wp_go b20_28 ?_); simp only [l20_0, l20_22, l20_28, sg_iconst, sg_istore_2, sg_iinc, ldI_2, okS_2, stL_2, sg_goto, sg_iret0, nLg_n, nLg_i, nLg_r, tc_c, tc_l, tc_r, tc_m, tc_n, tc_o, tc_0, inR, true_and, and_true, ne_eq, not_true_eq_false, not_false_eq_true, true_imp_iff, false_imp_iff, Int.toNat_natCast, lit_a, Nat.reduceAdd, or_true, true_or, or_false, false_or, Int.reduceEq, Int.reduceNe, Int.reduceLT, Int.reduceLE, Int.reduceNeg, sg_nil]))
      all_goals (try omega)
    | succ k ih =>
      intro i hi hm
      have b1 := hb i (by omega)
      unfold inR at b1
      refine wp_go b20_2 ?_; simp only [l20_2, sg_iload_2, sg_aload_0, sg_getf0, sg_ic_ge, sg_getfp, sg_iaload, sg_iload_1, sg_ic_ne, sg_iret0, nLg_n, nLg_i, nLg_r, tc_c, tc_l, tc_r, tc_m, tc_n, tc_o, tc_0, inR, true_and, and_true, ne_eq, not_true_eq_false, not_false_eq_true, true_imp_iff, false_imp_iff, Int.toNat_natCast, lit_a, Nat.reduceAdd, or_true, true_or, or_false, false_or, Int.reduceEq, Int.reduceNe, Int.reduceLT, Int.reduceLE, Int.reduceNeg, sg_nil, s0, s1, s2, s3, q0, q1, q2, hn]
      repeat' (first | with_reducible apply And.intro | (intro _) | ((first | refine wp_go b20_0 ?_ | refine wp_go b20_22 ?_ | refine wp_go b20_28 ?_); simp only [l20_0, l20_22, l20_28, sg_iconst, sg_istore_2, sg_iinc, ldI_2, okS_2, stL_2, sg_goto, sg_iret0, nLg_n, nLg_i, nLg_r, tc_c, tc_l, tc_r, tc_m, tc_n, tc_o, tc_0, inR, true_and, and_true, ne_eq, not_true_eq_false, not_false_eq_true, true_imp_iff, false_imp_iff, Int.toNat_natCast, lit_a, Nat.reduceAdd, or_true, true_or, or_false, false_or, Int.reduceEq, Int.reduceNe, Int.reduceLT, Int.reduceLE, Int.reduceNeg, sg_nil]))
      all_goals (try omega)
      · rw [fsI_s (i := i) (by omega) (decide_eq_true (by assumption)) (fun j hj => decide_eq_false (hm j hj))] at h
        exact h
      · exact ih (i + 1) (by omega) (fun j hj => by
          rcases Nat.lt_or_ge j i with q | q
          · exact hm j q
          · have : j = i := by omega
            subst this; assumption)
  refine wp_go b20_0 ?_; simp only [l20_0, sg_iconst, sg_istore_2, nLg_n, nLg_i, nLg_r, tc_c, tc_l, tc_r, tc_m, tc_n, tc_o, tc_0, inR, true_and, and_true, ne_eq, not_true_eq_false, not_false_eq_true, true_imp_iff, false_imp_iff, Int.toNat_natCast, lit_a, Nat.reduceAdd, or_true, true_or, or_false, false_or, Int.reduceEq, Int.reduceNe, Int.reduceLT, Int.reduceLE, Int.reduceNeg, sg_nil]
  exact loop n 0 (by omega) (fun j hj => absurd hj (by omega))
-- Sen.chapterOf: blocks [0, 4, 24]
theorem k_Sen_chapterOf {σ : Sg} {d : Nat} {Q : QT} {μ : Mem} {S p : Nat} (hS : iSen σ S) (hp : p < 24) (h : Q (.inl (sm (fun i => μ (S + 3) (i + 1)) p)) μ) : Call σ (d + 1) 21 [.inr (.inr S), .inl (p : Int)] μ Q := by
  refine e_21 ?_
  obtain ⟨s0, s1, s2, s3, q0, q1, q2⟩ := hS
  have loop : ∀ k i : Nat, i + k = p → wp σ (Call σ d) 21 Q 4 [some (.inr (.inr S)), some (.inl (p : Int)), some (.inl (sm (fun i => μ (S + 3) (i + 1)) i)), some (.inl ((i + 1 : Nat) : Int))] [] μ := by
    intro k
    induction k with
    | zero =>
      intro i hi
      obtain rfl : i = p := by omega
      refine wp_go b21_4 ?_; simp only [l21_4, sg_iload_3, sg_iload_1, sg_ic_gt, sg_iload_2, sg_aload_0, sg_getfp, sg_iaload, sg_iadd, sg_istore_2, sg_iinc, ldI_3, okS_3, stL_3, sg_goto, nLg_n, nLg_i, nLg_r, tc_c, tc_l, tc_r, tc_m, tc_n, tc_o, tc_0, inR, true_and, and_true, ne_eq, not_true_eq_false, not_false_eq_true, true_imp_iff, false_imp_iff, Int.toNat_natCast, lit_a, Nat.reduceAdd, or_true, true_or, or_false, false_or, Int.reduceEq, Int.reduceNe, Int.reduceLT, Int.reduceLE, Int.reduceNeg, sg_nil]
      repeat' (first | with_reducible apply And.intro | (intro _) | ((first | refine wp_go b21_0 ?_ | refine wp_go b21_24 ?_); simp only [l21_0, l21_24, sg_iconst, sg_istore_2, sg_istore_3, sg_iload_2, sg_iret0, nLg_n, nLg_i, nLg_r, tc_c, tc_l, tc_r, tc_m, tc_n, tc_o, tc_0, inR, true_and, and_true, ne_eq, not_true_eq_false, not_false_eq_true, true_imp_iff, false_imp_iff, Int.toNat_natCast, lit_a, Nat.reduceAdd, or_true, true_or, or_false, false_or, Int.reduceEq, Int.reduceNe, Int.reduceLT, Int.reduceLE, Int.reduceNeg, sg_nil]))
      all_goals (try omega)
    | succ k ih =>
      intro i hi
      refine wp_go b21_4 ?_; simp only [l21_4, sg_iload_3, sg_iload_1, sg_ic_gt, sg_iload_2, sg_aload_0, sg_getfp, sg_iaload, sg_iadd, sg_istore_2, sg_iinc, ldI_3, okS_3, stL_3, sg_goto, nLg_n, nLg_i, nLg_r, tc_c, tc_l, tc_r, tc_m, tc_n, tc_o, tc_0, inR, true_and, and_true, ne_eq, not_true_eq_false, not_false_eq_true, true_imp_iff, false_imp_iff, Int.toNat_natCast, lit_a, Nat.reduceAdd, or_true, true_or, or_false, false_or, Int.reduceEq, Int.reduceNe, Int.reduceLT, Int.reduceLE, Int.reduceNeg, sg_nil, s0, s1, s2, s3, q0, q1, q2]
      repeat' (first | with_reducible apply And.intro | (intro _) | ((first | refine wp_go b21_0 ?_ | refine wp_go b21_24 ?_); simp only [l21_0, l21_24, sg_iconst, sg_istore_2, sg_istore_3, sg_iload_2, sg_iret0, nLg_n, nLg_i, nLg_r, tc_c, tc_l, tc_r, tc_m, tc_n, tc_o, tc_0, inR, true_and, and_true, ne_eq, not_true_eq_false, not_false_eq_true, true_imp_iff, false_imp_iff, Int.toNat_natCast, lit_a, Nat.reduceAdd, or_true, true_or, or_false, false_or, Int.reduceEq, Int.reduceNe, Int.reduceLT, Int.reduceLE, Int.reduceNeg, sg_nil]))
      all_goals (try omega)
      exact ih (i + 1) (by omega)
  refine wp_go b21_0 ?_; simp only [l21_0, sg_iconst, sg_istore_2, sg_istore_3, nLg_n, nLg_i, nLg_r, tc_c, tc_l, tc_r, tc_m, tc_n, tc_o, tc_0, inR, true_and, and_true, ne_eq, not_true_eq_false, not_false_eq_true, true_imp_iff, false_imp_iff, Int.toNat_natCast, lit_a, Nat.reduceAdd, or_true, true_or, or_false, false_or, Int.reduceEq, Int.reduceNe, Int.reduceLT, Int.reduceLE, Int.reduceNeg, sg_nil]
  exact loop p 0 (by omega)
-- Sen.chapters: blocks [0, 10]
theorem k_Sen_chapters {σ : Sg} {d : Nat} {Q : QT} {μ : Mem} {S n : Nat} (hS : iSen σ S) (hn : μ S 3 = ((n + 1 : Nat) : Int)) (hp : n < 24) (h : Q (.inl (sm (fun i => μ (S + 3) (i + 1)) n + 1)) μ) : Call σ (d + 2) 22 [.inr (.inr S)] μ Q := by
  refine e_22 ?_
  obtain ⟨s0, s1, s2, s3, q0, q1, q2⟩ := id hS
  have e : ((n + 1 : Nat) : Int) - 1 = (n : Int) := by omega
  refine wp_go b22_0 ?_; simp only [l22_0, sg_aload_0, sg_getf0, sg_iconst, sg_isub, sg_iv2_i, len4_0, len4_1, len4_2, len4_3, len4_4, nLg_n, nLg_i, nLg_r, tc_c, tc_l, tc_r, tc_m, tc_n, tc_o, tc_0, inR, true_and, and_true, ne_eq, not_true_eq_false, not_false_eq_true, true_imp_iff, false_imp_iff, Int.toNat_natCast, lit_a, Nat.reduceAdd, or_true, true_or, or_false, false_or, Int.reduceEq, Int.reduceNe, Int.reduceLT, Int.reduceLE, Int.reduceNeg, sg_nil, s0, hn, e]
  refine k_Sen_chapterOf hS hp ?_
  refine wp_go b22_10 ?_; simp only [l22_10, sg_iconst, sg_iadd, sg_iret0, nLg_n, nLg_i, nLg_r, tc_c, tc_l, tc_r, tc_m, tc_n, tc_o, tc_0, inR, true_and, and_true, ne_eq, not_true_eq_false, not_false_eq_true, true_imp_iff, false_imp_iff, Int.toNat_natCast, lit_a, Nat.reduceAdd, or_true, true_or, or_false, false_or, Int.reduceEq, Int.reduceNe, Int.reduceLT, Int.reduceLE, Int.reduceNeg, sg_nil]
  exact h
-- Sen.firstOfChapter: blocks [0, 4, 28, 34]
theorem k_Sen_firstOfChapter {σ : Sg} {d : Nat} {Q : QT} {μ : Mem} {S n : Nat} {t : Int} (hS : iSen σ S) (hn : μ S 3 = n) (hp : n ≤ 24) (hb : ∀ i, i < n → 0 ≤ μ (S + 3) i ∧ μ (S + 3) i ≤ 1) (ht : inR t) (h : Q (.inl (fsI (fun i => decide (t < sm (μ (S + 3)) (i + 1))) 0 n)) μ) : Call σ (d + 1) 23 [.inr (.inr S), .inl t] μ Q := by
  refine e_23 ?_
  obtain ⟨s0, s1, s2, s3, q0, q1, q2⟩ := hS
  have ht2 := ht
  unfold inR at ht2
  have loop : ∀ k i : Nat, i + k = n → (∀ j, j < i → ¬ t < sm (μ (S + 3)) (j + 1)) → wp σ (Call σ d) 23 Q 4 [some (.inr (.inr S)), some (.inl t), some (.inl (sm (μ (S + 3)) i)), some (.inl (i : Int))] [] μ := by
    intro k
    induction k with
    | zero =>
      intro i hi hm
      obtain rfl : i = n := by omega
      rw [fsI_n (fun j hj => decide_eq_false (hm j hj))] at h
      refine wp_go b23_4 ?_; simp only [l23_4, sg_iload_3, sg_aload_0, sg_getf0, sg_ic_ge, sg_iload_2, sg_getfp, sg_iaload, sg_iadd, sg_istore_2, sg_iload_1, sg_ic_le, sg_iret0, nLg_n, nLg_i, nLg_r, tc_c, tc_l, tc_r, tc_m, tc_n, tc_o, tc_0, inR, true_and, and_true, ne_eq, not_true_eq_false, not_false_eq_true, true_imp_iff, false_imp_iff, Int.toNat_natCast, lit_a, Nat.reduceAdd, or_true, true_or, or_false, false_or, Int.reduceEq, Int.reduceNe, Int.reduceLT, Int.reduceLE, Int.reduceNeg, sg_nil, s0, hn]
      repeat' (first | with_reducible apply And.intro | (intro _) | ((first | refine wp_go b23_0 ?_ | refine wp_go b23_28 ?_ | refine wp_go b23_34 ?_); simp only [l23_0, l23_28, l23_34, sg_iconst, sg_istore_2, sg_istore_3, sg_iinc, ldI_3, okS_3, stL_3, sg_goto, sg_iret0, nLg_n, nLg_i, nLg_r, tc_c, tc_l, tc_r, tc_m, tc_n, tc_o, tc_0, inR, true_and, and_true, ne_eq, not_true_eq_false, not_false_eq_true, true_imp_iff, false_imp_iff, Int.toNat_natCast, lit_a, Nat.reduceAdd, or_true, true_or, or_false, false_or, Int.reduceEq, Int.reduceNe, Int.reduceLT, Int.reduceLE, Int.reduceNeg, sg_nil]))
      all_goals (try omega)
    | succ k ih =>
      intro i hi hm
      have b1 := sm_b (f := μ (S + 3)) (n := i + 1) (fun j hj => hb j (by omega))
      rw [sm_s] at b1
      refine wp_go b23_4 ?_; simp only [l23_4, sg_iload_3, sg_aload_0, sg_getf0, sg_ic_ge, sg_iload_2, sg_getfp, sg_iaload, sg_iadd, sg_istore_2, sg_iload_1, sg_ic_le, sg_iret0, nLg_n, nLg_i, nLg_r, tc_c, tc_l, tc_r, tc_m, tc_n, tc_o, tc_0, inR, true_and, and_true, ne_eq, not_true_eq_false, not_false_eq_true, true_imp_iff, false_imp_iff, Int.toNat_natCast, lit_a, Nat.reduceAdd, or_true, true_or, or_false, false_or, Int.reduceEq, Int.reduceNe, Int.reduceLT, Int.reduceLE, Int.reduceNeg, sg_nil, s0, s1, s2, s3, q0, q1, q2, hn]
      repeat' (first | with_reducible apply And.intro | (intro _) | ((first | refine wp_go b23_0 ?_ | refine wp_go b23_28 ?_ | refine wp_go b23_34 ?_); simp only [l23_0, l23_28, l23_34, sg_iconst, sg_istore_2, sg_istore_3, sg_iinc, ldI_3, okS_3, stL_3, sg_goto, sg_iret0, nLg_n, nLg_i, nLg_r, tc_c, tc_l, tc_r, tc_m, tc_n, tc_o, tc_0, inR, true_and, and_true, ne_eq, not_true_eq_false, not_false_eq_true, true_imp_iff, false_imp_iff, Int.toNat_natCast, lit_a, Nat.reduceAdd, or_true, true_or, or_false, false_or, Int.reduceEq, Int.reduceNe, Int.reduceLT, Int.reduceLE, Int.reduceNeg, sg_nil]))
      all_goals (try omega)
      · rw [fsI_s (i := i) (by omega) (decide_eq_true (by rw [sm_s]; assumption)) (fun j hj => decide_eq_false (hm j hj))] at h
        exact h
      · exact ih (i + 1) (by omega) (fun j hj => by
          rcases Nat.lt_or_ge j i with q | q
          · exact hm j q
          · have : j = i := by omega
            subst this; rw [sm_s]; omega)
  refine wp_go b23_0 ?_; simp only [l23_0, sg_iconst, sg_istore_2, sg_istore_3, nLg_n, nLg_i, nLg_r, tc_c, tc_l, tc_r, tc_m, tc_n, tc_o, tc_0, inR, true_and, and_true, ne_eq, not_true_eq_false, not_false_eq_true, true_imp_iff, false_imp_iff, Int.toNat_natCast, lit_a, Nat.reduceAdd, or_true, true_or, or_false, false_or, Int.reduceEq, Int.reduceNe, Int.reduceLT, Int.reduceLE, Int.reduceNeg, sg_nil]
  exact loop n 0 (by omega) (fun j hj => absurd hj (by omega))
-- Sen.copyFrom: blocks [0]
theorem k_Sen_copyFrom {σ : Sg} {d : Nat} {Q : QT} {μ : Mem} {S o n : Nat} (hS : iSen σ S) (hO : iSen σ o) (hd : S + 4 ≤ o ∨ o + 4 ≤ S) (hn : μ o 3 = n) (hp : n ≤ 24)
    (h : ∀ μ' : Mem, (∀ k, k < S ∨ S + 4 ≤ k → μ' k = μ k) → μ' S 3 = n → (∀ i, i < n → μ' (S + 1) i = μ (o + 1) i ∧ μ' (S + 2) i = μ (o + 2) i ∧ μ' (S + 3) i = μ (o + 3) i) → Q (.inl 0) μ') : Call σ (d + 1) 24 [.inr (.inr S), .inr (.inr o)] μ Q := by
  refine e_24 ?_
  obtain ⟨s0, s1, s2, s3, q0, q1, q2⟩ := hS
  obtain ⟨o0, o1, o2, o3, p0, p1, p2⟩ := hO
  refine wp_go b24_0 ?_; simp only [l24_0, sg_aload_0, sg_aload_1, sg_getf0, sg_putf0, sg_getfp, sg_iconst, len4_0, len4_1, len4_2, len4_3, len4_4, sg_acopy, sg_ret, nLg_n, nLg_i, nLg_r, tc_c, tc_l, tc_r, tc_m, tc_n, tc_o, tc_0, inR, true_and, and_true, ne_eq, not_true_eq_false, not_false_eq_true, true_imp_iff, false_imp_iff, Int.toNat_natCast, lit_a, Nat.reduceAdd, or_true, true_or, or_false, false_or, Int.reduceEq, Int.reduceNe, Int.reduceLT, Int.reduceLE, Int.reduceNeg, sg_nil, s0, s1, s2, s3, q0, q1, q2, o0, o1, o2, o3, p0, p1, p2, hn, ms_at, mcp_at, ne_a, ne_b, false_and, if_false, if_true, and_self, Int.toNat_zero, Nat.add_left_cancel_iff, Nat.reduceEqDiff]
  repeat' (first | with_reducible apply And.intro | (intro _) | ((first | refine wp_go b24_0 ?_); simp only [l24_0, sg_aload_0, sg_aload_1, sg_getf0, sg_putf0, sg_getfp, sg_iconst, len4_0, len4_1, len4_2, len4_3, len4_4, sg_acopy, sg_ret, nLg_n, nLg_i, nLg_r, tc_c, tc_l, tc_r, tc_m, tc_n, tc_o, tc_0, inR, true_and, and_true, ne_eq, not_true_eq_false, not_false_eq_true, true_imp_iff, false_imp_iff, Int.toNat_natCast, lit_a, Nat.reduceAdd, or_true, true_or, or_false, false_or, Int.reduceEq, Int.reduceNe, Int.reduceLT, Int.reduceLE, Int.reduceNeg, sg_nil]))
  all_goals (try omega)
  refine h _ (fun k hk => ?_) ?_ (fun i hi => ⟨?_, ?_, ?_⟩)
  · funext j
    simp only [mcp_at, ms_at]
    repeat rw [if_neg (by omega)]
  all_goals simp only [mcp_at, ms_at, Nat.zero_add, Nat.sub_zero, true_and, and_true, if_true]
  all_goals repeat (first | rw [if_neg (by omega)] | rw [if_pos (by omega)])
-- Sen.isLike: blocks [0, 13, 15, 68, 70, 76]
theorem k_Sen_isLike {σ : Sg} {d : Nat} {Q : QT} {μ : Mem} {S o n n' : Nat} (hS : iSen σ S) (hO : iSen σ o) (hn : μ S 3 = n) (hn' : μ o 3 = n') (hp : n ≤ 24) (hp' : n' ≤ 24)
    (hr : ∀ i, i < n → inR (μ (S + 1) i) ∧ inR (μ (S + 2) i) ∧ inR (μ (S + 3) i)) (hr' : ∀ i, i < n' → inR (μ (o + 1) i) ∧ inR (μ (o + 2) i) ∧ inR (μ (o + 3) i))
    (h1 : n = n' → (∀ i, i < n → μ (S + 1) i = μ (o + 1) i ∧ μ (S + 2) i = μ (o + 2) i ∧ μ (S + 3) i = μ (o + 3) i) → Q (.inl 1) μ)
    (h0 : ¬ (n = n' ∧ ∀ i, i < n → μ (S + 1) i = μ (o + 1) i ∧ μ (S + 2) i = μ (o + 2) i ∧ μ (S + 3) i = μ (o + 3) i) → Q (.inl 0) μ) : Call σ (d + 1) 25 [.inr (.inr S), .inr (.inr o)] μ Q := by
  refine e_25 ?_
  obtain ⟨s0, s1, s2, s3, q0, q1, q2⟩ := hS
  obtain ⟨o0, o1, o2, o3, p0, p1, p2⟩ := hO
  have loop : n = n' → ∀ k i : Nat, i + k = n → (∀ j, j < i → μ (S + 1) j = μ (o + 1) j ∧ μ (S + 2) j = μ (o + 2) j ∧ μ (S + 3) j = μ (o + 3) j) → wp σ (Call σ d) 25 Q 15 [some (.inr (.inr S)), some (.inr (.inr o)), some (.inl (i : Int))] [] μ := by
    intro hnn k
    induction k with
    | zero =>
      intro i hi hm
      obtain rfl : i = n := by omega
      have h1 := h1 hnn hm
      refine wp_go b25_15 ?_; simp only [l25_15, sg_iload_2, sg_aload_0, sg_getf0, sg_ic_ge, sg_getfp, sg_iaload, sg_aload_1, sg_ic_ne, sg_ic_eq, nLg_n, nLg_i, nLg_r, tc_c, tc_l, tc_r, tc_m, tc_n, tc_o, tc_0, inR, true_and, and_true, ne_eq, not_true_eq_false, not_false_eq_true, true_imp_iff, false_imp_iff, Int.toNat_natCast, lit_a, Nat.reduceAdd, or_true, true_or, or_false, false_or, Int.reduceEq, Int.reduceNe, Int.reduceLT, Int.reduceLE, Int.reduceNeg, sg_nil, s0, hn]
      repeat' (first | with_reducible apply And.intro | (intro _) | ((first | refine wp_go b25_0 ?_ | refine wp_go b25_13 ?_ | refine wp_go b25_68 ?_ | refine wp_go b25_70 ?_ | refine wp_go b25_76 ?_); simp only [l25_0, l25_13, l25_68, l25_70, l25_76, sg_aload_0, sg_getf0, sg_aload_1, sg_ic_eq, sg_iconst, sg_iret1, sg_istore_2, sg_iinc, ldI_2, okS_2, stL_2, sg_goto, nLg_n, nLg_i, nLg_r, tc_c, tc_l, tc_r, tc_m, tc_n, tc_o, tc_0, inR, true_and, and_true, ne_eq, not_true_eq_false, not_false_eq_true, true_imp_iff, false_imp_iff, Int.toNat_natCast, lit_a, Nat.reduceAdd, or_true, true_or, or_false, false_or, Int.reduceEq, Int.reduceNe, Int.reduceLT, Int.reduceLE, Int.reduceNeg, sg_nil]))
      all_goals (try omega)
    | succ k ih =>
      intro i hi hm
      obtain ⟨r1, r2, r3⟩ := hr i (by omega)
      obtain ⟨r4, r5, r6⟩ := hr' i (by omega)
      unfold inR at r1 r2 r3 r4 r5 r6
      refine wp_go b25_15 ?_; simp only [l25_15, sg_iload_2, sg_aload_0, sg_getf0, sg_ic_ge, sg_getfp, sg_iaload, sg_aload_1, sg_ic_ne, sg_ic_eq, nLg_n, nLg_i, nLg_r, tc_c, tc_l, tc_r, tc_m, tc_n, tc_o, tc_0, inR, true_and, and_true, ne_eq, not_true_eq_false, not_false_eq_true, true_imp_iff, false_imp_iff, Int.toNat_natCast, lit_a, Nat.reduceAdd, or_true, true_or, or_false, false_or, Int.reduceEq, Int.reduceNe, Int.reduceLT, Int.reduceLE, Int.reduceNeg, sg_nil, s0, s1, s2, s3, q0, q1, q2, o0, o1, o2, o3, p0, p1, p2, hn]
      repeat' (first | with_reducible apply And.intro | (intro _) | ((first | refine wp_go b25_0 ?_ | refine wp_go b25_13 ?_ | refine wp_go b25_68 ?_ | refine wp_go b25_70 ?_ | refine wp_go b25_76 ?_); simp only [l25_0, l25_13, l25_68, l25_70, l25_76, sg_aload_0, sg_getf0, sg_aload_1, sg_ic_eq, sg_iconst, sg_iret1, sg_istore_2, sg_iinc, ldI_2, okS_2, stL_2, sg_goto, nLg_n, nLg_i, nLg_r, tc_c, tc_l, tc_r, tc_m, tc_n, tc_o, tc_0, inR, true_and, and_true, ne_eq, not_true_eq_false, not_false_eq_true, true_imp_iff, false_imp_iff, Int.toNat_natCast, lit_a, Nat.reduceAdd, or_true, true_or, or_false, false_or, Int.reduceEq, Int.reduceNe, Int.reduceLT, Int.reduceLE, Int.reduceNeg, sg_nil]))
      all_goals (try omega)
      all_goals first
        | exact ih (i + 1) (by omega) (fun j hj => by
            rcases Nat.lt_or_ge j i with q | q
            · exact hm j q
            · have : j = i := by omega
              subst this; exact ⟨by omega, by omega, by omega⟩)
        | exact h0 (fun q => by have := q.2 i (by omega); omega)
  refine wp_go b25_0 ?_; simp only [l25_0, sg_aload_0, sg_getf0, sg_aload_1, sg_ic_eq, sg_iconst, sg_iret1, nLg_n, nLg_i, nLg_r, tc_c, tc_l, tc_r, tc_m, tc_n, tc_o, tc_0, inR, true_and, and_true, ne_eq, not_true_eq_false, not_false_eq_true, true_imp_iff, false_imp_iff, Int.toNat_natCast, lit_a, Nat.reduceAdd, or_true, true_or, or_false, false_or, Int.reduceEq, Int.reduceNe, Int.reduceLT, Int.reduceLE, Int.reduceNeg, sg_nil, s0, o0, hn, hn']
  repeat' (first | with_reducible apply And.intro | (intro _) | ((first | refine wp_go b25_0 ?_ | refine wp_go b25_13 ?_ | refine wp_go b25_68 ?_ | refine wp_go b25_70 ?_ | refine wp_go b25_76 ?_); simp only [l25_0, l25_13, l25_68, l25_70, l25_76, sg_aload_0, sg_getf0, sg_aload_1, sg_ic_eq, sg_iconst, sg_iret1, sg_istore_2, sg_iinc, ldI_2, okS_2, stL_2, sg_goto, nLg_n, nLg_i, nLg_r, tc_c, tc_l, tc_r, tc_m, tc_n, tc_o, tc_0, inR, true_and, and_true, ne_eq, not_true_eq_false, not_false_eq_true, true_imp_iff, false_imp_iff, Int.toNat_natCast, lit_a, Nat.reduceAdd, or_true, true_or, or_false, false_or, Int.reduceEq, Int.reduceNe, Int.reduceLT, Int.reduceLE, Int.reduceNeg, sg_nil]))
  all_goals (try omega)
  · exact loop (by omega) n 0 (by omega) (fun j hj => absurd hj (by omega))
  · exact h0 (fun q => by omega)
end
section
/-! THE ABSTRACT STATE: a row z of numbers (n, next mark, notices, listeners; sentences at 4 + 3i: mark, length, begins; rows at 76 + 5i: how many, then the notices; notices at 196 + 2i: length, groups; listeners at 212 + 3l: group, bound, file; files at 230 + 121l), a hearing w (how many; at 5i + 1: notice, its length, mark, length, begins) -/
abbrev Rw : Type := Nat → Int
def fw (z : Rw) (l : Nat) : Rw := fun k => z (230 + 121 * l + k)
def HR (w : Rw) (μ : Mem) (h : Nat) : Prop := μ (h + 1) 3 = w 0 ∧ ∀ i : Nat, (i : Int) < w 0 → μ (h + 2) i = w (5 * i + 3) ∧ μ (h + 3) i = w (5 * i + 4) ∧ μ (h + 4) i = w (5 * i + 5) ∧ μ (h + 5) i = w (5 * i + 1) ∧ μ (h + 6) i = w (5 * i + 2)
def RC (z : Rw) (μ : Mem) (S : Nat) : Prop :=
  (μ (S + 1) 3 = z 0 ∧ μ S 9 = z 1 ∧ μ S 10 = z 2 ∧ μ S 11 = z 3) ∧
  (∀ i : Nat, (i : Int) < z 0 → μ (S + 2) i = z (4 + 3 * i) ∧ μ (S + 3) i = z (5 + 3 * i) ∧ μ (S + 4) i = z (6 + 3 * i) ∧ μ (S + 5) i = z (76 + 5 * i) ∧ ∀ j : Nat, (j : Int) < z (76 + 5 * i) → μ (S + 6) (4 * i + j) = z (77 + 5 * i + j)) ∧
  (∀ i : Nat, (i : Int) < z 2 → μ (S + 7) i = z (196 + 2 * i) ∧ μ (S + 8) i = z (197 + 2 * i)) ∧
  (∀ l : Nat, (l : Int) < z 3 → μ (S + 9) l = z (212 + 3 * l) ∧ μ (S + 10) l = z (213 + 3 * l) ∧ μ (S + 11) l = z (214 + 3 * l) ∧ (z (214 + 3 * l) = 1 → HR (fw z l) μ (S + 13 + 7 * l)))
def WH (w : Rw) : Prop := (1 ≤ w 0 ∧ w 0 ≤ 24) ∧ (∀ i : Nat, (i : Int) < w 0 → (0 ≤ w (5 * i + 3) ∧ w (5 * i + 3) ≤ 99) ∧ (1 ≤ w (5 * i + 4) ∧ w (5 * i + 4) ≤ 300) ∧ (0 ≤ w (5 * i + 5) ∧ w (5 * i + 5) ≤ 1) ∧ ((w (5 * i + 1) = -6 ∧ w (5 * i + 2) = 0) ∨ (0 ≤ w (5 * i + 1) ∧ w (5 * i + 1) ≤ 7 ∧ 1 ≤ w (5 * i + 2) ∧ w (5 * i + 2) ≤ 120))) ∧ w 5 = 1 ∧ ∀ k : Nat, 5 * w 0 + 1 ≤ (k : Int) → k < 121 → w k = 0
def IZ (z : Rw) : Prop := (1 ≤ z 0 ∧ z 0 ≤ 24 ∧ 1 ≤ z 1 ∧ z 1 ≤ 100 ∧ 0 ≤ z 2 ∧ z 2 ≤ 8 ∧ 0 ≤ z 3 ∧ z 3 ≤ 6) ∧
  (∀ i : Nat, (i : Int) < z 0 → (0 ≤ z (4 + 3 * i) ∧ z (4 + 3 * i) ≤ 99) ∧ (1 ≤ z (5 + 3 * i) ∧ z (5 + 3 * i) ≤ 300) ∧ (0 ≤ z (6 + 3 * i) ∧ z (6 + 3 * i) ≤ 1) ∧ (0 ≤ z (76 + 5 * i) ∧ z (76 + 5 * i) ≤ 4) ∧ ∀ j : Nat, (j : Int) < z (76 + 5 * i) → 0 ≤ z (77 + 5 * i + j) ∧ z (77 + 5 * i + j) < z 2) ∧
  z 6 = 1 ∧
  (∀ i : Nat, (i : Int) < z 2 → (1 ≤ z (196 + 2 * i) ∧ z (196 + 2 * i) ≤ 120) ∧ (1 ≤ z (197 + 2 * i) ∧ z (197 + 2 * i) ≤ 63)) ∧
  (∀ l : Nat, (l : Int) < z 3 → (0 ≤ z (212 + 3 * l) ∧ z (212 + 3 * l) ≤ 5) ∧ (0 ≤ z (213 + 3 * l) ∧ z (213 + 3 * l) ≤ 600) ∧ (0 ≤ z (214 + 3 * l) ∧ z (214 + 3 * l) ≤ 1) ∧ (z (214 + 3 * l) = 1 → WH (fw z l)))
-- what is heard
def bit (x k : Int) : Int := iAnd (iShr x k) 1
def okN (z : Rw) (g b set sec n : Int) : Bool := decide (bit (z (197 + 2 * n.toNat)) g = 1 ∧ bit set n ≠ 1 ∧ sec + z (196 + 2 * n.toNat) ≤ b)
def pickR (f : Nat → Int) (ok : Int → Bool) : Nat → Nat → Int
  | 0, _ => -6
  | k + 1, j => if ok (f j) = true then f j else pickR f ok k (j + 1)
def chs (z : Rw) (g b : Int) (q : Int × Int) (s : Nat) : Int := pickR (fun j => z (77 + 5 * s + j)) (okN z g b q.1 q.2) (z (76 + 5 * s)).toNat 0
def nxt (z : Rw) (q : Int × Int) (n : Int) : Int × Int := if n = -6 then q else (iOr q.1 (iShl 1 n), q.2 + z (196 + 2 * n.toNat))
def rn (z : Rw) (g b : Int) : Nat → Int × Int
  | 0 => (0, 0)
  | s + 1 => nxt z (rn z g b s) (chs z g b (rn z g b s) s)
def ch (z : Rw) (g b : Int) (s : Nat) : Int := chs z g b (rn z g b s) s
def cl (z : Rw) (n : Int) : Int := if n = -6 then 0 else z (196 + 2 * n.toNat)
/-- what a listener of group g with bound b would hear now -/
def hr (z : Rw) (g b : Int) : Rw := fun k => if k = 0 then z 0 else if (((k - 1) / 5 : Nat) : Int) < z 0 then (match (k - 1) % 5 with | 0 => ch z g b ((k - 1) / 5) | 1 => cl z (ch z g b ((k - 1) / 5)) | 2 => z (4 + 3 * ((k - 1) / 5)) | 3 => z (5 + 3 * ((k - 1) / 5)) | _ => z (6 + 3 * ((k - 1) / 5))) else 0
def hrL (z : Rw) (l : Nat) : Rw := hr z (z (212 + 3 * l)) (z (213 + 3 * l))
/-- what listener l hears: of the file, if there is one -/
def wO (z : Rw) (l : Nat) : Rw := if z (214 + 3 * l) = 1 then fw z l else hrL z l
theorem hr_0 (z : Rw) (g b : Int) : hr z g b 0 = z 0 := rfl
theorem hr_1 {z : Rw} {g b : Int} {i : Nat} (h : (i : Int) < z 0) : hr z g b (5 * i + 1) = ch z g b i := by
  have e1 : (5 * i + 1 - 1) / 5 = i := by omega
  have e2 : (5 * i + 1 - 1) % 5 = 0 := by omega
  unfold hr; rw [if_neg (by omega), e1, if_pos h, e2]; rfl
theorem hr_2 {z : Rw} {g b : Int} {i : Nat} (h : (i : Int) < z 0) : hr z g b (5 * i + 2) = cl z (ch z g b i) := by
  have e1 : (5 * i + 2 - 1) / 5 = i := by omega
  have e2 : (5 * i + 2 - 1) % 5 = 1 := by omega
  unfold hr; rw [if_neg (by omega), e1, if_pos h, e2]; rfl
theorem hr_3 {z : Rw} {g b : Int} {i : Nat} (h : (i : Int) < z 0) : hr z g b (5 * i + 3) = z (4 + 3 * i) := by
  have e1 : (5 * i + 3 - 1) / 5 = i := by omega
  have e2 : (5 * i + 3 - 1) % 5 = 2 := by omega
  unfold hr; rw [if_neg (by omega), e1, if_pos h, e2]; rfl
theorem hr_4 {z : Rw} {g b : Int} {i : Nat} (h : (i : Int) < z 0) : hr z g b (5 * i + 4) = z (5 + 3 * i) := by
  have e1 : (5 * i + 4 - 1) / 5 = i := by omega
  have e2 : (5 * i + 4 - 1) % 5 = 3 := by omega
  unfold hr; rw [if_neg (by omega), e1, if_pos h, e2]; rfl
theorem hr_5 {z : Rw} {g b : Int} {i : Nat} (h : (i : Int) < z 0) : hr z g b (5 * i + 5) = z (6 + 3 * i) := by
  have e1 : (5 * i + 5 - 1) / 5 = i := by omega
  have e2 : (5 * i + 5 - 1) % 5 = 4 := by omega
  unfold hr; rw [if_neg (by omega), e1, if_pos h, e2]; rfl
theorem hr_z {z : Rw} {g b : Int} {k : Nat} (h : 5 * z 0 + 1 ≤ (k : Int)) (h0 : 0 ≤ z 0) : hr z g b k = 0 := by
  unfold hr; rw [if_neg (by omega), if_neg (by omega)]
theorem pickR_in {f : Nat → Int} {ok : Int → Bool} : ∀ (k j : Nat), pickR f ok k j = -6 ∨ ∃ i, j ≤ i ∧ i < j + k ∧ pickR f ok k j = f i ∧ ok (f i) = true
  | 0, j => Or.inl rfl
  | k + 1, j => by
    unfold pickR
    split
    · rename_i h; exact Or.inr ⟨j, by omega, by omega, rfl, h⟩
    · rcases pickR_in (f := f) (ok := ok) k (j + 1) with h | ⟨i, h1, h2, h3, h4⟩
      · exact Or.inl h
      · exact Or.inr ⟨i, by omega, by omega, h3, h4⟩
theorem iAnd_r (x y : Int) : inR (iAnd x y) := ⟨Int32.le_toInt _, by have := Int32.toInt_lt (Int32.ofInt x &&& Int32.ofInt y); unfold iAnd; omega⟩
theorem iOr_r (x y : Int) : inR (iOr x y) := ⟨Int32.le_toInt _, by have := Int32.toInt_lt (Int32.ofInt x ||| Int32.ofInt y); unfold iOr; omega⟩
theorem bit_r (x y : Int) : inR (bit x y) := iAnd_r _ _
theorem bit_01 (x k : Int) : bit x k = 0 ∨ bit x k = 1 := by
  unfold bit iAnd
  have e : Int32.ofInt 1 = nI (2 ^ 1 - 1) := rfl
  obtain ⟨j, hj, h⟩ := pk_andE (Int32.ofInt (iShr x k)) (m := Int32.ofInt 1) 1 (by decide)
  rw [h]
  rw [nI_toInt (by omega)]
  omega
/-- a choice in a break is a notice that there is, or none -/
theorem chs_in {z : Rw} {g b : Int} {q : Int × Int} {s : Nat} (hz : IZ z) (hs : (s : Int) < z 0) : chs z g b q s = -6 ∨ (0 ≤ chs z g b q s ∧ chs z g b q s < z 2 ∧ okN z g b q.1 q.2 (chs z g b q s) = true) := by
  unfold chs
  rcases pickR_in (f := fun j => z (77 + 5 * s + j)) (ok := okN z g b q.1 q.2) (z (76 + 5 * s)).toNat 0 with h | ⟨i, h1, h2, h3, h4⟩
  · exact Or.inl h
  · refine Or.inr ?_
    have q1 := hz.2.1 s hs
    have q2 := q1.2.2.2.2 i (by have := q1.2.2.2.1; omega)
    rw [h3]
    exact ⟨q2.1, q2.2, h4⟩
theorem ch_in {z : Rw} {g b : Int} {s : Nat} (hz : IZ z) (hs : (s : Int) < z 0) : ch z g b s = -6 ∨ (0 ≤ ch z g b s ∧ ch z g b s < z 2) := by
  rcases chs_in (g := g) (b := b) (q := rn z g b s) hz hs with h | h
  · exact Or.inl h
  · exact Or.inr ⟨h.1, h.2.1⟩
theorem hr_W {z : Rw} {g b : Int} (hz : IZ z) : WH (hr z g b) := by
  obtain ⟨⟨n1, n2, -, -, n3, n4, -, -⟩, hs, h6, hn, hl⟩ := id hz
  refine ⟨by rw [hr_0]; exact ⟨n1, n2⟩, fun i hi => ?_, ?_, fun k h1 h2 => ?_⟩
  · rw [hr_0] at hi
    rw [hr_1 hi, hr_2 hi, hr_3 hi, hr_4 hi, hr_5 hi]
    obtain ⟨a1, a2, a3, -⟩ := hs i hi
    refine ⟨a1, a2, a3, ?_⟩
    rcases ch_in (g := g) (b := b) hz hi with h | ⟨h1, h2⟩
    · left; rw [h]; exact ⟨rfl, rfl⟩
    · right
      have q := (hn (ch z g b i).toNat (by omega)).1
      unfold cl
      rw [if_neg (by omega)]
      exact ⟨h1, by omega, q.1, q.2⟩
  · have := hr_5 (z := z) (g := g) (b := b) (i := 0) (by omega)
    exact this.trans h6
  · rw [hr_0] at h1
    exact hr_z h1 (by omega)
theorem wO_W {z : Rw} {l : Nat} (hz : IZ z) (hl : (l : Int) < z 3) : WH (wO z l) := by
  unfold wO
  split
  · rename_i h; exact (hz.2.2.2.2 l hl).2.2.2 h
  · exact hr_W hz
def bt (w : Rw) (p : Nat) : Int := sm (fun i => w (5 * i + 4)) p + sm (fun i => w (5 * i + 2)) p
/-- the sum up to a place of what is heard -/
def ht (w : Rw) (p : Nat) : Int := sm (fun i => w (5 * i + 2) + w (5 * i + 4)) p
theorem ht_bt (w : Rw) (p : Nat) : ht w p = bt w p := by
  unfold ht bt; rw [sm_a]; omega
theorem HR.n {w : Rw} {μ : Mem} {h : Nat} (hw : WH w) : ∃ n : Nat, w 0 = (n : Int) ∧ 1 ≤ n ∧ n ≤ 24 := ⟨(w 0).toNat, by have := hw.1; omega, by have := hw.1; omega, by have := hw.1; omega⟩
theorem WH.nt {w : Rw} (hw : WH w) {i : Nat} (hi : (i : Int) < w 0) : 0 ≤ w (5 * i + 2) ∧ w (5 * i + 2) ≤ 120 := by
  have := (hw.2.1 i hi).2.2.2
  omega
theorem WH.no {w : Rw} (hw : WH w) {i : Nat} (hi : (i : Int) < w 0) : -6 ≤ w (5 * i + 1) ∧ w (5 * i + 1) ≤ 7 := by
  have := (hw.2.1 i hi).2.2.2
  omega
theorem HR_f {w : Rw} {μ μ' : Mem} {h : Nat} (hf : ∀ k, h ≤ k → k < h + 7 → μ' k = μ k) (H : HR w μ h) : HR w μ' h := by
  unfold HR at H ⊢
  rw [hf (h + 1) (by omega) (by omega), hf (h + 2) (by omega) (by omega), hf (h + 3) (by omega) (by omega), hf (h + 4) (by omega) (by omega), hf (h + 5) (by omega) (by omega), hf (h + 6) (by omega) (by omega)]
  exact H
theorem RC_f {z : Rw} {μ μ' : Mem} {S : Nat} (hz : z 3 ≤ 6) (hf : ∀ k, S ≤ k → k < S + 55 → μ' k = μ k) (H : RC z μ S) : RC z μ' S := by
  obtain ⟨h1, h2, h3, h4⟩ := H
  unfold RC
  rw [hf S (by omega) (by omega), hf (S + 1) (by omega) (by omega), hf (S + 2) (by omega) (by omega), hf (S + 3) (by omega) (by omega), hf (S + 4) (by omega) (by omega), hf (S + 5) (by omega) (by omega), hf (S + 6) (by omega) (by omega), hf (S + 7) (by omega) (by omega), hf (S + 8) (by omega) (by omega), hf (S + 9) (by omega) (by omega), hf (S + 10) (by omega) (by omega), hf (S + 11) (by omega) (by omega)]
  refine ⟨h1, h2, h3, fun l hl => ?_⟩
  obtain ⟨a1, a2, a3, a4⟩ := h4 l hl
  exact ⟨a1, a2, a3, fun h => HR_f (fun k hk1 hk2 => hf k (by omega) (by omega)) (a4 h)⟩
/-- of a state's cells: sentences, rows and notices alone -/
def R0 (z : Rw) (μ : Mem) (S : Nat) : Prop :=
  (∀ i : Nat, (i : Int) < z 0 → μ (S + 2) i = z (4 + 3 * i) ∧ μ (S + 3) i = z (5 + 3 * i) ∧ μ (S + 4) i = z (6 + 3 * i) ∧ μ (S + 5) i = z (76 + 5 * i) ∧ ∀ j : Nat, (j : Int) < z (76 + 5 * i) → μ (S + 6) (4 * i + j) = z (77 + 5 * i + j)) ∧
  (∀ i : Nat, (i : Int) < z 2 → μ (S + 7) i = z (196 + 2 * i) ∧ μ (S + 8) i = z (197 + 2 * i))
theorem RC.r0 {z : Rw} {μ : Mem} {S : Nat} (h : RC z μ S) : R0 z μ S := ⟨h.2.1, h.2.2.1⟩
theorem R0_f {z : Rw} {μ μ' : Mem} {S : Nat} (hf : ∀ k, S + 2 ≤ k → k < S + 9 → μ' k = μ k) (H : R0 z μ S) : R0 z μ' S := by
  unfold R0
  rw [hf (S + 2) (by omega) (by omega), hf (S + 3) (by omega) (by omega), hf (S + 4) (by omega) (by omega), hf (S + 5) (by omega) (by omega), hf (S + 6) (by omega) (by omega), hf (S + 7) (by omega) (by omega), hf (S + 8) (by omega) (by omega)]
  exact H
end
section
-- NS.isWithin: blocks [0, 14, 15]
theorem k_NS_isWithin {σ : Sg} {d : Nat} {Q : QT} {μ : Mem} {v a b : Int} (hv : inR v) (ha : inR a) (hb : inR b) (h1 : a ≤ v → v ≤ b → Q (.inl 1) μ) (h0 : (v < a ∨ b < v) → Q (.inl 0) μ) : Call σ (d + 1) 61 [.inl v, .inl a, .inl b] μ Q := by
  refine e_61 ?_
  unfold inR at hv ha hb
  repeat' (first | with_reducible apply And.intro | (intro _) | ((first | refine wp_go b61_0 ?_ | refine wp_go b61_14 ?_ | refine wp_go b61_15 ?_); simp only [l61_0, l61_14, l61_15, sg_iload_0, sg_iload_1, sg_ic_lt, sg_iload_2, sg_ic_gt, sg_iconst, sg_goto, sg_iret1, nLg_n, nLg_i, nLg_r, tc_c, tc_l, tc_r, tc_m, tc_n, tc_o, tc_0, inR, true_and, and_true, ne_eq, not_true_eq_false, not_false_eq_true, true_imp_iff, false_imp_iff, Int.toNat_natCast, lit_a, Nat.reduceAdd, or_true, true_or, or_false, false_or, Int.reduceEq, Int.reduceNe, Int.reduceLT, Int.reduceLE, Int.reduceNeg, sg_nil]))
  all_goals (try omega)
  all_goals first | exact h1 (by omega) (by omega) | exact h0 (by omega)
-- NS.asNumber: blocks [0, 8, 9]
theorem k_NS_asNumber {σ : Sg} {d : Nat} {Q : QT} {μ : Mem} {b : Int} (hb : b = 0 ∨ b = 1) (h : Q (.inl b) μ) : Call σ (d + 1) 62 [.inl b] μ Q := by
  refine e_62 ?_
  rcases hb with rfl | rfl
  · repeat' (first | with_reducible apply And.intro | (intro _) | ((first | refine wp_go b62_0 ?_ | refine wp_go b62_8 ?_ | refine wp_go b62_9 ?_); simp only [l62_0, l62_8, l62_9, sg_iload_0, sg_if_eq, sg_iconst, sg_goto, sg_iret0, nLg_n, nLg_i, nLg_r, tc_c, tc_l, tc_r, tc_m, tc_n, tc_o, tc_0, inR, true_and, and_true, ne_eq, not_true_eq_false, not_false_eq_true, true_imp_iff, false_imp_iff, Int.toNat_natCast, lit_a, Nat.reduceAdd, or_true, true_or, or_false, false_or, Int.reduceEq, Int.reduceNe, Int.reduceLT, Int.reduceLE, Int.reduceNeg, sg_nil]))
    all_goals (try omega)
  · repeat' (first | with_reducible apply And.intro | (intro _) | ((first | refine wp_go b62_0 ?_ | refine wp_go b62_8 ?_ | refine wp_go b62_9 ?_); simp only [l62_0, l62_8, l62_9, sg_iload_0, sg_if_eq, sg_iconst, sg_goto, sg_iret0, nLg_n, nLg_i, nLg_r, tc_c, tc_l, tc_r, tc_m, tc_n, tc_o, tc_0, inR, true_and, and_true, ne_eq, not_true_eq_false, not_false_eq_true, true_imp_iff, false_imp_iff, Int.toNat_natCast, lit_a, Nat.reduceAdd, or_true, true_or, or_false, false_or, Int.reduceEq, Int.reduceNe, Int.reduceLT, Int.reduceLE, Int.reduceNeg, sg_nil]))
    all_goals (try omega)
theorem heaF {σ : Sg} {h : Nat} (H : iHea σ h) : (shp σ h).1 = 1 ∧ (shp σ (h + 1)).1 = 4 ∧ shp σ (h + 2) = (100, 24) ∧ shp σ (h + 3) = (100, 24) ∧ shp σ (h + 4) = (100, 24) ∧ shp σ (h + 5) = (100, 24) ∧ shp σ (h + 6) = (100, 24) ∧ σ.2 h 0 = true ∧ σ.2 h 1 = true ∧ σ.2 h 2 = true ∧ σ.2 (h + 1) 0 = true ∧ σ.2 (h + 1) 1 = true ∧ σ.2 (h + 1) 2 = true := by
  obtain ⟨a0, ⟨b0, b1, b2, b3, b4, b5, b6⟩, a1, a2, a3, a4, a5⟩ := H
  exact ⟨a0, b0, b1, b2, b3, a1, a2, a3, a4, a5, b4, b5, b6⟩
-- Hea.breakTime: blocks [0, 8, 11, 31]
theorem k_Hea_breakTime {σ : Sg} {d : Nat} {Q : QT} {μ : Mem} {h p : Nat} {w : Rw} (hH : iHea σ h) (hw : HR w μ h) (hn : w 0 ≤ 24) (hp : (p : Int) ≤ w 0) (hq : Q (.inl (bt w p)) μ) : Call σ (d + 2) 5 [.inr (.inr h), .inl (p : Int)] μ Q := by
  refine e_5 ?_
  obtain ⟨a0, a1, a2, a3, a4, a5, a6, p0, p1, p2, p3, p4, p5⟩ := heaF hH
  refine wp_go b5_0 ?_; simp only [l5_0, sg_aload_0, sg_getfp, sg_iload_1, sg_iv2_i, len4_0, len4_1, len4_2, len4_3, len4_4, nLg_n, nLg_i, nLg_r, tc_c, tc_l, tc_r, tc_m, tc_n, tc_o, tc_0, inR, true_and, and_true, ne_eq, not_true_eq_false, not_false_eq_true, true_imp_iff, false_imp_iff, Int.toNat_natCast, lit_a, Nat.reduceAdd, or_true, true_or, or_false, false_or, Int.reduceEq, Int.reduceNe, Int.reduceLT, Int.reduceLE, Int.reduceNeg, sg_nil, a0, a1, a2, a3, a4, a5, a6, p0, p1, p2, p3, p4, p5]
  repeat' (first | with_reducible apply And.intro | (intro _) | ((first | refine wp_go b5_0 ?_ | refine wp_go b5_8 ?_ | refine wp_go b5_31 ?_); simp only [l5_0, l5_8, l5_31, sg_aload_0, sg_getfp, sg_iload_1, sg_iv2_i, len4_0, len4_1, len4_2, len4_3, len4_4, sg_istore_2, sg_iconst, sg_istore_3, sg_iload_2, sg_iret0, nLg_n, nLg_i, nLg_r, tc_c, tc_l, tc_r, tc_m, tc_n, tc_o, tc_0, inR, true_and, and_true, ne_eq, not_true_eq_false, not_false_eq_true, true_imp_iff, false_imp_iff, Int.toNat_natCast, lit_a, Nat.reduceAdd, or_true, true_or, or_false, false_or, Int.reduceEq, Int.reduceNe, Int.reduceLT, Int.reduceLE, Int.reduceNeg, sg_nil]))
  all_goals (try omega)
  refine k_Sen_timeOf hH.2.1 (by omega) ?_
  have e1 : sm (μ (h + 1 + 2)) p = sm (fun i => w (5 * i + 4)) p := sm_c (fun i hi => (hw.2 i (by omega)).2.1)
  rw [e1]
  have loop : ∀ k i : Nat, i + k = p → wp σ (Call σ (d + 1)) 5 Q 11 [some (.inr (.inr h)), some (.inl (p : Int)), some (.inl (sm (fun i => w (5 * i + 4)) p + sm (fun i => w (5 * i + 2)) i)), some (.inl (i : Int))] [] μ := by
    intro k
    induction k with
    | zero =>
      intro i hi
      obtain rfl : i = p := by omega
      refine wp_go b5_11 ?_; simp only [l5_11, sg_iload_3, sg_iload_1, sg_ic_ge, sg_iload_2, sg_aload_0, sg_getfp, sg_iaload, sg_iadd, sg_istore_2, sg_iinc, ldI_3, okS_3, stL_3, sg_goto, nLg_n, nLg_i, nLg_r, tc_c, tc_l, tc_r, tc_m, tc_n, tc_o, tc_0, inR, true_and, and_true, ne_eq, not_true_eq_false, not_false_eq_true, true_imp_iff, false_imp_iff, Int.toNat_natCast, lit_a, Nat.reduceAdd, or_true, true_or, or_false, false_or, Int.reduceEq, Int.reduceNe, Int.reduceLT, Int.reduceLE, Int.reduceNeg, sg_nil]
      repeat' (first | with_reducible apply And.intro | (intro _) | ((first | refine wp_go b5_0 ?_ | refine wp_go b5_8 ?_ | refine wp_go b5_31 ?_); simp only [l5_0, l5_8, l5_31, sg_aload_0, sg_getfp, sg_iload_1, sg_iv2_i, len4_0, len4_1, len4_2, len4_3, len4_4, sg_istore_2, sg_iconst, sg_istore_3, sg_iload_2, sg_iret0, nLg_n, nLg_i, nLg_r, tc_c, tc_l, tc_r, tc_m, tc_n, tc_o, tc_0, inR, true_and, and_true, ne_eq, not_true_eq_false, not_false_eq_true, true_imp_iff, false_imp_iff, Int.toNat_natCast, lit_a, Nat.reduceAdd, or_true, true_or, or_false, false_or, Int.reduceEq, Int.reduceNe, Int.reduceLT, Int.reduceLE, Int.reduceNeg, sg_nil]))
      all_goals (try omega)
      all_goals exact hq
    | succ k ih =>
      intro i hi
      refine wp_go b5_11 ?_; simp only [l5_11, sg_iload_3, sg_iload_1, sg_ic_ge, sg_iload_2, sg_aload_0, sg_getfp, sg_iaload, sg_iadd, sg_istore_2, sg_iinc, ldI_3, okS_3, stL_3, sg_goto, nLg_n, nLg_i, nLg_r, tc_c, tc_l, tc_r, tc_m, tc_n, tc_o, tc_0, inR, true_and, and_true, ne_eq, not_true_eq_false, not_false_eq_true, true_imp_iff, false_imp_iff, Int.toNat_natCast, lit_a, Nat.reduceAdd, or_true, true_or, or_false, false_or, Int.reduceEq, Int.reduceNe, Int.reduceLT, Int.reduceLE, Int.reduceNeg, sg_nil, a0, a1, a2, a3, a4, a5, a6, p0, p1, p2, p3, p4, p5]
      repeat' (first | with_reducible apply And.intro | (intro _) | ((first | refine wp_go b5_0 ?_ | refine wp_go b5_8 ?_ | refine wp_go b5_31 ?_); simp only [l5_0, l5_8, l5_31, sg_aload_0, sg_getfp, sg_iload_1, sg_iv2_i, len4_0, len4_1, len4_2, len4_3, len4_4, sg_istore_2, sg_iconst, sg_istore_3, sg_iload_2, sg_iret0, nLg_n, nLg_i, nLg_r, tc_c, tc_l, tc_r, tc_m, tc_n, tc_o, tc_0, inR, true_and, and_true, ne_eq, not_true_eq_false, not_false_eq_true, true_imp_iff, false_imp_iff, Int.toNat_natCast, lit_a, Nat.reduceAdd, or_true, true_or, or_false, false_or, Int.reduceEq, Int.reduceNe, Int.reduceLT, Int.reduceLE, Int.reduceNeg, sg_nil]))
      all_goals (try omega)
      rw [(hw.2 i (by omega)).2.2.2.2, Int.add_assoc]
      exact ih (i + 1) (by omega)
  have l0 := loop p 0 (by omega)
  rw [sm_0, Int.add_zero] at l0
  refine wp_go b5_8 ?_; simp only [l5_8, sg_istore_2, sg_iconst, sg_istore_3, nLg_n, nLg_i, nLg_r, tc_c, tc_l, tc_r, tc_m, tc_n, tc_o, tc_0, inR, true_and, and_true, ne_eq, not_true_eq_false, not_false_eq_true, true_imp_iff, false_imp_iff, Int.toNat_natCast, lit_a, Nat.reduceAdd, or_true, true_or, or_false, false_or, Int.reduceEq, Int.reduceNe, Int.reduceLT, Int.reduceLE, Int.reduceNeg, sg_nil]
  exact l0
-- Hea.sentenceTime: blocks [0, 5]
theorem k_Hea_sentenceTime {σ : Sg} {d : Nat} {Q : QT} {μ : Mem} {h p : Nat} {w : Rw} (hH : iHea σ h) (hw : HR w μ h) (hn : w 0 ≤ 24) (hp : (p : Int) < w 0) (hq : Q (.inl (bt w p + w (5 * p + 2))) μ) : Call σ (d + 3) 6 [.inr (.inr h), .inl (p : Int)] μ Q := by
  refine e_6 ?_
  obtain ⟨a0, a1, a2, a3, a4, a5, a6, p0, p1, p2, p3, p4, p5⟩ := heaF hH
  refine wp_go b6_0 ?_; simp only [l6_0, sg_aload_0, sg_iload_1, sg_iv2_i, len4_0, len4_1, len4_2, len4_3, len4_4, nLg_n, nLg_i, nLg_r, tc_c, tc_l, tc_r, tc_m, tc_n, tc_o, tc_0, inR, true_and, and_true, ne_eq, not_true_eq_false, not_false_eq_true, true_imp_iff, false_imp_iff, Int.toNat_natCast, lit_a, Nat.reduceAdd, or_true, true_or, or_false, false_or, Int.reduceEq, Int.reduceNe, Int.reduceLT, Int.reduceLE, Int.reduceNeg, sg_nil, a0, a1, a2, a3, a4, a5, a6, p0, p1, p2, p3, p4, p5]
  refine k_Hea_breakTime hH hw hn (by omega) ?_
  refine wp_go b6_5 ?_; simp only [l6_5, sg_aload_0, sg_getfp, sg_iload_1, sg_iaload, sg_iadd, sg_iret0, nLg_n, nLg_i, nLg_r, tc_c, tc_l, tc_r, tc_m, tc_n, tc_o, tc_0, inR, true_and, and_true, ne_eq, not_true_eq_false, not_false_eq_true, true_imp_iff, false_imp_iff, Int.toNat_natCast, lit_a, Nat.reduceAdd, or_true, true_or, or_false, false_or, Int.reduceEq, Int.reduceNe, Int.reduceLT, Int.reduceLE, Int.reduceNeg, sg_nil, a0, a1, a2, a3, a4, a5, a6, p0, p1, p2, p3, p4, p5]
  repeat' (first | with_reducible apply And.intro | (intro _) | ((first | refine wp_go b6_0 ?_ | refine wp_go b6_5 ?_); simp only [l6_0, l6_5, sg_aload_0, sg_iload_1, sg_iv2_i, len4_0, len4_1, len4_2, len4_3, len4_4, sg_getfp, sg_iaload, sg_iadd, sg_iret0, nLg_n, nLg_i, nLg_r, tc_c, tc_l, tc_r, tc_m, tc_n, tc_o, tc_0, inR, true_and, and_true, ne_eq, not_true_eq_false, not_false_eq_true, true_imp_iff, false_imp_iff, Int.toNat_natCast, lit_a, Nat.reduceAdd, or_true, true_or, or_false, false_or, Int.reduceEq, Int.reduceNe, Int.reduceLT, Int.reduceLE, Int.reduceNeg, sg_nil]))
  all_goals (try omega)
  rw [(hw.2 p hp).2.2.2.2]
  exact hq
-- Hea.total: blocks [0, 11]
theorem k_Hea_total {σ : Sg} {d : Nat} {Q : QT} {μ : Mem} {h n : Nat} {w : Rw} (hH : iHea σ h) (hw : HR w μ h) (hn : w 0 ≤ 24) (hp : w 0 = (n : Int)) (hq : Q (.inl (bt w n)) μ) : Call σ (d + 3) 7 [.inr (.inr h)] μ Q := by
  refine e_7 ?_
  obtain ⟨a0, a1, a2, a3, a4, a5, a6, p0, p1, p2, p3, p4, p5⟩ := heaF hH
  refine wp_go b7_0 ?_; simp only [l7_0, sg_aload_0, sg_getfp, sg_getf0, sg_iv2_i, len4_0, len4_1, len4_2, len4_3, len4_4, nLg_n, nLg_i, nLg_r, tc_c, tc_l, tc_r, tc_m, tc_n, tc_o, tc_0, inR, true_and, and_true, ne_eq, not_true_eq_false, not_false_eq_true, true_imp_iff, false_imp_iff, Int.toNat_natCast, lit_a, Nat.reduceAdd, or_true, true_or, or_false, false_or, Int.reduceEq, Int.reduceNe, Int.reduceLT, Int.reduceLE, Int.reduceNeg, sg_nil, a0, a1, a2, a3, a4, a5, a6, p0, p1, p2, p3, p4, p5, hw.1, hp]
  repeat' (first | with_reducible apply And.intro | (intro _) | ((first | refine wp_go b7_0 ?_ | refine wp_go b7_11 ?_); simp only [l7_0, l7_11, sg_aload_0, sg_getfp, sg_getf0, sg_iv2_i, len4_0, len4_1, len4_2, len4_3, len4_4, sg_iret0, nLg_n, nLg_i, nLg_r, tc_c, tc_l, tc_r, tc_m, tc_n, tc_o, tc_0, inR, true_and, and_true, ne_eq, not_true_eq_false, not_false_eq_true, true_imp_iff, false_imp_iff, Int.toNat_natCast, lit_a, Nat.reduceAdd, or_true, true_or, or_false, false_or, Int.reduceEq, Int.reduceNe, Int.reduceLT, Int.reduceLE, Int.reduceNeg, sg_nil]))
  all_goals (try omega)
  refine k_Hea_breakTime hH hw hn (by omega) ?_
  refine wp_go b7_11 ?_; simp only [l7_11, sg_iret0, nLg_n, nLg_i, nLg_r, tc_c, tc_l, tc_r, tc_m, tc_n, tc_o, tc_0, inR, true_and, and_true, ne_eq, not_true_eq_false, not_false_eq_true, true_imp_iff, false_imp_iff, Int.toNat_natCast, lit_a, Nat.reduceAdd, or_true, true_or, or_false, false_or, Int.reduceEq, Int.reduceNe, Int.reduceLT, Int.reduceLE, Int.reduceNeg, sg_nil]
  exact hq
-- Hea.noticeSeconds: blocks [0, 4, 11]
theorem k_Hea_noticeSeconds {σ : Sg} {d : Nat} {Q : QT} {μ : Mem} {h n : Nat} {w : Rw} (hH : iHea σ h) (hw : HR w μ h) (hn : w 0 ≤ 24) (hp : w 0 = (n : Int)) (hq : Q (.inl (sm (fun i => w (5 * i + 2)) n)) μ) : Call σ (d + 4) 8 [.inr (.inr h)] μ Q := by
  refine e_8 ?_
  obtain ⟨a0, a1, a2, a3, a4, a5, a6, p0, p1, p2, p3, p4, p5⟩ := heaF hH
  refine wp_go b8_0 ?_; simp only [l8_0, sg_aload_0, sg_iv1_i, len4_0, len4_1, len4_2, len4_3, len4_4, nLg_n, nLg_i, nLg_r, tc_c, tc_l, tc_r, tc_m, tc_n, tc_o, tc_0, inR, true_and, and_true, ne_eq, not_true_eq_false, not_false_eq_true, true_imp_iff, false_imp_iff, Int.toNat_natCast, lit_a, Nat.reduceAdd, or_true, true_or, or_false, false_or, Int.reduceEq, Int.reduceNe, Int.reduceLT, Int.reduceLE, Int.reduceNeg, sg_nil, a0, a1, a2, a3, a4, a5, a6, p0, p1, p2, p3, p4, p5]
  refine k_Hea_total hH hw hn hp ?_
  refine wp_go b8_4 ?_; simp only [l8_4, sg_aload_0, sg_getfp, sg_iv1_i, len4_0, len4_1, len4_2, len4_3, len4_4, nLg_n, nLg_i, nLg_r, tc_c, tc_l, tc_r, tc_m, tc_n, tc_o, tc_0, inR, true_and, and_true, ne_eq, not_true_eq_false, not_false_eq_true, true_imp_iff, false_imp_iff, Int.toNat_natCast, lit_a, Nat.reduceAdd, or_true, true_or, or_false, false_or, Int.reduceEq, Int.reduceNe, Int.reduceLT, Int.reduceLE, Int.reduceNeg, sg_nil, a0, a1, a2, a3, a4, a5, a6, p0, p1, p2, p3, p4, p5]
  refine k_Sen_total hH.2.1 (n := n) (by have := hw.1; omega) (by omega) ?_
  have e1 : sm (μ (h + 1 + 2)) n = sm (fun i => w (5 * i + 4)) n := sm_c (fun i hi => (hw.2 i (by omega)).2.1)
  rw [e1]
  have e2 : bt w n - sm (fun i => w (5 * i + 4)) n = sm (fun i => w (5 * i + 2)) n := by unfold bt; omega
  refine wp_go b8_11 ?_; simp only [l8_11, sg_isub, sg_iret0, nLg_n, nLg_i, nLg_r, tc_c, tc_l, tc_r, tc_m, tc_n, tc_o, tc_0, inR, true_and, and_true, ne_eq, not_true_eq_false, not_false_eq_true, true_imp_iff, false_imp_iff, Int.toNat_natCast, lit_a, Nat.reduceAdd, or_true, true_or, or_false, false_or, Int.reduceEq, Int.reduceNe, Int.reduceLT, Int.reduceLE, Int.reduceNeg, sg_nil, e2]
  exact hq
-- Hea.countNotices: blocks [0, 4, 31, 32, 35, 43]
theorem k_Hea_countNotices {σ : Sg} {d : Nat} {Q : QT} {μ : Mem} {h n : Nat} {w : Rw} (hH : iHea σ h) (hw : HR w μ h) (hW : WH w) (hp : w 0 = (n : Int)) (hq : Q (.inl (sm (fun i => bI (w (5 * i + 1) ≠ -6)) n)) μ) : Call σ (d + 2) 9 [.inr (.inr h)] μ Q := by
  refine e_9 ?_
  obtain ⟨a0, a1, a2, a3, a4, a5, a6, p0, p1, p2, p3, p4, p5⟩ := heaF hH
  have hn := hW.1.2
  have loop : ∀ k i : Nat, i + k = n → wp σ (Call σ (d + 1)) 9 Q 4 [some (.inr (.inr h)), some (.inl (sm (fun i => bI (w (5 * i + 1) ≠ -6)) i)), some (.inl (i : Int))] [] μ := by
    intro k
    induction k with
    | zero =>
      intro i hi
      obtain rfl : i = n := by omega
      refine wp_go b9_4 ?_; simp only [l9_4, sg_iload_2, sg_aload_0, sg_getfp, sg_getf0, sg_ic_ge, sg_iload_1, sg_iaload, sg_bipush, sg_ic_eq, sg_iconst, sg_goto, nLg_n, nLg_i, nLg_r, tc_c, tc_l, tc_r, tc_m, tc_n, tc_o, tc_0, inR, true_and, and_true, ne_eq, not_true_eq_false, not_false_eq_true, true_imp_iff, false_imp_iff, Int.toNat_natCast, lit_a, Nat.reduceAdd, or_true, true_or, or_false, false_or, Int.reduceEq, Int.reduceNe, Int.reduceLT, Int.reduceLE, Int.reduceNeg, sg_nil, a0, a1, a2, a3, a4, a5, a6, p0, p1, p2, p3, p4, p5, hw.1, hp]
      repeat' (first | with_reducible apply And.intro | (intro _) | ((first | refine wp_go b9_0 ?_ | refine wp_go b9_31 ?_ | refine wp_go b9_32 ?_ | refine wp_go b9_35 ?_ | refine wp_go b9_43 ?_); simp only [l9_0, l9_31, l9_32, l9_35, l9_43, sg_iconst, sg_istore_1, sg_istore_2, len4_0, len4_1, len4_2, len4_3, len4_4, sg_is1_2, sg_iadd, sg_iinc, ldI_2, okS_2, stL_2, sg_goto, sg_iload_1, sg_iret0, nLg_n, nLg_i, nLg_r, tc_c, tc_l, tc_r, tc_m, tc_n, tc_o, tc_0, inR, true_and, and_true, ne_eq, not_true_eq_false, not_false_eq_true, true_imp_iff, false_imp_iff, Int.toNat_natCast, lit_a, Nat.reduceAdd, or_true, true_or, or_false, false_or, Int.reduceEq, Int.reduceNe, Int.reduceLT, Int.reduceLE, Int.reduceNeg, sg_nil]))
      all_goals (try omega)
      all_goals exact hq
    | succ k ih =>
      intro i hi
      have e1 := (hw.2 i (by omega)).2.2.2.1
      have r1 := hW.no (i := i) (by omega)
      have ih1 := ih (i + 1) (by omega)
      rw [sm_s] at ih1
      refine wp_go b9_4 ?_; simp only [l9_4, sg_iload_2, sg_aload_0, sg_getfp, sg_getf0, sg_ic_ge, sg_iload_1, sg_iaload, sg_bipush, sg_ic_eq, sg_iconst, sg_goto, nLg_n, nLg_i, nLg_r, tc_c, tc_l, tc_r, tc_m, tc_n, tc_o, tc_0, inR, true_and, and_true, ne_eq, not_true_eq_false, not_false_eq_true, true_imp_iff, false_imp_iff, Int.toNat_natCast, lit_a, Nat.reduceAdd, or_true, true_or, or_false, false_or, Int.reduceEq, Int.reduceNe, Int.reduceLT, Int.reduceLE, Int.reduceNeg, sg_nil, a0, a1, a2, a3, a4, a5, a6, p0, p1, p2, p3, p4, p5, hw.1, hp, e1]
      repeat' (first | with_reducible apply And.intro | (intro _) | refine k_NS_asNumber (Or.inl rfl) ?_ | refine k_NS_asNumber (Or.inr rfl) ?_ | ((first | refine wp_go b9_0 ?_ | refine wp_go b9_31 ?_ | refine wp_go b9_32 ?_ | refine wp_go b9_35 ?_ | refine wp_go b9_43 ?_); simp only [l9_0, l9_31, l9_32, l9_35, l9_43, sg_iconst, sg_istore_1, sg_istore_2, len4_0, len4_1, len4_2, len4_3, len4_4, sg_is1_2, sg_iadd, sg_iinc, ldI_2, okS_2, stL_2, sg_goto, sg_iload_1, sg_iret0, nLg_n, nLg_i, nLg_r, tc_c, tc_l, tc_r, tc_m, tc_n, tc_o, tc_0, inR, true_and, and_true, ne_eq, not_true_eq_false, not_false_eq_true, true_imp_iff, false_imp_iff, Int.toNat_natCast, lit_a, Nat.reduceAdd, or_true, true_or, or_false, false_or, Int.reduceEq, Int.reduceNe, Int.reduceLT, Int.reduceLE, Int.reduceNeg, sg_nil]))
      all_goals (try omega)
      · rename_i q; rw [show bI (w (5 * i + 1) ≠ -6) = 0 from by unfold bI; rw [if_neg (by omega)]] at ih1; exact ih1
      · rename_i q; rw [show bI (w (5 * i + 1) ≠ -6) = 1 from by unfold bI; rw [if_pos (by omega)]] at ih1; exact ih1
  refine wp_go b9_0 ?_; simp only [l9_0, sg_iconst, sg_istore_1, sg_istore_2, nLg_n, nLg_i, nLg_r, tc_c, tc_l, tc_r, tc_m, tc_n, tc_o, tc_0, inR, true_and, and_true, ne_eq, not_true_eq_false, not_false_eq_true, true_imp_iff, false_imp_iff, Int.toNat_natCast, lit_a, Nat.reduceAdd, or_true, true_or, or_false, false_or, Int.reduceEq, Int.reduceNe, Int.reduceLT, Int.reduceLE, Int.reduceNeg, sg_nil]
  exact loop n 0 (by omega)
-- Hea.placeHeardAt: blocks [0, 4, 41, 47]
theorem k_Hea_placeHeardAt {σ : Sg} {d : Nat} {Q : QT} {μ : Mem} {h n : Nat} {t : Int} {w : Rw} (hH : iHea σ h) (hw : HR w μ h) (hW : WH w) (hp : w 0 = (n : Int)) (ht1 : inR t) (hq : Q (.inl (fsI (fun i => decide (t < ht w (i + 1))) (-6) n)) μ) : Call σ (d + 1) 10 [.inr (.inr h), .inl t] μ Q := by
  refine e_10 ?_
  obtain ⟨a0, a1, a2, a3, a4, a5, a6, p0, p1, p2, p3, p4, p5⟩ := heaF hH
  have hn := hW.1.2
  have ht2 := ht1
  unfold inR at ht2
  have loop : ∀ k i : Nat, i + k = n → (∀ j, j < i → ¬ t < ht w (j + 1)) → wp σ (Call σ d) 10 Q 4 [some (.inr (.inr h)), some (.inl t), some (.inl (ht w i)), some (.inl (i : Int))] [] μ := by
    intro k
    induction k with
    | zero =>
      intro i hi hm
      obtain rfl : i = n := by omega
      rw [fsI_n (fun j hj => decide_eq_false (hm j hj))] at hq
      refine wp_go b10_4 ?_; simp only [l10_4, sg_iload_3, sg_aload_0, sg_getfp, sg_getf0, sg_ic_ge, sg_iload_2, sg_iaload, sg_iadd, sg_istore_2, sg_iload_1, sg_iret0, nLg_n, nLg_i, nLg_r, tc_c, tc_l, tc_r, tc_m, tc_n, tc_o, tc_0, inR, true_and, and_true, ne_eq, not_true_eq_false, not_false_eq_true, true_imp_iff, false_imp_iff, Int.toNat_natCast, lit_a, Nat.reduceAdd, or_true, true_or, or_false, false_or, Int.reduceEq, Int.reduceNe, Int.reduceLT, Int.reduceLE, Int.reduceNeg, sg_nil, a0, a1, a2, a3, a4, a5, a6, p0, p1, p2, p3, p4, p5, hw.1, hp]
      repeat' (first | with_reducible apply And.intro | (intro _) | ((first | refine wp_go b10_0 ?_ | refine wp_go b10_41 ?_ | refine wp_go b10_47 ?_); simp only [l10_0, l10_41, l10_47, sg_iconst, sg_istore_2, sg_istore_3, sg_iinc, ldI_3, okS_3, stL_3, sg_goto, sg_bipush, sg_iret0, nLg_n, nLg_i, nLg_r, tc_c, tc_l, tc_r, tc_m, tc_n, tc_o, tc_0, inR, true_and, and_true, ne_eq, not_true_eq_false, not_false_eq_true, true_imp_iff, false_imp_iff, Int.toNat_natCast, lit_a, Nat.reduceAdd, or_true, true_or, or_false, false_or, Int.reduceEq, Int.reduceNe, Int.reduceLT, Int.reduceLE, Int.reduceNeg, sg_nil]))
      all_goals (try omega)
      all_goals exact hq
    | succ k ih =>
      intro i hi hm
      have b1 := sm_b (f := fun i => w (5 * i + 2) + w (5 * i + 4)) (b := 420) (n := i + 1) (fun j hj => by
        have q1 := hW.nt (i := j) (by omega)
        have q2 := (hW.2.1 j (by omega)).2.1
        omega)
      have e1 := (hw.2 i (by omega)).2.1
      have e2 := (hw.2 i (by omega)).2.2.2.2
      have hs : ht w (i + 1) = ht w i + (w (5 * i + 2) + w (5 * i + 4)) := rfl
      have b1 : 0 ≤ ht w (i + 1) ∧ ht w (i + 1) ≤ 420 * ((i + 1 : Nat) : Int) := b1
      rw [hs] at b1
      refine wp_go b10_4 ?_; simp only [l10_4, sg_iload_3, sg_aload_0, sg_getfp, sg_getf0, sg_ic_ge, sg_iload_2, sg_iaload, sg_iadd, sg_istore_2, sg_iload_1, sg_iret0, nLg_n, nLg_i, nLg_r, tc_c, tc_l, tc_r, tc_m, tc_n, tc_o, tc_0, inR, true_and, and_true, ne_eq, not_true_eq_false, not_false_eq_true, true_imp_iff, false_imp_iff, Int.toNat_natCast, lit_a, Nat.reduceAdd, or_true, true_or, or_false, false_or, Int.reduceEq, Int.reduceNe, Int.reduceLT, Int.reduceLE, Int.reduceNeg, sg_nil, a0, a1, a2, a3, a4, a5, a6, p0, p1, p2, p3, p4, p5, hw.1, hp, e1, e2]
      repeat' (first | with_reducible apply And.intro | (intro _) | ((first | refine wp_go b10_0 ?_ | refine wp_go b10_41 ?_ | refine wp_go b10_47 ?_); simp only [l10_0, l10_41, l10_47, sg_iconst, sg_istore_2, sg_istore_3, sg_iinc, ldI_3, okS_3, stL_3, sg_goto, sg_bipush, sg_iret0, nLg_n, nLg_i, nLg_r, tc_c, tc_l, tc_r, tc_m, tc_n, tc_o, tc_0, inR, true_and, and_true, ne_eq, not_true_eq_false, not_false_eq_true, true_imp_iff, false_imp_iff, Int.toNat_natCast, lit_a, Nat.reduceAdd, or_true, true_or, or_false, false_or, Int.reduceEq, Int.reduceNe, Int.reduceLT, Int.reduceLE, Int.reduceNeg, sg_nil]))
      all_goals (try omega)
      all_goals first
        | exact ih (i + 1) (by omega) (fun j hj => by
            rcases Nat.lt_or_ge j i with q | q
            · exact hm j q
            · have : j = i := by omega
              subst this; rw [hs]; omega)
        | (rw [fsI_s (i := i) (by omega) (decide_eq_true (by rw [hs]; omega)) (fun j hj => decide_eq_false (hm j hj))] at hq
           exact hq)
  refine wp_go b10_0 ?_; simp only [l10_0, sg_iconst, sg_istore_2, sg_istore_3, nLg_n, nLg_i, nLg_r, tc_c, tc_l, tc_r, tc_m, tc_n, tc_o, tc_0, inR, true_and, and_true, ne_eq, not_true_eq_false, not_false_eq_true, true_imp_iff, false_imp_iff, Int.toNat_natCast, lit_a, Nat.reduceAdd, or_true, true_or, or_false, false_or, Int.reduceEq, Int.reduceNe, Int.reduceLT, Int.reduceLE, Int.reduceNeg, sg_nil]
  exact loop n 0 (by omega) (fun j hj => absurd hj (by omega))
-- Hea.copyFrom: blocks [0, 11]
theorem k_Hea_copyFrom {σ : Sg} {d : Nat} {Q : QT} {μ : Mem} {h o : Nat} {w : Rw} (hH : iHea σ h) (hO : iHea σ o) (hd : h + 7 ≤ o ∨ o + 7 ≤ h) (hw : HR w μ o) (hn : 0 ≤ w 0) (hn2 : w 0 ≤ 24)
    (hq : ∀ μ' : Mem, (∀ k, k < h ∨ h + 7 ≤ k → μ' k = μ k) → HR w μ' h → Q (.inl 0) μ') : Call σ (d + 2) 11 [.inr (.inr h), .inr (.inr o)] μ Q := by
  refine e_11 ?_
  obtain ⟨a0, a1, a2, a3, a4, a5, a6, p0, p1, p2, p3, p4, p5⟩ := heaF hH
  obtain ⟨b0, b1, b2, b3, b4, b5, b6, r0, r1, r2, r3, r4, r5⟩ := heaF hO
  obtain ⟨n, hp⟩ : ∃ n : Nat, w 0 = (n : Int) := ⟨(w 0).toNat, by omega⟩
  refine wp_go b11_0 ?_; simp only [l11_0, sg_aload_0, sg_getfp, sg_aload_1, sg_iv2_v, len4_0, len4_1, len4_2, len4_3, len4_4, nLg_n, nLg_i, nLg_r, tc_c, tc_l, tc_r, tc_m, tc_n, tc_o, tc_0, inR, true_and, and_true, ne_eq, not_true_eq_false, not_false_eq_true, true_imp_iff, false_imp_iff, Int.toNat_natCast, lit_a, Nat.reduceAdd, or_true, true_or, or_false, false_or, Int.reduceEq, Int.reduceNe, Int.reduceLT, Int.reduceLE, Int.reduceNeg, sg_nil, a0, a1, a2, a3, a4, a5, a6, p0, p1, p2, p3, p4, p5, b0, b1, b2, b3, b4, b5, b6, r0, r1, r2, r3, r4, r5]
  refine k_Sen_copyFrom hH.2.1 hO.2.1 (by omega) (n := n) (by rw [hw.1]; exact hp) (by omega) (fun μ1 f1 n1 c1 => ?_)
  refine wp_go b11_11 ?_; simp only [l11_11, sg_aload_1, sg_getfp, sg_iconst, sg_aload_0, sg_getf0, len4_0, len4_1, len4_2, len4_3, len4_4, sg_acopy, sg_ret, nLg_n, nLg_i, nLg_r, tc_c, tc_l, tc_r, tc_m, tc_n, tc_o, tc_0, inR, true_and, and_true, ne_eq, not_true_eq_false, not_false_eq_true, true_imp_iff, false_imp_iff, Int.toNat_natCast, lit_a, Nat.reduceAdd, or_true, true_or, or_false, false_or, Int.reduceEq, Int.reduceNe, Int.reduceLT, Int.reduceLE, Int.reduceNeg, sg_nil, a0, a1, a2, a3, a4, a5, a6, p0, p1, p2, p3, p4, p5, b0, b1, b2, b3, b4, b5, b6, r0, r1, r2, r3, r4, r5, n1, mcp_at, ne_a, ne_b, false_and, if_false, Int.toNat_zero, Nat.add_left_cancel_iff, Nat.reduceEqDiff]
  repeat' (first | with_reducible apply And.intro | (intro _) | ((first | refine wp_go b11_0 ?_ | refine wp_go b11_11 ?_); simp only [l11_0, l11_11, sg_aload_0, sg_getfp, sg_aload_1, sg_iv2_v, len4_0, len4_1, len4_2, len4_3, len4_4, sg_iconst, sg_getf0, sg_acopy, sg_ret, nLg_n, nLg_i, nLg_r, tc_c, tc_l, tc_r, tc_m, tc_n, tc_o, tc_0, inR, true_and, and_true, ne_eq, not_true_eq_false, not_false_eq_true, true_imp_iff, false_imp_iff, Int.toNat_natCast, lit_a, Nat.reduceAdd, or_true, true_or, or_false, false_or, Int.reduceEq, Int.reduceNe, Int.reduceLT, Int.reduceLE, Int.reduceNeg, sg_nil]))
  all_goals (try omega)
  refine hq _ (fun k hk => ?_) ⟨?_, fun i hi => ?_⟩
  · funext j
    simp only [mcp_at]
    repeat rw [if_neg (by omega)]
    rw [f1 k (by omega)]
  · simp only [mcp_at]
    repeat rw [if_neg (by omega)]
    rw [n1, hp]
  · have q := hw.2 i hi
    have c := c1 i (by omega)
    simp only [mcp_at, Nat.zero_add, Nat.sub_zero, true_and]
    refine ⟨?_, ?_, ?_, ?_, ?_⟩
    · repeat rw [if_neg (by omega)]
      exact c.1.trans q.1
    · repeat rw [if_neg (by omega)]
      exact c.2.1.trans q.2.1
    · repeat rw [if_neg (by omega)]
      exact c.2.2.trans q.2.2.1
    · rw [if_neg (by omega), if_pos (by omega), f1 (o + 5) (by omega)]
      exact q.2.2.2.1
    · rw [if_pos (by omega), if_neg (by omega), f1 (o + 6) (by omega)]
      exact q.2.2.2.2
-- Hea.isLike: blocks [0, 11, 16, 18, 59, 61, 67]
theorem k_Hea_isLike {σ : Sg} {d : Nat} {Q : QT} {μ : Mem} {h o : Nat} {w v : Rw} (hH : iHea σ h) (hO : iHea σ o) (hw : HR w μ h) (hv : HR v μ o) (hW : WH w) (hV : WH v)
    (h1 : (∀ k, k < 121 → w k = v k) → Q (.inl 1) μ) (h0 : ¬ (∀ k, k < 121 → w k = v k) → Q (.inl 0) μ) : Call σ (d + 2) 12 [.inr (.inr h), .inr (.inr o)] μ Q := by
  refine e_12 ?_
  obtain ⟨a0, a1, a2, a3, a4, a5, a6, p0, p1, p2, p3, p4, p5⟩ := heaF hH
  obtain ⟨b0, b1, b2, b3, b4, b5, b6, r0, r1, r2, r3, r4, r5⟩ := heaF hO
  obtain ⟨n, hp, hn1, hn2⟩ := HR.n (μ := μ) (h := h) hW
  obtain ⟨n', hp', hn1', hn2'⟩ := HR.n (μ := μ) (h := h) hV
  refine wp_go b12_0 ?_; simp only [l12_0, sg_aload_0, sg_getfp, sg_aload_1, sg_iv2_i, len4_0, len4_1, len4_2, len4_3, len4_4, nLg_n, nLg_i, nLg_r, tc_c, tc_l, tc_r, tc_m, tc_n, tc_o, tc_0, inR, true_and, and_true, ne_eq, not_true_eq_false, not_false_eq_true, true_imp_iff, false_imp_iff, Int.toNat_natCast, lit_a, Nat.reduceAdd, or_true, true_or, or_false, false_or, Int.reduceEq, Int.reduceNe, Int.reduceLT, Int.reduceLE, Int.reduceNeg, sg_nil, a0, a1, a2, a3, a4, a5, a6, p0, p1, p2, p3, p4, p5, b0, b1, b2, b3, b4, b5, b6, r0, r1, r2, r3, r4, r5]
  refine k_Sen_isLike hH.2.1 hO.2.1 (n := n) (n' := n') (by rw [hw.1]; exact hp) (by rw [hv.1]; exact hp') hn2 hn2' (fun i hi => ?_) (fun i hi => ?_) (fun hnn hall => ?_) (fun hno => ?_)
  · have q := hW.2.1 i (by omega)
    have e := hw.2 i (by omega)
    unfold inR
    rw [show μ (h + 1 + 1) i = _ from e.1, show μ (h + 1 + 2) i = _ from e.2.1, show μ (h + 1 + 3) i = _ from e.2.2.1]
    omega
  · have q := hV.2.1 i (by omega)
    have e := hv.2 i (by omega)
    unfold inR
    rw [show μ (o + 1 + 1) i = _ from e.1, show μ (o + 1 + 2) i = _ from e.2.1, show μ (o + 1 + 3) i = _ from e.2.2.1]
    omega
  · have three : ∀ i : Nat, i < n → w (5 * i + 3) = v (5 * i + 3) ∧ w (5 * i + 4) = v (5 * i + 4) ∧ w (5 * i + 5) = v (5 * i + 5) := by
      intro i hi
      have e := hw.2 i (by omega)
      have e' := hv.2 i (by omega)
      have c := hall i hi
      rw [show μ (h + 1 + 1) i = _ from e.1, show μ (h + 1 + 2) i = _ from e.2.1, show μ (h + 1 + 3) i = _ from e.2.2.1, show μ (o + 1 + 1) i = _ from e'.1, show μ (o + 1 + 2) i = _ from e'.2.1, show μ (o + 1 + 3) i = _ from e'.2.2.1] at c
      exact c
    have loop : ∀ k i : Nat, i + k = n → (∀ j, j < i → w (5 * j + 1) = v (5 * j + 1) ∧ w (5 * j + 2) = v (5 * j + 2)) → wp σ (Call σ (d + 1)) 12 Q 18 [some (.inr (.inr h)), some (.inr (.inr o)), some (.inl (i : Int))] [] μ := by
      intro k
      induction k with
      | zero =>
        intro i hi hm
        obtain rfl : i = n := by omega
        have h1 := h1 (fun k hk => by
          rcases Nat.lt_or_ge (5 * i) k with q | q
          · rw [hW.2.2.2 k (by omega) hk, hV.2.2.2 k (by omega) hk]
          · rcases Nat.eq_zero_or_pos k with q0 | q0
            · rw [q0, hp, hp', hnn]
            · have t := three ((k - 1) / 5) (by omega)
              have s := hm ((k - 1) / 5) (by omega)
              rcases (show k = 5 * ((k - 1) / 5) + 1 ∨ k = 5 * ((k - 1) / 5) + 2 ∨ k = 5 * ((k - 1) / 5) + 3 ∨ k = 5 * ((k - 1) / 5) + 4 ∨ k = 5 * ((k - 1) / 5) + 5 by omega) with r | r | r | r | r <;> rw [r]
              · exact s.1
              · exact s.2
              · exact t.1
              · exact t.2.1
              · exact t.2.2)
        refine wp_go b12_18 ?_; simp only [l12_18, sg_iload_2, sg_aload_0, sg_getfp, sg_getf0, sg_ic_ge, sg_iaload, sg_aload_1, sg_ic_ne, sg_ic_eq, nLg_n, nLg_i, nLg_r, tc_c, tc_l, tc_r, tc_m, tc_n, tc_o, tc_0, inR, true_and, and_true, ne_eq, not_true_eq_false, not_false_eq_true, true_imp_iff, false_imp_iff, Int.toNat_natCast, lit_a, Nat.reduceAdd, or_true, true_or, or_false, false_or, Int.reduceEq, Int.reduceNe, Int.reduceLT, Int.reduceLE, Int.reduceNeg, sg_nil, a0, a1, a2, a3, a4, a5, a6, p0, p1, p2, p3, p4, p5, hw.1, hp]
        repeat' (first | with_reducible apply And.intro | (intro _) | ((first | refine wp_go b12_0 ?_ | refine wp_go b12_11 ?_ | refine wp_go b12_16 ?_ | refine wp_go b12_59 ?_ | refine wp_go b12_61 ?_ | refine wp_go b12_67 ?_); simp only [l12_0, l12_11, l12_16, l12_59, l12_61, l12_67, sg_aload_0, sg_getfp, sg_aload_1, sg_iv2_i, len4_0, len4_1, len4_2, len4_3, len4_4, sg_if_ne, sg_iconst, sg_iret1, sg_istore_2, sg_iinc, ldI_2, okS_2, stL_2, sg_goto, nLg_n, nLg_i, nLg_r, tc_c, tc_l, tc_r, tc_m, tc_n, tc_o, tc_0, inR, true_and, and_true, ne_eq, not_true_eq_false, not_false_eq_true, true_imp_iff, false_imp_iff, Int.toNat_natCast, lit_a, Nat.reduceAdd, or_true, true_or, or_false, false_or, Int.reduceEq, Int.reduceNe, Int.reduceLT, Int.reduceLE, Int.reduceNeg, sg_nil]))
        all_goals (try omega)
      | succ k ih =>
        intro i hi hm
        have e := hw.2 i (by omega)
        have e' := hv.2 i (by omega)
        have r1 := hW.no (i := i) (by omega)
        have r2 := hW.nt (i := i) (by omega)
        have r3 := hV.no (i := i) (by omega)
        have r4 := hV.nt (i := i) (by omega)
        refine wp_go b12_18 ?_; simp only [l12_18, sg_iload_2, sg_aload_0, sg_getfp, sg_getf0, sg_ic_ge, sg_iaload, sg_aload_1, sg_ic_ne, sg_ic_eq, nLg_n, nLg_i, nLg_r, tc_c, tc_l, tc_r, tc_m, tc_n, tc_o, tc_0, inR, true_and, and_true, ne_eq, not_true_eq_false, not_false_eq_true, true_imp_iff, false_imp_iff, Int.toNat_natCast, lit_a, Nat.reduceAdd, or_true, true_or, or_false, false_or, Int.reduceEq, Int.reduceNe, Int.reduceLT, Int.reduceLE, Int.reduceNeg, sg_nil, a0, a1, a2, a3, a4, a5, a6, p0, p1, p2, p3, p4, p5, b0, b1, b2, b3, b4, b5, b6, r0, r1, r2, r3, r4, r5, hw.1, hp, e.2.2.2.1, e.2.2.2.2, e'.2.2.2.1, e'.2.2.2.2]
        repeat' (first | with_reducible apply And.intro | (intro _) | ((first | refine wp_go b12_0 ?_ | refine wp_go b12_11 ?_ | refine wp_go b12_16 ?_ | refine wp_go b12_59 ?_ | refine wp_go b12_61 ?_ | refine wp_go b12_67 ?_); simp only [l12_0, l12_11, l12_16, l12_59, l12_61, l12_67, sg_aload_0, sg_getfp, sg_aload_1, sg_iv2_i, len4_0, len4_1, len4_2, len4_3, len4_4, sg_if_ne, sg_iconst, sg_iret1, sg_istore_2, sg_iinc, ldI_2, okS_2, stL_2, sg_goto, nLg_n, nLg_i, nLg_r, tc_c, tc_l, tc_r, tc_m, tc_n, tc_o, tc_0, inR, true_and, and_true, ne_eq, not_true_eq_false, not_false_eq_true, true_imp_iff, false_imp_iff, Int.toNat_natCast, lit_a, Nat.reduceAdd, or_true, true_or, or_false, false_or, Int.reduceEq, Int.reduceNe, Int.reduceLT, Int.reduceLE, Int.reduceNeg, sg_nil]))
        all_goals (try omega)
        all_goals first
          | exact ih (i + 1) (by omega) (fun j hj => by
              rcases Nat.lt_or_ge j i with q | q
              · exact hm j q
              · have : j = i := by omega
                subst this; exact ⟨by omega, by omega⟩)
          | exact h0 (fun q => by have := q (5 * i + 1) (by omega); have := q (5 * i + 2) (by omega); omega)
    have l0 := loop n 0 (by omega) (fun j hj => absurd hj (by omega))
    refine wp_go b12_11 ?_; simp only [l12_11, sg_if_ne, sg_iconst, sg_iret1, nLg_n, nLg_i, nLg_r, tc_c, tc_l, tc_r, tc_m, tc_n, tc_o, tc_0, inR, true_and, and_true, ne_eq, not_true_eq_false, not_false_eq_true, true_imp_iff, false_imp_iff, Int.toNat_natCast, lit_a, Nat.reduceAdd, or_true, true_or, or_false, false_or, Int.reduceEq, Int.reduceNe, Int.reduceLT, Int.reduceLE, Int.reduceNeg, sg_nil]
    repeat' (first | with_reducible apply And.intro | (intro _) | ((first | refine wp_go b12_0 ?_ | refine wp_go b12_11 ?_ | refine wp_go b12_16 ?_ | refine wp_go b12_59 ?_ | refine wp_go b12_61 ?_ | refine wp_go b12_67 ?_); simp only [l12_0, l12_11, l12_16, l12_59, l12_61, l12_67, sg_aload_0, sg_getfp, sg_aload_1, sg_iv2_i, len4_0, len4_1, len4_2, len4_3, len4_4, sg_if_ne, sg_iconst, sg_iret1, sg_istore_2, sg_iinc, ldI_2, okS_2, stL_2, sg_goto, nLg_n, nLg_i, nLg_r, tc_c, tc_l, tc_r, tc_m, tc_n, tc_o, tc_0, inR, true_and, and_true, ne_eq, not_true_eq_false, not_false_eq_true, true_imp_iff, false_imp_iff, Int.toNat_natCast, lit_a, Nat.reduceAdd, or_true, true_or, or_false, false_or, Int.reduceEq, Int.reduceNe, Int.reduceLT, Int.reduceLE, Int.reduceNeg, sg_nil]))
    all_goals (try omega)
    all_goals exact l0
  · have h0 := h0 (fun q => hno ⟨by have := q 0 (by omega); omega, fun i hi => by
      have e := hw.2 i (by omega)
      have a := q 0 (by omega)
      have e' := hv.2 i (by omega)
      rw [show μ (h + 1 + 1) i = _ from e.1, show μ (h + 1 + 2) i = _ from e.2.1, show μ (h + 1 + 3) i = _ from e.2.2.1, show μ (o + 1 + 1) i = _ from e'.1, show μ (o + 1 + 2) i = _ from e'.2.1, show μ (o + 1 + 3) i = _ from e'.2.2.1]
      exact ⟨q _ (by omega), q _ (by omega), q _ (by omega)⟩⟩)
    refine wp_go b12_11 ?_; simp only [l12_11, sg_if_ne, sg_iconst, sg_iret1, nLg_n, nLg_i, nLg_r, tc_c, tc_l, tc_r, tc_m, tc_n, tc_o, tc_0, inR, true_and, and_true, ne_eq, not_true_eq_false, not_false_eq_true, true_imp_iff, false_imp_iff, Int.toNat_natCast, lit_a, Nat.reduceAdd, or_true, true_or, or_false, false_or, Int.reduceEq, Int.reduceNe, Int.reduceLT, Int.reduceLE, Int.reduceNeg, sg_nil]
    repeat' (first | with_reducible apply And.intro | (intro _) | ((first | refine wp_go b12_0 ?_ | refine wp_go b12_11 ?_ | refine wp_go b12_16 ?_ | refine wp_go b12_59 ?_ | refine wp_go b12_61 ?_ | refine wp_go b12_67 ?_); simp only [l12_0, l12_11, l12_16, l12_59, l12_61, l12_67, sg_aload_0, sg_getfp, sg_aload_1, sg_iv2_i, len4_0, len4_1, len4_2, len4_3, len4_4, sg_if_ne, sg_iconst, sg_iret1, sg_istore_2, sg_iinc, ldI_2, okS_2, stL_2, sg_goto, nLg_n, nLg_i, nLg_r, tc_c, tc_l, tc_r, tc_m, tc_n, tc_o, tc_0, inR, true_and, and_true, ne_eq, not_true_eq_false, not_false_eq_true, true_imp_iff, false_imp_iff, Int.toNat_natCast, lit_a, Nat.reduceAdd, or_true, true_or, or_false, false_or, Int.reduceEq, Int.reduceNe, Int.reduceLT, Int.reduceLE, Int.reduceNeg, sg_nil]))
    all_goals (try omega)
end
section
theorem staF {σ : Sg} {S : Nat} (H : iSta σ S) : (shp σ S).1 = 5 ∧ (shp σ (S + 1)).1 = 4 ∧ shp σ (S + 2) = (100, 24) ∧ shp σ (S + 3) = (100, 24) ∧ shp σ (S + 4) = (100, 24) ∧ shp σ (S + 5) = (100, 24) ∧ shp σ (S + 6) = (100, 96) ∧ shp σ (S + 7) = (100, 8) ∧ shp σ (S + 8) = (100, 8) ∧ shp σ (S + 9) = (100, 6) ∧ shp σ (S + 10) = (100, 6) ∧ shp σ (S + 11) = (102, 6) ∧ shp σ (S + 12) = (103, 6) ∧
    σ.2 S 0 = true ∧ σ.2 S 1 = true ∧ σ.2 S 2 = true ∧ σ.2 S 3 = true ∧ σ.2 S 4 = true ∧ σ.2 S 5 = true ∧ σ.2 S 6 = true ∧ σ.2 S 7 = true ∧ σ.2 S 8 = true ∧ σ.2 (S + 1) 0 = true ∧ σ.2 (S + 1) 1 = true ∧ σ.2 (S + 1) 2 = true := by
  obtain ⟨a0, ⟨b0, b1, b2, b3, b4, b5, b6⟩, ⟨c1, c2, c3, c4, c5, c6, c7, c8⟩, -, hp, -⟩ := H
  exact ⟨a0, b0, b1, b2, b3, c1, c2, c3, c4, c5, c6, c7, c8, hp 0 (by omega), hp 1 (by omega), hp 2 (by omega), hp 3 (by omega), hp 4 (by omega), hp 5 (by omega), hp 6 (by omega), hp 7 (by omega), hp 8 (by omega), b4, b5, b6⟩
/-- an Int that is a place -/
theorem nat_of {x : Int} (h : 0 ≤ x) : ∃ n : Nat, x = (n : Int) := ⟨x.toNat, by omega⟩
-- Sta.hasSentence: blocks [0, 14]
theorem k_Sta_hasSentence {σ : Sg} {d : Nat} {Q : QT} {μ : Mem} {S : Nat} {s : Int} {z : Rw} (hS : iSta σ S) (hR : RC z μ S) (hz : IZ z) (hs : inR s) (h1 : 0 ≤ s → s < z 0 → Q (.inl 1) μ) (h0 : (s < 0 ∨ z 0 ≤ s) → Q (.inl 0) μ) : Call σ (d + 2) 27 [.inr (.inr S), .inl s] μ Q := by
  refine e_27 ?_
  obtain ⟨t0, t1, t2, t3, t4, t5, t6, t7, t8, t9, t10, t11, t12, u0, u1, u2, u3, u4, u5, u6, u7, u8, u9, u10, u11⟩ := staF hS
  have q := hz.1
  refine wp_go b27_0 ?_; simp only [l27_0, sg_iload_1, sg_iconst, sg_aload_0, sg_getfp, sg_getf0, sg_isub, len4_0, len4_1, len4_2, len4_3, len4_4, sg_is3_2, nLg_n, nLg_i, nLg_r, tc_c, tc_l, tc_r, tc_m, tc_n, tc_o, tc_0, inR, true_and, and_true, ne_eq, not_true_eq_false, not_false_eq_true, true_imp_iff, false_imp_iff, Int.toNat_natCast, lit_a, Nat.reduceAdd, or_true, true_or, or_false, false_or, Int.reduceEq, Int.reduceNe, Int.reduceLT, Int.reduceLE, Int.reduceNeg, sg_nil, t0, t1, t2, t3, t4, t5, t6, t7, t8, t9, t10, t11, t12, u0, u1, u2, u3, u4, u5, u6, u7, u8, u9, u10, u11, hR.1.1]
  refine k_NS_isWithin hs (by unfold inR; omega) (by unfold inR; omega) (fun _ _ => ?_) (fun _ => ?_)
  · have h1 := h1 (by omega) (by omega)
    refine wp_go b27_14 ?_; simp only [l27_14, sg_iret1, nLg_n, nLg_i, nLg_r, tc_c, tc_l, tc_r, tc_m, tc_n, tc_o, tc_0, inR, true_and, and_true, ne_eq, not_true_eq_false, not_false_eq_true, true_imp_iff, false_imp_iff, Int.toNat_natCast, lit_a, Nat.reduceAdd, or_true, true_or, or_false, false_or, Int.reduceEq, Int.reduceNe, Int.reduceLT, Int.reduceLE, Int.reduceNeg, sg_nil]
    exact h1
  · have h0 := h0 (by omega)
    refine wp_go b27_14 ?_; simp only [l27_14, sg_iret1, nLg_n, nLg_i, nLg_r, tc_c, tc_l, tc_r, tc_m, tc_n, tc_o, tc_0, inR, true_and, and_true, ne_eq, not_true_eq_false, not_false_eq_true, true_imp_iff, false_imp_iff, Int.toNat_natCast, lit_a, Nat.reduceAdd, or_true, true_or, or_false, false_or, Int.reduceEq, Int.reduceNe, Int.reduceLT, Int.reduceLE, Int.reduceNeg, sg_nil]
    exact h0
-- Sta.hasNotice: blocks [0, 11]
theorem k_Sta_hasNotice {σ : Sg} {d : Nat} {Q : QT} {μ : Mem} {S : Nat} {s : Int} {z : Rw} (hS : iSta σ S) (hR : RC z μ S) (hz : IZ z) (hs : inR s) (h1 : 0 ≤ s → s < z 2 → Q (.inl 1) μ) (h0 : (s < 0 ∨ z 2 ≤ s) → Q (.inl 0) μ) : Call σ (d + 2) 28 [.inr (.inr S), .inl s] μ Q := by
  refine e_28 ?_
  obtain ⟨t0, t1, t2, t3, t4, t5, t6, t7, t8, t9, t10, t11, t12, u0, u1, u2, u3, u4, u5, u6, u7, u8, u9, u10, u11⟩ := staF hS
  have q := hz.1
  refine wp_go b28_0 ?_; simp only [l28_0, sg_iload_1, sg_iconst, sg_aload_0, sg_getf0, sg_isub, len4_0, len4_1, len4_2, len4_3, len4_4, sg_is3_2, nLg_n, nLg_i, nLg_r, tc_c, tc_l, tc_r, tc_m, tc_n, tc_o, tc_0, inR, true_and, and_true, ne_eq, not_true_eq_false, not_false_eq_true, true_imp_iff, false_imp_iff, Int.toNat_natCast, lit_a, Nat.reduceAdd, or_true, true_or, or_false, false_or, Int.reduceEq, Int.reduceNe, Int.reduceLT, Int.reduceLE, Int.reduceNeg, sg_nil, t0, t1, t2, t3, t4, t5, t6, t7, t8, t9, t10, t11, t12, u0, u1, u2, u3, u4, u5, u6, u7, u8, u9, u10, u11, hR.1.2.2.1]
  refine k_NS_isWithin hs (by unfold inR; omega) (by unfold inR; omega) (fun _ _ => ?_) (fun _ => ?_)
  · have h1 := h1 (by omega) (by omega)
    refine wp_go b28_11 ?_; simp only [l28_11, sg_iret1, nLg_n, nLg_i, nLg_r, tc_c, tc_l, tc_r, tc_m, tc_n, tc_o, tc_0, inR, true_and, and_true, ne_eq, not_true_eq_false, not_false_eq_true, true_imp_iff, false_imp_iff, Int.toNat_natCast, lit_a, Nat.reduceAdd, or_true, true_or, or_false, false_or, Int.reduceEq, Int.reduceNe, Int.reduceLT, Int.reduceLE, Int.reduceNeg, sg_nil]
    exact h1
  · have h0 := h0 (by omega)
    refine wp_go b28_11 ?_; simp only [l28_11, sg_iret1, nLg_n, nLg_i, nLg_r, tc_c, tc_l, tc_r, tc_m, tc_n, tc_o, tc_0, inR, true_and, and_true, ne_eq, not_true_eq_false, not_false_eq_true, true_imp_iff, false_imp_iff, Int.toNat_natCast, lit_a, Nat.reduceAdd, or_true, true_or, or_false, false_or, Int.reduceEq, Int.reduceNe, Int.reduceLT, Int.reduceLE, Int.reduceNeg, sg_nil]
    exact h0
-- Sta.hasListener: blocks [0, 11]
theorem k_Sta_hasListener {σ : Sg} {d : Nat} {Q : QT} {μ : Mem} {S : Nat} {s : Int} {z : Rw} (hS : iSta σ S) (hR : RC z μ S) (hz : IZ z) (hs : inR s) (h1 : 0 ≤ s → s < z 3 → Q (.inl 1) μ) (h0 : (s < 0 ∨ z 3 ≤ s) → Q (.inl 0) μ) : Call σ (d + 2) 29 [.inr (.inr S), .inl s] μ Q := by
  refine e_29 ?_
  obtain ⟨t0, t1, t2, t3, t4, t5, t6, t7, t8, t9, t10, t11, t12, u0, u1, u2, u3, u4, u5, u6, u7, u8, u9, u10, u11⟩ := staF hS
  have q := hz.1
  refine wp_go b29_0 ?_; simp only [l29_0, sg_iload_1, sg_iconst, sg_aload_0, sg_getf0, sg_isub, len4_0, len4_1, len4_2, len4_3, len4_4, sg_is3_2, nLg_n, nLg_i, nLg_r, tc_c, tc_l, tc_r, tc_m, tc_n, tc_o, tc_0, inR, true_and, and_true, ne_eq, not_true_eq_false, not_false_eq_true, true_imp_iff, false_imp_iff, Int.toNat_natCast, lit_a, Nat.reduceAdd, or_true, true_or, or_false, false_or, Int.reduceEq, Int.reduceNe, Int.reduceLT, Int.reduceLE, Int.reduceNeg, sg_nil, t0, t1, t2, t3, t4, t5, t6, t7, t8, t9, t10, t11, t12, u0, u1, u2, u3, u4, u5, u6, u7, u8, u9, u10, u11, hR.1.2.2.2]
  refine k_NS_isWithin hs (by unfold inR; omega) (by unfold inR; omega) (fun _ _ => ?_) (fun _ => ?_)
  · have h1 := h1 (by omega) (by omega)
    refine wp_go b29_11 ?_; simp only [l29_11, sg_iret1, nLg_n, nLg_i, nLg_r, tc_c, tc_l, tc_r, tc_m, tc_n, tc_o, tc_0, inR, true_and, and_true, ne_eq, not_true_eq_false, not_false_eq_true, true_imp_iff, false_imp_iff, Int.toNat_natCast, lit_a, Nat.reduceAdd, or_true, true_or, or_false, false_or, Int.reduceEq, Int.reduceNe, Int.reduceLT, Int.reduceLE, Int.reduceNeg, sg_nil]
    exact h1
  · have h0 := h0 (by omega)
    refine wp_go b29_11 ?_; simp only [l29_11, sg_iret1, nLg_n, nLg_i, nLg_r, tc_c, tc_l, tc_r, tc_m, tc_n, tc_o, tc_0, inR, true_and, and_true, ne_eq, not_true_eq_false, not_false_eq_true, true_imp_iff, false_imp_iff, Int.toNat_natCast, lit_a, Nat.reduceAdd, or_true, true_or, or_false, false_or, Int.reduceEq, Int.reduceNe, Int.reduceLT, Int.reduceLE, Int.reduceNeg, sg_nil]
    exact h0
-- Sta.isRowFull: blocks [0, 14, 15]
theorem k_Sta_isRowFull {σ : Sg} {d : Nat} {Q : QT} {μ : Mem} {S i : Nat} {z : Rw} (hS : iSta σ S) (hR : RC z μ S) (hz : IZ z) (hi : (i : Int) < z 0) (h1 : 4 ≤ z (76 + 5 * i) → Q (.inl 1) μ) (h0 : z (76 + 5 * i) < 4 → Q (.inl 0) μ) : Call σ (d + 1) 30 [.inr (.inr S), .inl (i : Int)] μ Q := by
  refine e_30 ?_
  obtain ⟨t0, t1, t2, t3, t4, t5, t6, t7, t8, t9, t10, t11, t12, u0, u1, u2, u3, u4, u5, u6, u7, u8, u9, u10, u11⟩ := staF hS
  have q := hz.1
  have e := (hR.2.1 i hi).2.2.2.1
  have r := (hz.2.1 i hi).2.2.2.1
  refine wp_go b30_0 ?_; simp only [l30_0, sg_aload_0, sg_getfp, sg_iload_1, sg_iaload, sg_iconst, sg_ic_lt, sg_goto, nLg_n, nLg_i, nLg_r, tc_c, tc_l, tc_r, tc_m, tc_n, tc_o, tc_0, inR, true_and, and_true, ne_eq, not_true_eq_false, not_false_eq_true, true_imp_iff, false_imp_iff, Int.toNat_natCast, lit_a, Nat.reduceAdd, or_true, true_or, or_false, false_or, Int.reduceEq, Int.reduceNe, Int.reduceLT, Int.reduceLE, Int.reduceNeg, sg_nil, t0, t1, t2, t3, t4, t5, t6, t7, t8, t9, t10, t11, t12, u0, u1, u2, u3, u4, u5, u6, u7, u8, u9, u10, u11, e]
  repeat' (first | with_reducible apply And.intro | (intro _) | ((first | refine wp_go b30_0 ?_ | refine wp_go b30_14 ?_ | refine wp_go b30_15 ?_); simp only [l30_0, l30_14, l30_15, sg_aload_0, sg_getfp, sg_iload_1, sg_iaload, sg_iconst, sg_ic_lt, sg_goto, sg_iret1, nLg_n, nLg_i, nLg_r, tc_c, tc_l, tc_r, tc_m, tc_n, tc_o, tc_0, inR, true_and, and_true, ne_eq, not_true_eq_false, not_false_eq_true, true_imp_iff, false_imp_iff, Int.toNat_natCast, lit_a, Nat.reduceAdd, or_true, true_or, or_false, false_or, Int.reduceEq, Int.reduceNe, Int.reduceLT, Int.reduceLE, Int.reduceNeg, sg_nil]))
  all_goals (try omega)
  all_goals first | exact h1 (by omega) | exact h0 (by omega)
-- Sta.inRow: blocks [0]
theorem k_Sta_inRow {σ : Sg} {d : Nat} {Q : QT} {μ : Mem} {S i j : Nat} {z : Rw} (hS : iSta σ S) (hR : R0 z μ S) (hz : IZ z) (hi : (i : Int) < z 0) (hj : (j : Int) < z (76 + 5 * i)) (h : Q (.inl (z (77 + 5 * i + j))) μ) : Call σ (d + 1) 31 [.inr (.inr S), .inl (i : Int), .inl (j : Int)] μ Q := by
  refine e_31 ?_
  obtain ⟨t0, t1, t2, t3, t4, t5, t6, t7, t8, t9, t10, t11, t12, u0, u1, u2, u3, u4, u5, u6, u7, u8, u9, u10, u11⟩ := staF hS
  have q := hz.1
  have r := (hz.2.1 i hi).2.2.2.1
  have e := (hR.1 i hi).2.2.2.2 j hj
  rw [Nat.mul_comm 4 i] at e
  refine wp_go b31_0 ?_; simp only [l31_0, sg_aload_0, sg_getfp, sg_iload_1, sg_iconst, sg_imul, sg_iload_2, sg_iadd, sg_iaload, sg_iret0, nLg_n, nLg_i, nLg_r, tc_c, tc_l, tc_r, tc_m, tc_n, tc_o, tc_0, inR, true_and, and_true, ne_eq, not_true_eq_false, not_false_eq_true, true_imp_iff, false_imp_iff, Int.toNat_natCast, lit_a, Nat.reduceAdd, or_true, true_or, or_false, false_or, Int.reduceEq, Int.reduceNe, Int.reduceLT, Int.reduceLE, Int.reduceNeg, sg_nil, t0, t1, t2, t3, t4, t5, t6, t7, t8, t9, t10, t11, t12, u0, u1, u2, u3, u4, u5, u6, u7, u8, u9, u10, u11, e]
  repeat' (first | with_reducible apply And.intro | (intro _) | ((first | refine wp_go b31_0 ?_); simp only [l31_0, sg_aload_0, sg_getfp, sg_iload_1, sg_iconst, sg_imul, sg_iload_2, sg_iadd, sg_iaload, sg_iret0, nLg_n, nLg_i, nLg_r, tc_c, tc_l, tc_r, tc_m, tc_n, tc_o, tc_0, inR, true_and, and_true, ne_eq, not_true_eq_false, not_false_eq_true, true_imp_iff, false_imp_iff, Int.toNat_natCast, lit_a, Nat.reduceAdd, or_true, true_or, or_false, false_or, Int.reduceEq, Int.reduceNe, Int.reduceLT, Int.reduceLE, Int.reduceNeg, sg_nil]))
  all_goals (try omega)
  all_goals exact h
def exI (p : Nat → Bool) : Nat → Int
  | 0 => 0
  | n + 1 => if p n = true then 1 else exI p n
theorem exI_t {p : Nat → Bool} : ∀ {n i : Nat}, i < n → p i = true → exI p n = 1
  | n + 1, i, hi, hp => by
    unfold exI
    split
    · rfl
    · rename_i q
      exact exI_t (n := n) (i := i) (by
        rcases Nat.lt_or_ge i n with r | r
        · exact r
        · have : i = n := by omega
          subst this; exact absurd hp q) hp
theorem exI_f {p : Nat → Bool} : ∀ {n : Nat}, (∀ i, i < n → p i = false) → exI p n = 0
  | 0, _ => rfl
  | n + 1, h => by
    unfold exI
    rw [if_neg (by rw [h n (by omega)]; decide)]
    exact exI_f (fun i hi => h i (by omega))
theorem exI_01 {p : Nat → Bool} : ∀ n : Nat, exI p n = 0 ∨ exI p n = 1
  | 0 => Or.inl rfl
  | n + 1 => by
    unfold exI
    split
    · exact Or.inr rfl
    · exact exI_01 n
-- Sta.isInRow: blocks [0, 2, 18, 24, 30]
theorem k_Sta_isInRow {σ : Sg} {d : Nat} {Q : QT} {μ : Mem} {S i : Nat} {t : Int} {z : Rw} (hS : iSta σ S) (hR : RC z μ S) (hz : IZ z) (hi : (i : Int) < z 0) (ht : inR t) (h : Q (.inl (exI (fun j => decide (z (77 + 5 * i + j) = t)) (z (76 + 5 * i)).toNat)) μ) : Call σ (d + 2) 33 [.inr (.inr S), .inl (i : Int), .inl t] μ Q := by
  refine e_33 ?_
  obtain ⟨t0, t1, t2, t3, t4, t5, t6, t7, t8, t9, t10, t11, t12, u0, u1, u2, u3, u4, u5, u6, u7, u8, u9, u10, u11⟩ := staF hS
  have q := hz.1
  have e := (hR.2.1 i hi).2.2.2.1
  have r := (hz.2.1 i hi).2.2.2.1
  unfold inR at ht
  obtain ⟨n, hn⟩ := nat_of r.1
  rw [hn, Int.toNat_natCast] at h
  have loop : ∀ k j : Nat, j + k = n → (∀ j', j' < j → ¬ z (77 + 5 * i + j') = t) → wp σ (Call σ (d + 1)) 33 Q 2 [some (.inr (.inr S)), some (.inl (i : Int)), some (.inl t), some (.inl (j : Int))] [] μ := by
    intro k
    induction k with
    | zero =>
      intro j hj hm
      obtain rfl : j = n := by omega
      rw [exI_f (fun j hj => decide_eq_false (hm j hj))] at h
      refine wp_go b33_2 ?_; simp only [l33_2, sg_iload_3, sg_aload_0, sg_getfp, sg_iload_1, sg_iaload, sg_ic_ge, sg_iv3_i, len4_0, len4_1, len4_2, len4_3, len4_4, nLg_n, nLg_i, nLg_r, tc_c, tc_l, tc_r, tc_m, tc_n, tc_o, tc_0, inR, true_and, and_true, ne_eq, not_true_eq_false, not_false_eq_true, true_imp_iff, false_imp_iff, Int.toNat_natCast, lit_a, Nat.reduceAdd, or_true, true_or, or_false, false_or, Int.reduceEq, Int.reduceNe, Int.reduceLT, Int.reduceLE, Int.reduceNeg, sg_nil, t0, t1, t2, t3, t4, t5, t6, t7, t8, t9, t10, t11, t12, u0, u1, u2, u3, u4, u5, u6, u7, u8, u9, u10, u11, e, hn]
      repeat' (first | with_reducible apply And.intro | (intro _) | ((first | refine wp_go b33_0 ?_ | refine wp_go b33_18 ?_ | refine wp_go b33_24 ?_ | refine wp_go b33_30 ?_); simp only [l33_0, l33_18, l33_24, l33_30, sg_iconst, sg_istore_3, sg_iload_2, sg_ic_ne, sg_iret1, sg_iinc, ldI_3, okS_3, stL_3, sg_goto, nLg_n, nLg_i, nLg_r, tc_c, tc_l, tc_r, tc_m, tc_n, tc_o, tc_0, inR, true_and, and_true, ne_eq, not_true_eq_false, not_false_eq_true, true_imp_iff, false_imp_iff, Int.toNat_natCast, lit_a, Nat.reduceAdd, or_true, true_or, or_false, false_or, Int.reduceEq, Int.reduceNe, Int.reduceLT, Int.reduceLE, Int.reduceNeg, sg_nil]))
      all_goals (try omega)
      all_goals exact h
    | succ k ih =>
      intro j hj hm
      have w := (hz.2.1 i hi).2.2.2.2 j (by omega)
      refine wp_go b33_2 ?_; simp only [l33_2, sg_iload_3, sg_aload_0, sg_getfp, sg_iload_1, sg_iaload, sg_ic_ge, sg_iv3_i, len4_0, len4_1, len4_2, len4_3, len4_4, nLg_n, nLg_i, nLg_r, tc_c, tc_l, tc_r, tc_m, tc_n, tc_o, tc_0, inR, true_and, and_true, ne_eq, not_true_eq_false, not_false_eq_true, true_imp_iff, false_imp_iff, Int.toNat_natCast, lit_a, Nat.reduceAdd, or_true, true_or, or_false, false_or, Int.reduceEq, Int.reduceNe, Int.reduceLT, Int.reduceLE, Int.reduceNeg, sg_nil, t0, t1, t2, t3, t4, t5, t6, t7, t8, t9, t10, t11, t12, u0, u1, u2, u3, u4, u5, u6, u7, u8, u9, u10, u11, e, hn]
      repeat' (first | with_reducible apply And.intro | (intro _) | refine k_Sta_inRow hS hR.r0 hz hi (by omega) ?_ | ((first | refine wp_go b33_0 ?_ | refine wp_go b33_18 ?_ | refine wp_go b33_24 ?_ | refine wp_go b33_30 ?_); simp only [l33_0, l33_18, l33_24, l33_30, sg_iconst, sg_istore_3, sg_iload_2, sg_ic_ne, sg_iret1, sg_iinc, ldI_3, okS_3, stL_3, sg_goto, nLg_n, nLg_i, nLg_r, tc_c, tc_l, tc_r, tc_m, tc_n, tc_o, tc_0, inR, true_and, and_true, ne_eq, not_true_eq_false, not_false_eq_true, true_imp_iff, false_imp_iff, Int.toNat_natCast, lit_a, Nat.reduceAdd, or_true, true_or, or_false, false_or, Int.reduceEq, Int.reduceNe, Int.reduceLT, Int.reduceLE, Int.reduceNeg, sg_nil]))
      all_goals (try omega)
      all_goals first
        | exact ih (j + 1) (by omega) (fun j' hj' => by
            rcases Nat.lt_or_ge j' j with q | q
            · exact hm j' q
            · have : j' = j := by omega
              subst this; omega)
        | (rw [exI_t (i := j) (by omega) (decide_eq_true (by omega))] at h; exact h)
  refine wp_go b33_0 ?_; simp only [l33_0, sg_iconst, sg_istore_3, nLg_n, nLg_i, nLg_r, tc_c, tc_l, tc_r, tc_m, tc_n, tc_o, tc_0, inR, true_and, and_true, ne_eq, not_true_eq_false, not_false_eq_true, true_imp_iff, false_imp_iff, Int.toNat_natCast, lit_a, Nat.reduceAdd, or_true, true_or, or_false, false_or, Int.reduceEq, Int.reduceNe, Int.reduceLT, Int.reduceLE, Int.reduceNeg, sg_nil]
  exact loop n 0 (by omega) (fun j hj => absurd hj (by omega))
def brk (z : Rw) (t : Int) (i : Nat) : Int := exI (fun j => decide (z (77 + 5 * i + j) = t)) (z (76 + 5 * i)).toNat
-- Sta.countBreaksWith: blocks [0, 4, 22, 25, 33]
theorem k_Sta_countBreaksWith {σ : Sg} {d : Nat} {Q : QT} {μ : Mem} {S n : Nat} {t : Int} {z : Rw} (hS : iSta σ S) (hR : RC z μ S) (hz : IZ z) (hn : z 0 = (n : Int)) (ht : inR t) (h : Q (.inl (sm (brk z t) n)) μ) : Call σ (d + 3) 34 [.inr (.inr S), .inl t] μ Q := by
  refine e_34 ?_
  obtain ⟨t0, t1, t2, t3, t4, t5, t6, t7, t8, t9, t10, t11, t12, u0, u1, u2, u3, u4, u5, u6, u7, u8, u9, u10, u11⟩ := staF hS
  have q := hz.1
  have loop : ∀ k i : Nat, i + k = n → wp σ (Call σ (d + 2)) 34 Q 4 [some (.inr (.inr S)), some (.inl t), some (.inl (sm (brk z t) i)), some (.inl (i : Int))] [] μ := by
    intro k
    induction k with
    | zero =>
      intro i hi
      obtain rfl : i = n := by omega
      refine wp_go b34_4 ?_; simp only [l34_4, sg_iload_3, sg_aload_0, sg_getfp, sg_getf0, sg_ic_ge, sg_iload_2, sg_iload_1, sg_iv3_i, len4_0, len4_1, len4_2, len4_3, len4_4, nLg_n, nLg_i, nLg_r, tc_c, tc_l, tc_r, tc_m, tc_n, tc_o, tc_0, inR, true_and, and_true, ne_eq, not_true_eq_false, not_false_eq_true, true_imp_iff, false_imp_iff, Int.toNat_natCast, lit_a, Nat.reduceAdd, or_true, true_or, or_false, false_or, Int.reduceEq, Int.reduceNe, Int.reduceLT, Int.reduceLE, Int.reduceNeg, sg_nil, t0, t1, t2, t3, t4, t5, t6, t7, t8, t9, t10, t11, t12, u0, u1, u2, u3, u4, u5, u6, u7, u8, u9, u10, u11, hR.1.1, hn]
      repeat' (first | with_reducible apply And.intro | (intro _) | ((first | refine wp_go b34_0 ?_ | refine wp_go b34_22 ?_ | refine wp_go b34_25 ?_ | refine wp_go b34_33 ?_); simp only [l34_0, l34_22, l34_25, l34_33, sg_iconst, sg_istore_2, sg_istore_3, len4_0, len4_1, len4_2, len4_3, len4_4, sg_is1_2, sg_iadd, sg_iinc, ldI_3, okS_3, stL_3, sg_goto, sg_iload_2, sg_iret0, nLg_n, nLg_i, nLg_r, tc_c, tc_l, tc_r, tc_m, tc_n, tc_o, tc_0, inR, true_and, and_true, ne_eq, not_true_eq_false, not_false_eq_true, true_imp_iff, false_imp_iff, Int.toNat_natCast, lit_a, Nat.reduceAdd, or_true, true_or, or_false, false_or, Int.reduceEq, Int.reduceNe, Int.reduceLT, Int.reduceLE, Int.reduceNeg, sg_nil]))
      all_goals (try omega)
      all_goals exact h
    | succ k ih =>
      intro i hi
      refine wp_go b34_4 ?_; simp only [l34_4, sg_iload_3, sg_aload_0, sg_getfp, sg_getf0, sg_ic_ge, sg_iload_2, sg_iload_1, sg_iv3_i, len4_0, len4_1, len4_2, len4_3, len4_4, nLg_n, nLg_i, nLg_r, tc_c, tc_l, tc_r, tc_m, tc_n, tc_o, tc_0, inR, true_and, and_true, ne_eq, not_true_eq_false, not_false_eq_true, true_imp_iff, false_imp_iff, Int.toNat_natCast, lit_a, Nat.reduceAdd, or_true, true_or, or_false, false_or, Int.reduceEq, Int.reduceNe, Int.reduceLT, Int.reduceLE, Int.reduceNeg, sg_nil, t0, t1, t2, t3, t4, t5, t6, t7, t8, t9, t10, t11, t12, u0, u1, u2, u3, u4, u5, u6, u7, u8, u9, u10, u11, hR.1.1, hn]
      repeat' (first | with_reducible apply And.intro | (intro _) | refine k_Sta_isInRow hS hR hz (by omega) ht ?_ | refine k_NS_asNumber (exI_01 _) ?_ | ((first | refine wp_go b34_0 ?_ | refine wp_go b34_22 ?_ | refine wp_go b34_25 ?_ | refine wp_go b34_33 ?_); simp only [l34_0, l34_22, l34_25, l34_33, sg_iconst, sg_istore_2, sg_istore_3, len4_0, len4_1, len4_2, len4_3, len4_4, sg_is1_2, sg_iadd, sg_iinc, ldI_3, okS_3, stL_3, sg_goto, sg_iload_2, sg_iret0, nLg_n, nLg_i, nLg_r, tc_c, tc_l, tc_r, tc_m, tc_n, tc_o, tc_0, inR, true_and, and_true, ne_eq, not_true_eq_false, not_false_eq_true, true_imp_iff, false_imp_iff, Int.toNat_natCast, lit_a, Nat.reduceAdd, or_true, true_or, or_false, false_or, Int.reduceEq, Int.reduceNe, Int.reduceLT, Int.reduceLE, Int.reduceNeg, sg_nil]))
      all_goals (try omega)
      exact ih (i + 1) (by omega)
  refine wp_go b34_0 ?_; simp only [l34_0, sg_iconst, sg_istore_2, sg_istore_3, nLg_n, nLg_i, nLg_r, tc_c, tc_l, tc_r, tc_m, tc_n, tc_o, tc_0, inR, true_and, and_true, ne_eq, not_true_eq_false, not_false_eq_true, true_imp_iff, false_imp_iff, Int.toNat_natCast, lit_a, Nat.reduceAdd, or_true, true_or, or_false, false_or, Int.reduceEq, Int.reduceNe, Int.reduceLT, Int.reduceLE, Int.reduceNeg, sg_nil]
  exact loop n 0 (by omega)
-- Cho.begin: blocks [0]
theorem k_Cho_begin {σ : Sg} {d : Nat} {Q : QT} {μ : Mem} {c : Nat} {g b : Int} (hc : iCho σ c) (h : ∀ μ' : Mem, (∀ k, k ≠ c → μ' k = μ k) → μ' c 0 = g → μ' c 1 = b → μ' c 2 = 0 → μ' c 3 = 0 → μ' c 4 = 0 → μ' c 5 = 600 → Q (.inl 0) μ') : Call σ (d + 1) 1 [.inr (.inr c), .inl g, .inl b] μ Q := by
  refine e_1 ?_
  unfold iCho at hc
  refine wp_go b1_0 ?_; simp only [l1_0, sg_aload_0, sg_iload_1, sg_putf0, sg_iload_2, sg_iconst, sg_sipush, sg_ret, nLg_n, nLg_i, nLg_r, tc_c, tc_l, tc_r, tc_m, tc_n, tc_o, tc_0, inR, true_and, and_true, ne_eq, not_true_eq_false, not_false_eq_true, true_imp_iff, false_imp_iff, Int.toNat_natCast, lit_a, Nat.reduceAdd, or_true, true_or, or_false, false_or, Int.reduceEq, Int.reduceNe, Int.reduceLT, Int.reduceLE, Int.reduceNeg, sg_nil, hc]
  exact h _ (fun k hk => by funext j; simp only [ms_at, hk, false_and, if_false]) (by simp [ms_at]) (by simp [ms_at]) (by simp [ms_at]) (by simp [ms_at]) (by simp [ms_at]) (by simp [ms_at])
-- Cho.isFor: blocks [0, 21, 22, 39, 40, 55, 56]
theorem k_Cho_isFor {σ : Sg} {d : Nat} {Q : QT} {μ : Mem} {c S t : Nat} {g set : Int} {z : Rw} (hc : iCho σ c) (hS : iSta σ S) (hR : R0 z μ S) (hz : IZ z) (ht : (t : Int) < z 2) (h0 : μ c 0 = g) (h3 : μ c 3 = set)
    (k1 : bit (z (197 + 2 * t)) g = 1 → bit set t ≠ 1 → Q (.inl 1) μ) (k0 : ¬ (bit (z (197 + 2 * t)) g = 1 ∧ bit set t ≠ 1) → Q (.inl 0) μ) : Call σ (d + 1) 3 [.inr (.inr c), .inr (.inr S), .inl (t : Int)] μ Q := by
  refine e_3 ?_
  obtain ⟨t0, t1, t2, t3, t4, t5, t6, t7, t8, t9, t10, t11, t12, u0, u1, u2, u3, u4, u5, u6, u7, u8, u9, u10, u11⟩ := staF hS
  unfold iCho at hc
  have q := hz.1
  have e := (hR.2 t ht).2
  have b1 := bit_r (z (197 + 2 * t)) g
  have b2 := bit_r set t
  unfold inR at b1 b2
  unfold bit at b1 b2 k1 k0
  refine wp_go b3_0 ?_; simp only [l3_0, sg_aload_1, sg_getfp, sg_iload_2, sg_iaload, sg_aload_0, sg_getf0, sg_ishr, sg_iconst, sg_iand, sg_ic_ne, sg_goto, nLg_n, nLg_i, nLg_r, tc_c, tc_l, tc_r, tc_m, tc_n, tc_o, tc_0, inR, true_and, and_true, ne_eq, not_true_eq_false, not_false_eq_true, true_imp_iff, false_imp_iff, Int.toNat_natCast, lit_a, Nat.reduceAdd, or_true, true_or, or_false, false_or, Int.reduceEq, Int.reduceNe, Int.reduceLT, Int.reduceLE, Int.reduceNeg, sg_nil, t0, t1, t2, t3, t4, t5, t6, t7, t8, t9, t10, t11, t12, u0, u1, u2, u3, u4, u5, u6, u7, u8, u9, u10, u11, hc, e, h0, h3]
  repeat' (first | with_reducible apply And.intro | (intro _) | ((first | refine wp_go b3_0 ?_ | refine wp_go b3_21 ?_ | refine wp_go b3_22 ?_ | refine wp_go b3_39 ?_ | refine wp_go b3_40 ?_ | refine wp_go b3_55 ?_ | refine wp_go b3_56 ?_); simp only [l3_0, l3_21, l3_22, l3_39, l3_40, l3_55, l3_56, sg_aload_1, sg_getfp, sg_iload_2, sg_iaload, sg_aload_0, sg_getf0, sg_ishr, sg_iconst, sg_iand, sg_ic_ne, sg_goto, sg_istore_3, sg_istore, okS_4, stL_4, sg_iload_3, sg_if_eq, sg_iload, ldI_4, sg_if_ne, sg_iret1, nLg_n, nLg_i, nLg_r, tc_c, tc_l, tc_r, tc_m, tc_n, tc_o, tc_0, inR, true_and, and_true, ne_eq, not_true_eq_false, not_false_eq_true, true_imp_iff, false_imp_iff, Int.toNat_natCast, lit_a, Nat.reduceAdd, or_true, true_or, or_false, false_or, Int.reduceEq, Int.reduceNe, Int.reduceLT, Int.reduceLE, Int.reduceNeg, sg_nil, hc, h3]))
  all_goals (try omega)
  all_goals first
    | exact k1 (by assumption) (by assumption)
    | exact k0 (fun q => absurd q.1 (by assumption))
    | exact k0 (fun q => absurd (by assumption) q.2)
-- Cho.choose: blocks [0, 2, 18, 27, 33, 88, 101, 107]
theorem k_Cho_choose {σ : Sg} {d : Nat} {Q : QT} {μ : Mem} {c S s : Nat} {g b cnt set sec nb : Int} {z : Rw} (hc : iCho σ c) (hS : iSta σ S) (hR : R0 z μ S) (hz : IZ z) (hs : (s : Int) < z 0) (hcS : c < S ∨ S + 55 ≤ c)
    (h0 : μ c 0 = g) (h1 : μ c 1 = b) (h2 : μ c 2 = cnt) (h3 : μ c 3 = set) (h4 : μ c 4 = sec) (h5 : μ c 5 = nb) (hb : 0 ≤ b ∧ b ≤ 600) (hsec : 0 ≤ sec ∧ sec ≤ b) (hnb : 0 ≤ nb ∧ nb ≤ 600)
    (hq : ∀ (μ' : Mem) (nb' : Int), (∀ k, k ≠ c → μ' k = μ k) → μ' c 0 = g → μ' c 1 = b → μ' c 2 = cnt + bI (chs z g b (set, sec) s ≠ -6) → μ' c 3 = (nxt z (set, sec) (chs z g b (set, sec) s)).1 → μ' c 4 = (nxt z (set, sec) (chs z g b (set, sec) s)).2 → μ' c 5 = nb' → 0 ≤ nb' → nb' ≤ nb →
      (∀ b', b ≤ b' → b' < nb' → chs z g b' (set, sec) s = chs z g b (set, sec) s) → Q (.inl (chs z g b (set, sec) s)) μ') : Call σ (d + 2) 2 [.inr (.inr c), .inr (.inr S), .inl (s : Int)] μ Q := by
  refine e_2 ?_
  obtain ⟨t0, t1, t2, t3, t4, t5, t6, t7, t8, t9, t10, t11, t12, u0, u1, u2, u3, u4, u5, u6, u7, u8, u9, u10, u11⟩ := staF hS
  unfold iCho at hc
  have q := hz.1
  have e := (hR.1 s hs).2.2.2.1
  have r := (hz.2.1 s hs).2.2.2.1
  obtain ⟨n, hn⟩ := nat_of r.1
  have f0 : ∀ b', chs z g b' (set, sec) s = pickR (fun j => z (77 + 5 * s + j)) (okN z g b' set sec) n 0 := fun b' => by unfold chs; rw [hn]; rfl
  have loop : ∀ k j : Nat, j + k = n → ∀ (μ1 : Mem) (nb1 : Int) (o4 o5 : Option MV), (∀ k, k ≠ c → μ1 k = μ k) → μ1 c 0 = g → μ1 c 1 = b → μ1 c 2 = cnt → μ1 c 3 = set → μ1 c 4 = sec → μ1 c 5 = nb1 → 0 ≤ nb1 → nb1 ≤ nb →
      chs z g b (set, sec) s = pickR (fun j => z (77 + 5 * s + j)) (okN z g b set sec) k j → (∀ b', b ≤ b' → b' < nb1 → chs z g b' (set, sec) s = pickR (fun j => z (77 + 5 * s + j)) (okN z g b' set sec) k j) →
      wp σ (Call σ (d + 1)) 2 Q 2 [some (.inr (.inr c)), some (.inr (.inr S)), some (.inl (s : Int)), some (.inl (j : Int)), o4, o5] [] μ1 := by
    intro k
    induction k with
    | zero =>
      intro j hj μ1 nb1 o4 o5 mf m0 m1 m2 m3 m4 m5 n0 n1 cb cb'
      have hR1 : R0 z μ1 S := R0_f (fun k _ _ => mf k (by omega)) hR
      have e1 := (hR1.1 s hs).2.2.2.1
      have hq := hq μ1 nb1 mf m0 m1 (by rw [m2, cb]; simp [pickR, bI]) (by rw [m3, cb]; rfl) (by rw [m4, cb]; rfl) m5 n0 n1 (fun b' h1 h2 => by rw [cb' b' h1 h2, cb]; rfl)
      rw [cb] at hq
      refine wp_go b2_2 ?_; simp only [l2_2, sg_iload_3, sg_aload_1, sg_getfp, sg_iload_2, sg_iaload, sg_ic_ge, sg_iv3_i, len4_0, len4_1, len4_2, len4_3, len4_4, nLg_n, nLg_i, nLg_r, tc_c, tc_l, tc_r, tc_m, tc_n, tc_o, tc_0, inR, true_and, and_true, ne_eq, not_true_eq_false, not_false_eq_true, true_imp_iff, false_imp_iff, Int.toNat_natCast, lit_a, Nat.reduceAdd, or_true, true_or, or_false, false_or, Int.reduceEq, Int.reduceNe, Int.reduceLT, Int.reduceLE, Int.reduceNeg, sg_nil, t0, t1, t2, t3, t4, t5, t6, t7, t8, t9, t10, t11, t12, u0, u1, u2, u3, u4, u5, u6, u7, u8, u9, u10, u11, e1, hn]
      repeat' (first | with_reducible apply And.intro | (intro _) | ((first | refine wp_go b2_0 ?_ | refine wp_go b2_18 ?_ | refine wp_go b2_27 ?_ | refine wp_go b2_33 ?_ | refine wp_go b2_88 ?_ | refine wp_go b2_101 ?_ | refine wp_go b2_107 ?_); simp only [l2_0, l2_18, l2_27, l2_33, l2_88, l2_101, l2_107, sg_iconst, sg_istore_3, sg_istore, okS_4, stL_4, sg_aload_0, sg_aload_1, sg_iload, ldI_4, sg_iv3_i, len4_0, len4_1, len4_2, len4_3, len4_4, sg_if_ne, sg_goto, sg_getf0, sg_getfp, sg_iaload, sg_iadd, okS_5, stL_5, ldI_5, sg_ic_gt, sg_dup_i, sg_dup_r, sg_putf0, sg_ishl, sg_ior, sg_iret0, sg_min, sg_iinc, ldI_3, okS_3, stL_3, sg_bipush, nLg_n, nLg_i, nLg_r, tc_c, tc_l, tc_r, tc_m, tc_n, tc_o, tc_0, inR, true_and, and_true, ne_eq, not_true_eq_false, not_false_eq_true, true_imp_iff, false_imp_iff, Int.toNat_natCast, lit_a, Nat.reduceAdd, or_true, true_or, or_false, false_or, Int.reduceEq, Int.reduceNe, Int.reduceLT, Int.reduceLE, Int.reduceNeg, sg_nil]))
      all_goals (try omega)
      all_goals exact hq
    | succ k ih =>
      intro j hj μ1 nb1 o4 o5 mf m0 m1 m2 m3 m4 m5 n0 n1 cb cb'
      have hR1 : R0 z μ1 S := R0_f (fun k _ _ => mf k (by omega)) hR
      have e1 := (hR1.1 s hs).2.2.2.1
      have w := (hz.2.1 s hs).2.2.2.2 j (by omega)
      obtain ⟨m, hm⟩ := nat_of w.1
      have el := (hR1.2 m (by omega)).1
      have rl := (hz.2.2.2.1 m (by omega)).1
      have pk : ∀ b', pickR (fun j => z (77 + 5 * s + j)) (okN z g b' set sec) (k + 1) j = if okN z g b' set sec (m : Int) = true then (m : Int) else pickR (fun j => z (77 + 5 * s + j)) (okN z g b' set sec) k (j + 1) := fun b' => by
        show (if okN z g b' set sec (z (77 + 5 * s + j)) = true then z (77 + 5 * s + j) else _) = _
        rw [hm]
      have ok : ∀ b', okN z g b' set sec (m : Int) = decide (bit (z (197 + 2 * m)) g = 1 ∧ bit set m ≠ 1 ∧ sec + z (196 + 2 * m) ≤ b') := fun b' => rfl
      refine wp_go b2_2 ?_; simp only [l2_2, sg_iload_3, sg_aload_1, sg_getfp, sg_iload_2, sg_iaload, sg_ic_ge, sg_iv3_i, len4_0, len4_1, len4_2, len4_3, len4_4, nLg_n, nLg_i, nLg_r, tc_c, tc_l, tc_r, tc_m, tc_n, tc_o, tc_0, inR, true_and, and_true, ne_eq, not_true_eq_false, not_false_eq_true, true_imp_iff, false_imp_iff, Int.toNat_natCast, lit_a, Nat.reduceAdd, or_true, true_or, or_false, false_or, Int.reduceEq, Int.reduceNe, Int.reduceLT, Int.reduceLE, Int.reduceNeg, sg_nil, t0, t1, t2, t3, t4, t5, t6, t7, t8, t9, t10, t11, t12, u0, u1, u2, u3, u4, u5, u6, u7, u8, u9, u10, u11, e1, hn]
      repeat' (first | with_reducible apply And.intro | intro _)
      all_goals (try omega)
      refine k_Sta_inRow hS hR1 hz hs (by omega) ?_
      rw [hm]
      refine wp_go b2_18 ?_; simp only [l2_18, sg_istore, okS_4, stL_4, sg_aload_0, sg_aload_1, sg_iload, ldI_4, sg_iv3_i, len4_0, len4_1, len4_2, len4_3, len4_4, nLg_n, nLg_i, nLg_r, tc_c, tc_l, tc_r, tc_m, tc_n, tc_o, tc_0, inR, true_and, and_true, ne_eq, not_true_eq_false, not_false_eq_true, true_imp_iff, false_imp_iff, Int.toNat_natCast, lit_a, Nat.reduceAdd, or_true, true_or, or_false, false_or, Int.reduceEq, Int.reduceNe, Int.reduceLT, Int.reduceLE, Int.reduceNeg, sg_nil]
      repeat' (first | with_reducible apply And.intro | (intro _) | ((first | refine wp_go b2_0 ?_ | refine wp_go b2_18 ?_ | refine wp_go b2_27 ?_ | refine wp_go b2_33 ?_ | refine wp_go b2_88 ?_ | refine wp_go b2_101 ?_ | refine wp_go b2_107 ?_); simp only [l2_0, l2_18, l2_27, l2_33, l2_88, l2_101, l2_107, sg_iconst, sg_istore_3, sg_istore, okS_4, stL_4, sg_aload_0, sg_aload_1, sg_iload, ldI_4, sg_iv3_i, len4_0, len4_1, len4_2, len4_3, len4_4, sg_if_ne, sg_goto, sg_getf0, sg_getfp, sg_iaload, sg_iadd, okS_5, stL_5, ldI_5, sg_ic_gt, sg_dup_i, sg_dup_r, sg_putf0, sg_ishl, sg_ior, sg_iret0, sg_min, sg_iinc, ldI_3, okS_3, stL_3, sg_bipush, nLg_n, nLg_i, nLg_r, tc_c, tc_l, tc_r, tc_m, tc_n, tc_o, tc_0, inR, true_and, and_true, ne_eq, not_true_eq_false, not_false_eq_true, true_imp_iff, false_imp_iff, Int.toNat_natCast, lit_a, Nat.reduceAdd, or_true, true_or, or_false, false_or, Int.reduceEq, Int.reduceNe, Int.reduceLT, Int.reduceLE, Int.reduceNeg, sg_nil]))
      all_goals (try omega)
      refine k_Cho_isFor hc hS hR1 hz (by omega) m0 m3 (fun g1 g2 => ?_) (fun g1 => ?_)
      · refine wp_go b2_27 ?_; simp only [l2_27, sg_if_ne, sg_goto, nLg_n, nLg_i, nLg_r, tc_c, tc_l, tc_r, tc_m, tc_n, tc_o, tc_0, inR, true_and, and_true, ne_eq, not_true_eq_false, not_false_eq_true, true_imp_iff, false_imp_iff, Int.toNat_natCast, lit_a, Nat.reduceAdd, or_true, true_or, or_false, false_or, Int.reduceEq, Int.reduceNe, Int.reduceLT, Int.reduceLE, Int.reduceNeg, sg_nil]
        repeat' (first | with_reducible apply And.intro | intro _)
        all_goals (try omega)
        by_cases hle : sec + z (196 + 2 * m) ≤ b
        · have o1 : ∀ b', b ≤ b' → okN z g b' set sec (m : Int) = true := fun b' h => by rw [ok b']; exact decide_eq_true ⟨g1, g2, by omega⟩
          have cm : ∀ b', b ≤ b' → b' < nb1 → chs z g b' (set, sec) s = (m : Int) := fun b' h1 h2 => by rw [cb' b' h1 h2, pk b', if_pos (o1 b' h1)]
          have c0 : chs z g b (set, sec) s = (m : Int) := by rw [cb, pk b, if_pos (o1 b (Int.le_refl b))]
          have x0 : nxt z (set, sec) (m : Int) = (iOr set (iShl 1 m), sec + z (196 + 2 * m)) := by unfold nxt; rw [if_neg (by omega)]; rfl
          have hq := hq (ms (ms (ms μ1 c 2 (cnt + 1)) c 3 (iOr set (iShl 1 m))) c 4 (sec + z (196 + 2 * m))) nb1 (fun k hk => by rw [← mf k hk]; funext j; simp [ms_at, hk]) (by simp [ms_at, m0]) (by simp [ms_at, m1])
            (by rw [c0]; simp [ms_at, bI]) (by rw [c0, x0]; simp [ms_at]) (by rw [c0, x0]; simp [ms_at]) (by simp [ms_at, m5]) n0 n1 (fun b' h1 h2 => by rw [cm b' h1 h2, c0])
          rw [c0] at hq
          refine wp_go b2_33 ?_; simp only [l2_33, sg_aload_0, sg_getf0, sg_aload_1, sg_getfp, sg_iload, ldI_4, sg_iaload, sg_iadd, sg_istore, okS_5, stL_5, ldI_5, sg_ic_gt, sg_dup_i, sg_dup_r, sg_iconst, sg_putf0, sg_ishl, sg_ior, sg_iret0, nLg_n, nLg_i, nLg_r, tc_c, tc_l, tc_r, tc_m, tc_n, tc_o, tc_0, inR, true_and, and_true, ne_eq, not_true_eq_false, not_false_eq_true, true_imp_iff, false_imp_iff, Int.toNat_natCast, lit_a, Nat.reduceAdd, or_true, true_or, or_false, false_or, Int.reduceEq, Int.reduceNe, Int.reduceLT, Int.reduceLE, Int.reduceNeg, sg_nil, t0, t1, t2, t3, t4, t5, t6, t7, t8, t9, t10, t11, t12, u0, u1, u2, u3, u4, u5, u6, u7, u8, u9, u10, u11, hc, el, m1, m2, m3, m4, ms_at, false_and, and_false, if_false, if_true, and_self, Nat.reduceEqDiff]
          repeat' (first | with_reducible apply And.intro | (intro _) | ((first | refine wp_go b2_0 ?_ | refine wp_go b2_18 ?_ | refine wp_go b2_27 ?_ | refine wp_go b2_33 ?_ | refine wp_go b2_88 ?_ | refine wp_go b2_101 ?_ | refine wp_go b2_107 ?_); simp only [l2_0, l2_18, l2_27, l2_33, l2_88, l2_101, l2_107, sg_iconst, sg_istore_3, sg_istore, okS_4, stL_4, sg_aload_0, sg_aload_1, sg_iload, ldI_4, sg_iv3_i, len4_0, len4_1, len4_2, len4_3, len4_4, sg_if_ne, sg_goto, sg_getf0, sg_getfp, sg_iaload, sg_iadd, okS_5, stL_5, ldI_5, sg_ic_gt, sg_dup_i, sg_dup_r, sg_putf0, sg_ishl, sg_ior, sg_iret0, sg_min, sg_iinc, ldI_3, okS_3, stL_3, sg_bipush, nLg_n, nLg_i, nLg_r, tc_c, tc_l, tc_r, tc_m, tc_n, tc_o, tc_0, inR, true_and, and_true, ne_eq, not_true_eq_false, not_false_eq_true, true_imp_iff, false_imp_iff, Int.toNat_natCast, lit_a, Nat.reduceAdd, or_true, true_or, or_false, false_or, Int.reduceEq, Int.reduceNe, Int.reduceLT, Int.reduceLE, Int.reduceNeg, sg_nil]))
          all_goals (try omega)
          all_goals exact hq
        · have o1 : ∀ b', b' < sec + z (196 + 2 * m) → ¬ okN z g b' set sec (m : Int) = true := fun b' h => by rw [ok b', decide_eq_true_eq]; omega
          have ih1 := ih (j + 1) (by omega) (ms μ1 c 5 (if sec + z (196 + 2 * m) < nb1 then sec + z (196 + 2 * m) else nb1)) (if sec + z (196 + 2 * m) < nb1 then sec + z (196 + 2 * m) else nb1) (some (.inl (m : Int))) (some (.inl (sec + z (196 + 2 * m)))) (fun k hk => by rw [← mf k hk]; funext j; simp [ms_at, hk]) (by simp [ms_at, m0]) (by simp [ms_at, m1]) (by simp [ms_at, m2]) (by simp [ms_at, m3]) (by simp [ms_at, m4]) (by simp [ms_at]) (by split <;> omega) (by split <;> omega)
            (by rw [cb, pk b, if_neg (o1 b (by omega))]) (fun b' h1 h2 => by rw [cb' b' h1 (by split at h2 <;> omega), pk b', if_neg (o1 b' (by split at h2 <;> omega))])
          refine wp_go b2_33 ?_; simp only [l2_33, sg_aload_0, sg_getf0, sg_aload_1, sg_getfp, sg_iload, ldI_4, sg_iaload, sg_iadd, sg_istore, okS_5, stL_5, ldI_5, sg_ic_gt, sg_dup_i, sg_dup_r, sg_iconst, sg_putf0, sg_ishl, sg_ior, sg_iret0, nLg_n, nLg_i, nLg_r, tc_c, tc_l, tc_r, tc_m, tc_n, tc_o, tc_0, inR, true_and, and_true, ne_eq, not_true_eq_false, not_false_eq_true, true_imp_iff, false_imp_iff, Int.toNat_natCast, lit_a, Nat.reduceAdd, or_true, true_or, or_false, false_or, Int.reduceEq, Int.reduceNe, Int.reduceLT, Int.reduceLE, Int.reduceNeg, sg_nil, t0, t1, t2, t3, t4, t5, t6, t7, t8, t9, t10, t11, t12, u0, u1, u2, u3, u4, u5, u6, u7, u8, u9, u10, u11, hc, el, m1, m2, m3, m4, ms_at, false_and, and_false, if_false, if_true, and_self, Nat.reduceEqDiff]
          repeat' (first | with_reducible apply And.intro | (intro _) | ((first | refine wp_go b2_0 ?_ | refine wp_go b2_18 ?_ | refine wp_go b2_27 ?_ | refine wp_go b2_33 ?_ | refine wp_go b2_88 ?_ | refine wp_go b2_101 ?_ | refine wp_go b2_107 ?_); simp only [l2_0, l2_18, l2_27, l2_33, l2_88, l2_101, l2_107, sg_iconst, sg_istore_3, sg_istore, okS_4, stL_4, sg_aload_0, sg_aload_1, sg_iload, ldI_4, sg_iv3_i, len4_0, len4_1, len4_2, len4_3, len4_4, sg_if_ne, sg_goto, sg_getf0, sg_getfp, sg_iaload, sg_iadd, okS_5, stL_5, ldI_5, sg_ic_gt, sg_dup_i, sg_dup_r, sg_putf0, sg_ishl, sg_ior, sg_iret0, sg_min, sg_iinc, ldI_3, okS_3, stL_3, sg_bipush, nLg_n, nLg_i, nLg_r, tc_c, tc_l, tc_r, tc_m, tc_n, tc_o, tc_0, inR, true_and, and_true, ne_eq, not_true_eq_false, not_false_eq_true, true_imp_iff, false_imp_iff, Int.toNat_natCast, lit_a, Nat.reduceAdd, or_true, true_or, or_false, false_or, Int.reduceEq, Int.reduceNe, Int.reduceLT, Int.reduceLE, Int.reduceNeg, sg_nil, hc, m5, ms_at, false_and, and_false, if_false, if_true, and_self, Nat.reduceEqDiff]))
          all_goals (try omega)
          all_goals exact ih1
      · have o1 : ∀ b', ¬ okN z g b' set sec (m : Int) = true := fun b' => by rw [ok b', decide_eq_true_eq]; exact fun q => g1 ⟨q.1, q.2.1⟩
        have ih1 := ih (j + 1) (by omega) μ1 nb1 (some (.inl (m : Int))) o5 mf m0 m1 m2 m3 m4 m5 n0 n1 (by rw [cb, pk b, if_neg (o1 b)]) (fun b' h1 h2 => by rw [cb' b' h1 h2, pk b', if_neg (o1 b')])
        refine wp_go b2_27 ?_; simp only [l2_27, sg_if_ne, sg_goto, nLg_n, nLg_i, nLg_r, tc_c, tc_l, tc_r, tc_m, tc_n, tc_o, tc_0, inR, true_and, and_true, ne_eq, not_true_eq_false, not_false_eq_true, true_imp_iff, false_imp_iff, Int.toNat_natCast, lit_a, Nat.reduceAdd, or_true, true_or, or_false, false_or, Int.reduceEq, Int.reduceNe, Int.reduceLT, Int.reduceLE, Int.reduceNeg, sg_nil]
        repeat' (first | with_reducible apply And.intro | (intro _) | ((first | refine wp_go b2_0 ?_ | refine wp_go b2_18 ?_ | refine wp_go b2_27 ?_ | refine wp_go b2_33 ?_ | refine wp_go b2_88 ?_ | refine wp_go b2_101 ?_ | refine wp_go b2_107 ?_); simp only [l2_0, l2_18, l2_27, l2_33, l2_88, l2_101, l2_107, sg_iconst, sg_istore_3, sg_istore, okS_4, stL_4, sg_aload_0, sg_aload_1, sg_iload, ldI_4, sg_iv3_i, len4_0, len4_1, len4_2, len4_3, len4_4, sg_if_ne, sg_goto, sg_getf0, sg_getfp, sg_iaload, sg_iadd, okS_5, stL_5, ldI_5, sg_ic_gt, sg_dup_i, sg_dup_r, sg_putf0, sg_ishl, sg_ior, sg_iret0, sg_min, sg_iinc, ldI_3, okS_3, stL_3, sg_bipush, nLg_n, nLg_i, nLg_r, tc_c, tc_l, tc_r, tc_m, tc_n, tc_o, tc_0, inR, true_and, and_true, ne_eq, not_true_eq_false, not_false_eq_true, true_imp_iff, false_imp_iff, Int.toNat_natCast, lit_a, Nat.reduceAdd, or_true, true_or, or_false, false_or, Int.reduceEq, Int.reduceNe, Int.reduceLT, Int.reduceLE, Int.reduceNeg, sg_nil]))
        all_goals (try omega)
        all_goals exact ih1
  refine wp_go b2_0 ?_; simp only [l2_0, sg_iconst, sg_istore_3, nLg_n, nLg_i, nLg_r, tc_c, tc_l, tc_r, tc_m, tc_n, tc_o, tc_0, inR, true_and, and_true, ne_eq, not_true_eq_false, not_false_eq_true, true_imp_iff, false_imp_iff, Int.toNat_natCast, lit_a, Nat.reduceAdd, or_true, true_or, or_false, false_or, Int.reduceEq, Int.reduceNe, Int.reduceLT, Int.reduceLE, Int.reduceNeg, sg_nil]
  exact loop n 0 (by omega) μ nb none none (fun _ _ => rfl) h0 h1 h2 h3 h4 h5 hnb.1 (Int.le_refl nb) (f0 b) (fun b' _ _ => f0 b')
end
section
def bookZ (z : Rw) (i : Nat) (t : Int) : Rw := fun k => if k = 76 + 5 * i then z k + 1 else if k = 77 + 5 * i + (z (76 + 5 * i)).toNat then t else z k
theorem bookZ_s (z : Rw) (i : Nat) (t : Int) : bookZ z i t (76 + 5 * i) = z (76 + 5 * i) + 1 := by unfold bookZ; rw [if_pos rfl]
theorem bookZ_n (z : Rw) (i r : Nat) (t : Int) (h : z (76 + 5 * i) = (r : Int)) : bookZ z i t (77 + 5 * i + r) = t := by unfold bookZ; rw [h, Int.toNat_natCast, if_neg (by omega), if_pos rfl]
theorem bookZ_o (z : Rw) (i k : Nat) (t : Int) (h1 : k ≠ 76 + 5 * i) (h2 : k ≠ 77 + 5 * i + (z (76 + 5 * i)).toNat) : bookZ z i t k = z k := by unfold bookZ; rw [if_neg h1, if_neg h2]
-- Sta.appendToRow: blocks [0]
theorem k_Sta_appendToRow {σ : Sg} {d : Nat} {Q : QT} {μ : Mem} {S i : Nat} {t : Int} {z : Rw} (hS : iSta σ S) (hR : RC z μ S) (hz : IZ z) (hi : (i : Int) < z 0) (h4 : z (76 + 5 * i) < 4)
    (hq : ∀ μ' : Mem, (∀ k, k ≠ S + 5 → k ≠ S + 6 → μ' k = μ k) → RC (bookZ z i t) μ' S → Q (.inl 0) μ') : Call σ (d + 1) 32 [.inr (.inr S), .inl (i : Int), .inl t] μ Q := by
  refine e_32 ?_
  obtain ⟨t0, t1, t2, t3, t4, t5, t6, t7, t8, t9, t10, t11, t12, u0, u1, u2, u3, u4, u5, u6, u7, u8, u9, u10, u11⟩ := staF hS
  have q := hz.1
  have e := (hR.2.1 i hi).2.2.2.1
  have r := (hz.2.1 i hi).2.2.2.1
  obtain ⟨n, hn⟩ := nat_of r.1
  refine wp_go b32_0 ?_; simp only [l32_0, sg_aload_0, sg_getfp, sg_iload_1, sg_iconst, sg_imul, sg_iaload, sg_iadd, sg_iload_2, sg_iastore, sg_dup2, sg_ret, nLg_n, nLg_i, nLg_r, tc_c, tc_l, tc_r, tc_m, tc_n, tc_o, tc_0, inR, true_and, and_true, ne_eq, not_true_eq_false, not_false_eq_true, true_imp_iff, false_imp_iff, Int.toNat_natCast, lit_a, Nat.reduceAdd, or_true, true_or, or_false, false_or, Int.reduceEq, Int.reduceNe, Int.reduceLT, Int.reduceLE, Int.reduceNeg, sg_nil, t0, t1, t2, t3, t4, t5, t6, t7, t8, t9, t10, t11, t12, u0, u1, u2, u3, u4, u5, u6, u7, u8, u9, u10, u11, e, hn, ms_at, false_and, and_false, if_false, if_true, and_self, Nat.reduceEqDiff, ne_a, ne_b, Nat.add_left_cancel_iff]
  repeat' (first | with_reducible apply And.intro | (intro _) | ((first | refine wp_go b32_0 ?_); simp only [l32_0, sg_aload_0, sg_getfp, sg_iload_1, sg_iconst, sg_imul, sg_iaload, sg_iadd, sg_iload_2, sg_iastore, sg_dup2, sg_ret, nLg_n, nLg_i, nLg_r, tc_c, tc_l, tc_r, tc_m, tc_n, tc_o, tc_0, inR, true_and, and_true, ne_eq, not_true_eq_false, not_false_eq_true, true_imp_iff, false_imp_iff, Int.toNat_natCast, lit_a, Nat.reduceAdd, or_true, true_or, or_false, false_or, Int.reduceEq, Int.reduceNe, Int.reduceLT, Int.reduceLE, Int.reduceNeg, sg_nil]))
  all_goals (try omega)
  refine hq _ (fun k h5 h6 => by funext j; simp only [ms_at, h5, h6, false_and, if_false]) ?_
  have bo : ∀ k, k ≠ 76 + 5 * i → k ≠ 77 + 5 * i + n → bookZ z i t k = z k := fun k h1 h2 => bookZ_o z i k t h1 (by rw [hn]; exact h2)
  have b2 : bookZ z i t 2 = z 2 := bo 2 (by omega) (by omega)
  have b3 : bookZ z i t 3 = z 3 := bo 3 (by omega) (by omega)
  have b0 : bookZ z i t 0 = z 0 := bo 0 (by omega) (by omega)
  obtain ⟨⟨c0, c1, c2, c3⟩, hs, hn2, hl⟩ := hR
  unfold RC
  rw [b0, b2, b3]
  refine ⟨⟨?_, ?_, ?_, ?_⟩, fun i' hi' => ⟨?_, ?_, ?_, ?_, fun j hj => ?_⟩, fun i' hi' => ⟨?_, ?_⟩, fun l hl' => ⟨?_, ?_, ?_, fun hf => ?_⟩⟩
  · simp [ms_at, c0]
  · rw [bo 1 (by omega) (by omega)]; simp [ms_at, c1]
  · simp [ms_at, c2]
  · simp [ms_at, c3]
  · rw [bo _ (by omega) (by omega)]; simp [ms_at, (hs i' hi').1]
  · rw [bo _ (by omega) (by omega)]; simp [ms_at, (hs i' hi').2.1]
  · rw [bo _ (by omega) (by omega)]; simp [ms_at, (hs i' hi').2.2.1]
  · by_cases hii : i' = i
    · subst hii
      rw [bookZ_s, hn]
      simp [ms_at]
    · rw [bo _ (by omega) (by omega)]
      simp only [ms_at, true_and, and_true, if_true]
      (repeat (first | rw [if_neg (by omega)] | rw [if_pos (by omega)]))
      exact (hs i' hi').2.2.2.1
  · by_cases hii : i' = i
    · subst hii
      rw [bookZ_s, hn] at hj
      by_cases hjn : j = n
      · subst hjn
        rw [bookZ_n z i' j t hn]
        simp only [ms_at, true_and, and_true, if_true]
        (repeat (first | rw [if_neg (by omega)] | rw [if_pos (by omega)]))
      · rw [bo _ (by omega) (by omega)]
        simp only [ms_at, true_and, and_true, if_true]
        (repeat (first | rw [if_neg (by omega)] | rw [if_pos (by omega)]))
        exact (hs i' hi').2.2.2.2 j (by omega)
    · rw [bo _ (by omega) (by omega)] at hj
      have r' := (hz.2.1 i' hi').2.2.2.1
      rw [bo _ (by omega) (by omega)]
      simp only [ms_at, true_and, and_true, if_true]
      (repeat (first | rw [if_neg (by omega)] | rw [if_pos (by omega)]))
      exact (hs i' hi').2.2.2.2 j hj
  · rw [bo _ (by omega) (by omega)]; simp [ms_at, (hn2 i' hi').1]
  · rw [bo _ (by omega) (by omega)]; simp [ms_at, (hn2 i' hi').2]
  · rw [bo _ (by omega) (by omega)]; simp [ms_at, (hl l hl').1]
  · rw [bo _ (by omega) (by omega)]; simp [ms_at, (hl l hl').2.1]
  · rw [bo _ (by omega) (by omega)]; simp [ms_at, (hl l hl').2.2.1]
  · rw [bo _ (by omega) (by omega)] at hf
    have e2 : fw (bookZ z i t) l = fw z l := by funext k; exact bo _ (by omega) (by omega)
    rw [e2]
    exact HR_f (fun k hk1 hk2 => by funext j; simp only [ms_at, true_and, and_true, if_true]; (repeat (first | rw [if_neg (by omega)] | rw [if_pos (by omega)]))) ((hl l hl').2.2.2 hf)
-- Sta.moveSentence: blocks [0]
theorem k_Sta_moveSentence {σ : Sg} {d : Nat} {Q : QT} {μ : Mem} {S a b : Nat} (hS : iSta σ S) (ha : a < 24) (hb : b < 24)
    (hq : ∀ μ' : Mem, (∀ k, (k < S + 2 ∨ S + 6 < k) → μ' k = μ k) → (∀ k i, S + 2 ≤ k → k ≤ S + 5 → μ' k i = if i = b then μ k a else μ k i) → (∀ i j, j < 4 → μ' (S + 6) (4 * i + j) = if i = b then μ (S + 6) (4 * a + j) else μ (S + 6) (4 * i + j)) → Q (.inl 0) μ') : Call σ (d + 1) 37 [.inr (.inr S), .inl (a : Int), .inl (b : Int)] μ Q := by
  refine e_37 ?_
  obtain ⟨t0, t1, t2, t3, t4, t5, t6, t7, t8, t9, t10, t11, t12, u0, u1, u2, u3, u4, u5, u6, u7, u8, u9, u10, u11⟩ := staF hS
  refine wp_go b37_0 ?_; simp only [l37_0, sg_aload_0, sg_getfp, sg_iload_2, sg_iload_1, sg_iaload, sg_iastore, sg_iconst, sg_imul, len4_0, len4_1, len4_2, len4_3, len4_4, sg_acopy, sg_ret, nLg_n, nLg_i, nLg_r, tc_c, tc_l, tc_r, tc_m, tc_n, tc_o, tc_0, inR, true_and, and_true, ne_eq, not_true_eq_false, not_false_eq_true, true_imp_iff, false_imp_iff, Int.toNat_natCast, lit_a, Nat.reduceAdd, or_true, true_or, or_false, false_or, Int.reduceEq, Int.reduceNe, Int.reduceLT, Int.reduceLE, Int.reduceNeg, sg_nil, t0, t1, t2, t3, t4, t5, t6, t7, t8, t9, t10, t11, t12, u0, u1, u2, u3, u4, u5, u6, u7, u8, u9, u10, u11, ms_at, false_and, and_false, if_false, if_true, and_self, Nat.reduceEqDiff, ne_a, ne_b, Nat.add_left_cancel_iff, Int.toNat_zero]
  repeat' (first | with_reducible apply And.intro | (intro _) | ((first | refine wp_go b37_0 ?_); simp only [l37_0, sg_aload_0, sg_getfp, sg_iload_2, sg_iload_1, sg_iaload, sg_iastore, sg_iconst, sg_imul, len4_0, len4_1, len4_2, len4_3, len4_4, sg_acopy, sg_ret, nLg_n, nLg_i, nLg_r, tc_c, tc_l, tc_r, tc_m, tc_n, tc_o, tc_0, inR, true_and, and_true, ne_eq, not_true_eq_false, not_false_eq_true, true_imp_iff, false_imp_iff, Int.toNat_natCast, lit_a, Nat.reduceAdd, or_true, true_or, or_false, false_or, Int.reduceEq, Int.reduceNe, Int.reduceLT, Int.reduceLE, Int.reduceNeg, sg_nil]))
  all_goals (try omega)
  refine hq _ (fun k hk => ?_) (fun k i h1 h2 => ?_) (fun i j hj => ?_)
  · funext j
    simp only [ms_at, mcp_at, true_and, and_true, if_true]
    (repeat (first | rw [if_neg (by omega)] | rw [if_pos (by omega)]))
  · rcases (show k = S + 2 ∨ k = S + 3 ∨ k = S + 4 ∨ k = S + 5 by omega) with rfl | rfl | rfl | rfl <;> simp [ms_at, mcp_at]
  · by_cases hi : i = b
    · subst hi
      simp only [ms_at, mcp_at, true_and, and_true, if_true]
      (repeat (first | rw [if_neg (by omega)] | rw [if_pos (by omega)]))
      congr 1; omega
    · simp only [ms_at, mcp_at, true_and, and_true, if_true, hi, if_false]
      (repeat (first | rw [if_neg (by omega)] | rw [if_pos (by omega)]))
-- Sta.insertSentence: blocks [0, 8, 21, 27, 79, 80, 83]
theorem k_Sta_insertSentence {σ : Sg} {d : Nat} {Q : QT} {μ : Mem} {S n p : Nat} {len : Int} (hS : iSta σ S) (hn : μ (S + 1) 3 = (n : Int)) (hn2 : n < 24) (hp : p ≤ n)
    (hq : ∀ μ' : Mem, (∀ k, (k < S ∨ S + 6 < k) → μ' k = μ k) → (∀ j, j ≠ 9 → μ' S j = μ S j) → μ' S 9 = μ S 9 + 1 → μ' (S + 1) 3 = ((n + 1 : Nat) : Int) →
      (∀ k i, S + 2 ≤ k → k ≤ S + 5 → i < p → μ' k i = μ k i) → (∀ k i, S + 2 ≤ k → k ≤ S + 5 → p ≤ i → i < n → μ' k (i + 1) = μ k i) →
      μ' (S + 2) p = μ S 9 → μ' (S + 3) p = len → μ' (S + 4) p = bI (p = 0) → μ' (S + 5) p = 0 →
      (∀ i j, j < 4 → i < p → μ' (S + 6) (4 * i + j) = μ (S + 6) (4 * i + j)) → (∀ i j, j < 4 → p ≤ i → i < n → μ' (S + 6) (4 * (i + 1) + j) = μ (S + 6) (4 * i + j)) → Q (.inl 0) μ') : Call σ (d + 2) 35 [.inr (.inr S), .inl (p : Int), .inl len] μ Q := by
  refine e_35 ?_
  obtain ⟨t0, t1, t2, t3, t4, t5, t6, t7, t8, t9, t10, t11, t12, u0, u1, u2, u3, u4, u5, u6, u7, u8, u9, u10, u11⟩ := staF hS
  have loop : ∀ k b : Nat, b = p + k → b ≤ n → ∀ μ1 : Mem, (∀ k, (k < S + 2 ∨ S + 6 < k) → μ1 k = μ k) → (∀ k i, S + 2 ≤ k → k ≤ S + 5 → μ1 k i = if b < i ∧ i ≤ n then μ k (i - 1) else μ k i) → (∀ i j, j < 4 → μ1 (S + 6) (4 * i + j) = if b < i ∧ i ≤ n then μ (S + 6) (4 * (i - 1) + j) else μ (S + 6) (4 * i + j)) →
      wp σ (Call σ (d + 1)) 35 Q 8 [some (.inr (.inr S)), some (.inl (p : Int)), some (.inl len), some (.inl (b : Int))] [] μ1 := by
    intro k
    induction k with
    | zero =>
      intro b hb hbn μ1 f1 c1 r1
      have hbp : b = p := by omega
      subst hbp
      have e1 : μ1 (S + 1) = μ (S + 1) := f1 (S + 1) (by omega)
      have e0 : μ1 S = μ S := f1 S (by omega)
      refine wp_go b35_8 ?_; simp only [l35_8, sg_iload_3, sg_iload_1, sg_ic_le, sg_aload_0, sg_iconst, sg_isub, sg_iv3_v, len4_0, len4_1, len4_2, len4_3, len4_4, nLg_n, nLg_i, nLg_r, tc_c, tc_l, tc_r, tc_m, tc_n, tc_o, tc_0, inR, true_and, and_true, ne_eq, not_true_eq_false, not_false_eq_true, true_imp_iff, false_imp_iff, Int.toNat_natCast, lit_a, Nat.reduceAdd, or_true, true_or, or_false, false_or, Int.reduceEq, Int.reduceNe, Int.reduceLT, Int.reduceLE, Int.reduceNeg, sg_nil, t0, t1, t2, t3, t4, t5, t6, t7, t8, t9, t10, t11, t12, u0, u1, u2, u3, u4, u5, u6, u7, u8, u9, u10, u11]
      repeat' (first | with_reducible apply And.intro | (intro _) | refine k_NS_asNumber (Or.inl rfl) ?_ | refine k_NS_asNumber (Or.inr rfl) ?_ | ((first | refine wp_go b35_0 ?_ | refine wp_go b35_21 ?_ | refine wp_go b35_27 ?_ | refine wp_go b35_79 ?_ | refine wp_go b35_80 ?_ | refine wp_go b35_83 ?_); simp only [l35_0, l35_21, l35_27, l35_79, l35_80, l35_83, sg_aload_0, sg_getfp, sg_getf0, sg_istore_3, sg_iinc, ldI_3, okS_3, stL_3, sg_goto, sg_dup_i, sg_dup_r, sg_iconst, sg_iadd, sg_putf0, sg_iload_1, sg_iastore, sg_iload_2, sg_if_ne, len4_0, len4_1, len4_2, len4_3, len4_4, sg_is1_2, sg_ret, nLg_n, nLg_i, nLg_r, tc_c, tc_l, tc_r, tc_m, tc_n, tc_o, tc_0, inR, true_and, and_true, ne_eq, not_true_eq_false, not_false_eq_true, true_imp_iff, false_imp_iff, Int.toNat_natCast, lit_a, Nat.reduceAdd, or_true, true_or, or_false, false_or, Int.reduceEq, Int.reduceNe, Int.reduceLT, Int.reduceLE, Int.reduceNeg, sg_nil, t0, t1, t2, t3, t4, t5, t6, t7, t8, t9, t10, t11, t12, u0, u1, u2, u3, u4, u5, u6, u7, u8, u9, u10, u11, e1, e0, hn, ms_at, false_and, and_false, if_false, if_true, and_self, Nat.reduceEqDiff, ne_a, ne_b, Nat.add_left_cancel_iff]))
      all_goals (try omega)
      all_goals
        refine hq _ (fun k hk => ?_) (fun j hj => ?_) ?_ ?_ (fun k i h1 h2 hi => ?_) (fun k i h1 h2 hi hi2 => ?_) ?_ ?_ ?_ ?_ (fun i j hj hi => ?_) (fun i j hj hi hi2 => ?_)
        · funext j
          simp only [ms_at]
          (repeat (first | rw [if_neg (by omega)] | rw [if_pos (by omega)]))
          rw [f1 k (by omega)]
        · simp only [ms_at, true_and, and_true, if_true]
          (repeat (first | rw [if_neg (by omega)] | rw [if_pos (by omega)]))
          rw [e0]
        · simp [ms_at]
        · simp [ms_at]
        · simp only [ms_at]
          (repeat (first | rw [if_neg (by omega)] | rw [if_pos (by omega)]))
          rw [c1 k i h1 h2]
          (repeat (first | rw [if_neg (by omega)] | rw [if_pos (by omega)]))
        · simp only [ms_at]
          (repeat (first | rw [if_neg (by omega)] | rw [if_pos (by omega)]))
          rw [c1 k (i + 1) h1 h2]
          (repeat (first | rw [if_neg (by omega)] | rw [if_pos (by omega)]))
          rfl
        · simp [ms_at]
        · simp [ms_at]
        · simp [ms_at, bI]; try omega
        · simp [ms_at]
        · simp only [ms_at]
          (repeat (first | rw [if_neg (by omega)] | rw [if_pos (by omega)]))
          rw [r1 i j hj]
          (repeat (first | rw [if_neg (by omega)] | rw [if_pos (by omega)]))
        · simp only [ms_at]
          (repeat (first | rw [if_neg (by omega)] | rw [if_pos (by omega)]))
          rw [r1 (i + 1) j hj]
          (repeat (first | rw [if_neg (by omega)] | rw [if_pos (by omega)]))
          rfl
    | succ k ih =>
      intro b hb hbn μ1 f1 c1 r1
      refine wp_go b35_8 ?_; simp only [l35_8, sg_iload_3, sg_iload_1, sg_ic_le, sg_aload_0, sg_iconst, sg_isub, sg_iv3_v, len4_0, len4_1, len4_2, len4_3, len4_4, nLg_n, nLg_i, nLg_r, tc_c, tc_l, tc_r, tc_m, tc_n, tc_o, tc_0, inR, true_and, and_true, ne_eq, not_true_eq_false, not_false_eq_true, true_imp_iff, false_imp_iff, Int.toNat_natCast, lit_a, Nat.reduceAdd, or_true, true_or, or_false, false_or, Int.reduceEq, Int.reduceNe, Int.reduceLT, Int.reduceLE, Int.reduceNeg, sg_nil, t0, t1, t2, t3, t4, t5, t6, t7, t8, t9, t10, t11, t12, u0, u1, u2, u3, u4, u5, u6, u7, u8, u9, u10, u11]
      repeat' (first | with_reducible apply And.intro | intro _)
      all_goals (try omega)
      rw [show (b : Int) - 1 = ((b - 1 : Nat) : Int) by omega]
      refine k_Sta_moveSentence hS (by omega) (by omega) (fun μ2 f2 c2 r2 => ?_)
      have ih1 := ih (b - 1) (by omega) (by omega) μ2 (fun k hk => (f2 k hk).trans (f1 k hk)) (fun k i h1 h2 => ?_) (fun i j hj => ?_)
      · refine wp_go b35_21 ?_; simp only [l35_21, sg_iinc, ldI_3, okS_3, stL_3, sg_goto, nLg_n, nLg_i, nLg_r, tc_c, tc_l, tc_r, tc_m, tc_n, tc_o, tc_0, inR, true_and, and_true, ne_eq, not_true_eq_false, not_false_eq_true, true_imp_iff, false_imp_iff, Int.toNat_natCast, lit_a, Nat.reduceAdd, or_true, true_or, or_false, false_or, Int.reduceEq, Int.reduceNe, Int.reduceLT, Int.reduceLE, Int.reduceNeg, sg_nil]
        repeat' (first | with_reducible apply And.intro | (intro _) | ((first | refine wp_go b35_0 ?_ | refine wp_go b35_21 ?_ | refine wp_go b35_27 ?_ | refine wp_go b35_79 ?_ | refine wp_go b35_80 ?_ | refine wp_go b35_83 ?_); simp only [l35_0, l35_21, l35_27, l35_79, l35_80, l35_83, sg_aload_0, sg_getfp, sg_getf0, sg_istore_3, sg_iinc, ldI_3, okS_3, stL_3, sg_goto, sg_dup_i, sg_dup_r, sg_iconst, sg_iadd, sg_putf0, sg_iload_1, sg_iastore, sg_iload_2, sg_if_ne, len4_0, len4_1, len4_2, len4_3, len4_4, sg_is1_2, sg_ret, nLg_n, nLg_i, nLg_r, tc_c, tc_l, tc_r, tc_m, tc_n, tc_o, tc_0, inR, true_and, and_true, ne_eq, not_true_eq_false, not_false_eq_true, true_imp_iff, false_imp_iff, Int.toNat_natCast, lit_a, Nat.reduceAdd, or_true, true_or, or_false, false_or, Int.reduceEq, Int.reduceNe, Int.reduceLT, Int.reduceLE, Int.reduceNeg, sg_nil]))
        all_goals (try omega)
        rw [show (b : Int) + -1 = ((b - 1 : Nat) : Int) by omega]
        exact ih1
      · rw [c2 k i h1 h2]
        by_cases hi : i = b
        · subst hi
          rw [if_pos rfl, c1 k (i - 1) h1 h2]
          (repeat (first | rw [if_neg (by omega)] | rw [if_pos (by omega)]))
        · rw [if_neg hi, c1 k i h1 h2]
          by_cases h : b < i ∧ i ≤ n
          · rw [if_pos h, if_pos (by omega)]
          · rw [if_neg h, if_neg (by omega)]
      · rw [r2 i j hj]
        by_cases hi : i = b
        · subst hi
          rw [if_pos rfl, r1 (i - 1) j hj]
          (repeat (first | rw [if_neg (by omega)] | rw [if_pos (by omega)]))
        · rw [if_neg hi, r1 i j hj]
          by_cases h : b < i ∧ i ≤ n
          · rw [if_pos h, if_pos (by omega)]
          · rw [if_neg h, if_neg (by omega)]
  refine wp_go b35_0 ?_; simp only [l35_0, sg_aload_0, sg_getfp, sg_getf0, sg_istore_3, nLg_n, nLg_i, nLg_r, tc_c, tc_l, tc_r, tc_m, tc_n, tc_o, tc_0, inR, true_and, and_true, ne_eq, not_true_eq_false, not_false_eq_true, true_imp_iff, false_imp_iff, Int.toNat_natCast, lit_a, Nat.reduceAdd, or_true, true_or, or_false, false_or, Int.reduceEq, Int.reduceNe, Int.reduceLT, Int.reduceLE, Int.reduceNeg, sg_nil, t0, t1, t2, t3, t4, t5, t6, t7, t8, t9, t10, t11, t12, u0, u1, u2, u3, u4, u5, u6, u7, u8, u9, u10, u11, hn]
  exact loop (n - p) n (by omega) (Nat.le_refl n) μ (fun _ _ => rfl) (fun k i _ _ => by (repeat (first | rw [if_neg (by omega)] | rw [if_pos (by omega)]))) (fun i j _ => by (repeat (first | rw [if_neg (by omega)] | rw [if_pos (by omega)])))
end
section
-- Sta.removeSentence: blocks [0, 15, 34, 40]
theorem k_Sta_removeSentence {σ : Sg} {d : Nat} {Q : QT} {μ : Mem} {S m s : Nat} (hS : iSta σ S) (hn : μ (S + 1) 3 = ((m + 1 : Nat) : Int)) (hn2 : m < 24) (hp : s ≤ m)
    (hq : ∀ μ' : Mem, (∀ k, (k < S + 1 ∨ S + 6 < k) → μ' k = μ k) → μ' (S + 1) 3 = (m : Int) →
      (∀ k x, S + 2 ≤ k → k ≤ S + 5 → (k ≠ S + 4 ∨ x ≠ 0) → x < m → μ' k x = if x < s then μ k x else μ k (x + 1)) → μ' (S + 4) 0 = 1 →
      (∀ x j, j < 4 → x < m → μ' (S + 6) (4 * x + j) = if x < s then μ (S + 6) (4 * x + j) else μ (S + 6) (4 * (x + 1) + j)) → Q (.inl 0) μ') : Call σ (d + 2) 36 [.inr (.inr S), .inl (s : Int)] μ Q := by
  refine e_36 ?_
  obtain ⟨t0, t1, t2, t3, t4, t5, t6, t7, t8, t9, t10, t11, t12, u0, u1, u2, u3, u4, u5, u6, u7, u8, u9, u10, u11⟩ := staF hS
  have loop : ∀ k i : Nat, i + k = m → s ≤ i → ∀ μ1 : Mem, (∀ k, (k < S + 1 ∨ S + 6 < k) → μ1 k = μ k) → μ1 (S + 1) 3 = (m : Int) → (∀ k x, S + 2 ≤ k → k ≤ S + 5 → μ1 k x = if s ≤ x ∧ x < i then μ k (x + 1) else μ k x) → (∀ x j, j < 4 → μ1 (S + 6) (4 * x + j) = if s ≤ x ∧ x < i then μ (S + 6) (4 * (x + 1) + j) else μ (S + 6) (4 * x + j)) →
      wp σ (Call σ (d + 1)) 36 Q 15 [some (.inr (.inr S)), some (.inl (s : Int)), some (.inl (i : Int))] [] μ1 := by
    intro k
    induction k with
    | zero =>
      intro i hi hsi μ1 f1 g1 c1 r1
      have him : i = m := by omega
      subst him
      refine wp_go b36_15 ?_; simp only [l36_15, sg_iload_2, sg_aload_0, sg_getfp, sg_getf0, sg_ic_ge, sg_iconst, sg_iadd, sg_iv3_v, len4_0, len4_1, len4_2, len4_3, len4_4, nLg_n, nLg_i, nLg_r, tc_c, tc_l, tc_r, tc_m, tc_n, tc_o, tc_0, inR, true_and, and_true, ne_eq, not_true_eq_false, not_false_eq_true, true_imp_iff, false_imp_iff, Int.toNat_natCast, lit_a, Nat.reduceAdd, or_true, true_or, or_false, false_or, Int.reduceEq, Int.reduceNe, Int.reduceLT, Int.reduceLE, Int.reduceNeg, sg_nil, t0, t1, t2, t3, t4, t5, t6, t7, t8, t9, t10, t11, t12, u0, u1, u2, u3, u4, u5, u6, u7, u8, u9, u10, u11, g1]
      repeat' (first | with_reducible apply And.intro | (intro _) | ((first | refine wp_go b36_0 ?_ | refine wp_go b36_34 ?_ | refine wp_go b36_40 ?_); simp only [l36_0, l36_34, l36_40, sg_aload_0, sg_getfp, sg_dup_i, sg_dup_r, sg_getf0, sg_iconst, sg_isub, sg_putf0, sg_iload_1, sg_istore_2, sg_iinc, ldI_2, okS_2, stL_2, sg_goto, sg_iastore, sg_ret, nLg_n, nLg_i, nLg_r, tc_c, tc_l, tc_r, tc_m, tc_n, tc_o, tc_0, inR, true_and, and_true, ne_eq, not_true_eq_false, not_false_eq_true, true_imp_iff, false_imp_iff, Int.toNat_natCast, lit_a, Nat.reduceAdd, or_true, true_or, or_false, false_or, Int.reduceEq, Int.reduceNe, Int.reduceLT, Int.reduceLE, Int.reduceNeg, sg_nil, t0, t1, t2, t3, t4, t5, t6, t7, t8, t9, t10, t11, t12, u0, u1, u2, u3, u4, u5, u6, u7, u8, u9, u10, u11, ms_at, false_and, and_false, if_false, if_true, and_self, Nat.reduceEqDiff, ne_a, ne_b, Nat.add_left_cancel_iff, Int.toNat_zero]))
      all_goals (try omega)
      refine hq _ (fun k hk => ?_) ?_ (fun k x h1 h2 h3 hx => ?_) ?_ (fun x j hj hx => ?_)
      · funext j
        simp only [ms_at]
        (repeat (first | rw [if_neg (by omega)] | rw [if_pos (by omega)]))
        rw [f1 k (by omega)]
      · simp only [ms_at]
        (repeat (first | rw [if_neg (by omega)] | rw [if_pos (by omega)]))
        exact g1
      · simp only [ms_at]
        rw [if_neg (by omega), c1 k x h1 h2]
        by_cases h : x < s
        · rw [if_pos h, if_neg (by omega)]
        · rw [if_neg h, if_pos (by omega)]
      · simp [ms_at]
      · simp only [ms_at]
        rw [if_neg (by omega), r1 x j hj]
        by_cases h : x < s
        · rw [if_pos h, if_neg (by omega)]
        · rw [if_neg h, if_pos (by omega)]
    | succ k ih =>
      intro i hi hsi μ1 f1 g1 c1 r1
      refine wp_go b36_15 ?_; simp only [l36_15, sg_iload_2, sg_aload_0, sg_getfp, sg_getf0, sg_ic_ge, sg_iconst, sg_iadd, sg_iv3_v, len4_0, len4_1, len4_2, len4_3, len4_4, nLg_n, nLg_i, nLg_r, tc_c, tc_l, tc_r, tc_m, tc_n, tc_o, tc_0, inR, true_and, and_true, ne_eq, not_true_eq_false, not_false_eq_true, true_imp_iff, false_imp_iff, Int.toNat_natCast, lit_a, Nat.reduceAdd, or_true, true_or, or_false, false_or, Int.reduceEq, Int.reduceNe, Int.reduceLT, Int.reduceLE, Int.reduceNeg, sg_nil, t0, t1, t2, t3, t4, t5, t6, t7, t8, t9, t10, t11, t12, u0, u1, u2, u3, u4, u5, u6, u7, u8, u9, u10, u11, g1]
      repeat' (first | with_reducible apply And.intro | intro _)
      all_goals (try omega)
      refine k_Sta_moveSentence hS (by omega) (by omega) (fun μ2 f2 c2 r2 => ?_)
      have ih1 := ih (i + 1) (by omega) (by omega) μ2 (fun k hk => (f2 k (by omega)).trans (f1 k hk)) (by rw [f2 (S + 1) (by omega)]; exact g1) (fun k x h1 h2 => ?_) (fun x j hj => ?_)
      · refine wp_go b36_34 ?_; simp only [l36_34, sg_iinc, ldI_2, okS_2, stL_2, sg_goto, nLg_n, nLg_i, nLg_r, tc_c, tc_l, tc_r, tc_m, tc_n, tc_o, tc_0, inR, true_and, and_true, ne_eq, not_true_eq_false, not_false_eq_true, true_imp_iff, false_imp_iff, Int.toNat_natCast, lit_a, Nat.reduceAdd, or_true, true_or, or_false, false_or, Int.reduceEq, Int.reduceNe, Int.reduceLT, Int.reduceLE, Int.reduceNeg, sg_nil]
        repeat' (first | with_reducible apply And.intro | (intro _) | ((first | refine wp_go b36_0 ?_ | refine wp_go b36_34 ?_ | refine wp_go b36_40 ?_); simp only [l36_0, l36_34, l36_40, sg_aload_0, sg_getfp, sg_dup_i, sg_dup_r, sg_getf0, sg_iconst, sg_isub, sg_putf0, sg_iload_1, sg_istore_2, sg_iinc, ldI_2, okS_2, stL_2, sg_goto, sg_iastore, sg_ret, nLg_n, nLg_i, nLg_r, tc_c, tc_l, tc_r, tc_m, tc_n, tc_o, tc_0, inR, true_and, and_true, ne_eq, not_true_eq_false, not_false_eq_true, true_imp_iff, false_imp_iff, Int.toNat_natCast, lit_a, Nat.reduceAdd, or_true, true_or, or_false, false_or, Int.reduceEq, Int.reduceNe, Int.reduceLT, Int.reduceLE, Int.reduceNeg, sg_nil]))
        all_goals (try omega)
        all_goals exact ih1
      · rw [c2 k x h1 h2]
        by_cases hxi : x = i
        · subst hxi
          rw [if_pos rfl, c1 k (x + 1) h1 h2]
          (repeat (first | rw [if_neg (by omega)] | rw [if_pos (by omega)]))
        · rw [if_neg hxi, c1 k x h1 h2]
          by_cases h : s ≤ x ∧ x < i
          · rw [if_pos h, if_pos (by omega)]
          · rw [if_neg h, if_neg (by omega)]
      · rw [r2 x j hj]
        by_cases hxi : x = i
        · subst hxi
          rw [if_pos rfl, r1 (x + 1) j hj]
          (repeat (first | rw [if_neg (by omega)] | rw [if_pos (by omega)]))
        · rw [if_neg hxi, r1 x j hj]
          by_cases h : s ≤ x ∧ x < i
          · rw [if_pos h, if_pos (by omega)]
          · rw [if_neg h, if_neg (by omega)]
  refine wp_go b36_0 ?_; simp only [l36_0, sg_aload_0, sg_getfp, sg_dup_i, sg_dup_r, sg_getf0, sg_iconst, sg_isub, sg_putf0, sg_iload_1, sg_istore_2, nLg_n, nLg_i, nLg_r, tc_c, tc_l, tc_r, tc_m, tc_n, tc_o, tc_0, inR, true_and, and_true, ne_eq, not_true_eq_false, not_false_eq_true, true_imp_iff, false_imp_iff, Int.toNat_natCast, lit_a, Nat.reduceAdd, or_true, true_or, or_false, false_or, Int.reduceEq, Int.reduceNe, Int.reduceLT, Int.reduceLE, Int.reduceNeg, sg_nil, t0, t1, t2, t3, t4, t5, t6, t7, t8, t9, t10, t11, t12, u0, u1, u2, u3, u4, u5, u6, u7, u8, u9, u10, u11, hn]
  repeat' (first | with_reducible apply And.intro | (intro _) | ((first | refine wp_go b36_0 ?_ | refine wp_go b36_34 ?_ | refine wp_go b36_40 ?_); simp only [l36_0, l36_34, l36_40, sg_aload_0, sg_getfp, sg_dup_i, sg_dup_r, sg_getf0, sg_iconst, sg_isub, sg_putf0, sg_iload_1, sg_istore_2, sg_iinc, ldI_2, okS_2, stL_2, sg_goto, sg_iastore, sg_ret, nLg_n, nLg_i, nLg_r, tc_c, tc_l, tc_r, tc_m, tc_n, tc_o, tc_0, inR, true_and, and_true, ne_eq, not_true_eq_false, not_false_eq_true, true_imp_iff, false_imp_iff, Int.toNat_natCast, lit_a, Nat.reduceAdd, or_true, true_or, or_false, false_or, Int.reduceEq, Int.reduceNe, Int.reduceLT, Int.reduceLE, Int.reduceNeg, sg_nil]))
  all_goals (try omega)
  refine loop (m - s) s (by omega) (Nat.le_refl s) _ (fun k hk => ?_) ?_ (fun k x _ _ => ?_) (fun x j _ => ?_)
  · funext j; simp only [ms_at]; (repeat (first | rw [if_neg (by omega)] | rw [if_pos (by omega)]))
  · simp [ms_at]
  · simp only [ms_at]; (repeat (first | rw [if_neg (by omega)] | rw [if_pos (by omega)]))
  · simp only [ms_at]; (repeat (first | rw [if_neg (by omega)] | rw [if_pos (by omega)]))
-- Sta.copyFrom: blocks [0, 11, 127, 171, 177]
theorem k_Sta_copyFrom {σ : Sg} {d : Nat} {Q : QT} {μ : Mem} {S o : Nat} {z : Rw} (hS : iSta σ S) (hO : iSta σ o) (hd : S + 55 ≤ o ∨ o + 55 ≤ S) (hz : IZ z) (hR : RC z μ o)
    (hq : ∀ μ' : Mem, (∀ k, (k < S ∨ S + 55 ≤ k) → μ' k = μ k) → RC z μ' S → Q (.inl 0) μ') : Call σ (d + 3) 38 [.inr (.inr S), .inr (.inr o)] μ Q := by
  refine e_38 ?_
  obtain ⟨t0, t1, t2, t3, t4, t5, t6, t7, t8, t9, t10, t11, t12, u0, u1, u2, u3, u4, u5, u6, u7, u8, u9, u10, u11⟩ := staF hS
  obtain ⟨v0, v1, v2, v3, v4, v5, v6, v7, v8, v9, v10, v11, v12, w0, w1, w2, w3, w4, w5, w6, w7, w8, w9, w10, w11⟩ := staF hO
  have q := hz.1
  obtain ⟨n, hn⟩ := nat_of (show 0 ≤ z 0 by omega)
  obtain ⟨nl, hnl⟩ := nat_of (show 0 ≤ z 3 by omega)
  refine wp_go b38_0 ?_; simp only [l38_0, sg_aload_0, sg_getfp, sg_aload_1, sg_iv2_v, len4_0, len4_1, len4_2, len4_3, len4_4, nLg_n, nLg_i, nLg_r, tc_c, tc_l, tc_r, tc_m, tc_n, tc_o, tc_0, inR, true_and, and_true, ne_eq, not_true_eq_false, not_false_eq_true, true_imp_iff, false_imp_iff, Int.toNat_natCast, lit_a, Nat.reduceAdd, or_true, true_or, or_false, false_or, Int.reduceEq, Int.reduceNe, Int.reduceLT, Int.reduceLE, Int.reduceNeg, sg_nil, t0, t1, t2, t3, t4, t5, t6, t7, t8, t9, t10, t11, t12, u0, u1, u2, u3, u4, u5, u6, u7, u8, u9, u10, u11, v0, v1, v2, v3, v4, v5, v6, v7, v8, v9, v10, v11, v12, w0, w1, w2, w3, w4, w5, w6, w7, w8, w9, w10, w11]
  refine k_Sen_copyFrom hS.2.1 hO.2.1 (by omega) (n := n) (by have := hR.1.1; omega) (by omega) (fun μ1 f1 n1 c1 => ?_)
  have R1 : RC z μ1 o := RC_f (by omega) (fun k h1 h2 => f1 k (by omega)) hR
  obtain ⟨⟨d0, d1, d2, d3⟩, ds, dn, dl⟩ := id R1
  have loop : ∀ (μ2 : Mem), (∀ k, (k < S ∨ S + 55 ≤ k) → μ2 k = μ1 k) → μ2 S 11 = (nl : Int) → ∀ k i : Nat, i + k = nl → ∀ μ3 : Mem, (∀ k, k ≠ S + 11 → (k < S + 13 ∨ S + 55 ≤ k) → μ3 k = μ2 k) → (∀ l, l < i → μ3 (S + 11) l = z (214 + 3 * l) ∧ (z (214 + 3 * l) = 1 → HR (fw z l) μ3 (S + 13 + 7 * l))) →
      (∀ μ' : Mem, (∀ k, k ≠ S + 11 → (k < S + 13 ∨ S + 55 ≤ k) → μ' k = μ2 k) → (∀ l, l < nl → μ' (S + 11) l = z (214 + 3 * l) ∧ (z (214 + 3 * l) = 1 → HR (fw z l) μ' (S + 13 + 7 * l))) → Q (.inl 0) μ') →
      wp σ (Call σ (d + 2)) 38 Q 127 [some (.inr (.inr S)), some (.inr (.inr o)), some (.inl (i : Int))] [] μ3 := by
    intro μ2 f2 e2 k
    induction k with
    | zero =>
      intro i hi μ3 f3 c3 hq3
      have him : i = nl := by omega
      subst him
      have hq4 := hq3 μ3 f3 c3
      refine wp_go b38_127 ?_; simp only [l38_127, sg_iload_2, sg_aload_0, sg_getf0, sg_ic_ge, sg_getfp, sg_aload_1, sg_baload, sg_bastore, sg_if_eq, sg_aaload, sg_iv2_v, len4_0, len4_1, len4_2, len4_3, len4_4, nLg_n, nLg_i, nLg_r, tc_c, tc_l, tc_r, tc_m, tc_n, tc_o, tc_0, inR, true_and, and_true, ne_eq, not_true_eq_false, not_false_eq_true, true_imp_iff, false_imp_iff, Int.toNat_natCast, lit_a, Nat.reduceAdd, or_true, true_or, or_false, false_or, Int.reduceEq, Int.reduceNe, Int.reduceLT, Int.reduceLE, Int.reduceNeg, sg_nil, t0, t1, t2, t3, t4, t5, t6, t7, t8, t9, t10, t11, t12, u0, u1, u2, u3, u4, u5, u6, u7, u8, u9, u10, u11, f3 S (by omega) (by omega), e2]
      repeat' (first | with_reducible apply And.intro | (intro _) | ((first | refine wp_go b38_0 ?_ | refine wp_go b38_11 ?_ | refine wp_go b38_171 ?_ | refine wp_go b38_177 ?_); simp only [l38_0, l38_11, l38_171, l38_177, sg_aload_0, sg_getfp, sg_aload_1, sg_iv2_v, len4_0, len4_1, len4_2, len4_3, len4_4, sg_getf0, sg_putf0, sg_iconst, sg_bipush, sg_acopy, sg_istore_2, sg_iinc, ldI_2, okS_2, stL_2, sg_goto, sg_ret, nLg_n, nLg_i, nLg_r, tc_c, tc_l, tc_r, tc_m, tc_n, tc_o, tc_0, inR, true_and, and_true, ne_eq, not_true_eq_false, not_false_eq_true, true_imp_iff, false_imp_iff, Int.toNat_natCast, lit_a, Nat.reduceAdd, or_true, true_or, or_false, false_or, Int.reduceEq, Int.reduceNe, Int.reduceLT, Int.reduceLE, Int.reduceNeg, sg_nil]))
      all_goals (try omega)
      all_goals exact hq4
    | succ k ih =>
      intro i hi μ3 f3 c3 hq3
      have z01 := (hz.2.2.2.2 i (by omega)).2.2.1
      obtain ⟨-, -, o11, oh⟩ := dl i (by omega)
      have e11 : μ3 (o + 11) i = z (214 + 3 * i) := by rw [f3 (o + 11) (by omega) (by omega), f2 (o + 11) (by omega)]; exact o11
      have p1 : σ.2 (S + 12) i = true := hS.2.2.2.2.2 i (by omega)
      have p2 : σ.2 (o + 12) i = true := hO.2.2.2.2.2 i (by omega)
      have hh : (shp σ (S + 13 + 7 * i)).1 = 1 := (hS.2.2.2.1 i (by omega)).1
      by_cases hf : z (214 + 3 * i) = 1
      · rw [hf] at e11
        refine wp_go b38_127 ?_; simp only [l38_127, sg_iload_2, sg_aload_0, sg_getf0, sg_ic_ge, sg_getfp, sg_aload_1, sg_baload, sg_bastore, sg_if_eq, sg_aaload, sg_iv2_v, len4_0, len4_1, len4_2, len4_3, len4_4, nLg_n, nLg_i, nLg_r, tc_c, tc_l, tc_r, tc_m, tc_n, tc_o, tc_0, inR, true_and, and_true, ne_eq, not_true_eq_false, not_false_eq_true, true_imp_iff, false_imp_iff, Int.toNat_natCast, lit_a, Nat.reduceAdd, or_true, true_or, or_false, false_or, Int.reduceEq, Int.reduceNe, Int.reduceLT, Int.reduceLE, Int.reduceNeg, sg_nil, t0, t1, t2, t3, t4, t5, t6, t7, t8, t9, t10, t11, t12, u0, u1, u2, u3, u4, u5, u6, u7, u8, u9, u10, u11, v0, v1, v2, v3, v4, v5, v6, v7, v8, v9, v10, v11, v12, w0, w1, w2, w3, w4, w5, w6, w7, w8, w9, w10, w11, f3 S (by omega) (by omega), e2, e11, p1, p2, hh, ms_at, false_and, and_false, if_false, if_true, and_self, Nat.reduceEqDiff, ne_a, ne_b, Nat.add_left_cancel_iff]
        repeat' (first | with_reducible apply And.intro | intro _)
        all_goals (try omega)
        have oh3 : HR (fw z i) μ3 (o + 13 + 7 * i) := HR_f (fun k h1 h2 => by rw [f3 k (by omega) (by omega), f2 k (by omega)]) (oh hf)
        have oh4 : HR (fw z i) (ms μ3 (S + 11) i 1) (o + 13 + 7 * i) := HR_f (fun k h1 h2 => by funext j; simp only [ms_at]; (repeat (first | rw [if_neg (by omega)] | rw [if_pos (by omega)]))) oh3
        have W := (hz.2.2.2.2 i (by omega)).2.2.2 hf
        refine k_Hea_copyFrom (hS.2.2.2.1 i (by omega)) (hO.2.2.2.1 i (by omega)) (by omega) oh4 (by have := W.1; omega) (by have := W.1; omega) (fun μ4 f4 h4 => ?_)
        have ih1 := ih (i + 1) (by omega) μ4 (fun k h1 h2 => by rw [f4 k (by omega), ← f3 k h1 h2]; funext j; simp only [ms_at]; (repeat (first | rw [if_neg (by omega)] | rw [if_pos (by omega)]))) (fun l hl => ?_) hq3
        · refine wp_go b38_171 ?_; simp only [l38_171, sg_iinc, ldI_2, okS_2, stL_2, sg_goto, nLg_n, nLg_i, nLg_r, tc_c, tc_l, tc_r, tc_m, tc_n, tc_o, tc_0, inR, true_and, and_true, ne_eq, not_true_eq_false, not_false_eq_true, true_imp_iff, false_imp_iff, Int.toNat_natCast, lit_a, Nat.reduceAdd, or_true, true_or, or_false, false_or, Int.reduceEq, Int.reduceNe, Int.reduceLT, Int.reduceLE, Int.reduceNeg, sg_nil]
          repeat' (first | with_reducible apply And.intro | (intro _) | ((first | refine wp_go b38_0 ?_ | refine wp_go b38_11 ?_ | refine wp_go b38_171 ?_ | refine wp_go b38_177 ?_); simp only [l38_0, l38_11, l38_171, l38_177, sg_aload_0, sg_getfp, sg_aload_1, sg_iv2_v, len4_0, len4_1, len4_2, len4_3, len4_4, sg_getf0, sg_putf0, sg_iconst, sg_bipush, sg_acopy, sg_istore_2, sg_iinc, ldI_2, okS_2, stL_2, sg_goto, sg_ret, nLg_n, nLg_i, nLg_r, tc_c, tc_l, tc_r, tc_m, tc_n, tc_o, tc_0, inR, true_and, and_true, ne_eq, not_true_eq_false, not_false_eq_true, true_imp_iff, false_imp_iff, Int.toNat_natCast, lit_a, Nat.reduceAdd, or_true, true_or, or_false, false_or, Int.reduceEq, Int.reduceNe, Int.reduceLT, Int.reduceLE, Int.reduceNeg, sg_nil]))
          all_goals (try omega)
          all_goals exact ih1
        · rcases Nat.lt_or_ge l i with h | h
          · obtain ⟨x1, x2⟩ := c3 l h
            refine ⟨by rw [f4 (S + 11) (by omega)]; simp only [ms_at]; (repeat (first | rw [if_neg (by omega)] | rw [if_pos (by omega)])); exact x1, fun hf2 => HR_f (fun k h1 h2 => ?_) (x2 hf2)⟩
            rw [f4 k (by omega)]
            funext j; simp only [ms_at]; (repeat (first | rw [if_neg (by omega)] | rw [if_pos (by omega)]))
          · have hli : l = i := by omega
            subst hli
            exact ⟨by rw [f4 (S + 11) (by omega), hf]; simp [ms_at], fun _ => h4⟩
      · have hf0 : z (214 + 3 * i) = 0 := by omega
        rw [hf0] at e11
        have ih1 := ih (i + 1) (by omega) (ms μ3 (S + 11) i 0) (fun k h1 h2 => by rw [← f3 k h1 h2]; funext j; simp only [ms_at]; (repeat (first | rw [if_neg (by omega)] | rw [if_pos (by omega)]))) (fun l hl => ?_) hq3
        · refine wp_go b38_127 ?_; simp only [l38_127, sg_iload_2, sg_aload_0, sg_getf0, sg_ic_ge, sg_getfp, sg_aload_1, sg_baload, sg_bastore, sg_if_eq, sg_aaload, sg_iv2_v, len4_0, len4_1, len4_2, len4_3, len4_4, nLg_n, nLg_i, nLg_r, tc_c, tc_l, tc_r, tc_m, tc_n, tc_o, tc_0, inR, true_and, and_true, ne_eq, not_true_eq_false, not_false_eq_true, true_imp_iff, false_imp_iff, Int.toNat_natCast, lit_a, Nat.reduceAdd, or_true, true_or, or_false, false_or, Int.reduceEq, Int.reduceNe, Int.reduceLT, Int.reduceLE, Int.reduceNeg, sg_nil, t0, t1, t2, t3, t4, t5, t6, t7, t8, t9, t10, t11, t12, u0, u1, u2, u3, u4, u5, u6, u7, u8, u9, u10, u11, v0, v1, v2, v3, v4, v5, v6, v7, v8, v9, v10, v11, v12, w0, w1, w2, w3, w4, w5, w6, w7, w8, w9, w10, w11, f3 S (by omega) (by omega), e2, e11, p1, p2, ms_at, false_and, and_false, if_false, if_true, and_self, Nat.reduceEqDiff, ne_a, ne_b, Nat.add_left_cancel_iff]
          repeat' (first | with_reducible apply And.intro | (intro _) | ((first | refine wp_go b38_0 ?_ | refine wp_go b38_11 ?_ | refine wp_go b38_171 ?_ | refine wp_go b38_177 ?_); simp only [l38_0, l38_11, l38_171, l38_177, sg_aload_0, sg_getfp, sg_aload_1, sg_iv2_v, len4_0, len4_1, len4_2, len4_3, len4_4, sg_getf0, sg_putf0, sg_iconst, sg_bipush, sg_acopy, sg_istore_2, sg_iinc, ldI_2, okS_2, stL_2, sg_goto, sg_ret, nLg_n, nLg_i, nLg_r, tc_c, tc_l, tc_r, tc_m, tc_n, tc_o, tc_0, inR, true_and, and_true, ne_eq, not_true_eq_false, not_false_eq_true, true_imp_iff, false_imp_iff, Int.toNat_natCast, lit_a, Nat.reduceAdd, or_true, true_or, or_false, false_or, Int.reduceEq, Int.reduceNe, Int.reduceLT, Int.reduceLE, Int.reduceNeg, sg_nil]))
          all_goals (try omega)
          all_goals exact ih1
        · rcases Nat.lt_or_ge l i with h | h
          · obtain ⟨x1, x2⟩ := c3 l h
            refine ⟨by simp only [ms_at]; (repeat (first | rw [if_neg (by omega)] | rw [if_pos (by omega)])); exact x1, fun hf2 => HR_f (fun k h1 h2 => ?_) (x2 hf2)⟩
            funext j; simp only [ms_at]; (repeat (first | rw [if_neg (by omega)] | rw [if_pos (by omega)]))
          · have hli : l = i := by omega
            subst hli
            exact ⟨by simp [ms_at, hf0], fun h => absurd h hf⟩
  refine wp_go b38_11 ?_; simp only [l38_11, sg_aload_0, sg_aload_1, sg_getf0, sg_putf0, sg_getfp, sg_iconst, sg_bipush, len4_0, len4_1, len4_2, len4_3, len4_4, sg_acopy, sg_istore_2, nLg_n, nLg_i, nLg_r, tc_c, tc_l, tc_r, tc_m, tc_n, tc_o, tc_0, inR, true_and, and_true, ne_eq, not_true_eq_false, not_false_eq_true, true_imp_iff, false_imp_iff, Int.toNat_natCast, lit_a, Nat.reduceAdd, or_true, true_or, or_false, false_or, Int.reduceEq, Int.reduceNe, Int.reduceLT, Int.reduceLE, Int.reduceNeg, sg_nil, t0, t1, t2, t3, t4, t5, t6, t7, t8, t9, t10, t11, t12, u0, u1, u2, u3, u4, u5, u6, u7, u8, u9, u10, u11, v0, v1, v2, v3, v4, v5, v6, v7, v8, v9, v10, v11, v12, w0, w1, w2, w3, w4, w5, w6, w7, w8, w9, w10, w11, Int.toNat_zero]
  repeat' (first | with_reducible apply And.intro | (intro _) | ((first | refine wp_go b38_0 ?_ | refine wp_go b38_11 ?_ | refine wp_go b38_171 ?_ | refine wp_go b38_177 ?_); simp only [l38_0, l38_11, l38_171, l38_177, sg_aload_0, sg_getfp, sg_aload_1, sg_iv2_v, len4_0, len4_1, len4_2, len4_3, len4_4, sg_getf0, sg_putf0, sg_iconst, sg_bipush, sg_acopy, sg_istore_2, sg_iinc, ldI_2, okS_2, stL_2, sg_goto, sg_ret, nLg_n, nLg_i, nLg_r, tc_c, tc_l, tc_r, tc_m, tc_n, tc_o, tc_0, inR, true_and, and_true, ne_eq, not_true_eq_false, not_false_eq_true, true_imp_iff, false_imp_iff, Int.toNat_natCast, lit_a, Nat.reduceAdd, or_true, true_or, or_false, false_or, Int.reduceEq, Int.reduceNe, Int.reduceLT, Int.reduceLE, Int.reduceNeg, sg_nil]))
  all_goals (try omega)
  refine loop _ (fun k hk => ?_) ?_ nl 0 (by omega) _ (fun _ _ _ => rfl) (fun l hl => absurd hl (by omega)) (fun μ' g1 g2 => ?_)
  · funext j; simp only [ms_at, mcp_at]; (repeat (first | rw [if_neg (by omega)] | rw [if_pos (by omega)]))
  · simp only [ms_at, mcp_at, true_and, and_true, if_true]
    (repeat (first | rw [if_neg (by omega)] | rw [if_pos (by omega)]))
    rw [d3, hnl]
  · refine hq μ' (fun k hk => ?_) ⟨⟨?_, ?_, ?_, ?_⟩, fun i hi => ⟨?_, ?_, ?_, ?_, fun j hj => ?_⟩, fun i hi => ⟨?_, ?_⟩, fun l hl => ⟨?_, ?_, ?_⟩⟩
    · rw [g1 k (by omega) (by omega)]
      funext j
      simp only [ms_at, mcp_at]
      (repeat (first | rw [if_neg (by omega)] | rw [if_pos (by omega)]))
      rw [f1 k (by omega)]
    · rw [g1 (S + 1) (by omega) (by omega)]
      simp only [ms_at, mcp_at, true_and, and_true, if_true]
      (repeat (first | rw [if_neg (by omega)] | rw [if_pos (by omega)]))
      rw [n1, hn]
    · rw [g1 S (by omega) (by omega)]
      simp only [ms_at, mcp_at, true_and, and_true, if_true]
      (repeat (first | rw [if_neg (by omega)] | rw [if_pos (by omega)]))
      exact d1
    · rw [g1 S (by omega) (by omega)]
      simp only [ms_at, mcp_at, true_and, and_true, if_true]
      (repeat (first | rw [if_neg (by omega)] | rw [if_pos (by omega)]))
      exact d2
    · rw [g1 S (by omega) (by omega)]
      simp only [ms_at, mcp_at, true_and, and_true, if_true]
      (repeat (first | rw [if_neg (by omega)] | rw [if_pos (by omega)]))
      exact d3
    · rw [g1 (S + 2) (by omega) (by omega)]
      simp only [ms_at, mcp_at, true_and, and_true, if_true]
      (repeat (first | rw [if_neg (by omega)] | rw [if_pos (by omega)]))
      exact (c1 i (by omega)).1.trans (hR.2.1 i hi).1
    · rw [g1 (S + 3) (by omega) (by omega)]
      simp only [ms_at, mcp_at, true_and, and_true, if_true]
      (repeat (first | rw [if_neg (by omega)] | rw [if_pos (by omega)]))
      exact (c1 i (by omega)).2.1.trans (hR.2.1 i hi).2.1
    · rw [g1 (S + 4) (by omega) (by omega)]
      simp only [ms_at, mcp_at, true_and, and_true, if_true]
      (repeat (first | rw [if_neg (by omega)] | rw [if_pos (by omega)]))
      exact (c1 i (by omega)).2.2.trans (hR.2.1 i hi).2.2.1
    · rw [g1 (S + 5) (by omega) (by omega)]
      simp only [ms_at, mcp_at, true_and, and_true, if_true, Nat.zero_add, Nat.sub_zero]
      (repeat (first | rw [if_neg (by omega)] | rw [if_pos (by omega)]))
      exact (ds i hi).2.2.2.1
    · have r := (hz.2.1 i hi).2.2.2.1
      rw [g1 (S + 6) (by omega) (by omega)]
      simp only [ms_at, mcp_at, true_and, and_true, if_true, Nat.zero_add, Nat.sub_zero]
      (repeat (first | rw [if_neg (by omega)] | rw [if_pos (by omega)]))
      exact (ds i hi).2.2.2.2 j hj
    · rw [g1 (S + 7) (by omega) (by omega)]
      simp only [ms_at, mcp_at, true_and, and_true, if_true, Nat.zero_add, Nat.sub_zero]
      (repeat (first | rw [if_neg (by omega)] | rw [if_pos (by omega)]))
      exact (dn i hi).1
    · rw [g1 (S + 8) (by omega) (by omega)]
      simp only [ms_at, mcp_at, true_and, and_true, if_true, Nat.zero_add, Nat.sub_zero]
      (repeat (first | rw [if_neg (by omega)] | rw [if_pos (by omega)]))
      exact (dn i hi).2
    · rw [g1 (S + 9) (by omega) (by omega)]
      simp only [ms_at, mcp_at, true_and, and_true, if_true, Nat.zero_add, Nat.sub_zero]
      (repeat (first | rw [if_neg (by omega)] | rw [if_pos (by omega)]))
      exact (dl l hl).1
    · rw [g1 (S + 10) (by omega) (by omega)]
      simp only [ms_at, mcp_at, true_and, and_true, if_true, Nat.zero_add, Nat.sub_zero]
      (repeat (first | rw [if_neg (by omega)] | rw [if_pos (by omega)]))
      exact (dl l hl).2.1
    · exact g2 l (by omega)
end
section
def σ1 : Sg := (510, fun _ _ => true)
theorem s1p (k j : Nat) : σ1.2 k j = true := rfl
theorem x0 : shp σ1 0 = (6, 7) := by decide +kernel
theorem x1 : shp σ1 1 = (5, 12) := by decide +kernel
theorem x2 : shp σ1 2 = (4, 4) := by decide +kernel
theorem x3 : shp σ1 3 = (100, 24) := by decide +kernel
theorem x4 : shp σ1 4 = (100, 24) := by decide +kernel
theorem x5 : shp σ1 5 = (100, 24) := by decide +kernel
theorem x6 : shp σ1 6 = (100, 24) := by decide +kernel
theorem x7 : shp σ1 7 = (100, 96) := by decide +kernel
theorem x8 : shp σ1 8 = (100, 8) := by decide +kernel
theorem x9 : shp σ1 9 = (100, 8) := by decide +kernel
theorem x10 : shp σ1 10 = (100, 6) := by decide +kernel
theorem x11 : shp σ1 11 = (100, 6) := by decide +kernel
theorem x12 : shp σ1 12 = (102, 6) := by decide +kernel
theorem x13 : shp σ1 13 = (103, 6) := by decide +kernel
theorem x56 : shp σ1 56 = (2, 3) := by decide +kernel
theorem x57 : shp σ1 57 = (104, 6) := by decide +kernel
theorem x388 : shp σ1 388 = (105, 2) := by decide +kernel
theorem x389 : shp σ1 389 = (102, 2) := by decide +kernel
theorem x390 : shp σ1 390 = (3, 2) := by decide +kernel
theorem x391 : shp σ1 391 = (101, 60) := by decide +kernel
theorem x392 : shp σ1 392 = (0, 6) := by decide +kernel
theorem x393 : shp σ1 393 = (1, 3) := by decide +kernel
theorem x394 : shp σ1 394 = (4, 4) := by decide +kernel
theorem x395 : shp σ1 395 = (100, 24) := by decide +kernel
theorem x396 : shp σ1 396 = (100, 24) := by decide +kernel
theorem x397 : shp σ1 397 = (100, 24) := by decide +kernel
theorem x398 : shp σ1 398 = (100, 24) := by decide +kernel
theorem x399 : shp σ1 399 = (100, 24) := by decide +kernel
theorem x400 : shp σ1 400 = (5, 12) := by decide +kernel
theorem x455 : shp σ1 455 = (5, 12) := by decide +kernel
theorem st1_h : ∀ l, l < 6 → iHea σ1 (1 + 13 + 7 * l)
  | 0, _ => by unfold iHea iSen; decide +kernel
  | 1, _ => by unfold iHea iSen; decide +kernel
  | 2, _ => by unfold iHea iSen; decide +kernel
  | 3, _ => by unfold iHea iSen; decide +kernel
  | 4, _ => by unfold iHea iSen; decide +kernel
  | 5, _ => by unfold iHea iSen; decide +kernel
  | n + 6, h => absurd h (by omega)
theorem st1 : iSta σ1 1 := ⟨by decide +kernel, by unfold iSen; decide +kernel, by decide +kernel, st1_h, fun _ _ => rfl, fun _ _ => rfl⟩
theorem st58_h : ∀ l, l < 6 → iHea σ1 (58 + 13 + 7 * l)
  | 0, _ => by unfold iHea iSen; decide +kernel
  | 1, _ => by unfold iHea iSen; decide +kernel
  | 2, _ => by unfold iHea iSen; decide +kernel
  | 3, _ => by unfold iHea iSen; decide +kernel
  | 4, _ => by unfold iHea iSen; decide +kernel
  | 5, _ => by unfold iHea iSen; decide +kernel
  | n + 6, h => absurd h (by omega)
theorem st58 : iSta σ1 58 := ⟨by decide +kernel, by unfold iSen; decide +kernel, by decide +kernel, st58_h, fun _ _ => rfl, fun _ _ => rfl⟩
theorem st113_h : ∀ l, l < 6 → iHea σ1 (113 + 13 + 7 * l)
  | 0, _ => by unfold iHea iSen; decide +kernel
  | 1, _ => by unfold iHea iSen; decide +kernel
  | 2, _ => by unfold iHea iSen; decide +kernel
  | 3, _ => by unfold iHea iSen; decide +kernel
  | 4, _ => by unfold iHea iSen; decide +kernel
  | 5, _ => by unfold iHea iSen; decide +kernel
  | n + 6, h => absurd h (by omega)
theorem st113 : iSta σ1 113 := ⟨by decide +kernel, by unfold iSen; decide +kernel, by decide +kernel, st113_h, fun _ _ => rfl, fun _ _ => rfl⟩
theorem st168_h : ∀ l, l < 6 → iHea σ1 (168 + 13 + 7 * l)
  | 0, _ => by unfold iHea iSen; decide +kernel
  | 1, _ => by unfold iHea iSen; decide +kernel
  | 2, _ => by unfold iHea iSen; decide +kernel
  | 3, _ => by unfold iHea iSen; decide +kernel
  | 4, _ => by unfold iHea iSen; decide +kernel
  | 5, _ => by unfold iHea iSen; decide +kernel
  | n + 6, h => absurd h (by omega)
theorem st168 : iSta σ1 168 := ⟨by decide +kernel, by unfold iSen; decide +kernel, by decide +kernel, st168_h, fun _ _ => rfl, fun _ _ => rfl⟩
theorem st223_h : ∀ l, l < 6 → iHea σ1 (223 + 13 + 7 * l)
  | 0, _ => by unfold iHea iSen; decide +kernel
  | 1, _ => by unfold iHea iSen; decide +kernel
  | 2, _ => by unfold iHea iSen; decide +kernel
  | 3, _ => by unfold iHea iSen; decide +kernel
  | 4, _ => by unfold iHea iSen; decide +kernel
  | 5, _ => by unfold iHea iSen; decide +kernel
  | n + 6, h => absurd h (by omega)
theorem st223 : iSta σ1 223 := ⟨by decide +kernel, by unfold iSen; decide +kernel, by decide +kernel, st223_h, fun _ _ => rfl, fun _ _ => rfl⟩
theorem st278_h : ∀ l, l < 6 → iHea σ1 (278 + 13 + 7 * l)
  | 0, _ => by unfold iHea iSen; decide +kernel
  | 1, _ => by unfold iHea iSen; decide +kernel
  | 2, _ => by unfold iHea iSen; decide +kernel
  | 3, _ => by unfold iHea iSen; decide +kernel
  | 4, _ => by unfold iHea iSen; decide +kernel
  | 5, _ => by unfold iHea iSen; decide +kernel
  | n + 6, h => absurd h (by omega)
theorem st278 : iSta σ1 278 := ⟨by decide +kernel, by unfold iSen; decide +kernel, by decide +kernel, st278_h, fun _ _ => rfl, fun _ _ => rfl⟩
theorem st333_h : ∀ l, l < 6 → iHea σ1 (333 + 13 + 7 * l)
  | 0, _ => by unfold iHea iSen; decide +kernel
  | 1, _ => by unfold iHea iSen; decide +kernel
  | 2, _ => by unfold iHea iSen; decide +kernel
  | 3, _ => by unfold iHea iSen; decide +kernel
  | 4, _ => by unfold iHea iSen; decide +kernel
  | 5, _ => by unfold iHea iSen; decide +kernel
  | n + 6, h => absurd h (by omega)
theorem st333 : iSta σ1 333 := ⟨by decide +kernel, by unfold iSen; decide +kernel, by decide +kernel, st333_h, fun _ _ => rfl, fun _ _ => rfl⟩
theorem st400_h : ∀ l, l < 6 → iHea σ1 (400 + 13 + 7 * l)
  | 0, _ => by unfold iHea iSen; decide +kernel
  | 1, _ => by unfold iHea iSen; decide +kernel
  | 2, _ => by unfold iHea iSen; decide +kernel
  | 3, _ => by unfold iHea iSen; decide +kernel
  | 4, _ => by unfold iHea iSen; decide +kernel
  | 5, _ => by unfold iHea iSen; decide +kernel
  | n + 6, h => absurd h (by omega)
theorem st400 : iSta σ1 400 := ⟨by decide +kernel, by unfold iSen; decide +kernel, by decide +kernel, st400_h, fun _ _ => rfl, fun _ _ => rfl⟩
theorem st455_h : ∀ l, l < 6 → iHea σ1 (455 + 13 + 7 * l)
  | 0, _ => by unfold iHea iSen; decide +kernel
  | 1, _ => by unfold iHea iSen; decide +kernel
  | 2, _ => by unfold iHea iSen; decide +kernel
  | 3, _ => by unfold iHea iSen; decide +kernel
  | 4, _ => by unfold iHea iSen; decide +kernel
  | 5, _ => by unfold iHea iSen; decide +kernel
  | n + 6, h => absurd h (by omega)
theorem st455 : iSta σ1 455 := ⟨by decide +kernel, by unfold iSen; decide +kernel, by decide +kernel, st455_h, fun _ _ => rfl, fun _ _ => rfl⟩
theorem he393 : iHea σ1 393 := by unfold iHea iSen; decide +kernel
theorem ch392 : iCho σ1 392 := by unfold iCho; decide +kernel
theorem stH : ∀ l, l < 6 → iSta σ1 (58 + 55 * l)
  | 0, _ => st58
  | 1, _ => st113
  | 2, _ => st168
  | 3, _ => st223
  | 4, _ => st278
  | 5, _ => st333
  | n + 6, h => absurd h (by omega)
theorem heF (l : Nat) (h : l < 6) : iHea σ1 (14 + 7 * l) := st1.2.2.2.1 l h
end
section
theorem rn_b {z : Rw} {g b : Int} (hz : IZ z) (hb : 0 ≤ b) : ∀ s : Nat, (s : Int) ≤ z 0 → 0 ≤ (rn z g b s).2 ∧ (rn z g b s).2 ≤ b
  | 0, _ => ⟨Int.le_refl 0, hb⟩
  | s + 1, h => by
    have ih := rn_b (g := g) hz hb s (by omega)
    unfold rn nxt
    rcases chs_in (g := g) (b := b) (q := rn z g b s) hz (show (s : Int) < z 0 by omega) with e | ⟨h1, h2, h3⟩
    · rw [if_pos e]; exact ih
    · rw [if_neg (by omega)]
      unfold okN at h3
      have h3 := (of_decide_eq_true h3).2.2
      obtain ⟨m, hm⟩ := nat_of h1
      rw [hm] at h2 h3 ⊢
      have := (hz.2.2.2.1 m h2).1
      rw [Int.toNat_natCast] at h3 ⊢
      dsimp only
      omega
-- NS.hearNow: blocks [0, 14, 39, 41, 67, 93, 103, 110]
theorem k_NS_hearNow {d : Nat} {Q : QT} {μ : Mem} {l h : Nat} {z : Rw} (hz : IZ z) (hR : R0 z μ 1) (hn0 : μ 2 3 = z 0) (hl : (l : Int) < z 3) (hg : μ 10 l = z (212 + 3 * l)) (hb : μ 11 l = z (213 + 3 * l)) (hH : iHea σ1 h) (hh : 13 < h ∧ (h + 7 ≤ 56 ∨ h = 393))
    (hq : ∀ μ' : Mem, (∀ k, k ≠ 392 → (k < h ∨ h + 7 ≤ k) → μ' k = μ k) → HR (hrL z l) μ' h → Q (.inl 0) μ') : Call σ1 (d + 3) 64 [.inr (.inr 0), .inl (l : Int), .inr (.inr h)] μ Q := by
  refine e_64 ?_
  obtain ⟨a0, a1, a2, a3, a4, a5, a6, p0, p1, p2, p3, p4, p5⟩ := heaF hH
  have q := hz.1
  have qb := (hz.2.2.2.2 l hl).2.1
  obtain ⟨n, hn⟩ := nat_of (show 0 ≤ z 0 by omega)
  refine wp_go b64_0 ?_; simp only [l64_0, sg_aload_2, sg_getfp, sg_aload_0, sg_iv2_v, len4_0, len4_1, len4_2, len4_3, len4_4, nLg_n, nLg_i, nLg_r, tc_c, tc_l, tc_r, tc_m, tc_n, tc_o, tc_0, inR, true_and, and_true, ne_eq, not_true_eq_false, not_false_eq_true, true_imp_iff, false_imp_iff, Int.toNat_natCast, lit_a, Nat.reduceAdd, or_true, true_or, or_false, false_or, Int.reduceEq, Int.reduceNe, Int.reduceLT, Int.reduceLE, Int.reduceNeg, sg_nil, s1p, x0, x1, x2, x3, x4, x5, x6, x7, x8, x9, x10, x11, x12, x13, x56, x57, x388, x389, x390, x391, x392, x393, x394, x395, x396, x397, x398, x399, a0, a1, a2, a3, a4, a5, a6, p0, p1, p2, p3, p4, p5]
  refine k_Sen_copyFrom hH.2.1 st1.2.1 (by omega) (n := n) (by rw [← hn]; exact hn0) (by omega) (fun μ1 f1 n1 c1 => ?_)
  have R1 : R0 z μ1 1 := R0_f (fun k _ _ => f1 k (by omega)) hR
  have e10 : μ1 10 l = z (212 + 3 * l) := by rw [f1 10 (by omega)]; exact hg
  have e11 : μ1 11 l = z (213 + 3 * l) := by rw [f1 11 (by omega)]; exact hb
  have e2 : μ1 2 3 = (n : Int) := by rw [f1 2 (by omega), hn0, hn]
  refine wp_go b64_14 ?_; simp only [l64_14, sg_aload_0, sg_getfp, sg_iload_1, sg_iaload, sg_iv3_v, len4_0, len4_1, len4_2, len4_3, len4_4, nLg_n, nLg_i, nLg_r, tc_c, tc_l, tc_r, tc_m, tc_n, tc_o, tc_0, inR, true_and, and_true, ne_eq, not_true_eq_false, not_false_eq_true, true_imp_iff, false_imp_iff, Int.toNat_natCast, lit_a, Nat.reduceAdd, or_true, true_or, or_false, false_or, Int.reduceEq, Int.reduceNe, Int.reduceLT, Int.reduceLE, Int.reduceNeg, sg_nil, s1p, x0, x1, x2, x3, x4, x5, x6, x7, x8, x9, x10, x11, x12, x13, x56, x57, x388, x389, x390, x391, x392, x393, x394, x395, x396, x397, x398, x399, e10, e11]
  repeat' (first | with_reducible apply And.intro | (intro _) | ((first | refine wp_go b64_0 ?_ | refine wp_go b64_14 ?_ | refine wp_go b64_39 ?_ | refine wp_go b64_67 ?_ | refine wp_go b64_93 ?_ | refine wp_go b64_103 ?_ | refine wp_go b64_110 ?_); simp only [l64_0, l64_14, l64_39, l64_67, l64_93, l64_103, l64_110, sg_aload_2, sg_getfp, sg_aload_0, sg_iv2_v, len4_0, len4_1, len4_2, len4_3, len4_4, sg_iload_1, sg_iaload, sg_iv3_v, sg_iconst, sg_istore_3, sg_istore, okS_4, stL_4, sg_iload_3, sg_iload, ldI_4, sg_iastore, sg_bipush, sg_ic_ne, sg_goto, sg_iinc, ldI_3, okS_3, stL_3, sg_ret, nLg_n, nLg_i, nLg_r, tc_c, tc_l, tc_r, tc_m, tc_n, tc_o, tc_0, inR, true_and, and_true, ne_eq, not_true_eq_false, not_false_eq_true, true_imp_iff, false_imp_iff, Int.toNat_natCast, lit_a, Nat.reduceAdd, or_true, true_or, or_false, false_or, Int.reduceEq, Int.reduceNe, Int.reduceLT, Int.reduceLE, Int.reduceNeg, sg_nil]))
  all_goals (try omega)
  refine k_Cho_begin ch392 (fun μ2 f2 g0 g1 g2 g3 g4 g5 => ?_)
  have loop : ∀ k s : Nat, s + k = n → ∀ (μ3 : Mem) (o4 : Option MV) (cnt nb : Int), (∀ k, k ≠ 392 → k ≠ h + 5 → k ≠ h + 6 → μ3 k = μ1 k) → μ3 392 0 = z (212 + 3 * l) → μ3 392 1 = z (213 + 3 * l) → μ3 392 2 = cnt → μ3 392 3 = (rn z (z (212 + 3 * l)) (z (213 + 3 * l)) s).1 → μ3 392 4 = (rn z (z (212 + 3 * l)) (z (213 + 3 * l)) s).2 → μ3 392 5 = nb → 0 ≤ nb → nb ≤ 600 →
      (∀ i, i < s → μ3 (h + 5) i = ch z (z (212 + 3 * l)) (z (213 + 3 * l)) i ∧ μ3 (h + 6) i = cl z (ch z (z (212 + 3 * l)) (z (213 + 3 * l)) i)) →
      wp σ1 (Call σ1 (d + 2)) 64 Q 41 [some (.inr (.inr 0)), some (.inl (l : Int)), some (.inr (.inr h)), some (.inl (s : Int)), o4] [] μ3 := by
    intro k
    induction k with
    | zero =>
      intro s hs μ3 o4 cnt nb f3 m0 m1 m2 m3 m4 m5 n0 n2 c3
      have hsn : s = n := by omega
      subst hsn
      have hq := hq μ3 (fun k h1 h2 => by rw [f3 k h1 (by omega) (by omega), f1 k (by omega)]) ⟨by rw [f3 (h + 1) (by omega) (by omega) (by omega)]; show μ1 (h + 1) 3 = z 0; rw [n1, hn], fun i hi => by
        have hi' : (i : Int) < z 0 := hi
        have c := c1 i (by omega)
        have c0 := hR.1 i hi'
        unfold hrL
        rw [hr_1 hi', hr_2 hi', hr_3 hi', hr_4 hi', hr_5 hi', f3 (h + 2) (by omega) (by omega) (by omega), f3 (h + 3) (by omega) (by omega) (by omega), f3 (h + 4) (by omega) (by omega) (by omega)]
        exact ⟨c.1.trans c0.1, c.2.1.trans c0.2.1, c.2.2.trans c0.2.2.1, c3 i (by omega)⟩⟩
      have e3 : μ3 2 3 = (s : Int) := by rw [f3 2 (by omega) (by omega) (by omega)]; exact e2
      refine wp_go b64_41 ?_; simp only [l64_41, sg_iload_3, sg_aload_0, sg_getfp, sg_getf0, sg_ic_ge, sg_iv3_i, len4_0, len4_1, len4_2, len4_3, len4_4, nLg_n, nLg_i, nLg_r, tc_c, tc_l, tc_r, tc_m, tc_n, tc_o, tc_0, inR, true_and, and_true, ne_eq, not_true_eq_false, not_false_eq_true, true_imp_iff, false_imp_iff, Int.toNat_natCast, lit_a, Nat.reduceAdd, or_true, true_or, or_false, false_or, Int.reduceEq, Int.reduceNe, Int.reduceLT, Int.reduceLE, Int.reduceNeg, sg_nil, s1p, x0, x1, x2, x3, x4, x5, x6, x7, x8, x9, x10, x11, x12, x13, x56, x57, x388, x389, x390, x391, x392, x393, x394, x395, x396, x397, x398, x399, e3]
      repeat' (first | with_reducible apply And.intro | (intro _) | ((first | refine wp_go b64_0 ?_ | refine wp_go b64_14 ?_ | refine wp_go b64_39 ?_ | refine wp_go b64_67 ?_ | refine wp_go b64_93 ?_ | refine wp_go b64_103 ?_ | refine wp_go b64_110 ?_); simp only [l64_0, l64_14, l64_39, l64_67, l64_93, l64_103, l64_110, sg_aload_2, sg_getfp, sg_aload_0, sg_iv2_v, len4_0, len4_1, len4_2, len4_3, len4_4, sg_iload_1, sg_iaload, sg_iv3_v, sg_iconst, sg_istore_3, sg_istore, okS_4, stL_4, sg_iload_3, sg_iload, ldI_4, sg_iastore, sg_bipush, sg_ic_ne, sg_goto, sg_iinc, ldI_3, okS_3, stL_3, sg_ret, nLg_n, nLg_i, nLg_r, tc_c, tc_l, tc_r, tc_m, tc_n, tc_o, tc_0, inR, true_and, and_true, ne_eq, not_true_eq_false, not_false_eq_true, true_imp_iff, false_imp_iff, Int.toNat_natCast, lit_a, Nat.reduceAdd, or_true, true_or, or_false, false_or, Int.reduceEq, Int.reduceNe, Int.reduceLT, Int.reduceLE, Int.reduceNeg, sg_nil]))
      all_goals (try omega)
      all_goals exact hq
    | succ k ih =>
      intro s hs μ3 o4 cnt nb f3 m0 m1 m2 m3 m4 m5 n0 n2 c3
      have hs0 : (s : Int) < z 0 := by omega
      have e3 : μ3 2 3 = (n : Int) := by rw [f3 2 (by omega) (by omega) (by omega)]; exact e2
      have R3 : R0 z μ3 1 := R0_f (fun k _ _ => f3 k (by omega) (by omega) (by omega)) R1
      have rb := rn_b (g := z (212 + 3 * l)) hz qb.1 s (by omega)
      refine wp_go b64_41 ?_; simp only [l64_41, sg_iload_3, sg_aload_0, sg_getfp, sg_getf0, sg_ic_ge, sg_iv3_i, len4_0, len4_1, len4_2, len4_3, len4_4, nLg_n, nLg_i, nLg_r, tc_c, tc_l, tc_r, tc_m, tc_n, tc_o, tc_0, inR, true_and, and_true, ne_eq, not_true_eq_false, not_false_eq_true, true_imp_iff, false_imp_iff, Int.toNat_natCast, lit_a, Nat.reduceAdd, or_true, true_or, or_false, false_or, Int.reduceEq, Int.reduceNe, Int.reduceLT, Int.reduceLE, Int.reduceNeg, sg_nil, s1p, x0, x1, x2, x3, x4, x5, x6, x7, x8, x9, x10, x11, x12, x13, x56, x57, x388, x389, x390, x391, x392, x393, x394, x395, x396, x397, x398, x399, e3]
      repeat' (first | with_reducible apply And.intro | intro _)
      all_goals (try omega)
      refine k_Cho_choose ch392 st1 R3 hz hs0 (by omega) m0 m1 m2 m3 m4 m5 qb rb ⟨n0, n2⟩ (fun μ4 nb' f4 j0 j1 j2 j3 j4 j5 j6 j7 j8 => ?_)
      rcases ch_in (g := z (212 + 3 * l)) (b := z (213 + 3 * l)) hz hs0 with e | ⟨h1, h2⟩
      · have e' : chs z (z (212 + 3 * l)) (z (213 + 3 * l)) (rn z (z (212 + 3 * l)) (z (213 + 3 * l)) s) s = -6 := e
        have ih1 := ih (s + 1) (by omega) (ms (ms μ4 (h + 5) s (-6)) (h + 6) s 0) (some (.inl (-6))) _ nb' (fun k h1 h2 h3 => by rw [← f3 k h1 h2 h3, ← f4 k h1]; funext j; simp [ms_at, h2, h3])
          (by simp only [ms_at]; (repeat (first | rw [if_neg (by omega)] | rw [if_pos (by omega)])); exact j0) (by simp only [ms_at]; (repeat (first | rw [if_neg (by omega)] | rw [if_pos (by omega)])); exact j1) rfl (by simp only [ms_at]; (repeat (first | rw [if_neg (by omega)] | rw [if_pos (by omega)])); exact j3) (by simp only [ms_at]; (repeat (first | rw [if_neg (by omega)] | rw [if_pos (by omega)])); exact j4) (by simp only [ms_at]; (repeat (first | rw [if_neg (by omega)] | rw [if_pos (by omega)])); exact j5) j6 (by omega) (fun i hi => by
            rcases Nat.lt_or_ge i s with hh2 | hh2
            · obtain ⟨y1, y2⟩ := c3 i hh2
              simp only [ms_at]
              (repeat (first | rw [if_neg (by omega)] | rw [if_pos (by omega)]))
              rw [f4 (h + 5) (by omega), f4 (h + 6) (by omega)]
              exact ⟨y1, y2⟩
            · have hi : i = s := by omega
              subst hi
              rw [e]
              simp [ms_at, cl])
        rw [e']
        refine wp_go b64_67 ?_; simp only [l64_67, sg_istore, okS_4, stL_4, sg_aload_2, sg_getfp, sg_iload_3, sg_iload, ldI_4, sg_iastore, sg_bipush, sg_ic_ne, sg_iconst, sg_goto, nLg_n, nLg_i, nLg_r, tc_c, tc_l, tc_r, tc_m, tc_n, tc_o, tc_0, inR, true_and, and_true, ne_eq, not_true_eq_false, not_false_eq_true, true_imp_iff, false_imp_iff, Int.toNat_natCast, lit_a, Nat.reduceAdd, or_true, true_or, or_false, false_or, Int.reduceEq, Int.reduceNe, Int.reduceLT, Int.reduceLE, Int.reduceNeg, sg_nil, s1p, x0, x1, x2, x3, x4, x5, x6, x7, x8, x9, x10, x11, x12, x13, x56, x57, x388, x389, x390, x391, x392, x393, x394, x395, x396, x397, x398, x399, a0, a1, a2, a3, a4, a5, a6, p0, p1, p2, p3, p4, p5]
        repeat' (first | with_reducible apply And.intro | (intro _) | ((first | refine wp_go b64_0 ?_ | refine wp_go b64_14 ?_ | refine wp_go b64_39 ?_ | refine wp_go b64_67 ?_ | refine wp_go b64_93 ?_ | refine wp_go b64_103 ?_ | refine wp_go b64_110 ?_); simp only [l64_0, l64_14, l64_39, l64_67, l64_93, l64_103, l64_110, sg_aload_2, sg_getfp, sg_aload_0, sg_iv2_v, len4_0, len4_1, len4_2, len4_3, len4_4, sg_iload_1, sg_iaload, sg_iv3_v, sg_iconst, sg_istore_3, sg_istore, okS_4, stL_4, sg_iload_3, sg_iload, ldI_4, sg_iastore, sg_bipush, sg_ic_ne, sg_goto, sg_iinc, ldI_3, okS_3, stL_3, sg_ret, nLg_n, nLg_i, nLg_r, tc_c, tc_l, tc_r, tc_m, tc_n, tc_o, tc_0, inR, true_and, and_true, ne_eq, not_true_eq_false, not_false_eq_true, true_imp_iff, false_imp_iff, Int.toNat_natCast, lit_a, Nat.reduceAdd, or_true, true_or, or_false, false_or, Int.reduceEq, Int.reduceNe, Int.reduceLT, Int.reduceLE, Int.reduceNeg, sg_nil, s1p, x0, x1, x2, x3, x4, x5, x6, x7, x8, x9, x10, x11, x12, x13, x56, x57, x388, x389, x390, x391, x392, x393, x394, x395, x396, x397, x398, x399, a0, a1, a2, a3, a4, a5, a6, p0, p1, p2, p3, p4, p5]))
        all_goals (try omega)
        all_goals exact ih1
      · obtain ⟨m, hm⟩ := nat_of h1
        have hm' : chs z (z (212 + 3 * l)) (z (213 + 3 * l)) (rn z (z (212 + 3 * l)) (z (213 + 3 * l)) s) s = (m : Int) := hm
        have rl := (hz.2.2.2.1 m (by omega)).1
        have e8 : μ4 8 m = z (196 + 2 * m) := by rw [f4 8 (by omega)]; exact (R3.2 m (by omega)).1
        have ih1 := ih (s + 1) (by omega) (ms (ms μ4 (h + 5) s (m : Int)) (h + 6) s (z (196 + 2 * m))) (some (.inl (m : Int))) _ nb' (fun k h1 h2 h3 => by rw [← f3 k h1 h2 h3, ← f4 k h1]; funext j; simp [ms_at, h2, h3])
          (by simp only [ms_at]; (repeat (first | rw [if_neg (by omega)] | rw [if_pos (by omega)])); exact j0) (by simp only [ms_at]; (repeat (first | rw [if_neg (by omega)] | rw [if_pos (by omega)])); exact j1) rfl (by simp only [ms_at]; (repeat (first | rw [if_neg (by omega)] | rw [if_pos (by omega)])); exact j3) (by simp only [ms_at]; (repeat (first | rw [if_neg (by omega)] | rw [if_pos (by omega)])); exact j4) (by simp only [ms_at]; (repeat (first | rw [if_neg (by omega)] | rw [if_pos (by omega)])); exact j5) j6 (by omega) (fun i hi => by
            rcases Nat.lt_or_ge i s with hh2 | hh2
            · obtain ⟨y1, y2⟩ := c3 i hh2
              simp only [ms_at]
              (repeat (first | rw [if_neg (by omega)] | rw [if_pos (by omega)]))
              rw [f4 (h + 5) (by omega), f4 (h + 6) (by omega)]
              exact ⟨y1, y2⟩
            · have hi : i = s := by omega
              subst hi
              rw [hm]
              have c0 : cl z (m : Int) = z (196 + 2 * m) := by unfold cl; rw [if_neg (by omega)]; rfl
              rw [c0]
              simp [ms_at])
        have hx8 : (8 = h + 5) = False := eq_false (by omega)
        rw [hm']
        refine wp_go b64_67 ?_; simp only [l64_67, sg_istore, okS_4, stL_4, sg_aload_2, sg_getfp, sg_iload_3, sg_iload, ldI_4, sg_iastore, sg_bipush, sg_ic_ne, sg_iconst, sg_goto, nLg_n, nLg_i, nLg_r, tc_c, tc_l, tc_r, tc_m, tc_n, tc_o, tc_0, inR, true_and, and_true, ne_eq, not_true_eq_false, not_false_eq_true, true_imp_iff, false_imp_iff, Int.toNat_natCast, lit_a, Nat.reduceAdd, or_true, true_or, or_false, false_or, Int.reduceEq, Int.reduceNe, Int.reduceLT, Int.reduceLE, Int.reduceNeg, sg_nil, s1p, x0, x1, x2, x3, x4, x5, x6, x7, x8, x9, x10, x11, x12, x13, x56, x57, x388, x389, x390, x391, x392, x393, x394, x395, x396, x397, x398, x399, a0, a1, a2, a3, a4, a5, a6, p0, p1, p2, p3, p4, p5]
        repeat' (first | with_reducible apply And.intro | (intro _) | ((first | refine wp_go b64_0 ?_ | refine wp_go b64_14 ?_ | refine wp_go b64_39 ?_ | refine wp_go b64_67 ?_ | refine wp_go b64_93 ?_ | refine wp_go b64_103 ?_ | refine wp_go b64_110 ?_); simp only [l64_0, l64_14, l64_39, l64_67, l64_93, l64_103, l64_110, sg_aload_2, sg_getfp, sg_aload_0, sg_iv2_v, len4_0, len4_1, len4_2, len4_3, len4_4, sg_iload_1, sg_iaload, sg_iv3_v, sg_iconst, sg_istore_3, sg_istore, okS_4, stL_4, sg_iload_3, sg_iload, ldI_4, sg_iastore, sg_bipush, sg_ic_ne, sg_goto, sg_iinc, ldI_3, okS_3, stL_3, sg_ret, nLg_n, nLg_i, nLg_r, tc_c, tc_l, tc_r, tc_m, tc_n, tc_o, tc_0, inR, true_and, and_true, ne_eq, not_true_eq_false, not_false_eq_true, true_imp_iff, false_imp_iff, Int.toNat_natCast, lit_a, Nat.reduceAdd, or_true, true_or, or_false, false_or, Int.reduceEq, Int.reduceNe, Int.reduceLT, Int.reduceLE, Int.reduceNeg, sg_nil, s1p, x0, x1, x2, x3, x4, x5, x6, x7, x8, x9, x10, x11, x12, x13, x56, x57, x388, x389, x390, x391, x392, x393, x394, x395, x396, x397, x398, x399, a0, a1, a2, a3, a4, a5, a6, p0, p1, p2, p3, p4, p5, ms_at, hx8, false_and, if_false, e8]))
        all_goals (try omega)
        all_goals exact ih1
  refine wp_go b64_39 ?_; simp only [l64_39, sg_iconst, sg_istore_3, nLg_n, nLg_i, nLg_r, tc_c, tc_l, tc_r, tc_m, tc_n, tc_o, tc_0, inR, true_and, and_true, ne_eq, not_true_eq_false, not_false_eq_true, true_imp_iff, false_imp_iff, Int.toNat_natCast, lit_a, Nat.reduceAdd, or_true, true_or, or_false, false_or, Int.reduceEq, Int.reduceNe, Int.reduceLT, Int.reduceLE, Int.reduceNeg, sg_nil]
  exact loop n 0 (by omega) μ2 none 0 600 (fun k h1 _ _ => f2 k h1) g0 g1 g2 g3 g4 g5 (by omega) (by omega) (fun i hi => absurd hi (by omega))
-- NS.chooseAll: blocks [0, 17, 19, 45, 52]
theorem k_NS_chooseAll {d : Nat} {Q : QT} {μ : Mem} {l n : Nat} {b : Int} {z : Rw} (hz : IZ z) (hR : R0 z μ 1) (hn0 : μ 2 3 = z 0) (hn : z 0 = (n : Int)) (hl : (l : Int) < z 3) (hg : μ 10 l = z (212 + 3 * l)) (hb : 0 ≤ b ∧ b ≤ 600)
    (hq : ∀ (μ' : Mem) (nb : Int), (∀ k, k ≠ 392 → μ' k = μ k) → μ' 392 2 = sm (fun i => bI (ch z (z (212 + 3 * l)) b i ≠ -6)) n → μ' 392 3 = (rn z (z (212 + 3 * l)) b n).1 → μ' 392 4 = (rn z (z (212 + 3 * l)) b n).2 → μ' 392 5 = nb → 0 ≤ nb → nb ≤ 600 → (∀ b', b ≤ b' → b' < nb → ∀ i, i ≤ n → rn z (z (212 + 3 * l)) b' i = rn z (z (212 + 3 * l)) b i) → Q (.inl 0) μ') : Call σ1 (d + 3) 68 [.inr (.inr 0), .inl (l : Int), .inl b] μ Q := by
  refine e_68 ?_
  have q := hz.1
  refine wp_go b68_0 ?_; simp only [l68_0, sg_aload_0, sg_getfp, sg_iload_1, sg_iaload, sg_iload_2, sg_iv3_v, len4_0, len4_1, len4_2, len4_3, len4_4, nLg_n, nLg_i, nLg_r, tc_c, tc_l, tc_r, tc_m, tc_n, tc_o, tc_0, inR, true_and, and_true, ne_eq, not_true_eq_false, not_false_eq_true, true_imp_iff, false_imp_iff, Int.toNat_natCast, lit_a, Nat.reduceAdd, or_true, true_or, or_false, false_or, Int.reduceEq, Int.reduceNe, Int.reduceLT, Int.reduceLE, Int.reduceNeg, sg_nil, s1p, x0, x1, x2, x3, x4, x5, x6, x7, x8, x9, x10, x11, x12, x13, x56, x57, x388, x389, x390, x391, x392, x393, x394, x395, x396, x397, x398, x399, hg]
  repeat' (first | with_reducible apply And.intro | (intro _) | ((first | refine wp_go b68_0 ?_ | refine wp_go b68_17 ?_ | refine wp_go b68_45 ?_ | refine wp_go b68_52 ?_); simp only [l68_0, l68_17, l68_45, l68_52, sg_aload_0, sg_getfp, sg_iload_1, sg_iaload, sg_iload_2, sg_iv3_v, len4_0, len4_1, len4_2, len4_3, len4_4, sg_iconst, sg_istore_3, sg_pop_i, sg_pop_r, sg_iinc, ldI_3, okS_3, stL_3, sg_goto, sg_ret, nLg_n, nLg_i, nLg_r, tc_c, tc_l, tc_r, tc_m, tc_n, tc_o, tc_0, inR, true_and, and_true, ne_eq, not_true_eq_false, not_false_eq_true, true_imp_iff, false_imp_iff, Int.toNat_natCast, lit_a, Nat.reduceAdd, or_true, true_or, or_false, false_or, Int.reduceEq, Int.reduceNe, Int.reduceLT, Int.reduceLE, Int.reduceNeg, sg_nil]))
  all_goals (try omega)
  refine k_Cho_begin ch392 (fun μ2 f2 g0 g1 g2 g3 g4 g5 => ?_)
  have loop : ∀ k s : Nat, s + k = n → ∀ (μ3 : Mem) (nb : Int), (∀ k, k ≠ 392 → μ3 k = μ k) → μ3 392 0 = z (212 + 3 * l) → μ3 392 1 = b → μ3 392 2 = sm (fun i => bI (ch z (z (212 + 3 * l)) b i ≠ -6)) s → μ3 392 3 = (rn z (z (212 + 3 * l)) b s).1 → μ3 392 4 = (rn z (z (212 + 3 * l)) b s).2 → μ3 392 5 = nb → 0 ≤ nb → nb ≤ 600 →
      (∀ b', b ≤ b' → b' < nb → ∀ i, i ≤ s → rn z (z (212 + 3 * l)) b' i = rn z (z (212 + 3 * l)) b i) →
      wp σ1 (Call σ1 (d + 2)) 68 Q 19 [some (.inr (.inr 0)), some (.inl (l : Int)), some (.inl b), some (.inl (s : Int))] [] μ3 := by
    intro k
    induction k with
    | zero =>
      intro s hs μ3 nb f3 m0 m1 m2 m3 m4 m5 n0 n2 c3
      have hsn : s = n := by omega
      subst hsn
      have hq := hq μ3 nb f3 m2 m3 m4 m5 n0 n2 c3
      have e3 : μ3 2 3 = (s : Int) := by rw [f3 2 (by omega), hn0, hn]
      refine wp_go b68_19 ?_; simp only [l68_19, sg_iload_3, sg_aload_0, sg_getfp, sg_getf0, sg_ic_ge, sg_iv3_i, len4_0, len4_1, len4_2, len4_3, len4_4, nLg_n, nLg_i, nLg_r, tc_c, tc_l, tc_r, tc_m, tc_n, tc_o, tc_0, inR, true_and, and_true, ne_eq, not_true_eq_false, not_false_eq_true, true_imp_iff, false_imp_iff, Int.toNat_natCast, lit_a, Nat.reduceAdd, or_true, true_or, or_false, false_or, Int.reduceEq, Int.reduceNe, Int.reduceLT, Int.reduceLE, Int.reduceNeg, sg_nil, s1p, x0, x1, x2, x3, x4, x5, x6, x7, x8, x9, x10, x11, x12, x13, x56, x57, x388, x389, x390, x391, x392, x393, x394, x395, x396, x397, x398, x399, e3]
      repeat' (first | with_reducible apply And.intro | (intro _) | ((first | refine wp_go b68_0 ?_ | refine wp_go b68_17 ?_ | refine wp_go b68_45 ?_ | refine wp_go b68_52 ?_); simp only [l68_0, l68_17, l68_45, l68_52, sg_aload_0, sg_getfp, sg_iload_1, sg_iaload, sg_iload_2, sg_iv3_v, len4_0, len4_1, len4_2, len4_3, len4_4, sg_iconst, sg_istore_3, sg_pop_i, sg_pop_r, sg_iinc, ldI_3, okS_3, stL_3, sg_goto, sg_ret, nLg_n, nLg_i, nLg_r, tc_c, tc_l, tc_r, tc_m, tc_n, tc_o, tc_0, inR, true_and, and_true, ne_eq, not_true_eq_false, not_false_eq_true, true_imp_iff, false_imp_iff, Int.toNat_natCast, lit_a, Nat.reduceAdd, or_true, true_or, or_false, false_or, Int.reduceEq, Int.reduceNe, Int.reduceLT, Int.reduceLE, Int.reduceNeg, sg_nil]))
      all_goals (try omega)
      all_goals exact hq
    | succ k ih =>
      intro s hs μ3 nb f3 m0 m1 m2 m3 m4 m5 n0 n2 c3
      have hs0 : (s : Int) < z 0 := by omega
      have e3 : μ3 2 3 = (n : Int) := by rw [f3 2 (by omega), hn0, hn]
      have R3 : R0 z μ3 1 := R0_f (fun k _ _ => f3 k (by omega)) hR
      have rb := rn_b (g := z (212 + 3 * l)) hz hb.1 s (by omega)
      refine wp_go b68_19 ?_; simp only [l68_19, sg_iload_3, sg_aload_0, sg_getfp, sg_getf0, sg_ic_ge, sg_iv3_i, len4_0, len4_1, len4_2, len4_3, len4_4, nLg_n, nLg_i, nLg_r, tc_c, tc_l, tc_r, tc_m, tc_n, tc_o, tc_0, inR, true_and, and_true, ne_eq, not_true_eq_false, not_false_eq_true, true_imp_iff, false_imp_iff, Int.toNat_natCast, lit_a, Nat.reduceAdd, or_true, true_or, or_false, false_or, Int.reduceEq, Int.reduceNe, Int.reduceLT, Int.reduceLE, Int.reduceNeg, sg_nil, s1p, x0, x1, x2, x3, x4, x5, x6, x7, x8, x9, x10, x11, x12, x13, x56, x57, x388, x389, x390, x391, x392, x393, x394, x395, x396, x397, x398, x399, e3]
      repeat' (first | with_reducible apply And.intro | intro _)
      all_goals (try omega)
      refine k_Cho_choose ch392 st1 R3 hz hs0 (by omega) m0 m1 m2 m3 m4 m5 hb rb ⟨n0, n2⟩ (fun μ4 nb' f4 j0 j1 j2 j3 j4 j5 j6 j7 j8 => ?_)
      have ih1 := ih (s + 1) (by omega) μ4 nb' (fun k h1 => by rw [f4 k h1, f3 k h1]) j0 j1 j2 j3 j4 j5 j6 (by omega) (fun b' h1 h2 i hi => by
        rcases Nat.lt_or_ge s i with hh | hh
        · have : i = s + 1 := by omega
          subst this
          have r := c3 b' h1 (by omega) s (Nat.le_refl s)
          have j := j8 b' h1 h2
          show nxt z (rn z _ b' s) (chs z _ b' (rn z _ b' s) s) = nxt z (rn z _ b s) (chs z _ b (rn z _ b s) s)
          rw [r]
          rw [show chs z (z (212 + 3 * l)) b' (rn z (z (212 + 3 * l)) b s) s = chs z (z (212 + 3 * l)) b (rn z (z (212 + 3 * l)) b s) s from j]
        · exact c3 b' h1 (by omega) i hh)
      refine wp_go b68_45 ?_; simp only [l68_45, sg_pop_i, sg_pop_r, sg_iinc, ldI_3, okS_3, stL_3, sg_goto, nLg_n, nLg_i, nLg_r, tc_c, tc_l, tc_r, tc_m, tc_n, tc_o, tc_0, inR, true_and, and_true, ne_eq, not_true_eq_false, not_false_eq_true, true_imp_iff, false_imp_iff, Int.toNat_natCast, lit_a, Nat.reduceAdd, or_true, true_or, or_false, false_or, Int.reduceEq, Int.reduceNe, Int.reduceLT, Int.reduceLE, Int.reduceNeg, sg_nil]
      repeat' (first | with_reducible apply And.intro | (intro _) | ((first | refine wp_go b68_0 ?_ | refine wp_go b68_17 ?_ | refine wp_go b68_45 ?_ | refine wp_go b68_52 ?_); simp only [l68_0, l68_17, l68_45, l68_52, sg_aload_0, sg_getfp, sg_iload_1, sg_iaload, sg_iload_2, sg_iv3_v, len4_0, len4_1, len4_2, len4_3, len4_4, sg_iconst, sg_istore_3, sg_pop_i, sg_pop_r, sg_iinc, ldI_3, okS_3, stL_3, sg_goto, sg_ret, nLg_n, nLg_i, nLg_r, tc_c, tc_l, tc_r, tc_m, tc_n, tc_o, tc_0, inR, true_and, and_true, ne_eq, not_true_eq_false, not_false_eq_true, true_imp_iff, false_imp_iff, Int.toNat_natCast, lit_a, Nat.reduceAdd, or_true, true_or, or_false, false_or, Int.reduceEq, Int.reduceNe, Int.reduceLT, Int.reduceLE, Int.reduceNeg, sg_nil]))
      all_goals (try omega)
      all_goals exact ih1
  refine wp_go b68_17 ?_; simp only [l68_17, sg_iconst, sg_istore_3, nLg_n, nLg_i, nLg_r, tc_c, tc_l, tc_r, tc_m, tc_n, tc_o, tc_0, inR, true_and, and_true, ne_eq, not_true_eq_false, not_false_eq_true, true_imp_iff, false_imp_iff, Int.toNat_natCast, lit_a, Nat.reduceAdd, or_true, true_or, or_false, false_or, Int.reduceEq, Int.reduceNe, Int.reduceLT, Int.reduceLE, Int.reduceNeg, sg_nil]
  exact loop n 0 (by omega) μ2 600 f2 g0 g1 g2 g3 g4 g5 (by omega) (by omega) (fun b' _ _ i hi => by rw [show i = 0 by omega]; rfl)
end
section
theorem l6 {z : Rw} {l : Nat} (hz : IZ z) (hl : (l : Int) < z 3) : l < 6 := by have := hz.1; omega
-- NS.hearingOf: blocks [0, 22, 31]
theorem k_NS_hearingOf {d : Nat} {Q : QT} {μ : Mem} {l : Nat} {z : Rw} (hz : IZ z) (hR : RC z μ 1) (hl : (l : Int) < z 3)
    (hq : ∀ (μ' : Mem) (h : Nat), (∀ k, (k < 392 ∨ 400 ≤ k) → μ' k = μ k) → HR (wO z l) μ' h → iHea σ1 h → 13 < h → h < 394 → Q (.inr (.inr h)) μ') : Call σ1 (d + 4) 63 [.inr (.inr 0), .inl (l : Int)] μ Q := by
  refine e_63 ?_
  have l6 := l6 hz hl
  obtain ⟨e10, e11, e12, eh⟩ := hR.2.2.2 l hl
  have e12 : μ 12 l = z (214 + 3 * l) := e12
  have z01 := (hz.2.2.2.2 l hl).2.2.1
  by_cases hf : z (214 + 3 * l) = 1
  · have hq := hq μ (14 + 7 * l) (fun _ _ => rfl) (by unfold wO; rw [if_pos hf]; exact eh hf) (heF l l6) (by omega) (by omega)
    rw [hf] at e12
    refine wp_go b63_0 ?_; simp only [l63_0, sg_aload_0, sg_getfp, sg_iload_1, sg_baload, sg_if_eq, sg_aaload, sg_aret, nLg_n, nLg_i, nLg_r, tc_c, tc_l, tc_r, tc_m, tc_n, tc_o, tc_0, inR, true_and, and_true, ne_eq, not_true_eq_false, not_false_eq_true, true_imp_iff, false_imp_iff, Int.toNat_natCast, lit_a, Nat.reduceAdd, or_true, true_or, or_false, false_or, Int.reduceEq, Int.reduceNe, Int.reduceLT, Int.reduceLE, Int.reduceNeg, sg_nil, s1p, x0, x1, x2, x3, x4, x5, x6, x7, x8, x9, x10, x11, x12, x13, x56, x57, x388, x389, x390, x391, x392, x393, x394, x395, x396, x397, x398, x399, e12]
    repeat' (first | with_reducible apply And.intro | (intro _) | ((first | refine wp_go b63_0 ?_ | refine wp_go b63_22 ?_ | refine wp_go b63_31 ?_); simp only [l63_0, l63_22, l63_31, sg_aload_0, sg_getfp, sg_iload_1, sg_baload, sg_if_eq, sg_aaload, sg_aret, sg_iv3_v, len4_0, len4_1, len4_2, len4_3, len4_4, nLg_n, nLg_i, nLg_r, tc_c, tc_l, tc_r, tc_m, tc_n, tc_o, tc_0, inR, true_and, and_true, ne_eq, not_true_eq_false, not_false_eq_true, true_imp_iff, false_imp_iff, Int.toNat_natCast, lit_a, Nat.reduceAdd, or_true, true_or, or_false, false_or, Int.reduceEq, Int.reduceNe, Int.reduceLT, Int.reduceLE, Int.reduceNeg, sg_nil]))
    all_goals (try omega)
    all_goals exact hq
  · have hf0 : z (214 + 3 * l) = 0 := by omega
    rw [hf0] at e12
    refine wp_go b63_0 ?_; simp only [l63_0, sg_aload_0, sg_getfp, sg_iload_1, sg_baload, sg_if_eq, sg_aaload, sg_aret, nLg_n, nLg_i, nLg_r, tc_c, tc_l, tc_r, tc_m, tc_n, tc_o, tc_0, inR, true_and, and_true, ne_eq, not_true_eq_false, not_false_eq_true, true_imp_iff, false_imp_iff, Int.toNat_natCast, lit_a, Nat.reduceAdd, or_true, true_or, or_false, false_or, Int.reduceEq, Int.reduceNe, Int.reduceLT, Int.reduceLE, Int.reduceNeg, sg_nil, s1p, x0, x1, x2, x3, x4, x5, x6, x7, x8, x9, x10, x11, x12, x13, x56, x57, x388, x389, x390, x391, x392, x393, x394, x395, x396, x397, x398, x399, e12]
    repeat' (first | with_reducible apply And.intro | intro _)
    all_goals (try omega)
    refine wp_go b63_22 ?_; simp only [l63_22, sg_aload_0, sg_iload_1, sg_getfp, sg_iv3_v, len4_0, len4_1, len4_2, len4_3, len4_4, nLg_n, nLg_i, nLg_r, tc_c, tc_l, tc_r, tc_m, tc_n, tc_o, tc_0, inR, true_and, and_true, ne_eq, not_true_eq_false, not_false_eq_true, true_imp_iff, false_imp_iff, Int.toNat_natCast, lit_a, Nat.reduceAdd, or_true, true_or, or_false, false_or, Int.reduceEq, Int.reduceNe, Int.reduceLT, Int.reduceLE, Int.reduceNeg, sg_nil, s1p, x0, x1, x2, x3, x4, x5, x6, x7, x8, x9, x10, x11, x12, x13, x56, x57, x388, x389, x390, x391, x392, x393, x394, x395, x396, x397, x398, x399]
    refine k_NS_hearNow hz hR.r0 hR.1.1 hl e10 e11 he393 (by omega) (fun μ' f h => ?_)
    have hq := hq μ' 393 (fun k hk => f k (by omega) (by omega)) (by unfold wO; rw [if_neg hf]; exact h) he393 (by omega) (by omega)
    refine wp_go b63_31 ?_; simp only [l63_31, sg_aload_0, sg_getfp, sg_aret, nLg_n, nLg_i, nLg_r, tc_c, tc_l, tc_r, tc_m, tc_n, tc_o, tc_0, inR, true_and, and_true, ne_eq, not_true_eq_false, not_false_eq_true, true_imp_iff, false_imp_iff, Int.toNat_natCast, lit_a, Nat.reduceAdd, or_true, true_or, or_false, false_or, Int.reduceEq, Int.reduceNe, Int.reduceLT, Int.reduceLE, Int.reduceNeg, sg_nil, s1p, x0, x1, x2, x3, x4, x5, x6, x7, x8, x9, x10, x11, x12, x13, x56, x57, x388, x389, x390, x391, x392, x393, x394, x395, x396, x397, x398, x399]
    exact hq
def eqW (w v : Rw) : Bool := (List.range 121).all fun k => decide (w k = v k)
theorem eqW_t {w v : Rw} (h : ∀ k, k < 121 → w k = v k) : eqW w v = true := List.all_eq_true.mpr (fun k hk => decide_eq_true (h k (List.mem_range.mp hk)))
theorem eqW_f {w v : Rw} (h : ¬ ∀ k, k < 121 → w k = v k) : eqW w v = false := by
  cases e : eqW w v with
  | false => rfl
  | true => exact absurd (fun k hk => of_decide_eq_true (List.all_eq_true.mp e k (List.mem_range.mpr hk))) h
def old (z : Rw) (l : Nat) : Int := bI (z (214 + 3 * l) = 1 ∧ eqW (hrL z l) (fw z l) = false)
theorem old_01 (z : Rw) (l : Nat) : old z l = 0 ∨ old z l = 1 := by unfold old bI; split <;> simp
-- NS.isOutOfDate: blocks [0, 14, 23, 39, 46, 47]
theorem k_NS_isOutOfDate {d : Nat} {Q : QT} {μ : Mem} {l : Nat} {z : Rw} (hz : IZ z) (hR : RC z μ 1) (hl : (l : Int) < z 3)
    (hq : ∀ μ' : Mem, (∀ k, (k < 392 ∨ 400 ≤ k) → μ' k = μ k) → Q (.inl (old z l)) μ') : Call σ1 (d + 4) 65 [.inr (.inr 0), .inl (l : Int)] μ Q := by
  refine e_65 ?_
  have l6 := l6 hz hl
  obtain ⟨e10, e11, e12, eh⟩ := hR.2.2.2 l hl
  have e12 : μ 12 l = z (214 + 3 * l) := e12
  have z01 := (hz.2.2.2.2 l hl).2.2.1
  by_cases hf : z (214 + 3 * l) = 1
  · rw [hf] at e12
    refine wp_go b65_0 ?_; simp only [l65_0, sg_aload_0, sg_getfp, sg_iload_1, sg_baload, sg_if_ne, sg_iconst, sg_iret1, nLg_n, nLg_i, nLg_r, tc_c, tc_l, tc_r, tc_m, tc_n, tc_o, tc_0, inR, true_and, and_true, ne_eq, not_true_eq_false, not_false_eq_true, true_imp_iff, false_imp_iff, Int.toNat_natCast, lit_a, Nat.reduceAdd, or_true, true_or, or_false, false_or, Int.reduceEq, Int.reduceNe, Int.reduceLT, Int.reduceLE, Int.reduceNeg, sg_nil, s1p, x0, x1, x2, x3, x4, x5, x6, x7, x8, x9, x10, x11, x12, x13, x56, x57, x388, x389, x390, x391, x392, x393, x394, x395, x396, x397, x398, x399, e12]
    repeat' (first | with_reducible apply And.intro | intro _)
    all_goals (try omega)
    refine wp_go b65_14 ?_; simp only [l65_14, sg_aload_0, sg_iload_1, sg_getfp, sg_iv3_v, len4_0, len4_1, len4_2, len4_3, len4_4, nLg_n, nLg_i, nLg_r, tc_c, tc_l, tc_r, tc_m, tc_n, tc_o, tc_0, inR, true_and, and_true, ne_eq, not_true_eq_false, not_false_eq_true, true_imp_iff, false_imp_iff, Int.toNat_natCast, lit_a, Nat.reduceAdd, or_true, true_or, or_false, false_or, Int.reduceEq, Int.reduceNe, Int.reduceLT, Int.reduceLE, Int.reduceNeg, sg_nil, s1p, x0, x1, x2, x3, x4, x5, x6, x7, x8, x9, x10, x11, x12, x13, x56, x57, x388, x389, x390, x391, x392, x393, x394, x395, x396, x397, x398, x399]
    refine k_NS_hearNow hz hR.r0 hR.1.1 hl e10 e11 he393 (by omega) (fun μ1 f h => ?_)
    have hq := hq μ1 (fun k hk => f k (by omega) (by omega))
    refine wp_go b65_23 ?_; simp only [l65_23, sg_aload_0, sg_getfp, sg_iload_1, sg_aaload, sg_iv2_i, len4_0, len4_1, len4_2, len4_3, len4_4, nLg_n, nLg_i, nLg_r, tc_c, tc_l, tc_r, tc_m, tc_n, tc_o, tc_0, inR, true_and, and_true, ne_eq, not_true_eq_false, not_false_eq_true, true_imp_iff, false_imp_iff, Int.toNat_natCast, lit_a, Nat.reduceAdd, or_true, true_or, or_false, false_or, Int.reduceEq, Int.reduceNe, Int.reduceLT, Int.reduceLE, Int.reduceNeg, sg_nil, s1p, x0, x1, x2, x3, x4, x5, x6, x7, x8, x9, x10, x11, x12, x13, x56, x57, x388, x389, x390, x391, x392, x393, x394, x395, x396, x397, x398, x399]
    repeat' (first | with_reducible apply And.intro | intro _)
    all_goals (try omega)
    have hF : HR (fw z l) μ1 (14 + 7 * l) := HR_f (fun k h1 h2 => f k (by omega) (by omega)) (eh hf)
    refine k_Hea_isLike he393 (heF l l6) h hF (hr_W hz) ((hz.2.2.2.2 l hl).2.2.2 hf) (fun ha => ?_) (fun ha => ?_)
    · have o : old z l = 0 := by unfold old bI; rw [if_neg (fun q => by have := eqW_t ha; rw [this] at q; exact absurd q.2 (by decide))]
      rw [o] at hq
      refine wp_go b65_39 ?_; simp only [l65_39, sg_if_ne, sg_iconst, sg_goto, nLg_n, nLg_i, nLg_r, tc_c, tc_l, tc_r, tc_m, tc_n, tc_o, tc_0, inR, true_and, and_true, ne_eq, not_true_eq_false, not_false_eq_true, true_imp_iff, false_imp_iff, Int.toNat_natCast, lit_a, Nat.reduceAdd, or_true, true_or, or_false, false_or, Int.reduceEq, Int.reduceNe, Int.reduceLT, Int.reduceLE, Int.reduceNeg, sg_nil]
      repeat' (first | with_reducible apply And.intro | (intro _) | ((first | refine wp_go b65_0 ?_ | refine wp_go b65_14 ?_ | refine wp_go b65_23 ?_ | refine wp_go b65_39 ?_ | refine wp_go b65_46 ?_ | refine wp_go b65_47 ?_); simp only [l65_0, l65_14, l65_23, l65_39, l65_46, l65_47, sg_aload_0, sg_getfp, sg_iload_1, sg_baload, sg_if_ne, sg_iconst, sg_iret1, sg_iv3_v, len4_0, len4_1, len4_2, len4_3, len4_4, sg_aaload, sg_iv2_i, sg_goto, nLg_n, nLg_i, nLg_r, tc_c, tc_l, tc_r, tc_m, tc_n, tc_o, tc_0, inR, true_and, and_true, ne_eq, not_true_eq_false, not_false_eq_true, true_imp_iff, false_imp_iff, Int.toNat_natCast, lit_a, Nat.reduceAdd, or_true, true_or, or_false, false_or, Int.reduceEq, Int.reduceNe, Int.reduceLT, Int.reduceLE, Int.reduceNeg, sg_nil]))
      all_goals (try omega)
      all_goals exact hq
    · have o : old z l = 1 := by unfold old bI; rw [if_pos ⟨hf, eqW_f ha⟩]
      rw [o] at hq
      refine wp_go b65_39 ?_; simp only [l65_39, sg_if_ne, sg_iconst, sg_goto, nLg_n, nLg_i, nLg_r, tc_c, tc_l, tc_r, tc_m, tc_n, tc_o, tc_0, inR, true_and, and_true, ne_eq, not_true_eq_false, not_false_eq_true, true_imp_iff, false_imp_iff, Int.toNat_natCast, lit_a, Nat.reduceAdd, or_true, true_or, or_false, false_or, Int.reduceEq, Int.reduceNe, Int.reduceLT, Int.reduceLE, Int.reduceNeg, sg_nil]
      repeat' (first | with_reducible apply And.intro | (intro _) | ((first | refine wp_go b65_0 ?_ | refine wp_go b65_14 ?_ | refine wp_go b65_23 ?_ | refine wp_go b65_39 ?_ | refine wp_go b65_46 ?_ | refine wp_go b65_47 ?_); simp only [l65_0, l65_14, l65_23, l65_39, l65_46, l65_47, sg_aload_0, sg_getfp, sg_iload_1, sg_baload, sg_if_ne, sg_iconst, sg_iret1, sg_iv3_v, len4_0, len4_1, len4_2, len4_3, len4_4, sg_aaload, sg_iv2_i, sg_goto, nLg_n, nLg_i, nLg_r, tc_c, tc_l, tc_r, tc_m, tc_n, tc_o, tc_0, inR, true_and, and_true, ne_eq, not_true_eq_false, not_false_eq_true, true_imp_iff, false_imp_iff, Int.toNat_natCast, lit_a, Nat.reduceAdd, or_true, true_or, or_false, false_or, Int.reduceEq, Int.reduceNe, Int.reduceLT, Int.reduceLE, Int.reduceNeg, sg_nil]))
      all_goals (try omega)
      all_goals exact hq
  · have hf0 : z (214 + 3 * l) = 0 := by omega
    rw [hf0] at e12
    have hq := hq μ (fun _ _ => rfl)
    have o : old z l = 0 := by unfold old bI; rw [if_neg (fun q => hf q.1)]
    rw [o] at hq
    refine wp_go b65_0 ?_; simp only [l65_0, sg_aload_0, sg_getfp, sg_iload_1, sg_baload, sg_if_ne, sg_iconst, sg_iret1, nLg_n, nLg_i, nLg_r, tc_c, tc_l, tc_r, tc_m, tc_n, tc_o, tc_0, inR, true_and, and_true, ne_eq, not_true_eq_false, not_false_eq_true, true_imp_iff, false_imp_iff, Int.toNat_natCast, lit_a, Nat.reduceAdd, or_true, true_or, or_false, false_or, Int.reduceEq, Int.reduceNe, Int.reduceLT, Int.reduceLE, Int.reduceNeg, sg_nil, s1p, x0, x1, x2, x3, x4, x5, x6, x7, x8, x9, x10, x11, x12, x13, x56, x57, x388, x389, x390, x391, x392, x393, x394, x395, x396, x397, x398, x399, e12]
    repeat' (first | with_reducible apply And.intro | (intro _) | ((first | refine wp_go b65_0 ?_ | refine wp_go b65_14 ?_ | refine wp_go b65_23 ?_ | refine wp_go b65_39 ?_ | refine wp_go b65_46 ?_ | refine wp_go b65_47 ?_); simp only [l65_0, l65_14, l65_23, l65_39, l65_46, l65_47, sg_aload_0, sg_getfp, sg_iload_1, sg_baload, sg_if_ne, sg_iconst, sg_iret1, sg_iv3_v, len4_0, len4_1, len4_2, len4_3, len4_4, sg_aaload, sg_iv2_i, sg_goto, nLg_n, nLg_i, nLg_r, tc_c, tc_l, tc_r, tc_m, tc_n, tc_o, tc_0, inR, true_and, and_true, ne_eq, not_true_eq_false, not_false_eq_true, true_imp_iff, false_imp_iff, Int.toNat_natCast, lit_a, Nat.reduceAdd, or_true, true_or, or_false, false_or, Int.reduceEq, Int.reduceNe, Int.reduceLT, Int.reduceLE, Int.reduceNeg, sg_nil]))
    all_goals (try omega)
    all_goals exact hq
def olds (z : Rw) : Nat → Int
  | 0 => 0
  | l + 1 => if old z l = 1 then iOr (olds z l) (iShl 1 l) else olds z l
-- NS.outOfDateListeners: blocks [0, 4, 20, 29, 35]
theorem k_NS_outOfDateListeners {d n : Nat} {Q : QT} {μ : Mem} {z : Rw} (hz : IZ z) (hR : RC z μ 1) (hn : z 3 = (n : Int))
    (hq : ∀ μ' : Mem, (∀ k, (k < 392 ∨ 400 ≤ k) → μ' k = μ k) → Q (.inl (olds z n)) μ') : Call σ1 (d + 5) 66 [.inr (.inr 0)] μ Q := by
  refine e_66 ?_
  have q := hz.1
  have loop : ∀ k i : Nat, i + k = n → ∀ μ1 : Mem, (∀ k, (k < 392 ∨ 400 ≤ k) → μ1 k = μ k) → wp σ1 (Call σ1 (d + 4)) 66 Q 4 [some (.inr (.inr 0)), some (.inl (olds z i)), some (.inl (i : Int))] [] μ1 := by
    intro k
    induction k with
    | zero =>
      intro i hi μ1 f1
      have him : i = n := by omega
      subst him
      have hq := hq μ1 f1
      have R1 : RC z μ1 1 := RC_f (by omega) (fun k _ _ => f1 k (by omega)) hR
      have e3 : μ1 1 11 = (i : Int) := R1.1.2.2.2.trans hn
      refine wp_go b66_4 ?_; simp only [l66_4, sg_iload_2, sg_aload_0, sg_getfp, sg_getf0, sg_ic_ge, sg_iv2_i, len4_0, len4_1, len4_2, len4_3, len4_4, nLg_n, nLg_i, nLg_r, tc_c, tc_l, tc_r, tc_m, tc_n, tc_o, tc_0, inR, true_and, and_true, ne_eq, not_true_eq_false, not_false_eq_true, true_imp_iff, false_imp_iff, Int.toNat_natCast, lit_a, Nat.reduceAdd, or_true, true_or, or_false, false_or, Int.reduceEq, Int.reduceNe, Int.reduceLT, Int.reduceLE, Int.reduceNeg, sg_nil, s1p, x0, x1, x2, x3, x4, x5, x6, x7, x8, x9, x10, x11, x12, x13, x56, x57, x388, x389, x390, x391, x392, x393, x394, x395, x396, x397, x398, x399, e3]
      repeat' (first | with_reducible apply And.intro | (intro _) | ((first | refine wp_go b66_0 ?_ | refine wp_go b66_20 ?_ | refine wp_go b66_29 ?_ | refine wp_go b66_35 ?_); simp only [l66_0, l66_20, l66_29, l66_35, sg_iconst, sg_istore_1, sg_istore_2, sg_if_eq, sg_iload_1, sg_iload_2, sg_ishl, sg_ior, sg_iinc, ldI_2, okS_2, stL_2, sg_goto, sg_iret0, nLg_n, nLg_i, nLg_r, tc_c, tc_l, tc_r, tc_m, tc_n, tc_o, tc_0, inR, true_and, and_true, ne_eq, not_true_eq_false, not_false_eq_true, true_imp_iff, false_imp_iff, Int.toNat_natCast, lit_a, Nat.reduceAdd, or_true, true_or, or_false, false_or, Int.reduceEq, Int.reduceNe, Int.reduceLT, Int.reduceLE, Int.reduceNeg, sg_nil]))
      all_goals (try omega)
      all_goals exact hq
    | succ k ih =>
      intro i hi μ1 f1
      have R1 : RC z μ1 1 := RC_f (by omega) (fun k _ _ => f1 k (by omega)) hR
      have e3 : μ1 1 11 = (n : Int) := R1.1.2.2.2.trans hn
      refine wp_go b66_4 ?_; simp only [l66_4, sg_iload_2, sg_aload_0, sg_getfp, sg_getf0, sg_ic_ge, sg_iv2_i, len4_0, len4_1, len4_2, len4_3, len4_4, nLg_n, nLg_i, nLg_r, tc_c, tc_l, tc_r, tc_m, tc_n, tc_o, tc_0, inR, true_and, and_true, ne_eq, not_true_eq_false, not_false_eq_true, true_imp_iff, false_imp_iff, Int.toNat_natCast, lit_a, Nat.reduceAdd, or_true, true_or, or_false, false_or, Int.reduceEq, Int.reduceNe, Int.reduceLT, Int.reduceLE, Int.reduceNeg, sg_nil, s1p, x0, x1, x2, x3, x4, x5, x6, x7, x8, x9, x10, x11, x12, x13, x56, x57, x388, x389, x390, x391, x392, x393, x394, x395, x396, x397, x398, x399, e3]
      repeat' (first | with_reducible apply And.intro | intro _)
      all_goals (try omega)
      refine k_NS_isOutOfDate hz R1 (by omega) (fun μ2 f2 => ?_)
      have ih1 := ih (i + 1) (by omega) μ2 (fun k hk => (f2 k hk).trans (f1 k hk))
      unfold olds at ih1
      rcases old_01 z i with o | o
      · rw [o, if_neg (by omega)] at ih1
        rw [o]
        refine wp_go b66_20 ?_; simp only [l66_20, sg_if_eq, sg_iload_1, sg_iconst, sg_iload_2, sg_ishl, sg_ior, sg_istore_1, nLg_n, nLg_i, nLg_r, tc_c, tc_l, tc_r, tc_m, tc_n, tc_o, tc_0, inR, true_and, and_true, ne_eq, not_true_eq_false, not_false_eq_true, true_imp_iff, false_imp_iff, Int.toNat_natCast, lit_a, Nat.reduceAdd, or_true, true_or, or_false, false_or, Int.reduceEq, Int.reduceNe, Int.reduceLT, Int.reduceLE, Int.reduceNeg, sg_nil]
        repeat' (first | with_reducible apply And.intro | (intro _) | ((first | refine wp_go b66_0 ?_ | refine wp_go b66_20 ?_ | refine wp_go b66_29 ?_ | refine wp_go b66_35 ?_); simp only [l66_0, l66_20, l66_29, l66_35, sg_iconst, sg_istore_1, sg_istore_2, sg_if_eq, sg_iload_1, sg_iload_2, sg_ishl, sg_ior, sg_iinc, ldI_2, okS_2, stL_2, sg_goto, sg_iret0, nLg_n, nLg_i, nLg_r, tc_c, tc_l, tc_r, tc_m, tc_n, tc_o, tc_0, inR, true_and, and_true, ne_eq, not_true_eq_false, not_false_eq_true, true_imp_iff, false_imp_iff, Int.toNat_natCast, lit_a, Nat.reduceAdd, or_true, true_or, or_false, false_or, Int.reduceEq, Int.reduceNe, Int.reduceLT, Int.reduceLE, Int.reduceNeg, sg_nil]))
        all_goals (try omega)
        all_goals exact ih1
      · rw [o, if_pos rfl] at ih1
        rw [o]
        refine wp_go b66_20 ?_; simp only [l66_20, sg_if_eq, sg_iload_1, sg_iconst, sg_iload_2, sg_ishl, sg_ior, sg_istore_1, nLg_n, nLg_i, nLg_r, tc_c, tc_l, tc_r, tc_m, tc_n, tc_o, tc_0, inR, true_and, and_true, ne_eq, not_true_eq_false, not_false_eq_true, true_imp_iff, false_imp_iff, Int.toNat_natCast, lit_a, Nat.reduceAdd, or_true, true_or, or_false, false_or, Int.reduceEq, Int.reduceNe, Int.reduceLT, Int.reduceLE, Int.reduceNeg, sg_nil]
        repeat' (first | with_reducible apply And.intro | (intro _) | ((first | refine wp_go b66_0 ?_ | refine wp_go b66_20 ?_ | refine wp_go b66_29 ?_ | refine wp_go b66_35 ?_); simp only [l66_0, l66_20, l66_29, l66_35, sg_iconst, sg_istore_1, sg_istore_2, sg_if_eq, sg_iload_1, sg_iload_2, sg_ishl, sg_ior, sg_iinc, ldI_2, okS_2, stL_2, sg_goto, sg_iret0, nLg_n, nLg_i, nLg_r, tc_c, tc_l, tc_r, tc_m, tc_n, tc_o, tc_0, inR, true_and, and_true, ne_eq, not_true_eq_false, not_false_eq_true, true_imp_iff, false_imp_iff, Int.toNat_natCast, lit_a, Nat.reduceAdd, or_true, true_or, or_false, false_or, Int.reduceEq, Int.reduceNe, Int.reduceLT, Int.reduceLE, Int.reduceNeg, sg_nil]))
        all_goals (try omega)
        all_goals exact ih1
  refine wp_go b66_0 ?_; simp only [l66_0, sg_iconst, sg_istore_1, sg_istore_2, nLg_n, nLg_i, nLg_r, tc_c, tc_l, tc_r, tc_m, tc_n, tc_o, tc_0, inR, true_and, and_true, ne_eq, not_true_eq_false, not_false_eq_true, true_imp_iff, false_imp_iff, Int.toNat_natCast, lit_a, Nat.reduceAdd, or_true, true_or, or_false, false_or, Int.reduceEq, Int.reduceNe, Int.reduceLT, Int.reduceLE, Int.reduceNeg, sg_nil]
  exact loop n 0 (by omega) μ (fun _ _ => rfl)
def nw (z : Rw) (l : Nat) : Nat := (wO z l 0).toNat
def tot (z : Rw) (l : Nat) : Int := bt (wO z l) (nw z l)
theorem nw_eq {z : Rw} {l : Nat} (hz : IZ z) (hl : (l : Int) < z 3) : wO z l 0 = ((nw z l : Nat) : Int) ∧ 1 ≤ nw z l ∧ nw z l ≤ 24 := by
  have := (wO_W hz hl).1
  unfold nw; omega
theorem bt_b {w : Rw} (hW : WH w) {p : Nat} (hp : (p : Int) ≤ w 0) : 0 ≤ bt w p ∧ bt w p ≤ 420 * p := by
  have b1 := sm_b (f := fun i => w (5 * i + 2) + w (5 * i + 4)) (b := 420) (n := p) (fun j hj => by
    have q1 := hW.nt (i := j) (by omega)
    have q2 := (hW.2.1 j (by omega)).2.1
    omega)
  have e := ht_bt w p
  unfold ht at e
  rw [e] at b1
  exact b1
def lng (z : Rw) : Nat → Int × Int
  | 0 => (-6, -6)
  | l + 1 => if (lng z l).2 < tot z l then ((l : Int), tot z l) else lng z l
theorem lng_b {z : Rw} (hz : IZ z) : ∀ n : Nat, (n : Int) ≤ z 3 → -6 ≤ (lng z n).2 ∧ (lng z n).2 ≤ 10080
  | 0, _ => ⟨Int.le_refl _, by show (-6 : Int) ≤ 10080; omega⟩
  | l + 1, h => by
    have ih := lng_b hz l (by omega)
    have e := nw_eq hz (show (l : Int) < z 3 by omega)
    have b := bt_b (wO_W hz (show (l : Int) < z 3 by omega)) (p := nw z l) (by omega)
    unfold lng
    split
    · show -6 ≤ tot z l ∧ tot z l ≤ 10080
      unfold tot
      omega
    · exact ih
-- NS.longestListener: blocks [0, 8, 24, 27, 40, 46]
theorem k_NS_longestListener {d n : Nat} {Q : QT} {μ : Mem} {z : Rw} (hz : IZ z) (hR : RC z μ 1) (hn : z 3 = (n : Int))
    (hq : ∀ μ' : Mem, (∀ k, (k < 392 ∨ 400 ≤ k) → μ' k = μ k) → Q (.inl (lng z n).1) μ') : Call σ1 (d + 5) 67 [.inr (.inr 0)] μ Q := by
  refine e_67 ?_
  have q := hz.1
  have loop : ∀ k i : Nat, i + k = n → ∀ (μ1 : Mem) (o4 : Option MV), (∀ k, (k < 392 ∨ 400 ≤ k) → μ1 k = μ k) → wp σ1 (Call σ1 (d + 4)) 67 Q 8 [some (.inr (.inr 0)), some (.inl (lng z i).1), some (.inl (lng z i).2), some (.inl (i : Int)), o4] [] μ1 := by
    intro k
    induction k with
    | zero =>
      intro i hi μ1 o4 f1
      have him : i = n := by omega
      subst him
      have hq := hq μ1 f1
      have R1 : RC z μ1 1 := RC_f (by omega) (fun k _ _ => f1 k (by omega)) hR
      have e3 : μ1 1 11 = (i : Int) := R1.1.2.2.2.trans hn
      refine wp_go b67_8 ?_; simp only [l67_8, sg_iload_3, sg_aload_0, sg_getfp, sg_getf0, sg_ic_ge, sg_iv2_r, len4_0, len4_1, len4_2, len4_3, len4_4, nLg_n, nLg_i, nLg_r, tc_c, tc_l, tc_r, tc_m, tc_n, tc_o, tc_0, inR, true_and, and_true, ne_eq, not_true_eq_false, not_false_eq_true, true_imp_iff, false_imp_iff, Int.toNat_natCast, lit_a, Nat.reduceAdd, or_true, true_or, or_false, false_or, Int.reduceEq, Int.reduceNe, Int.reduceLT, Int.reduceLE, Int.reduceNeg, sg_nil, s1p, x0, x1, x2, x3, x4, x5, x6, x7, x8, x9, x10, x11, x12, x13, x56, x57, x388, x389, x390, x391, x392, x393, x394, x395, x396, x397, x398, x399, e3]
      repeat' (first | with_reducible apply And.intro | (intro _) | ((first | refine wp_go b67_0 ?_ | refine wp_go b67_24 ?_ | refine wp_go b67_27 ?_ | refine wp_go b67_40 ?_ | refine wp_go b67_46 ?_); simp only [l67_0, l67_24, l67_27, l67_40, l67_46, sg_bipush, sg_istore_1, sg_istore_2, sg_iconst, sg_istore_3, sg_iv1_i, len4_0, len4_1, len4_2, len4_3, len4_4, sg_istore, okS_4, stL_4, sg_iload, ldI_4, sg_iload_2, sg_ic_le, sg_iload_3, sg_iinc, ldI_3, okS_3, stL_3, sg_goto, sg_iload_1, sg_iret0, nLg_n, nLg_i, nLg_r, tc_c, tc_l, tc_r, tc_m, tc_n, tc_o, tc_0, inR, true_and, and_true, ne_eq, not_true_eq_false, not_false_eq_true, true_imp_iff, false_imp_iff, Int.toNat_natCast, lit_a, Nat.reduceAdd, or_true, true_or, or_false, false_or, Int.reduceEq, Int.reduceNe, Int.reduceLT, Int.reduceLE, Int.reduceNeg, sg_nil]))
      all_goals (try omega)
      all_goals exact hq
    | succ k ih =>
      intro i hi μ1 o4 f1
      have R1 : RC z μ1 1 := RC_f (by omega) (fun k _ _ => f1 k (by omega)) hR
      have e3 : μ1 1 11 = (n : Int) := R1.1.2.2.2.trans hn
      refine wp_go b67_8 ?_; simp only [l67_8, sg_iload_3, sg_aload_0, sg_getfp, sg_getf0, sg_ic_ge, sg_iv2_r, len4_0, len4_1, len4_2, len4_3, len4_4, nLg_n, nLg_i, nLg_r, tc_c, tc_l, tc_r, tc_m, tc_n, tc_o, tc_0, inR, true_and, and_true, ne_eq, not_true_eq_false, not_false_eq_true, true_imp_iff, false_imp_iff, Int.toNat_natCast, lit_a, Nat.reduceAdd, or_true, true_or, or_false, false_or, Int.reduceEq, Int.reduceNe, Int.reduceLT, Int.reduceLE, Int.reduceNeg, sg_nil, s1p, x0, x1, x2, x3, x4, x5, x6, x7, x8, x9, x10, x11, x12, x13, x56, x57, x388, x389, x390, x391, x392, x393, x394, x395, x396, x397, x398, x399, e3]
      repeat' (first | with_reducible apply And.intro | intro _)
      all_goals (try omega)
      refine k_NS_hearingOf hz R1 (by omega) (fun μ2 h f2 h2 hH _ _ => ?_)
      have nn := nw_eq hz (show (i : Int) < z 3 by omega)
      refine wp_go b67_24 ?_; simp only [l67_24, sg_iv1_i, len4_0, len4_1, len4_2, len4_3, len4_4, nLg_n, nLg_i, nLg_r, tc_c, tc_l, tc_r, tc_m, tc_n, tc_o, tc_0, inR, true_and, and_true, ne_eq, not_true_eq_false, not_false_eq_true, true_imp_iff, false_imp_iff, Int.toNat_natCast, lit_a, Nat.reduceAdd, or_true, true_or, or_false, false_or, Int.reduceEq, Int.reduceNe, Int.reduceLT, Int.reduceLE, Int.reduceNeg, sg_nil, hH.1]
      refine k_Hea_total hH h2 (by omega) nn.1 ?_
      have b := bt_b (wO_W hz (show (i : Int) < z 3 by omega)) (p := nw z i) (by omega)
      have b2 := lng_b hz i (by omega)
      have ih1 := ih (i + 1) (by omega) μ2 (some (.inl (tot z i))) (fun k hk => (f2 k hk).trans (f1 k hk))
      have et : bt (wO z i) (nw z i) = tot z i := rfl
      rw [et] at b ⊢
      unfold lng at ih1
      by_cases hlt : (lng z i).2 < tot z i
      · rw [if_pos hlt] at ih1
        refine wp_go b67_27 ?_; simp only [l67_27, sg_istore, okS_4, stL_4, sg_iload, ldI_4, sg_iload_2, sg_ic_le, sg_iload_3, sg_istore_1, sg_istore_2, nLg_n, nLg_i, nLg_r, tc_c, tc_l, tc_r, tc_m, tc_n, tc_o, tc_0, inR, true_and, and_true, ne_eq, not_true_eq_false, not_false_eq_true, true_imp_iff, false_imp_iff, Int.toNat_natCast, lit_a, Nat.reduceAdd, or_true, true_or, or_false, false_or, Int.reduceEq, Int.reduceNe, Int.reduceLT, Int.reduceLE, Int.reduceNeg, sg_nil]
        repeat' (first | with_reducible apply And.intro | (intro _) | ((first | refine wp_go b67_0 ?_ | refine wp_go b67_24 ?_ | refine wp_go b67_27 ?_ | refine wp_go b67_40 ?_ | refine wp_go b67_46 ?_); simp only [l67_0, l67_24, l67_27, l67_40, l67_46, sg_bipush, sg_istore_1, sg_istore_2, sg_iconst, sg_istore_3, sg_iv1_i, len4_0, len4_1, len4_2, len4_3, len4_4, sg_istore, okS_4, stL_4, sg_iload, ldI_4, sg_iload_2, sg_ic_le, sg_iload_3, sg_iinc, ldI_3, okS_3, stL_3, sg_goto, sg_iload_1, sg_iret0, nLg_n, nLg_i, nLg_r, tc_c, tc_l, tc_r, tc_m, tc_n, tc_o, tc_0, inR, true_and, and_true, ne_eq, not_true_eq_false, not_false_eq_true, true_imp_iff, false_imp_iff, Int.toNat_natCast, lit_a, Nat.reduceAdd, or_true, true_or, or_false, false_or, Int.reduceEq, Int.reduceNe, Int.reduceLT, Int.reduceLE, Int.reduceNeg, sg_nil]))
        all_goals (try omega)
        all_goals exact ih1
      · rw [if_neg hlt] at ih1
        refine wp_go b67_27 ?_; simp only [l67_27, sg_istore, okS_4, stL_4, sg_iload, ldI_4, sg_iload_2, sg_ic_le, sg_iload_3, sg_istore_1, sg_istore_2, nLg_n, nLg_i, nLg_r, tc_c, tc_l, tc_r, tc_m, tc_n, tc_o, tc_0, inR, true_and, and_true, ne_eq, not_true_eq_false, not_false_eq_true, true_imp_iff, false_imp_iff, Int.toNat_natCast, lit_a, Nat.reduceAdd, or_true, true_or, or_false, false_or, Int.reduceEq, Int.reduceNe, Int.reduceLT, Int.reduceLE, Int.reduceNeg, sg_nil]
        repeat' (first | with_reducible apply And.intro | (intro _) | ((first | refine wp_go b67_0 ?_ | refine wp_go b67_24 ?_ | refine wp_go b67_27 ?_ | refine wp_go b67_40 ?_ | refine wp_go b67_46 ?_); simp only [l67_0, l67_24, l67_27, l67_40, l67_46, sg_bipush, sg_istore_1, sg_istore_2, sg_iconst, sg_istore_3, sg_iv1_i, len4_0, len4_1, len4_2, len4_3, len4_4, sg_istore, okS_4, stL_4, sg_iload, ldI_4, sg_iload_2, sg_ic_le, sg_iload_3, sg_iinc, ldI_3, okS_3, stL_3, sg_goto, sg_iload_1, sg_iret0, nLg_n, nLg_i, nLg_r, tc_c, tc_l, tc_r, tc_m, tc_n, tc_o, tc_0, inR, true_and, and_true, ne_eq, not_true_eq_false, not_false_eq_true, true_imp_iff, false_imp_iff, Int.toNat_natCast, lit_a, Nat.reduceAdd, or_true, true_or, or_false, false_or, Int.reduceEq, Int.reduceNe, Int.reduceLT, Int.reduceLE, Int.reduceNeg, sg_nil]))
        all_goals (try omega)
        all_goals exact ih1
  refine wp_go b67_0 ?_; simp only [l67_0, sg_bipush, sg_istore_1, sg_istore_2, sg_iconst, sg_istore_3, nLg_n, nLg_i, nLg_r, tc_c, tc_l, tc_r, tc_m, tc_n, tc_o, tc_0, inR, true_and, and_true, ne_eq, not_true_eq_false, not_false_eq_true, true_imp_iff, false_imp_iff, Int.toNat_natCast, lit_a, Nat.reduceAdd, or_true, true_or, or_false, false_or, Int.reduceEq, Int.reduceNe, Int.reduceLT, Int.reduceLE, Int.reduceNeg, sg_nil]
  exact loop n 0 (by omega) μ none (fun _ _ => rfl)
def secs (z : Rw) (n l : Nat) : Int := (rn z (z (212 + 3 * l)) (z (213 + 3 * l)) n).2
def hrs (z : Rw) (n : Nat) (t : Int) (l : Nat) : Int := bit (rn z (z (212 + 3 * l)) (z (213 + 3 * l)) n).1 t
-- NS.countHearers: blocks [0, 4, 29, 49]
theorem k_NS_countHearers {d n m : Nat} {Q : QT} {μ : Mem} {t : Int} {z : Rw} (hz : IZ z) (hR : RC z μ 1) (hn : z 3 = (n : Int)) (hm : z 0 = (m : Int))
    (hq : ∀ μ' : Mem, (∀ k, k ≠ 392 → μ' k = μ k) → Q (.inl (sm (hrs z m t) n)) μ') : Call σ1 (d + 4) 69 [.inr (.inr 0), .inl t] μ Q := by
  refine e_69 ?_
  have q := hz.1
  have loop : ∀ k i : Nat, i + k = n → ∀ μ1 : Mem, (∀ k, k ≠ 392 → μ1 k = μ k) → wp σ1 (Call σ1 (d + 3)) 69 Q 4 [some (.inr (.inr 0)), some (.inl t), some (.inl (sm (hrs z m t) i)), some (.inl (i : Int))] [] μ1 := by
    intro k
    induction k with
    | zero =>
      intro i hi μ1 f1
      have him : i = n := by omega
      subst him
      have hq := hq μ1 f1
      have R1 : RC z μ1 1 := RC_f (by omega) (fun k _ _ => f1 k (by omega)) hR
      have e3 : μ1 1 11 = (i : Int) := R1.1.2.2.2.trans hn
      refine wp_go b69_4 ?_; simp only [l69_4, sg_iload_3, sg_aload_0, sg_getfp, sg_getf0, sg_ic_ge, sg_iaload, sg_iv3_v, len4_0, len4_1, len4_2, len4_3, len4_4, nLg_n, nLg_i, nLg_r, tc_c, tc_l, tc_r, tc_m, tc_n, tc_o, tc_0, inR, true_and, and_true, ne_eq, not_true_eq_false, not_false_eq_true, true_imp_iff, false_imp_iff, Int.toNat_natCast, lit_a, Nat.reduceAdd, or_true, true_or, or_false, false_or, Int.reduceEq, Int.reduceNe, Int.reduceLT, Int.reduceLE, Int.reduceNeg, sg_nil, s1p, x0, x1, x2, x3, x4, x5, x6, x7, x8, x9, x10, x11, x12, x13, x56, x57, x388, x389, x390, x391, x392, x393, x394, x395, x396, x397, x398, x399, e3]
      repeat' (first | with_reducible apply And.intro | (intro _) | ((first | refine wp_go b69_0 ?_ | refine wp_go b69_29 ?_ | refine wp_go b69_49 ?_); simp only [l69_0, l69_29, l69_49, sg_iconst, sg_istore_2, sg_istore_3, sg_iload_2, sg_aload_0, sg_getfp, sg_getf0, sg_iload_1, sg_ishr, sg_iand, sg_iadd, sg_iinc, ldI_3, okS_3, stL_3, sg_goto, sg_iret0, nLg_n, nLg_i, nLg_r, tc_c, tc_l, tc_r, tc_m, tc_n, tc_o, tc_0, inR, true_and, and_true, ne_eq, not_true_eq_false, not_false_eq_true, true_imp_iff, false_imp_iff, Int.toNat_natCast, lit_a, Nat.reduceAdd, or_true, true_or, or_false, false_or, Int.reduceEq, Int.reduceNe, Int.reduceLT, Int.reduceLE, Int.reduceNeg, sg_nil]))
      all_goals (try omega)
      all_goals exact hq
    | succ k ih =>
      intro i hi μ1 f1
      have R1 : RC z μ1 1 := RC_f (by omega) (fun k _ _ => f1 k (by omega)) hR
      have e3 : μ1 1 11 = (n : Int) := R1.1.2.2.2.trans hn
      obtain ⟨e10, e11, -, -⟩ := R1.2.2.2 i (by omega)
      have e11 : μ1 11 i = z (213 + 3 * i) := e11
      refine wp_go b69_4 ?_; simp only [l69_4, sg_iload_3, sg_aload_0, sg_getfp, sg_getf0, sg_ic_ge, sg_iaload, sg_iv3_v, len4_0, len4_1, len4_2, len4_3, len4_4, nLg_n, nLg_i, nLg_r, tc_c, tc_l, tc_r, tc_m, tc_n, tc_o, tc_0, inR, true_and, and_true, ne_eq, not_true_eq_false, not_false_eq_true, true_imp_iff, false_imp_iff, Int.toNat_natCast, lit_a, Nat.reduceAdd, or_true, true_or, or_false, false_or, Int.reduceEq, Int.reduceNe, Int.reduceLT, Int.reduceLE, Int.reduceNeg, sg_nil, s1p, x0, x1, x2, x3, x4, x5, x6, x7, x8, x9, x10, x11, x12, x13, x56, x57, x388, x389, x390, x391, x392, x393, x394, x395, x396, x397, x398, x399, e3, e11]
      repeat' (first | with_reducible apply And.intro | intro _)
      all_goals (try omega)
      refine k_NS_chooseAll hz R1.r0 R1.1.1 hm (by omega) e10 (hz.2.2.2.2 i (by omega)).2.1 (fun μ2 nb f2 c2 c3 c4 c5 _ _ _ => ?_)
      have ih1 := ih (i + 1) (by omega) μ2 (fun k hk => (f2 k hk).trans (f1 k hk))
      rw [sm_s] at ih1
      unfold hrs bit at ih1
      refine wp_go b69_29 ?_; simp only [l69_29, sg_iload_2, sg_aload_0, sg_getfp, sg_getf0, sg_iload_1, sg_ishr, sg_iconst, sg_iand, sg_iadd, sg_istore_2, sg_iinc, ldI_3, okS_3, stL_3, sg_goto, nLg_n, nLg_i, nLg_r, tc_c, tc_l, tc_r, tc_m, tc_n, tc_o, tc_0, inR, true_and, and_true, ne_eq, not_true_eq_false, not_false_eq_true, true_imp_iff, false_imp_iff, Int.toNat_natCast, lit_a, Nat.reduceAdd, or_true, true_or, or_false, false_or, Int.reduceEq, Int.reduceNe, Int.reduceLT, Int.reduceLE, Int.reduceNeg, sg_nil, s1p, x0, x1, x2, x3, x4, x5, x6, x7, x8, x9, x10, x11, x12, x13, x56, x57, x388, x389, x390, x391, x392, x393, x394, x395, x396, x397, x398, x399, c3]
      repeat' (first | with_reducible apply And.intro | (intro _) | ((first | refine wp_go b69_0 ?_ | refine wp_go b69_29 ?_ | refine wp_go b69_49 ?_); simp only [l69_0, l69_29, l69_49, sg_iconst, sg_istore_2, sg_istore_3, sg_iload_2, sg_aload_0, sg_getfp, sg_getf0, sg_iload_1, sg_ishr, sg_iand, sg_iadd, sg_iinc, ldI_3, okS_3, stL_3, sg_goto, sg_iret0, nLg_n, nLg_i, nLg_r, tc_c, tc_l, tc_r, tc_m, tc_n, tc_o, tc_0, inR, true_and, and_true, ne_eq, not_true_eq_false, not_false_eq_true, true_imp_iff, false_imp_iff, Int.toNat_natCast, lit_a, Nat.reduceAdd, or_true, true_or, or_false, false_or, Int.reduceEq, Int.reduceNe, Int.reduceLT, Int.reduceLE, Int.reduceNeg, sg_nil]))
      all_goals (try omega)
      all_goals exact ih1
  refine wp_go b69_0 ?_; simp only [l69_0, sg_iconst, sg_istore_2, sg_istore_3, nLg_n, nLg_i, nLg_r, tc_c, tc_l, tc_r, tc_m, tc_n, tc_o, tc_0, inR, true_and, and_true, ne_eq, not_true_eq_false, not_false_eq_true, true_imp_iff, false_imp_iff, Int.toNat_natCast, lit_a, Nat.reduceAdd, or_true, true_or, or_false, false_or, Int.reduceEq, Int.reduceNe, Int.reduceLT, Int.reduceLE, Int.reduceNeg, sg_nil]
  exact loop n 0 (by omega) μ (fun _ _ => rfl)
end
section
theorem sm_h (f : Nat → Int) : ∀ n : Nat, sm f (n + 1) = f 0 + sm (fun i => f (i + 1)) n
  | 0 => by rw [sm_s, sm_0, sm_0]; omega
  | n + 1 => by rw [sm_s, sm_h f n, sm_s]; omega
def zm (z : Rw) (i : Nat) : Int := z (4 + 3 * i)
def zl (z : Rw) (i : Nat) : Int := z (5 + 3 * i)
def zb (z : Rw) (i : Nat) : Int := z (6 + 3 * i)
def zn (z : Rw) : Nat := (z 0).toNat
def znl (z : Rw) : Nat := (z 3).toNat
theorem zn_eq {z : Rw} (hz : IZ z) : z 0 = ((zn z : Nat) : Int) ∧ 1 ≤ zn z ∧ zn z ≤ 24 := by have := hz.1; unfold zn; omega
theorem znl_eq {z : Rw} (hz : IZ z) : z 3 = ((znl z : Nat) : Int) ∧ znl z ≤ 6 := by have := hz.1; unfold znl; omega
/-- what a question leaves: its scratch cells, and the end of the rows -/
def QF (z : Rw) (μ μ' : Mem) : Prop := (∀ k, k ≠ 6 → k ≠ 7 → (k < 392 ∨ 400 ≤ k) → μ' k = μ k) ∧ RC z μ' 1
theorem QF_r {z : Rw} {μ : Mem} (h : RC z μ 1) : QF z μ μ := ⟨fun _ _ _ _ => rfl, h⟩
theorem QF_s {z : Rw} {μ μ' : Mem} (hz : IZ z) (h : RC z μ 1) (hf : ∀ k, (k < 392 ∨ 400 ≤ k) → μ' k = μ k) : QF z μ μ' := ⟨fun k _ _ h => hf k h, RC_f (by have := hz.1; omega) (fun k _ _ => hf k (by omega)) h⟩
def F_sentence (z : Rw) (s w : Int) : Int := if s < 0 ∨ z 0 ≤ s then -1 else if w = 0 then zm z s.toNat else if w = 1 then zl z s.toNat else if w = 2 then sm (zl z) s.toNat else if w = 3 then sm (zb z) (s.toNat + 1) - 1 else if w = 4 then zb z s.toNat else if w = 5 then z (76 + 5 * s.toNat) else -2
theorem sm_zl {z : Rw} {μ : Mem} {n : Nat} (hR : RC z μ 1) (h : (n : Int) ≤ z 0) : sm (μ 4) n = sm (zl z) n := sm_c (fun i hi => (hR.2.1 i (by omega)).2.1)
theorem sm_zb {z : Rw} {μ : Mem} {n : Nat} (hz : IZ z) (hR : RC z μ 1) (h : (n : Int) < z 0) : sm (fun i => μ 5 (i + 1)) n = sm (zb z) (n + 1) - 1 := by
  rw [sm_h (zb z) n, show zb z 0 = 1 from hz.2.2.1, sm_c (f := fun i => μ 5 (i + 1)) (g := fun i => zb z (i + 1)) (fun i hi => (hR.2.1 (i + 1) (by omega)).2.2.1)]
  omega
-- NS.sentence: blocks [0, 8, 13, 52, 65, 78, 89, 90, 101, 102, 115, 125]
theorem k_NS_sentence {d : Nat} {Q : QT} {μ : Mem} {s w : Int} {z : Rw} (hz : IZ z) (hR : RC z μ 1) (hs : inR s) (hw : inR w) (hq : ∀ μ', QF z μ μ' → Q (.inl (F_sentence z s w)) μ') : Call σ1 (d + 3) 49 [.inr (.inr 0), .inl s, .inl w] μ Q := by
  refine e_49 ?_
  have h := hq μ (QF_r hR)
  have q := hz.1
  refine wp_go b49_0 ?_; simp only [l49_0, sg_aload_0, sg_getfp, sg_iload_1, sg_iv2_i, len4_0, len4_1, len4_2, len4_3, len4_4, nLg_n, nLg_i, nLg_r, tc_c, tc_l, tc_r, tc_m, tc_n, tc_o, tc_0, inR, true_and, and_true, ne_eq, not_true_eq_false, not_false_eq_true, true_imp_iff, false_imp_iff, Int.toNat_natCast, lit_a, Nat.reduceAdd, or_true, true_or, or_false, false_or, Int.reduceEq, Int.reduceNe, Int.reduceLT, Int.reduceLE, Int.reduceNeg, sg_nil, s1p, x0, x1, x2, x3, x4, x5, x6, x7, x8, x9, x10, x11, x12, x13, x56, x57, x388, x389, x390, x391, x392, x393, x394, x395, x396, x397, x398, x399]
  refine k_Sta_hasSentence st1 hR hz hs (fun h1 h2 => ?_) (fun h0 => ?_)
  · obtain ⟨n, rfl⟩ := nat_of h1
    obtain ⟨a1, a2, a3, a4, -⟩ := hR.2.1 n h2
    have a1 : μ 3 n = zm z n := a1
    have a2 : μ 4 n = zl z n := a2
    have a3 : μ 5 n = zb z n := a3
    have a4 : μ 6 n = z (76 + 5 * n) := a4
    have b1 : sm (μ (2 + 2)) n = sm (zl z) n := sm_zl hR (by omega)
    have b2 : sm (fun i => μ (2 + 3) (i + 1)) n = sm (zb z) (n + 1) - 1 := sm_zb hz hR h2
    unfold inR at hw
    refine wp_go b49_8 ?_; simp only [l49_8, sg_if_ne, sg_iconst, sg_iret0, nLg_n, nLg_i, nLg_r, tc_c, tc_l, tc_r, tc_m, tc_n, tc_o, tc_0, inR, true_and, and_true, ne_eq, not_true_eq_false, not_false_eq_true, true_imp_iff, false_imp_iff, Int.toNat_natCast, lit_a, Nat.reduceAdd, or_true, true_or, or_false, false_or, Int.reduceEq, Int.reduceNe, Int.reduceLT, Int.reduceLE, Int.reduceNeg, sg_nil]
    repeat' (first | with_reducible apply And.intro | (intro _) | refine k_Sen_timeOf st1.2.1 (by omega) ?_ | refine k_Sen_chapterOf st1.2.1 (by omega) ?_ | ((first | refine wp_go b49_0 ?_ | refine wp_go b49_8 ?_ | refine wp_go b49_13 ?_ | refine wp_go b49_52 ?_ | refine wp_go b49_65 ?_ | refine wp_go b49_78 ?_ | refine wp_go b49_89 ?_ | refine wp_go b49_90 ?_ | refine wp_go b49_101 ?_ | refine wp_go b49_102 ?_ | refine wp_go b49_115 ?_ | refine wp_go b49_125 ?_); simp only [l49_0, l49_8, l49_13, l49_52, l49_65, l49_78, l49_89, l49_90, l49_101, l49_102, l49_115, l49_125, sg_aload_0, sg_getfp, sg_iload_1, sg_iv2_i, len4_0, len4_1, len4_2, len4_3, len4_4, sg_if_ne, sg_iconst, sg_iret0, sg_iload_2, sg_tsw, swc_n, swc_c, List.toList_toArray, Int.reduceAdd, Int.reduceToNat, sg_iaload, sg_bipush, nLg_n, nLg_i, nLg_r, tc_c, tc_l, tc_r, tc_m, tc_n, tc_o, tc_0, inR, true_and, and_true, ne_eq, not_true_eq_false, not_false_eq_true, true_imp_iff, false_imp_iff, Int.toNat_natCast, lit_a, Nat.reduceAdd, or_true, true_or, or_false, false_or, Int.reduceEq, Int.reduceNe, Int.reduceLT, Int.reduceLE, Int.reduceNeg, sg_nil, s1p, x0, x1, x2, x3, x4, x5, x6, x7, x8, x9, x10, x11, x12, x13, x56, x57, x388, x389, x390, x391, x392, x393, x394, x395, x396, x397, x398, x399, a1, a2, a3, a4]))
    all_goals (try omega)
    all_goals first
      | (revert h; unfold F_sentence; (try simp only [Int.toNat_natCast]); (repeat (first | rw [if_neg (by omega)] | rw [if_pos (by omega)])); exact id)
      | (rw [b1]; (revert h; unfold F_sentence; (try simp only [Int.toNat_natCast]); (repeat (first | rw [if_neg (by omega)] | rw [if_pos (by omega)])); exact id))
      | (rw [b2]; (revert h; unfold F_sentence; (try simp only [Int.toNat_natCast]); (repeat (first | rw [if_neg (by omega)] | rw [if_pos (by omega)])); exact id))
  · refine wp_go b49_8 ?_; simp only [l49_8, sg_if_ne, sg_iconst, sg_iret0, nLg_n, nLg_i, nLg_r, tc_c, tc_l, tc_r, tc_m, tc_n, tc_o, tc_0, inR, true_and, and_true, ne_eq, not_true_eq_false, not_false_eq_true, true_imp_iff, false_imp_iff, Int.toNat_natCast, lit_a, Nat.reduceAdd, or_true, true_or, or_false, false_or, Int.reduceEq, Int.reduceNe, Int.reduceLT, Int.reduceLE, Int.reduceNeg, sg_nil]
    repeat' (first | with_reducible apply And.intro | (intro _) | ((first | refine wp_go b49_0 ?_ | refine wp_go b49_8 ?_ | refine wp_go b49_13 ?_ | refine wp_go b49_52 ?_ | refine wp_go b49_65 ?_ | refine wp_go b49_78 ?_ | refine wp_go b49_89 ?_ | refine wp_go b49_90 ?_ | refine wp_go b49_101 ?_ | refine wp_go b49_102 ?_ | refine wp_go b49_115 ?_ | refine wp_go b49_125 ?_); simp only [l49_0, l49_8, l49_13, l49_52, l49_65, l49_78, l49_89, l49_90, l49_101, l49_102, l49_115, l49_125, sg_aload_0, sg_getfp, sg_iload_1, sg_iv2_i, len4_0, len4_1, len4_2, len4_3, len4_4, sg_if_ne, sg_iconst, sg_iret0, sg_iload_2, sg_tsw, swc_n, swc_c, List.toList_toArray, Int.reduceAdd, Int.reduceToNat, sg_iaload, sg_bipush, nLg_n, nLg_i, nLg_r, tc_c, tc_l, tc_r, tc_m, tc_n, tc_o, tc_0, inR, true_and, and_true, ne_eq, not_true_eq_false, not_false_eq_true, true_imp_iff, false_imp_iff, Int.toNat_natCast, lit_a, Nat.reduceAdd, or_true, true_or, or_false, false_or, Int.reduceEq, Int.reduceNe, Int.reduceLT, Int.reduceLE, Int.reduceNeg, sg_nil, s1p, x0, x1, x2, x3, x4, x5, x6, x7, x8, x9, x10, x11, x12, x13, x56, x57, x388, x389, x390, x391, x392, x393, x394, x395, x396, x397, x398, x399]))
    all_goals (try omega)
    all_goals (revert h; unfold F_sentence; (try simp only [Int.toNat_natCast]); (repeat (first | rw [if_neg (by omega)] | rw [if_pos (by omega)])); exact id)
end
section
def wm (w : Rw) (i : Nat) : Int := w (5 * i + 3)
def wl4 (w : Rw) (i : Nat) : Int := w (5 * i + 4)
def wb (w : Rw) (i : Nat) : Int := w (5 * i + 5)
theorem h_len {w : Rw} {μ : Mem} {c p : Nat} (H : HR w μ c) (hp : (p : Int) ≤ w 0) : sm (μ (c + 1 + 2)) p = sm (wl4 w) p := sm_c (fun i hi => (H.2 i (by omega)).2.1)
theorem h_bg {w : Rw} {μ : Mem} {c p : Nat} (H : HR w μ c) (hp : (p : Int) ≤ w 0) : sm (μ (c + 1 + 3)) p = sm (wb w) p := sm_c (fun i hi => (H.2 i (by omega)).2.2.1)
theorem h_bg1 {w : Rw} {μ : Mem} {c p : Nat} (H : HR w μ c) (W : WH w) (hp : (p : Int) < w 0) : sm (fun i => μ (c + 1 + 3) (i + 1)) p = sm (wb w) (p + 1) - 1 := by
  rw [sm_h (wb w) p, show wb w 0 = 1 from W.2.2.1, sm_c (f := fun i => μ (c + 1 + 3) (i + 1)) (g := fun i => wb w (i + 1)) (fun i hi => (H.2 (i + 1) (by omega)).2.2.1)]
  omega
def F_marked (z : Rw) (m : Int) : Int := fsI (fun i => decide (zm z i = m)) (-1) (zn z)
theorem fs_zm {z : Rw} {μ : Mem} (hz : IZ z) (hR : RC z μ 1) (m : Int) : fsI (fun i => decide (μ 3 i = m)) (-1) (zn z) = F_marked z m := fsI_c (fun i hi => by rw [show μ 3 i = zm z i from (hR.2.1 i (by have := zn_eq hz; omega)).1])
theorem zm_r {z : Rw} {μ : Mem} (hz : IZ z) (hR : RC z μ 1) {i : Nat} (hi : i < zn z) : inR (μ 3 i) := by
  have e := zn_eq hz
  have q := (hz.2.1 i (by omega)).1
  unfold inR; rw [show μ 3 i = z (4 + 3 * i) from (hR.2.1 i (by omega)).1]; omega
-- NS.marked: blocks [0, 11]
theorem k_NS_marked {d : Nat} {Q : QT} {μ : Mem} {m : Int} {z : Rw} (hz : IZ z) (hR : RC z μ 1) (hm : inR m) (hq : ∀ μ', QF z μ μ' → Q (.inl (F_marked z m)) μ') : Call σ1 (d + 2) 50 [.inr (.inr 0), .inl m] μ Q := by
  refine e_50 ?_
  have h := hq μ (QF_r hR)
  have e := zn_eq hz
  refine wp_go b50_0 ?_; simp only [l50_0, sg_aload_0, sg_getfp, sg_iload_1, sg_iv2_i, len4_0, len4_1, len4_2, len4_3, len4_4, nLg_n, nLg_i, nLg_r, tc_c, tc_l, tc_r, tc_m, tc_n, tc_o, tc_0, inR, true_and, and_true, ne_eq, not_true_eq_false, not_false_eq_true, true_imp_iff, false_imp_iff, Int.toNat_natCast, lit_a, Nat.reduceAdd, or_true, true_or, or_false, false_or, Int.reduceEq, Int.reduceNe, Int.reduceLT, Int.reduceLE, Int.reduceNeg, sg_nil, s1p, x0, x1, x2, x3, x4, x5, x6, x7, x8, x9, x10, x11, x12, x13, x56, x57, x388, x389, x390, x391, x392, x393, x394, x395, x396, x397, x398, x399]
  refine k_Sen_placeOf st1.2.1 (n := zn z) (hR.1.1.trans e.1) e.2.2 (fun i hi => zm_r hz hR hi) hm ?_
  rw [fs_zm hz hR m]
  refine wp_go b50_11 ?_; simp only [l50_11, sg_iret0, nLg_n, nLg_i, nLg_r, tc_c, tc_l, tc_r, tc_m, tc_n, tc_o, tc_0, inR, true_and, and_true, ne_eq, not_true_eq_false, not_false_eq_true, true_imp_iff, false_imp_iff, Int.toNat_natCast, lit_a, Nat.reduceAdd, or_true, true_or, or_false, false_or, Int.reduceEq, Int.reduceNe, Int.reduceLT, Int.reduceLE, Int.reduceNeg, sg_nil]
  exact h
def F_booked (z : Rw) (s p : Int) : Int := if s < 0 ∨ z 0 ≤ s then -1 else if p < 0 ∨ z (76 + 5 * s.toNat) ≤ p then -1 else z (77 + 5 * s.toNat + p.toNat)
-- NS.booked: blocks [0, 8, 27, 30, 32, 41]
theorem k_NS_booked {d : Nat} {Q : QT} {μ : Mem} {s p : Int} {z : Rw} (hz : IZ z) (hR : RC z μ 1) (hs : inR s) (hp : inR p) (hq : ∀ μ', QF z μ μ' → Q (.inl (F_booked z s p)) μ') : Call σ1 (d + 3) 51 [.inr (.inr 0), .inl s, .inl p] μ Q := by
  refine e_51 ?_
  have h := hq μ (QF_r hR)
  have q := hz.1
  refine wp_go b51_0 ?_; simp only [l51_0, sg_aload_0, sg_getfp, sg_iload_1, sg_iv2_i, len4_0, len4_1, len4_2, len4_3, len4_4, nLg_n, nLg_i, nLg_r, tc_c, tc_l, tc_r, tc_m, tc_n, tc_o, tc_0, inR, true_and, and_true, ne_eq, not_true_eq_false, not_false_eq_true, true_imp_iff, false_imp_iff, Int.toNat_natCast, lit_a, Nat.reduceAdd, or_true, true_or, or_false, false_or, Int.reduceEq, Int.reduceNe, Int.reduceLT, Int.reduceLE, Int.reduceNeg, sg_nil, s1p, x0, x1, x2, x3, x4, x5, x6, x7, x8, x9, x10, x11, x12, x13, x56, x57, x388, x389, x390, x391, x392, x393, x394, x395, x396, x397, x398, x399]
  refine k_Sta_hasSentence st1 hR hz hs (fun h1 h2 => ?_) (fun h0 => ?_)
  · obtain ⟨n, rfl⟩ := nat_of h1
    have a4 : μ 6 n = z (76 + 5 * n) := (hR.2.1 n h2).2.2.2.1
    have r := (hz.2.1 n h2).2.2.2.1
    refine wp_go b51_8 ?_; simp only [l51_8, sg_if_eq, sg_iload_2, sg_iconst, sg_aload_0, sg_getfp, sg_iload_1, sg_iaload, sg_isub, len4_0, len4_1, len4_2, len4_3, len4_4, sg_is3_1, nLg_n, nLg_i, nLg_r, tc_c, tc_l, tc_r, tc_m, tc_n, tc_o, tc_0, inR, true_and, and_true, ne_eq, not_true_eq_false, not_false_eq_true, true_imp_iff, false_imp_iff, Int.toNat_natCast, lit_a, Nat.reduceAdd, or_true, true_or, or_false, false_or, Int.reduceEq, Int.reduceNe, Int.reduceLT, Int.reduceLE, Int.reduceNeg, sg_nil, s1p, x0, x1, x2, x3, x4, x5, x6, x7, x8, x9, x10, x11, x12, x13, x56, x57, x388, x389, x390, x391, x392, x393, x394, x395, x396, x397, x398, x399, a4]
    repeat' (first | with_reducible apply And.intro | (intro _) | refine k_NS_isWithin hp (by unfold inR; omega) (by unfold inR; omega) ?_ ?_ | ((first | refine wp_go b51_0 ?_ | refine wp_go b51_8 ?_ | refine wp_go b51_27 ?_ | refine wp_go b51_30 ?_ | refine wp_go b51_32 ?_ | refine wp_go b51_41 ?_); simp only [l51_0, l51_8, l51_27, l51_30, l51_32, l51_41, sg_aload_0, sg_getfp, sg_iload_1, sg_iv2_i, len4_0, len4_1, len4_2, len4_3, len4_4, sg_if_eq, sg_iload_2, sg_iconst, sg_iaload, sg_isub, sg_is3_1, sg_if_ne, sg_iret0, sg_iv3_i, nLg_n, nLg_i, nLg_r, tc_c, tc_l, tc_r, tc_m, tc_n, tc_o, tc_0, inR, true_and, and_true, ne_eq, not_true_eq_false, not_false_eq_true, true_imp_iff, false_imp_iff, Int.toNat_natCast, lit_a, Nat.reduceAdd, or_true, true_or, or_false, false_or, Int.reduceEq, Int.reduceNe, Int.reduceLT, Int.reduceLE, Int.reduceNeg, sg_nil, s1p, x0, x1, x2, x3, x4, x5, x6, x7, x8, x9, x10, x11, x12, x13, x56, x57, x388, x389, x390, x391, x392, x393, x394, x395, x396, x397, x398, x399]))
    all_goals (try omega)
    · obtain ⟨j, rfl⟩ := nat_of (show 0 ≤ p by omega)
      refine k_Sta_inRow st1 hR.r0 hz h2 (by omega) ?_
      refine wp_go b51_41 ?_; simp only [l51_41, sg_iret0, nLg_n, nLg_i, nLg_r, tc_c, tc_l, tc_r, tc_m, tc_n, tc_o, tc_0, inR, true_and, and_true, ne_eq, not_true_eq_false, not_false_eq_true, true_imp_iff, false_imp_iff, Int.toNat_natCast, lit_a, Nat.reduceAdd, or_true, true_or, or_false, false_or, Int.reduceEq, Int.reduceNe, Int.reduceLT, Int.reduceLE, Int.reduceNeg, sg_nil]
      (revert h; unfold F_booked; (try simp only [Int.toNat_natCast]); (repeat (first | rw [if_neg (by omega)] | rw [if_pos (by omega)])); exact id)
    · (revert h; unfold F_booked; (try simp only [Int.toNat_natCast]); (repeat (first | rw [if_neg (by omega)] | rw [if_pos (by omega)])); exact id)
  · refine wp_go b51_8 ?_; simp only [l51_8, sg_if_eq, sg_iload_2, sg_iconst, sg_aload_0, sg_getfp, sg_iload_1, sg_iaload, sg_isub, len4_0, len4_1, len4_2, len4_3, len4_4, sg_is3_1, nLg_n, nLg_i, nLg_r, tc_c, tc_l, tc_r, tc_m, tc_n, tc_o, tc_0, inR, true_and, and_true, ne_eq, not_true_eq_false, not_false_eq_true, true_imp_iff, false_imp_iff, Int.toNat_natCast, lit_a, Nat.reduceAdd, or_true, true_or, or_false, false_or, Int.reduceEq, Int.reduceNe, Int.reduceLT, Int.reduceLE, Int.reduceNeg, sg_nil]
    repeat' (first | with_reducible apply And.intro | (intro _) | ((first | refine wp_go b51_0 ?_ | refine wp_go b51_8 ?_ | refine wp_go b51_27 ?_ | refine wp_go b51_30 ?_ | refine wp_go b51_32 ?_ | refine wp_go b51_41 ?_); simp only [l51_0, l51_8, l51_27, l51_30, l51_32, l51_41, sg_aload_0, sg_getfp, sg_iload_1, sg_iv2_i, len4_0, len4_1, len4_2, len4_3, len4_4, sg_if_eq, sg_iload_2, sg_iconst, sg_iaload, sg_isub, sg_is3_1, sg_if_ne, sg_iret0, sg_iv3_i, nLg_n, nLg_i, nLg_r, tc_c, tc_l, tc_r, tc_m, tc_n, tc_o, tc_0, inR, true_and, and_true, ne_eq, not_true_eq_false, not_false_eq_true, true_imp_iff, false_imp_iff, Int.toNat_natCast, lit_a, Nat.reduceAdd, or_true, true_or, or_false, false_or, Int.reduceEq, Int.reduceNe, Int.reduceLT, Int.reduceLE, Int.reduceNeg, sg_nil, s1p, x0, x1, x2, x3, x4, x5, x6, x7, x8, x9, x10, x11, x12, x13, x56, x57, x388, x389, x390, x391, x392, x393, x394, x395, x396, x397, x398, x399]))
    all_goals (try omega)
    all_goals (revert h; unfold F_booked; (try simp only [Int.toNat_natCast]); (repeat (first | rw [if_neg (by omega)] | rw [if_pos (by omega)])); exact id)
def F_ofNotice (z : Rw) (t w : Int) : Int := if t < 0 ∨ z 2 ≤ t then -1 else if w = 0 then z (196 + 2 * t.toNat) else if w = 1 then z (197 + 2 * t.toNat) else if w = 2 then sm (brk z t) (zn z) else if w = 3 then sm (hrs z (zn z) t) (znl z) else -2
-- NS.ofNotice: blocks [0, 8, 13, 44, 54, 64, 72, 73, 78, 79]
theorem k_NS_ofNotice {d : Nat} {Q : QT} {μ : Mem} {t w : Int} {z : Rw} (hz : IZ z) (hR : RC z μ 1) (ht : inR t) (hw : inR w) (hq : ∀ μ', QF z μ μ' → Q (.inl (F_ofNotice z t w)) μ') : Call σ1 (d + 5) 52 [.inr (.inr 0), .inl t, .inl w] μ Q := by
  refine e_52 ?_
  have h := hq μ (QF_r hR)
  have q := hz.1
  have e := zn_eq hz
  have e3 := znl_eq hz
  refine wp_go b52_0 ?_; simp only [l52_0, sg_aload_0, sg_getfp, sg_iload_1, sg_iv2_i, len4_0, len4_1, len4_2, len4_3, len4_4, nLg_n, nLg_i, nLg_r, tc_c, tc_l, tc_r, tc_m, tc_n, tc_o, tc_0, inR, true_and, and_true, ne_eq, not_true_eq_false, not_false_eq_true, true_imp_iff, false_imp_iff, Int.toNat_natCast, lit_a, Nat.reduceAdd, or_true, true_or, or_false, false_or, Int.reduceEq, Int.reduceNe, Int.reduceLT, Int.reduceLE, Int.reduceNeg, sg_nil, s1p, x0, x1, x2, x3, x4, x5, x6, x7, x8, x9, x10, x11, x12, x13, x56, x57, x388, x389, x390, x391, x392, x393, x394, x395, x396, x397, x398, x399]
  refine k_Sta_hasNotice st1 hR hz ht (fun h1 h2 => ?_) (fun h0 => ?_)
  · obtain ⟨n, rfl⟩ := nat_of h1
    obtain ⟨a1, a2⟩ := hR.2.2.1 n h2
    have a1 : μ 8 n = z (196 + 2 * n) := a1
    have a2 : μ 9 n = z (197 + 2 * n) := a2
    unfold inR at hw
    refine wp_go b52_8 ?_; simp only [l52_8, sg_if_ne, sg_iconst, sg_iret0, nLg_n, nLg_i, nLg_r, tc_c, tc_l, tc_r, tc_m, tc_n, tc_o, tc_0, inR, true_and, and_true, ne_eq, not_true_eq_false, not_false_eq_true, true_imp_iff, false_imp_iff, Int.toNat_natCast, lit_a, Nat.reduceAdd, or_true, true_or, or_false, false_or, Int.reduceEq, Int.reduceNe, Int.reduceLT, Int.reduceLE, Int.reduceNeg, sg_nil]
    repeat' (first | with_reducible apply And.intro | intro _)
    all_goals (try omega)
    refine wp_go b52_13 ?_; simp only [l52_13, sg_iload_2, sg_tsw, swc_n, swc_c, List.toList_toArray, Int.reduceAdd, Int.reduceToNat, nLg_n, nLg_i, nLg_r, tc_c, tc_l, tc_r, tc_m, tc_n, tc_o, tc_0, inR, true_and, and_true, ne_eq, not_true_eq_false, not_false_eq_true, true_imp_iff, false_imp_iff, Int.toNat_natCast, lit_a, Nat.reduceAdd, or_true, true_or, or_false, false_or, Int.reduceEq, Int.reduceNe, Int.reduceLT, Int.reduceLE, Int.reduceNeg, sg_nil]
    repeat' (first | with_reducible apply And.intro | (intro _))
    all_goals (try omega)
    · refine wp_go b52_44 ?_; simp only [l52_44, sg_aload_0, sg_getfp, sg_iload_1, sg_iaload, sg_iret0, nLg_n, nLg_i, nLg_r, tc_c, tc_l, tc_r, tc_m, tc_n, tc_o, tc_0, inR, true_and, and_true, ne_eq, not_true_eq_false, not_false_eq_true, true_imp_iff, false_imp_iff, Int.toNat_natCast, lit_a, Nat.reduceAdd, or_true, true_or, or_false, false_or, Int.reduceEq, Int.reduceNe, Int.reduceLT, Int.reduceLE, Int.reduceNeg, sg_nil, s1p, x0, x1, x2, x3, x4, x5, x6, x7, x8, x9, x10, x11, x12, x13, x56, x57, x388, x389, x390, x391, x392, x393, x394, x395, x396, x397, x398, x399, a1]
      repeat' (first | with_reducible apply And.intro | (intro _) | ((first | refine wp_go b52_0 ?_ | refine wp_go b52_8 ?_ | refine wp_go b52_13 ?_ | refine wp_go b52_44 ?_ | refine wp_go b52_54 ?_ | refine wp_go b52_64 ?_ | refine wp_go b52_72 ?_ | refine wp_go b52_73 ?_ | refine wp_go b52_78 ?_ | refine wp_go b52_79 ?_); simp only [l52_0, l52_8, l52_13, l52_44, l52_54, l52_64, l52_72, l52_73, l52_78, l52_79, sg_aload_0, sg_getfp, sg_iload_1, sg_iv2_i, len4_0, len4_1, len4_2, len4_3, len4_4, sg_if_ne, sg_iconst, sg_iret0, sg_iload_2, sg_tsw, swc_n, swc_c, List.toList_toArray, Int.reduceAdd, Int.reduceToNat, sg_iaload, sg_bipush, nLg_n, nLg_i, nLg_r, tc_c, tc_l, tc_r, tc_m, tc_n, tc_o, tc_0, inR, true_and, and_true, ne_eq, not_true_eq_false, not_false_eq_true, true_imp_iff, false_imp_iff, Int.toNat_natCast, lit_a, Nat.reduceAdd, or_true, true_or, or_false, false_or, Int.reduceEq, Int.reduceNe, Int.reduceLT, Int.reduceLE, Int.reduceNeg, sg_nil]))
      all_goals (try omega)
      (revert h; unfold F_ofNotice; (try simp only [Int.toNat_natCast]); (repeat (first | rw [if_neg (by omega)] | rw [if_pos (by omega)])); exact id)
    · refine wp_go b52_54 ?_; simp only [l52_54, sg_aload_0, sg_getfp, sg_iload_1, sg_iaload, sg_iret0, nLg_n, nLg_i, nLg_r, tc_c, tc_l, tc_r, tc_m, tc_n, tc_o, tc_0, inR, true_and, and_true, ne_eq, not_true_eq_false, not_false_eq_true, true_imp_iff, false_imp_iff, Int.toNat_natCast, lit_a, Nat.reduceAdd, or_true, true_or, or_false, false_or, Int.reduceEq, Int.reduceNe, Int.reduceLT, Int.reduceLE, Int.reduceNeg, sg_nil, s1p, x0, x1, x2, x3, x4, x5, x6, x7, x8, x9, x10, x11, x12, x13, x56, x57, x388, x389, x390, x391, x392, x393, x394, x395, x396, x397, x398, x399, a2]
      repeat' (first | with_reducible apply And.intro | (intro _) | ((first | refine wp_go b52_0 ?_ | refine wp_go b52_8 ?_ | refine wp_go b52_13 ?_ | refine wp_go b52_44 ?_ | refine wp_go b52_54 ?_ | refine wp_go b52_64 ?_ | refine wp_go b52_72 ?_ | refine wp_go b52_73 ?_ | refine wp_go b52_78 ?_ | refine wp_go b52_79 ?_); simp only [l52_0, l52_8, l52_13, l52_44, l52_54, l52_64, l52_72, l52_73, l52_78, l52_79, sg_aload_0, sg_getfp, sg_iload_1, sg_iv2_i, len4_0, len4_1, len4_2, len4_3, len4_4, sg_if_ne, sg_iconst, sg_iret0, sg_iload_2, sg_tsw, swc_n, swc_c, List.toList_toArray, Int.reduceAdd, Int.reduceToNat, sg_iaload, sg_bipush, nLg_n, nLg_i, nLg_r, tc_c, tc_l, tc_r, tc_m, tc_n, tc_o, tc_0, inR, true_and, and_true, ne_eq, not_true_eq_false, not_false_eq_true, true_imp_iff, false_imp_iff, Int.toNat_natCast, lit_a, Nat.reduceAdd, or_true, true_or, or_false, false_or, Int.reduceEq, Int.reduceNe, Int.reduceLT, Int.reduceLE, Int.reduceNeg, sg_nil]))
      all_goals (try omega)
      (revert h; unfold F_ofNotice; (try simp only [Int.toNat_natCast]); (repeat (first | rw [if_neg (by omega)] | rw [if_pos (by omega)])); exact id)
    · refine wp_go b52_64 ?_; simp only [l52_64, sg_aload_0, sg_getfp, sg_iload_1, sg_iv2_i, len4_0, len4_1, len4_2, len4_3, len4_4, nLg_n, nLg_i, nLg_r, tc_c, tc_l, tc_r, tc_m, tc_n, tc_o, tc_0, inR, true_and, and_true, ne_eq, not_true_eq_false, not_false_eq_true, true_imp_iff, false_imp_iff, Int.toNat_natCast, lit_a, Nat.reduceAdd, or_true, true_or, or_false, false_or, Int.reduceEq, Int.reduceNe, Int.reduceLT, Int.reduceLE, Int.reduceNeg, sg_nil, s1p, x0, x1, x2, x3, x4, x5, x6, x7, x8, x9, x10, x11, x12, x13, x56, x57, x388, x389, x390, x391, x392, x393, x394, x395, x396, x397, x398, x399]
      refine k_Sta_countBreaksWith st1 hR hz e.1 ht ?_
      refine wp_go b52_72 ?_; simp only [l52_72, sg_iret0, nLg_n, nLg_i, nLg_r, tc_c, tc_l, tc_r, tc_m, tc_n, tc_o, tc_0, inR, true_and, and_true, ne_eq, not_true_eq_false, not_false_eq_true, true_imp_iff, false_imp_iff, Int.toNat_natCast, lit_a, Nat.reduceAdd, or_true, true_or, or_false, false_or, Int.reduceEq, Int.reduceNe, Int.reduceLT, Int.reduceLE, Int.reduceNeg, sg_nil]
      (revert h; unfold F_ofNotice; (try simp only [Int.toNat_natCast]); (repeat (first | rw [if_neg (by omega)] | rw [if_pos (by omega)])); exact id)
    · refine wp_go b52_73 ?_; simp only [l52_73, sg_aload_0, sg_iload_1, sg_iv2_i, len4_0, len4_1, len4_2, len4_3, len4_4, nLg_n, nLg_i, nLg_r, tc_c, tc_l, tc_r, tc_m, tc_n, tc_o, tc_0, inR, true_and, and_true, ne_eq, not_true_eq_false, not_false_eq_true, true_imp_iff, false_imp_iff, Int.toNat_natCast, lit_a, Nat.reduceAdd, or_true, true_or, or_false, false_or, Int.reduceEq, Int.reduceNe, Int.reduceLT, Int.reduceLE, Int.reduceNeg, sg_nil, s1p, x0, x1, x2, x3, x4, x5, x6, x7, x8, x9, x10, x11, x12, x13, x56, x57, x388, x389, x390, x391, x392, x393, x394, x395, x396, x397, x398, x399]
      refine k_NS_countHearers hz hR e3.1 e.1 (fun μ' f => ?_)
      have h := hq μ' (QF_s hz hR (fun k hk => f k (by omega)))
      refine wp_go b52_78 ?_; simp only [l52_78, sg_iret0, nLg_n, nLg_i, nLg_r, tc_c, tc_l, tc_r, tc_m, tc_n, tc_o, tc_0, inR, true_and, and_true, ne_eq, not_true_eq_false, not_false_eq_true, true_imp_iff, false_imp_iff, Int.toNat_natCast, lit_a, Nat.reduceAdd, or_true, true_or, or_false, false_or, Int.reduceEq, Int.reduceNe, Int.reduceLT, Int.reduceLE, Int.reduceNeg, sg_nil]
      (revert h; unfold F_ofNotice; (try simp only [Int.toNat_natCast]); (repeat (first | rw [if_neg (by omega)] | rw [if_pos (by omega)])); exact id)
    · refine wp_go b52_79 ?_; simp only [l52_79, sg_bipush, sg_iret0, nLg_n, nLg_i, nLg_r, tc_c, tc_l, tc_r, tc_m, tc_n, tc_o, tc_0, inR, true_and, and_true, ne_eq, not_true_eq_false, not_false_eq_true, true_imp_iff, false_imp_iff, Int.toNat_natCast, lit_a, Nat.reduceAdd, or_true, true_or, or_false, false_or, Int.reduceEq, Int.reduceNe, Int.reduceLT, Int.reduceLE, Int.reduceNeg, sg_nil]
      (revert h; unfold F_ofNotice; (try simp only [Int.toNat_natCast]); (repeat (first | rw [if_neg (by omega)] | rw [if_pos (by omega)])); exact id)
  · refine wp_go b52_8 ?_; simp only [l52_8, sg_if_ne, sg_iconst, sg_iret0, nLg_n, nLg_i, nLg_r, tc_c, tc_l, tc_r, tc_m, tc_n, tc_o, tc_0, inR, true_and, and_true, ne_eq, not_true_eq_false, not_false_eq_true, true_imp_iff, false_imp_iff, Int.toNat_natCast, lit_a, Nat.reduceAdd, or_true, true_or, or_false, false_or, Int.reduceEq, Int.reduceNe, Int.reduceLT, Int.reduceLE, Int.reduceNeg, sg_nil]
    repeat' (first | with_reducible apply And.intro | (intro _) | ((first | refine wp_go b52_0 ?_ | refine wp_go b52_8 ?_ | refine wp_go b52_13 ?_ | refine wp_go b52_44 ?_ | refine wp_go b52_54 ?_ | refine wp_go b52_64 ?_ | refine wp_go b52_72 ?_ | refine wp_go b52_73 ?_ | refine wp_go b52_78 ?_ | refine wp_go b52_79 ?_); simp only [l52_0, l52_8, l52_13, l52_44, l52_54, l52_64, l52_72, l52_73, l52_78, l52_79, sg_aload_0, sg_getfp, sg_iload_1, sg_iv2_i, len4_0, len4_1, len4_2, len4_3, len4_4, sg_if_ne, sg_iconst, sg_iret0, sg_iload_2, sg_tsw, swc_n, swc_c, List.toList_toArray, Int.reduceAdd, Int.reduceToNat, sg_iaload, sg_bipush, nLg_n, nLg_i, nLg_r, tc_c, tc_l, tc_r, tc_m, tc_n, tc_o, tc_0, inR, true_and, and_true, ne_eq, not_true_eq_false, not_false_eq_true, true_imp_iff, false_imp_iff, Int.toNat_natCast, lit_a, Nat.reduceAdd, or_true, true_or, or_false, false_or, Int.reduceEq, Int.reduceNe, Int.reduceLT, Int.reduceLE, Int.reduceNeg, sg_nil, s1p, x0, x1, x2, x3, x4, x5, x6, x7, x8, x9, x10, x11, x12, x13, x56, x57, x388, x389, x390, x391, x392, x393, x394, x395, x396, x397, x398, x399]))
    all_goals (try omega)
    all_goals (revert h; unfold F_ofNotice; (try simp only [Int.toNat_natCast]); (repeat (first | rw [if_neg (by omega)] | rw [if_pos (by omega)])); exact id)
def F_of (z : Rw) (l w : Int) : Int := if l < 0 ∨ z 3 ≤ l then -1 else if w = 0 then z (212 + 3 * l.toNat) else if w = 1 then z (213 + 3 * l.toNat) else if w = 2 then z (214 + 3 * l.toNat) else if w = 3 then old z l.toNat else if w = 4 then tot z l.toNat else if w = 5 then sm (fun i => bI (wO z l.toNat (5 * i + 1) ≠ -6)) (nw z l.toNat) else if w = 6 then sm (fun i => wO z l.toNat (5 * i + 2)) (nw z l.toNat) else if w = 7 then wO z l.toNat 0 else -2
-- NS.of: blocks [0, 8, 13, 60, 70, 80, 92, 93, 98, 101, 102, 107, 110, 111, 116, 119, 120, 125, 128, 129, 134, 141]
theorem k_NS_of {d : Nat} {Q : QT} {μ : Mem} {l w : Int} {z : Rw} (hz : IZ z) (hR : RC z μ 1) (hl : inR l) (hw : inR w) (hq : ∀ μ', QF z μ μ' → Q (.inl (F_of z l w)) μ') : Call σ1 (d + 5) 53 [.inr (.inr 0), .inl l, .inl w] μ Q := by
  refine e_53 ?_
  have h := hq μ (QF_r hR)
  have q := hz.1
  refine wp_go b53_0 ?_; simp only [l53_0, sg_aload_0, sg_getfp, sg_iload_1, sg_iv2_i, len4_0, len4_1, len4_2, len4_3, len4_4, nLg_n, nLg_i, nLg_r, tc_c, tc_l, tc_r, tc_m, tc_n, tc_o, tc_0, inR, true_and, and_true, ne_eq, not_true_eq_false, not_false_eq_true, true_imp_iff, false_imp_iff, Int.toNat_natCast, lit_a, Nat.reduceAdd, or_true, true_or, or_false, false_or, Int.reduceEq, Int.reduceNe, Int.reduceLT, Int.reduceLE, Int.reduceNeg, sg_nil, s1p, x0, x1, x2, x3, x4, x5, x6, x7, x8, x9, x10, x11, x12, x13, x56, x57, x388, x389, x390, x391, x392, x393, x394, x395, x396, x397, x398, x399]
  refine k_Sta_hasListener st1 hR hz hl (fun h1 h2 => ?_) (fun h0 => ?_)
  · obtain ⟨n, rfl⟩ := nat_of h1
    obtain ⟨a1, a2, a3, -⟩ := hR.2.2.2 n h2
    have a1 : μ 10 n = z (212 + 3 * n) := a1
    have a2 : μ 11 n = z (213 + 3 * n) := a2
    have a3 : μ 12 n = z (214 + 3 * n) := a3
    have z01 := (hz.2.2.2.2 n h2).2.2.1
    have nn := nw_eq hz h2
    have W := wO_W hz h2
    unfold inR at hw
    refine wp_go b53_8 ?_; simp only [l53_8, sg_if_ne, sg_iconst, sg_iret0, nLg_n, nLg_i, nLg_r, tc_c, tc_l, tc_r, tc_m, tc_n, tc_o, tc_0, inR, true_and, and_true, ne_eq, not_true_eq_false, not_false_eq_true, true_imp_iff, false_imp_iff, Int.toNat_natCast, lit_a, Nat.reduceAdd, or_true, true_or, or_false, false_or, Int.reduceEq, Int.reduceNe, Int.reduceLT, Int.reduceLE, Int.reduceNeg, sg_nil]
    repeat' (first | with_reducible apply And.intro | intro _)
    all_goals (try omega)
    refine wp_go b53_13 ?_; simp only [l53_13, sg_iload_2, sg_tsw, swc_n, swc_c, List.toList_toArray, Int.reduceAdd, Int.reduceToNat, nLg_n, nLg_i, nLg_r, tc_c, tc_l, tc_r, tc_m, tc_n, tc_o, tc_0, inR, true_and, and_true, ne_eq, not_true_eq_false, not_false_eq_true, true_imp_iff, false_imp_iff, Int.toNat_natCast, lit_a, Nat.reduceAdd, or_true, true_or, or_false, false_or, Int.reduceEq, Int.reduceNe, Int.reduceLT, Int.reduceLE, Int.reduceNeg, sg_nil]
    repeat' (first | with_reducible apply And.intro | (intro _))
    all_goals (try omega)
    · refine wp_go b53_60 ?_; simp only [l53_60, sg_aload_0, sg_getfp, sg_iload_1, sg_iaload, sg_iret0, nLg_n, nLg_i, nLg_r, tc_c, tc_l, tc_r, tc_m, tc_n, tc_o, tc_0, inR, true_and, and_true, ne_eq, not_true_eq_false, not_false_eq_true, true_imp_iff, false_imp_iff, Int.toNat_natCast, lit_a, Nat.reduceAdd, or_true, true_or, or_false, false_or, Int.reduceEq, Int.reduceNe, Int.reduceLT, Int.reduceLE, Int.reduceNeg, sg_nil, s1p, x0, x1, x2, x3, x4, x5, x6, x7, x8, x9, x10, x11, x12, x13, x56, x57, x388, x389, x390, x391, x392, x393, x394, x395, x396, x397, x398, x399, a1]
      repeat' (first | with_reducible apply And.intro | (intro _) | ((first | refine wp_go b53_0 ?_ | refine wp_go b53_8 ?_ | refine wp_go b53_13 ?_ | refine wp_go b53_60 ?_ | refine wp_go b53_70 ?_ | refine wp_go b53_80 ?_ | refine wp_go b53_92 ?_ | refine wp_go b53_93 ?_ | refine wp_go b53_98 ?_ | refine wp_go b53_101 ?_ | refine wp_go b53_102 ?_ | refine wp_go b53_107 ?_ | refine wp_go b53_110 ?_ | refine wp_go b53_111 ?_ | refine wp_go b53_116 ?_ | refine wp_go b53_119 ?_ | refine wp_go b53_120 ?_ | refine wp_go b53_125 ?_ | refine wp_go b53_128 ?_ | refine wp_go b53_129 ?_ | refine wp_go b53_134 ?_ | refine wp_go b53_141 ?_); simp only [l53_0, l53_8, l53_13, l53_60, l53_70, l53_80, l53_92, l53_93, l53_98, l53_101, l53_102, l53_107, l53_110, l53_111, l53_116, l53_119, l53_120, l53_125, l53_128, l53_129, l53_134, l53_141, sg_aload_0, sg_getfp, sg_iload_1, sg_iv2_i, len4_0, len4_1, len4_2, len4_3, len4_4, sg_if_ne, sg_iconst, sg_iret0, sg_iload_2, sg_tsw, swc_n, swc_c, List.toList_toArray, Int.reduceAdd, Int.reduceToNat, sg_iaload, sg_baload, sg_is1_1, sg_iv2_r, sg_iv1_i, sg_getf0, sg_bipush, nLg_n, nLg_i, nLg_r, tc_c, tc_l, tc_r, tc_m, tc_n, tc_o, tc_0, inR, true_and, and_true, ne_eq, not_true_eq_false, not_false_eq_true, true_imp_iff, false_imp_iff, Int.toNat_natCast, lit_a, Nat.reduceAdd, or_true, true_or, or_false, false_or, Int.reduceEq, Int.reduceNe, Int.reduceLT, Int.reduceLE, Int.reduceNeg, sg_nil]))
      all_goals (try omega)
      (revert h; unfold F_of; (try simp only [Int.toNat_natCast]); (repeat (first | rw [if_neg (by omega)] | rw [if_pos (by omega)])); exact id)
    · refine wp_go b53_70 ?_; simp only [l53_70, sg_aload_0, sg_getfp, sg_iload_1, sg_iaload, sg_iret0, nLg_n, nLg_i, nLg_r, tc_c, tc_l, tc_r, tc_m, tc_n, tc_o, tc_0, inR, true_and, and_true, ne_eq, not_true_eq_false, not_false_eq_true, true_imp_iff, false_imp_iff, Int.toNat_natCast, lit_a, Nat.reduceAdd, or_true, true_or, or_false, false_or, Int.reduceEq, Int.reduceNe, Int.reduceLT, Int.reduceLE, Int.reduceNeg, sg_nil, s1p, x0, x1, x2, x3, x4, x5, x6, x7, x8, x9, x10, x11, x12, x13, x56, x57, x388, x389, x390, x391, x392, x393, x394, x395, x396, x397, x398, x399, a2]
      repeat' (first | with_reducible apply And.intro | (intro _) | ((first | refine wp_go b53_0 ?_ | refine wp_go b53_8 ?_ | refine wp_go b53_13 ?_ | refine wp_go b53_60 ?_ | refine wp_go b53_70 ?_ | refine wp_go b53_80 ?_ | refine wp_go b53_92 ?_ | refine wp_go b53_93 ?_ | refine wp_go b53_98 ?_ | refine wp_go b53_101 ?_ | refine wp_go b53_102 ?_ | refine wp_go b53_107 ?_ | refine wp_go b53_110 ?_ | refine wp_go b53_111 ?_ | refine wp_go b53_116 ?_ | refine wp_go b53_119 ?_ | refine wp_go b53_120 ?_ | refine wp_go b53_125 ?_ | refine wp_go b53_128 ?_ | refine wp_go b53_129 ?_ | refine wp_go b53_134 ?_ | refine wp_go b53_141 ?_); simp only [l53_0, l53_8, l53_13, l53_60, l53_70, l53_80, l53_92, l53_93, l53_98, l53_101, l53_102, l53_107, l53_110, l53_111, l53_116, l53_119, l53_120, l53_125, l53_128, l53_129, l53_134, l53_141, sg_aload_0, sg_getfp, sg_iload_1, sg_iv2_i, len4_0, len4_1, len4_2, len4_3, len4_4, sg_if_ne, sg_iconst, sg_iret0, sg_iload_2, sg_tsw, swc_n, swc_c, List.toList_toArray, Int.reduceAdd, Int.reduceToNat, sg_iaload, sg_baload, sg_is1_1, sg_iv2_r, sg_iv1_i, sg_getf0, sg_bipush, nLg_n, nLg_i, nLg_r, tc_c, tc_l, tc_r, tc_m, tc_n, tc_o, tc_0, inR, true_and, and_true, ne_eq, not_true_eq_false, not_false_eq_true, true_imp_iff, false_imp_iff, Int.toNat_natCast, lit_a, Nat.reduceAdd, or_true, true_or, or_false, false_or, Int.reduceEq, Int.reduceNe, Int.reduceLT, Int.reduceLE, Int.reduceNeg, sg_nil]))
      all_goals (try omega)
      (revert h; unfold F_of; (try simp only [Int.toNat_natCast]); (repeat (first | rw [if_neg (by omega)] | rw [if_pos (by omega)])); exact id)
    · refine wp_go b53_80 ?_; simp only [l53_80, sg_aload_0, sg_getfp, sg_iload_1, sg_baload, len4_0, len4_1, len4_2, len4_3, len4_4, sg_is1_1, nLg_n, nLg_i, nLg_r, tc_c, tc_l, tc_r, tc_m, tc_n, tc_o, tc_0, inR, true_and, and_true, ne_eq, not_true_eq_false, not_false_eq_true, true_imp_iff, false_imp_iff, Int.toNat_natCast, lit_a, Nat.reduceAdd, or_true, true_or, or_false, false_or, Int.reduceEq, Int.reduceNe, Int.reduceLT, Int.reduceLE, Int.reduceNeg, sg_nil, s1p, x0, x1, x2, x3, x4, x5, x6, x7, x8, x9, x10, x11, x12, x13, x56, x57, x388, x389, x390, x391, x392, x393, x394, x395, x396, x397, x398, x399, a3]
      repeat' (first | with_reducible apply And.intro | intro _)
      all_goals (try omega)
      refine k_NS_asNumber (by omega) ?_
      refine wp_go b53_92 ?_; simp only [l53_92, sg_iret0, nLg_n, nLg_i, nLg_r, tc_c, tc_l, tc_r, tc_m, tc_n, tc_o, tc_0, inR, true_and, and_true, ne_eq, not_true_eq_false, not_false_eq_true, true_imp_iff, false_imp_iff, Int.toNat_natCast, lit_a, Nat.reduceAdd, or_true, true_or, or_false, false_or, Int.reduceEq, Int.reduceNe, Int.reduceLT, Int.reduceLE, Int.reduceNeg, sg_nil]
      (revert h; unfold F_of; (try simp only [Int.toNat_natCast]); (repeat (first | rw [if_neg (by omega)] | rw [if_pos (by omega)])); exact id)
    · refine wp_go b53_93 ?_; simp only [l53_93, sg_aload_0, sg_iload_1, sg_iv2_i, len4_0, len4_1, len4_2, len4_3, len4_4, nLg_n, nLg_i, nLg_r, tc_c, tc_l, tc_r, tc_m, tc_n, tc_o, tc_0, inR, true_and, and_true, ne_eq, not_true_eq_false, not_false_eq_true, true_imp_iff, false_imp_iff, Int.toNat_natCast, lit_a, Nat.reduceAdd, or_true, true_or, or_false, false_or, Int.reduceEq, Int.reduceNe, Int.reduceLT, Int.reduceLE, Int.reduceNeg, sg_nil, s1p, x0, x1, x2, x3, x4, x5, x6, x7, x8, x9, x10, x11, x12, x13, x56, x57, x388, x389, x390, x391, x392, x393, x394, x395, x396, x397, x398, x399]
      refine k_NS_isOutOfDate hz hR h2 (fun μ' f => ?_)
      have h := hq μ' (QF_s hz hR f)
      refine wp_go b53_98 ?_; simp only [l53_98, len4_0, len4_1, len4_2, len4_3, len4_4, sg_is1_1, nLg_n, nLg_i, nLg_r, tc_c, tc_l, tc_r, tc_m, tc_n, tc_o, tc_0, inR, true_and, and_true, ne_eq, not_true_eq_false, not_false_eq_true, true_imp_iff, false_imp_iff, Int.toNat_natCast, lit_a, Nat.reduceAdd, or_true, true_or, or_false, false_or, Int.reduceEq, Int.reduceNe, Int.reduceLT, Int.reduceLE, Int.reduceNeg, sg_nil]
      refine k_NS_asNumber (old_01 z n) ?_
      refine wp_go b53_101 ?_; simp only [l53_101, sg_iret0, nLg_n, nLg_i, nLg_r, tc_c, tc_l, tc_r, tc_m, tc_n, tc_o, tc_0, inR, true_and, and_true, ne_eq, not_true_eq_false, not_false_eq_true, true_imp_iff, false_imp_iff, Int.toNat_natCast, lit_a, Nat.reduceAdd, or_true, true_or, or_false, false_or, Int.reduceEq, Int.reduceNe, Int.reduceLT, Int.reduceLE, Int.reduceNeg, sg_nil]
      (revert h; unfold F_of; (try simp only [Int.toNat_natCast]); (repeat (first | rw [if_neg (by omega)] | rw [if_pos (by omega)])); exact id)
    · refine wp_go b53_102 ?_; simp only [l53_102, sg_aload_0, sg_iload_1, sg_iv2_r, len4_0, len4_1, len4_2, len4_3, len4_4, nLg_n, nLg_i, nLg_r, tc_c, tc_l, tc_r, tc_m, tc_n, tc_o, tc_0, inR, true_and, and_true, ne_eq, not_true_eq_false, not_false_eq_true, true_imp_iff, false_imp_iff, Int.toNat_natCast, lit_a, Nat.reduceAdd, or_true, true_or, or_false, false_or, Int.reduceEq, Int.reduceNe, Int.reduceLT, Int.reduceLE, Int.reduceNeg, sg_nil, s1p, x0, x1, x2, x3, x4, x5, x6, x7, x8, x9, x10, x11, x12, x13, x56, x57, x388, x389, x390, x391, x392, x393, x394, x395, x396, x397, x398, x399]
      refine k_NS_hearingOf hz hR h2 (fun μ' c f H hH _ _ => ?_)
      have h := hq μ' (QF_s hz hR f)
      refine wp_go b53_107 ?_; simp only [l53_107, sg_iv1_i, len4_0, len4_1, len4_2, len4_3, len4_4, nLg_n, nLg_i, nLg_r, tc_c, tc_l, tc_r, tc_m, tc_n, tc_o, tc_0, inR, true_and, and_true, ne_eq, not_true_eq_false, not_false_eq_true, true_imp_iff, false_imp_iff, Int.toNat_natCast, lit_a, Nat.reduceAdd, or_true, true_or, or_false, false_or, Int.reduceEq, Int.reduceNe, Int.reduceLT, Int.reduceLE, Int.reduceNeg, sg_nil, hH.1]
      refine k_Hea_total hH H (by omega) nn.1 ?_
      have et : bt (wO z n) (nw z n) = tot z n := rfl
      rw [et]
      refine wp_go b53_110 ?_; simp only [l53_110, sg_iret0, nLg_n, nLg_i, nLg_r, tc_c, tc_l, tc_r, tc_m, tc_n, tc_o, tc_0, inR, true_and, and_true, ne_eq, not_true_eq_false, not_false_eq_true, true_imp_iff, false_imp_iff, Int.toNat_natCast, lit_a, Nat.reduceAdd, or_true, true_or, or_false, false_or, Int.reduceEq, Int.reduceNe, Int.reduceLT, Int.reduceLE, Int.reduceNeg, sg_nil]
      (revert h; unfold F_of; (try simp only [Int.toNat_natCast]); (repeat (first | rw [if_neg (by omega)] | rw [if_pos (by omega)])); exact id)
    · refine wp_go b53_111 ?_; simp only [l53_111, sg_aload_0, sg_iload_1, sg_iv2_r, len4_0, len4_1, len4_2, len4_3, len4_4, nLg_n, nLg_i, nLg_r, tc_c, tc_l, tc_r, tc_m, tc_n, tc_o, tc_0, inR, true_and, and_true, ne_eq, not_true_eq_false, not_false_eq_true, true_imp_iff, false_imp_iff, Int.toNat_natCast, lit_a, Nat.reduceAdd, or_true, true_or, or_false, false_or, Int.reduceEq, Int.reduceNe, Int.reduceLT, Int.reduceLE, Int.reduceNeg, sg_nil, s1p, x0, x1, x2, x3, x4, x5, x6, x7, x8, x9, x10, x11, x12, x13, x56, x57, x388, x389, x390, x391, x392, x393, x394, x395, x396, x397, x398, x399]
      refine k_NS_hearingOf hz hR h2 (fun μ' c f H hH _ _ => ?_)
      have h := hq μ' (QF_s hz hR f)
      refine wp_go b53_116 ?_; simp only [l53_116, sg_iv1_i, len4_0, len4_1, len4_2, len4_3, len4_4, nLg_n, nLg_i, nLg_r, tc_c, tc_l, tc_r, tc_m, tc_n, tc_o, tc_0, inR, true_and, and_true, ne_eq, not_true_eq_false, not_false_eq_true, true_imp_iff, false_imp_iff, Int.toNat_natCast, lit_a, Nat.reduceAdd, or_true, true_or, or_false, false_or, Int.reduceEq, Int.reduceNe, Int.reduceLT, Int.reduceLE, Int.reduceNeg, sg_nil, hH.1]
      refine k_Hea_countNotices hH H W nn.1 ?_
      refine wp_go b53_119 ?_; simp only [l53_119, sg_iret0, nLg_n, nLg_i, nLg_r, tc_c, tc_l, tc_r, tc_m, tc_n, tc_o, tc_0, inR, true_and, and_true, ne_eq, not_true_eq_false, not_false_eq_true, true_imp_iff, false_imp_iff, Int.toNat_natCast, lit_a, Nat.reduceAdd, or_true, true_or, or_false, false_or, Int.reduceEq, Int.reduceNe, Int.reduceLT, Int.reduceLE, Int.reduceNeg, sg_nil]
      (revert h; unfold F_of; (try simp only [Int.toNat_natCast]); (repeat (first | rw [if_neg (by omega)] | rw [if_pos (by omega)])); exact id)
    · refine wp_go b53_120 ?_; simp only [l53_120, sg_aload_0, sg_iload_1, sg_iv2_r, len4_0, len4_1, len4_2, len4_3, len4_4, nLg_n, nLg_i, nLg_r, tc_c, tc_l, tc_r, tc_m, tc_n, tc_o, tc_0, inR, true_and, and_true, ne_eq, not_true_eq_false, not_false_eq_true, true_imp_iff, false_imp_iff, Int.toNat_natCast, lit_a, Nat.reduceAdd, or_true, true_or, or_false, false_or, Int.reduceEq, Int.reduceNe, Int.reduceLT, Int.reduceLE, Int.reduceNeg, sg_nil, s1p, x0, x1, x2, x3, x4, x5, x6, x7, x8, x9, x10, x11, x12, x13, x56, x57, x388, x389, x390, x391, x392, x393, x394, x395, x396, x397, x398, x399]
      refine k_NS_hearingOf hz hR h2 (fun μ' c f H hH _ _ => ?_)
      have h := hq μ' (QF_s hz hR f)
      refine wp_go b53_125 ?_; simp only [l53_125, sg_iv1_i, len4_0, len4_1, len4_2, len4_3, len4_4, nLg_n, nLg_i, nLg_r, tc_c, tc_l, tc_r, tc_m, tc_n, tc_o, tc_0, inR, true_and, and_true, ne_eq, not_true_eq_false, not_false_eq_true, true_imp_iff, false_imp_iff, Int.toNat_natCast, lit_a, Nat.reduceAdd, or_true, true_or, or_false, false_or, Int.reduceEq, Int.reduceNe, Int.reduceLT, Int.reduceLE, Int.reduceNeg, sg_nil, hH.1]
      refine k_Hea_noticeSeconds hH H (by omega) nn.1 ?_
      refine wp_go b53_128 ?_; simp only [l53_128, sg_iret0, nLg_n, nLg_i, nLg_r, tc_c, tc_l, tc_r, tc_m, tc_n, tc_o, tc_0, inR, true_and, and_true, ne_eq, not_true_eq_false, not_false_eq_true, true_imp_iff, false_imp_iff, Int.toNat_natCast, lit_a, Nat.reduceAdd, or_true, true_or, or_false, false_or, Int.reduceEq, Int.reduceNe, Int.reduceLT, Int.reduceLE, Int.reduceNeg, sg_nil]
      (revert h; unfold F_of; (try simp only [Int.toNat_natCast]); (repeat (first | rw [if_neg (by omega)] | rw [if_pos (by omega)])); exact id)
    · refine wp_go b53_129 ?_; simp only [l53_129, sg_aload_0, sg_iload_1, sg_iv2_r, len4_0, len4_1, len4_2, len4_3, len4_4, nLg_n, nLg_i, nLg_r, tc_c, tc_l, tc_r, tc_m, tc_n, tc_o, tc_0, inR, true_and, and_true, ne_eq, not_true_eq_false, not_false_eq_true, true_imp_iff, false_imp_iff, Int.toNat_natCast, lit_a, Nat.reduceAdd, or_true, true_or, or_false, false_or, Int.reduceEq, Int.reduceNe, Int.reduceLT, Int.reduceLE, Int.reduceNeg, sg_nil, s1p, x0, x1, x2, x3, x4, x5, x6, x7, x8, x9, x10, x11, x12, x13, x56, x57, x388, x389, x390, x391, x392, x393, x394, x395, x396, x397, x398, x399]
      refine k_NS_hearingOf hz hR h2 (fun μ' c f H hH _ _ => ?_)
      have h := hq μ' (QF_s hz hR f)
      obtain ⟨a0, a1, a2, a3, a4, a5, a6, p0, p1, p2, p3, p4, p5⟩ := heaF hH
      refine wp_go b53_134 ?_; simp only [l53_134, sg_getfp, sg_getf0, sg_iret0, nLg_n, nLg_i, nLg_r, tc_c, tc_l, tc_r, tc_m, tc_n, tc_o, tc_0, inR, true_and, and_true, ne_eq, not_true_eq_false, not_false_eq_true, true_imp_iff, false_imp_iff, Int.toNat_natCast, lit_a, Nat.reduceAdd, or_true, true_or, or_false, false_or, Int.reduceEq, Int.reduceNe, Int.reduceLT, Int.reduceLE, Int.reduceNeg, sg_nil, a0, a1, a2, a3, a4, a5, a6, p0, p1, p2, p3, p4, p5, H.1]
      (revert h; unfold F_of; (try simp only [Int.toNat_natCast]); (repeat (first | rw [if_neg (by omega)] | rw [if_pos (by omega)])); exact id)
    · refine wp_go b53_141 ?_; simp only [l53_141, sg_bipush, sg_iret0, nLg_n, nLg_i, nLg_r, tc_c, tc_l, tc_r, tc_m, tc_n, tc_o, tc_0, inR, true_and, and_true, ne_eq, not_true_eq_false, not_false_eq_true, true_imp_iff, false_imp_iff, Int.toNat_natCast, lit_a, Nat.reduceAdd, or_true, true_or, or_false, false_or, Int.reduceEq, Int.reduceNe, Int.reduceLT, Int.reduceLE, Int.reduceNeg, sg_nil]
      (revert h; unfold F_of; (try simp only [Int.toNat_natCast]); (repeat (first | rw [if_neg (by omega)] | rw [if_pos (by omega)])); exact id)
  · refine wp_go b53_8 ?_; simp only [l53_8, sg_if_ne, sg_iconst, sg_iret0, nLg_n, nLg_i, nLg_r, tc_c, tc_l, tc_r, tc_m, tc_n, tc_o, tc_0, inR, true_and, and_true, ne_eq, not_true_eq_false, not_false_eq_true, true_imp_iff, false_imp_iff, Int.toNat_natCast, lit_a, Nat.reduceAdd, or_true, true_or, or_false, false_or, Int.reduceEq, Int.reduceNe, Int.reduceLT, Int.reduceLE, Int.reduceNeg, sg_nil]
    repeat' (first | with_reducible apply And.intro | (intro _) | ((first | refine wp_go b53_0 ?_ | refine wp_go b53_8 ?_ | refine wp_go b53_13 ?_ | refine wp_go b53_60 ?_ | refine wp_go b53_70 ?_ | refine wp_go b53_80 ?_ | refine wp_go b53_92 ?_ | refine wp_go b53_93 ?_ | refine wp_go b53_98 ?_ | refine wp_go b53_101 ?_ | refine wp_go b53_102 ?_ | refine wp_go b53_107 ?_ | refine wp_go b53_110 ?_ | refine wp_go b53_111 ?_ | refine wp_go b53_116 ?_ | refine wp_go b53_119 ?_ | refine wp_go b53_120 ?_ | refine wp_go b53_125 ?_ | refine wp_go b53_128 ?_ | refine wp_go b53_129 ?_ | refine wp_go b53_134 ?_ | refine wp_go b53_141 ?_); simp only [l53_0, l53_8, l53_13, l53_60, l53_70, l53_80, l53_92, l53_93, l53_98, l53_101, l53_102, l53_107, l53_110, l53_111, l53_116, l53_119, l53_120, l53_125, l53_128, l53_129, l53_134, l53_141, sg_aload_0, sg_getfp, sg_iload_1, sg_iv2_i, len4_0, len4_1, len4_2, len4_3, len4_4, sg_if_ne, sg_iconst, sg_iret0, sg_iload_2, sg_tsw, swc_n, swc_c, List.toList_toArray, Int.reduceAdd, Int.reduceToNat, sg_iaload, sg_baload, sg_is1_1, sg_iv2_r, sg_iv1_i, sg_getf0, sg_bipush, nLg_n, nLg_i, nLg_r, tc_c, tc_l, tc_r, tc_m, tc_n, tc_o, tc_0, inR, true_and, and_true, ne_eq, not_true_eq_false, not_false_eq_true, true_imp_iff, false_imp_iff, Int.toNat_natCast, lit_a, Nat.reduceAdd, or_true, true_or, or_false, false_or, Int.reduceEq, Int.reduceNe, Int.reduceLT, Int.reduceLE, Int.reduceNeg, sg_nil, s1p, x0, x1, x2, x3, x4, x5, x6, x7, x8, x9, x10, x11, x12, x13, x56, x57, x388, x389, x390, x391, x392, x393, x394, x395, x396, x397, x398, x399]))
    all_goals (try omega)
    all_goals (revert h; unfold F_of; (try simp only [Int.toNat_natCast]); (repeat (first | rw [if_neg (by omega)] | rw [if_pos (by omega)])); exact id)
def F_count (z : Rw) (pl hs w : Int) : Int := if w = 0 then z 0 else if w = 1 then sm (zl z) (zn z) else if w = 2 then sm (zb z) (zn z) else if w = 3 then z 2 else if w = 4 then z 3 else if w = 5 then olds z (znl z) else if w = 6 then (lng z (znl z)).1 else if w = 7 then pl else if w = 8 then hs else -2
-- NS.count: blocks [0, 52, 63, 73, 74, 84, 85, 93, 101, 105, 106, 110, 111, 119, 127]
theorem k_NS_count {d : Nat} {Q : QT} {μ : Mem} {w : Int} {z : Rw} (hz : IZ z) (hR : RC z μ 1) (hw : inR w) (hq : ∀ μ', QF z μ μ' → Q (.inl (F_count z (μ 390 1) (μ 56 2) w)) μ') : Call σ1 (d + 6) 54 [.inr (.inr 0), .inl w] μ Q := by
  refine e_54 ?_
  have h := hq μ (QF_r hR)
  have q := hz.1
  have e := zn_eq hz
  have e3 := znl_eq hz
  have a0 : μ 2 3 = z 0 := hR.1.1
  have a1 : μ 1 10 = z 2 := hR.1.2.2.1
  have a2 : μ 1 11 = z 3 := hR.1.2.2.2
  unfold inR at hw
  refine wp_go b54_0 ?_; simp only [l54_0, sg_iload_1, sg_tsw, swc_n, swc_c, List.toList_toArray, Int.reduceAdd, Int.reduceToNat, nLg_n, nLg_i, nLg_r, tc_c, tc_l, tc_r, tc_m, tc_n, tc_o, tc_0, inR, true_and, and_true, ne_eq, not_true_eq_false, not_false_eq_true, true_imp_iff, false_imp_iff, Int.toNat_natCast, lit_a, Nat.reduceAdd, or_true, true_or, or_false, false_or, Int.reduceEq, Int.reduceNe, Int.reduceLT, Int.reduceLE, Int.reduceNeg, sg_nil]
  repeat' (first | with_reducible apply And.intro | (intro _))
  all_goals (try omega)
  · refine wp_go b54_52 ?_; simp only [l54_52, sg_aload_0, sg_getfp, sg_getf0, sg_iret0, nLg_n, nLg_i, nLg_r, tc_c, tc_l, tc_r, tc_m, tc_n, tc_o, tc_0, inR, true_and, and_true, ne_eq, not_true_eq_false, not_false_eq_true, true_imp_iff, false_imp_iff, Int.toNat_natCast, lit_a, Nat.reduceAdd, or_true, true_or, or_false, false_or, Int.reduceEq, Int.reduceNe, Int.reduceLT, Int.reduceLE, Int.reduceNeg, sg_nil, s1p, x0, x1, x2, x3, x4, x5, x6, x7, x8, x9, x10, x11, x12, x13, x56, x57, x388, x389, x390, x391, x392, x393, x394, x395, x396, x397, x398, x399, a0]
    (revert h; unfold F_count; (try simp only [Int.toNat_natCast]); (repeat (first | rw [if_neg (by omega)] | rw [if_pos (by omega)])); exact id)
  · refine wp_go b54_63 ?_; simp only [l54_63, sg_aload_0, sg_getfp, sg_iv1_i, len4_0, len4_1, len4_2, len4_3, len4_4, nLg_n, nLg_i, nLg_r, tc_c, tc_l, tc_r, tc_m, tc_n, tc_o, tc_0, inR, true_and, and_true, ne_eq, not_true_eq_false, not_false_eq_true, true_imp_iff, false_imp_iff, Int.toNat_natCast, lit_a, Nat.reduceAdd, or_true, true_or, or_false, false_or, Int.reduceEq, Int.reduceNe, Int.reduceLT, Int.reduceLE, Int.reduceNeg, sg_nil, s1p, x0, x1, x2, x3, x4, x5, x6, x7, x8, x9, x10, x11, x12, x13, x56, x57, x388, x389, x390, x391, x392, x393, x394, x395, x396, x397, x398, x399]
    refine k_Sen_total st1.2.1 (a0.trans e.1) e.2.2 ?_
    rw [show sm (μ (2 + 2)) (zn z) = sm (zl z) (zn z) from sm_zl hR (by omega)]
    refine wp_go b54_73 ?_; simp only [l54_73, sg_iret0, nLg_n, nLg_i, nLg_r, tc_c, tc_l, tc_r, tc_m, tc_n, tc_o, tc_0, inR, true_and, and_true, ne_eq, not_true_eq_false, not_false_eq_true, true_imp_iff, false_imp_iff, Int.toNat_natCast, lit_a, Nat.reduceAdd, or_true, true_or, or_false, false_or, Int.reduceEq, Int.reduceNe, Int.reduceLT, Int.reduceLE, Int.reduceNeg, sg_nil]
    (revert h; unfold F_count; (try simp only [Int.toNat_natCast]); (repeat (first | rw [if_neg (by omega)] | rw [if_pos (by omega)])); exact id)
  · refine wp_go b54_74 ?_; simp only [l54_74, sg_aload_0, sg_getfp, sg_iv1_i, len4_0, len4_1, len4_2, len4_3, len4_4, nLg_n, nLg_i, nLg_r, tc_c, tc_l, tc_r, tc_m, tc_n, tc_o, tc_0, inR, true_and, and_true, ne_eq, not_true_eq_false, not_false_eq_true, true_imp_iff, false_imp_iff, Int.toNat_natCast, lit_a, Nat.reduceAdd, or_true, true_or, or_false, false_or, Int.reduceEq, Int.reduceNe, Int.reduceLT, Int.reduceLE, Int.reduceNeg, sg_nil, s1p, x0, x1, x2, x3, x4, x5, x6, x7, x8, x9, x10, x11, x12, x13, x56, x57, x388, x389, x390, x391, x392, x393, x394, x395, x396, x397, x398, x399]
    refine k_Sen_chapters st1.2.1 (n := zn z - 1) (a0.trans (by omega)) (by omega) ?_
    rw [show sm (fun i => μ (2 + 3) (i + 1)) (zn z - 1) + 1 = sm (zb z) (zn z) from by
      rw [show sm (fun i => μ (2 + 3) (i + 1)) (zn z - 1) = _ from sm_zb hz hR (by omega), show zn z - 1 + 1 = zn z by omega]; omega]
    refine wp_go b54_84 ?_; simp only [l54_84, sg_iret0, nLg_n, nLg_i, nLg_r, tc_c, tc_l, tc_r, tc_m, tc_n, tc_o, tc_0, inR, true_and, and_true, ne_eq, not_true_eq_false, not_false_eq_true, true_imp_iff, false_imp_iff, Int.toNat_natCast, lit_a, Nat.reduceAdd, or_true, true_or, or_false, false_or, Int.reduceEq, Int.reduceNe, Int.reduceLT, Int.reduceLE, Int.reduceNeg, sg_nil]
    (revert h; unfold F_count; (try simp only [Int.toNat_natCast]); (repeat (first | rw [if_neg (by omega)] | rw [if_pos (by omega)])); exact id)
  · refine wp_go b54_85 ?_; simp only [l54_85, sg_aload_0, sg_getfp, sg_getf0, sg_iret0, nLg_n, nLg_i, nLg_r, tc_c, tc_l, tc_r, tc_m, tc_n, tc_o, tc_0, inR, true_and, and_true, ne_eq, not_true_eq_false, not_false_eq_true, true_imp_iff, false_imp_iff, Int.toNat_natCast, lit_a, Nat.reduceAdd, or_true, true_or, or_false, false_or, Int.reduceEq, Int.reduceNe, Int.reduceLT, Int.reduceLE, Int.reduceNeg, sg_nil, s1p, x0, x1, x2, x3, x4, x5, x6, x7, x8, x9, x10, x11, x12, x13, x56, x57, x388, x389, x390, x391, x392, x393, x394, x395, x396, x397, x398, x399, a1]
    (revert h; unfold F_count; (try simp only [Int.toNat_natCast]); (repeat (first | rw [if_neg (by omega)] | rw [if_pos (by omega)])); exact id)
  · refine wp_go b54_93 ?_; simp only [l54_93, sg_aload_0, sg_getfp, sg_getf0, sg_iret0, nLg_n, nLg_i, nLg_r, tc_c, tc_l, tc_r, tc_m, tc_n, tc_o, tc_0, inR, true_and, and_true, ne_eq, not_true_eq_false, not_false_eq_true, true_imp_iff, false_imp_iff, Int.toNat_natCast, lit_a, Nat.reduceAdd, or_true, true_or, or_false, false_or, Int.reduceEq, Int.reduceNe, Int.reduceLT, Int.reduceLE, Int.reduceNeg, sg_nil, s1p, x0, x1, x2, x3, x4, x5, x6, x7, x8, x9, x10, x11, x12, x13, x56, x57, x388, x389, x390, x391, x392, x393, x394, x395, x396, x397, x398, x399, a2]
    (revert h; unfold F_count; (try simp only [Int.toNat_natCast]); (repeat (first | rw [if_neg (by omega)] | rw [if_pos (by omega)])); exact id)
  · refine wp_go b54_101 ?_; simp only [l54_101, sg_aload_0, sg_iv1_i, len4_0, len4_1, len4_2, len4_3, len4_4, nLg_n, nLg_i, nLg_r, tc_c, tc_l, tc_r, tc_m, tc_n, tc_o, tc_0, inR, true_and, and_true, ne_eq, not_true_eq_false, not_false_eq_true, true_imp_iff, false_imp_iff, Int.toNat_natCast, lit_a, Nat.reduceAdd, or_true, true_or, or_false, false_or, Int.reduceEq, Int.reduceNe, Int.reduceLT, Int.reduceLE, Int.reduceNeg, sg_nil, s1p, x0, x1, x2, x3, x4, x5, x6, x7, x8, x9, x10, x11, x12, x13, x56, x57, x388, x389, x390, x391, x392, x393, x394, x395, x396, x397, x398, x399]
    refine k_NS_outOfDateListeners hz hR e3.1 (fun μ' f => ?_)
    have h := hq μ' (QF_s hz hR f)
    refine wp_go b54_105 ?_; simp only [l54_105, sg_iret0, nLg_n, nLg_i, nLg_r, tc_c, tc_l, tc_r, tc_m, tc_n, tc_o, tc_0, inR, true_and, and_true, ne_eq, not_true_eq_false, not_false_eq_true, true_imp_iff, false_imp_iff, Int.toNat_natCast, lit_a, Nat.reduceAdd, or_true, true_or, or_false, false_or, Int.reduceEq, Int.reduceNe, Int.reduceLT, Int.reduceLE, Int.reduceNeg, sg_nil]
    (revert h; unfold F_count; (try simp only [Int.toNat_natCast]); (repeat (first | rw [if_neg (by omega)] | rw [if_pos (by omega)])); exact id)
  · refine wp_go b54_106 ?_; simp only [l54_106, sg_aload_0, sg_iv1_i, len4_0, len4_1, len4_2, len4_3, len4_4, nLg_n, nLg_i, nLg_r, tc_c, tc_l, tc_r, tc_m, tc_n, tc_o, tc_0, inR, true_and, and_true, ne_eq, not_true_eq_false, not_false_eq_true, true_imp_iff, false_imp_iff, Int.toNat_natCast, lit_a, Nat.reduceAdd, or_true, true_or, or_false, false_or, Int.reduceEq, Int.reduceNe, Int.reduceLT, Int.reduceLE, Int.reduceNeg, sg_nil, s1p, x0, x1, x2, x3, x4, x5, x6, x7, x8, x9, x10, x11, x12, x13, x56, x57, x388, x389, x390, x391, x392, x393, x394, x395, x396, x397, x398, x399]
    refine k_NS_longestListener hz hR e3.1 (fun μ' f => ?_)
    have h := hq μ' (QF_s hz hR f)
    refine wp_go b54_110 ?_; simp only [l54_110, sg_iret0, nLg_n, nLg_i, nLg_r, tc_c, tc_l, tc_r, tc_m, tc_n, tc_o, tc_0, inR, true_and, and_true, ne_eq, not_true_eq_false, not_false_eq_true, true_imp_iff, false_imp_iff, Int.toNat_natCast, lit_a, Nat.reduceAdd, or_true, true_or, or_false, false_or, Int.reduceEq, Int.reduceNe, Int.reduceLT, Int.reduceLE, Int.reduceNeg, sg_nil]
    (revert h; unfold F_count; (try simp only [Int.toNat_natCast]); (repeat (first | rw [if_neg (by omega)] | rw [if_pos (by omega)])); exact id)
  · refine wp_go b54_111 ?_; simp only [l54_111, sg_aload_0, sg_getfp, sg_getf0, sg_iret0, nLg_n, nLg_i, nLg_r, tc_c, tc_l, tc_r, tc_m, tc_n, tc_o, tc_0, inR, true_and, and_true, ne_eq, not_true_eq_false, not_false_eq_true, true_imp_iff, false_imp_iff, Int.toNat_natCast, lit_a, Nat.reduceAdd, or_true, true_or, or_false, false_or, Int.reduceEq, Int.reduceNe, Int.reduceLT, Int.reduceLE, Int.reduceNeg, sg_nil, s1p, x0, x1, x2, x3, x4, x5, x6, x7, x8, x9, x10, x11, x12, x13, x56, x57, x388, x389, x390, x391, x392, x393, x394, x395, x396, x397, x398, x399]
    (revert h; unfold F_count; (try simp only [Int.toNat_natCast]); (repeat (first | rw [if_neg (by omega)] | rw [if_pos (by omega)])); exact id)
  · refine wp_go b54_119 ?_; simp only [l54_119, sg_aload_0, sg_getfp, sg_getf0, sg_iret0, nLg_n, nLg_i, nLg_r, tc_c, tc_l, tc_r, tc_m, tc_n, tc_o, tc_0, inR, true_and, and_true, ne_eq, not_true_eq_false, not_false_eq_true, true_imp_iff, false_imp_iff, Int.toNat_natCast, lit_a, Nat.reduceAdd, or_true, true_or, or_false, false_or, Int.reduceEq, Int.reduceNe, Int.reduceLT, Int.reduceLE, Int.reduceNeg, sg_nil, s1p, x0, x1, x2, x3, x4, x5, x6, x7, x8, x9, x10, x11, x12, x13, x56, x57, x388, x389, x390, x391, x392, x393, x394, x395, x396, x397, x398, x399]
    (revert h; unfold F_count; (try simp only [Int.toNat_natCast]); (repeat (first | rw [if_neg (by omega)] | rw [if_pos (by omega)])); exact id)
  · refine wp_go b54_127 ?_; simp only [l54_127, sg_bipush, sg_iret0, nLg_n, nLg_i, nLg_r, tc_c, tc_l, tc_r, tc_m, tc_n, tc_o, tc_0, inR, true_and, and_true, ne_eq, not_true_eq_false, not_false_eq_true, true_imp_iff, false_imp_iff, Int.toNat_natCast, lit_a, Nat.reduceAdd, or_true, true_or, or_false, false_or, Int.reduceEq, Int.reduceNe, Int.reduceLT, Int.reduceLE, Int.reduceNeg, sg_nil]
    (revert h; unfold F_count; (try simp only [Int.toNat_natCast]); (repeat (first | rw [if_neg (by omega)] | rw [if_pos (by omega)])); exact id)
end
section
def F_heard (z : Rw) (l s : Int) : Int := if l < 0 ∨ z 3 ≤ l then -1 else if s < 0 ∨ (nw z l.toNat : Int) ≤ s then -1 else wO z l.toNat (5 * s.toNat + 1)
-- NS.heard: blocks [0, 8, 13, 18, 33, 38]
theorem k_NS_heard {d : Nat} {Q : QT} {μ : Mem} {l s : Int} {z : Rw} (hz : IZ z) (hR : RC z μ 1) (hl : inR l) (hs : inR s) (hq : ∀ μ', QF z μ μ' → Q (.inl (F_heard z l s)) μ') : Call σ1 (d + 5) 55 [.inr (.inr 0), .inl l, .inl s] μ Q := by
  refine e_55 ?_
  have h := hq μ (QF_r hR)
  have q := hz.1
  refine wp_go b55_0 ?_; simp only [l55_0, sg_aload_0, sg_getfp, sg_iload_1, sg_iv2_i, len4_0, len4_1, len4_2, len4_3, len4_4, nLg_n, nLg_i, nLg_r, tc_c, tc_l, tc_r, tc_m, tc_n, tc_o, tc_0, inR, true_and, and_true, ne_eq, not_true_eq_false, not_false_eq_true, true_imp_iff, false_imp_iff, Int.toNat_natCast, lit_a, Nat.reduceAdd, or_true, true_or, or_false, false_or, Int.reduceEq, Int.reduceNe, Int.reduceLT, Int.reduceLE, Int.reduceNeg, sg_nil, s1p, x0, x1, x2, x3, x4, x5, x6, x7, x8, x9, x10, x11, x12, x13, x56, x57, x388, x389, x390, x391, x392, x393, x394, x395, x396, x397, x398, x399]
  refine k_Sta_hasListener st1 hR hz hl (fun h1 h2 => ?_) (fun h0 => ?_)
  · obtain ⟨n, rfl⟩ := nat_of h1
    have nn := nw_eq hz h2
    refine wp_go b55_8 ?_; simp only [l55_8, sg_if_ne, sg_iconst, sg_iret0, nLg_n, nLg_i, nLg_r, tc_c, tc_l, tc_r, tc_m, tc_n, tc_o, tc_0, inR, true_and, and_true, ne_eq, not_true_eq_false, not_false_eq_true, true_imp_iff, false_imp_iff, Int.toNat_natCast, lit_a, Nat.reduceAdd, or_true, true_or, or_false, false_or, Int.reduceEq, Int.reduceNe, Int.reduceLT, Int.reduceLE, Int.reduceNeg, sg_nil]
    repeat' (first | with_reducible apply And.intro | intro _)
    all_goals (try omega)
    refine wp_go b55_13 ?_; simp only [l55_13, sg_aload_0, sg_iload_1, sg_iv2_r, len4_0, len4_1, len4_2, len4_3, len4_4, nLg_n, nLg_i, nLg_r, tc_c, tc_l, tc_r, tc_m, tc_n, tc_o, tc_0, inR, true_and, and_true, ne_eq, not_true_eq_false, not_false_eq_true, true_imp_iff, false_imp_iff, Int.toNat_natCast, lit_a, Nat.reduceAdd, or_true, true_or, or_false, false_or, Int.reduceEq, Int.reduceNe, Int.reduceLT, Int.reduceLE, Int.reduceNeg, sg_nil, s1p, x0, x1, x2, x3, x4, x5, x6, x7, x8, x9, x10, x11, x12, x13, x56, x57, x388, x389, x390, x391, x392, x393, x394, x395, x396, x397, x398, x399]
    refine k_NS_hearingOf hz hR h2 (fun μ' c f H hH _ _ => ?_)
    have h := hq μ' (QF_s hz hR f)
    obtain ⟨a0, a1, a2, a3, a4, a5, a6, p0, p1, p2, p3, p4, p5⟩ := heaF hH
    refine wp_go b55_18 ?_; simp only [l55_18, sg_astore_3, sg_iload_2, sg_iconst, sg_aload_3, sg_getfp, sg_getf0, sg_isub, len4_0, len4_1, len4_2, len4_3, len4_4, sg_is3_1, nLg_n, nLg_i, nLg_r, tc_c, tc_l, tc_r, tc_m, tc_n, tc_o, tc_0, inR, true_and, and_true, ne_eq, not_true_eq_false, not_false_eq_true, true_imp_iff, false_imp_iff, Int.toNat_natCast, lit_a, Nat.reduceAdd, or_true, true_or, or_false, false_or, Int.reduceEq, Int.reduceNe, Int.reduceLT, Int.reduceLE, Int.reduceNeg, sg_nil, a0, a1, a2, a3, a4, a5, a6, p0, p1, p2, p3, p4, p5, H.1]
    refine k_NS_isWithin hs (by unfold inR; omega) (by unfold inR; omega) (fun g1 g2 => ?_) (fun g0 => ?_)
    · obtain ⟨j, rfl⟩ := nat_of g1
      have e := (H.2 j (by omega)).2.2.2.1
      refine wp_go b55_33 ?_; simp only [l55_33, sg_if_ne, sg_iconst, sg_iret0, nLg_n, nLg_i, nLg_r, tc_c, tc_l, tc_r, tc_m, tc_n, tc_o, tc_0, inR, true_and, and_true, ne_eq, not_true_eq_false, not_false_eq_true, true_imp_iff, false_imp_iff, Int.toNat_natCast, lit_a, Nat.reduceAdd, or_true, true_or, or_false, false_or, Int.reduceEq, Int.reduceNe, Int.reduceLT, Int.reduceLE, Int.reduceNeg, sg_nil]
      repeat' (first | with_reducible apply And.intro | (intro _) | ((first | refine wp_go b55_0 ?_ | refine wp_go b55_8 ?_ | refine wp_go b55_13 ?_ | refine wp_go b55_18 ?_ | refine wp_go b55_33 ?_ | refine wp_go b55_38 ?_); simp only [l55_0, l55_8, l55_13, l55_18, l55_33, l55_38, sg_aload_0, sg_getfp, sg_iload_1, sg_iv2_i, len4_0, len4_1, len4_2, len4_3, len4_4, sg_if_ne, sg_iconst, sg_iret0, sg_iv2_r, sg_astore_3, sg_iload_2, sg_aload_3, sg_getf0, sg_isub, sg_is3_1, sg_iaload, nLg_n, nLg_i, nLg_r, tc_c, tc_l, tc_r, tc_m, tc_n, tc_o, tc_0, inR, true_and, and_true, ne_eq, not_true_eq_false, not_false_eq_true, true_imp_iff, false_imp_iff, Int.toNat_natCast, lit_a, Nat.reduceAdd, or_true, true_or, or_false, false_or, Int.reduceEq, Int.reduceNe, Int.reduceLT, Int.reduceLE, Int.reduceNeg, sg_nil, a0, a1, a2, a3, a4, a5, a6, p0, p1, p2, p3, p4, p5, e]))
      all_goals (try omega)
      all_goals (revert h; unfold F_heard; (try simp only [Int.toNat_natCast]); (repeat (first | rw [if_neg (by omega)] | rw [if_pos (by omega)])); exact id)
    · refine wp_go b55_33 ?_; simp only [l55_33, sg_if_ne, sg_iconst, sg_iret0, nLg_n, nLg_i, nLg_r, tc_c, tc_l, tc_r, tc_m, tc_n, tc_o, tc_0, inR, true_and, and_true, ne_eq, not_true_eq_false, not_false_eq_true, true_imp_iff, false_imp_iff, Int.toNat_natCast, lit_a, Nat.reduceAdd, or_true, true_or, or_false, false_or, Int.reduceEq, Int.reduceNe, Int.reduceLT, Int.reduceLE, Int.reduceNeg, sg_nil]
      repeat' (first | with_reducible apply And.intro | (intro _) | ((first | refine wp_go b55_0 ?_ | refine wp_go b55_8 ?_ | refine wp_go b55_13 ?_ | refine wp_go b55_18 ?_ | refine wp_go b55_33 ?_ | refine wp_go b55_38 ?_); simp only [l55_0, l55_8, l55_13, l55_18, l55_33, l55_38, sg_aload_0, sg_getfp, sg_iload_1, sg_iv2_i, len4_0, len4_1, len4_2, len4_3, len4_4, sg_if_ne, sg_iconst, sg_iret0, sg_iv2_r, sg_astore_3, sg_iload_2, sg_aload_3, sg_getf0, sg_isub, sg_is3_1, sg_iaload, nLg_n, nLg_i, nLg_r, tc_c, tc_l, tc_r, tc_m, tc_n, tc_o, tc_0, inR, true_and, and_true, ne_eq, not_true_eq_false, not_false_eq_true, true_imp_iff, false_imp_iff, Int.toNat_natCast, lit_a, Nat.reduceAdd, or_true, true_or, or_false, false_or, Int.reduceEq, Int.reduceNe, Int.reduceLT, Int.reduceLE, Int.reduceNeg, sg_nil]))
      all_goals (try omega)
      all_goals (revert h; unfold F_heard; (try simp only [Int.toNat_natCast]); (repeat (first | rw [if_neg (by omega)] | rw [if_pos (by omega)])); exact id)
  · refine wp_go b55_8 ?_; simp only [l55_8, sg_if_ne, sg_iconst, sg_iret0, nLg_n, nLg_i, nLg_r, tc_c, tc_l, tc_r, tc_m, tc_n, tc_o, tc_0, inR, true_and, and_true, ne_eq, not_true_eq_false, not_false_eq_true, true_imp_iff, false_imp_iff, Int.toNat_natCast, lit_a, Nat.reduceAdd, or_true, true_or, or_false, false_or, Int.reduceEq, Int.reduceNe, Int.reduceLT, Int.reduceLE, Int.reduceNeg, sg_nil]
    repeat' (first | with_reducible apply And.intro | (intro _) | ((first | refine wp_go b55_0 ?_ | refine wp_go b55_8 ?_ | refine wp_go b55_13 ?_ | refine wp_go b55_18 ?_ | refine wp_go b55_33 ?_ | refine wp_go b55_38 ?_); simp only [l55_0, l55_8, l55_13, l55_18, l55_33, l55_38, sg_aload_0, sg_getfp, sg_iload_1, sg_iv2_i, len4_0, len4_1, len4_2, len4_3, len4_4, sg_if_ne, sg_iconst, sg_iret0, sg_iv2_r, sg_astore_3, sg_iload_2, sg_aload_3, sg_getf0, sg_isub, sg_is3_1, sg_iaload, nLg_n, nLg_i, nLg_r, tc_c, tc_l, tc_r, tc_m, tc_n, tc_o, tc_0, inR, true_and, and_true, ne_eq, not_true_eq_false, not_false_eq_true, true_imp_iff, false_imp_iff, Int.toNat_natCast, lit_a, Nat.reduceAdd, or_true, true_or, or_false, false_or, Int.reduceEq, Int.reduceNe, Int.reduceLT, Int.reduceLE, Int.reduceNeg, sg_nil, s1p, x0, x1, x2, x3, x4, x5, x6, x7, x8, x9, x10, x11, x12, x13, x56, x57, x388, x389, x390, x391, x392, x393, x394, x395, x396, x397, x398, x399]))
    all_goals (try omega)
    all_goals (revert h; unfold F_heard; (try simp only [Int.toNat_natCast]); (repeat (first | rw [if_neg (by omega)] | rw [if_pos (by omega)])); exact id)
def pAt (w : Rw) (n : Nat) (t : Int) : Int := fsI (fun i => decide (t < sm (wl4 w) (i + 1))) (-6) n
def F_whenHeard (z : Rw) (l t : Int) : Int := if l < 0 ∨ z 3 ≤ l then -1 else if t < 0 ∨ 7199 < t then -2 else if pAt (wO z l.toNat) (nw z l.toNat) t = -6 then -6 else t + sm (fun i => wO z l.toNat (5 * i + 2)) ((pAt (wO z l.toNat) (nw z l.toNat) t).toNat + 1)
theorem fsI_in (p : Nat → Bool) (e : Int) (n : Nat) : fsI p e n = e ∨ ∃ i : Nat, i < n ∧ fsI p e n = (i : Int) ∧ p i = true := by
  by_cases hx : ∃ i, i < n ∧ p i = true ∧ ∀ j, j < i → p j = false
  · obtain ⟨i, h1, h2, h3⟩ := hx
    exact Or.inr ⟨i, h1, fsI_s h1 h2 h3, h2⟩
  · left
    have hn : ∀ j, j < n → p j = false := by
      intro j
      induction j using Nat.strongRecOn with
      | ind j ih =>
        intro hj
        cases hp : p j with
        | false => rfl
        | true => exact absurd ⟨j, hj, hp, fun k hk => ih k hk (by omega)⟩ hx
    exact fsI_n hn
-- NS.whenHeard: blocks [0, 8, 13, 21, 27, 32, 41, 53, 59, 70]
theorem k_NS_whenHeard {d : Nat} {Q : QT} {μ : Mem} {l t : Int} {z : Rw} (hz : IZ z) (hR : RC z μ 1) (hl : inR l) (ht : inR t) (hq : ∀ μ', QF z μ μ' → Q (.inl (F_whenHeard z l t)) μ') : Call σ1 (d + 5) 56 [.inr (.inr 0), .inl l, .inl t] μ Q := by
  refine e_56 ?_
  have h := hq μ (QF_r hR)
  have q := hz.1
  refine wp_go b56_0 ?_; simp only [l56_0, sg_aload_0, sg_getfp, sg_iload_1, sg_iv2_i, len4_0, len4_1, len4_2, len4_3, len4_4, nLg_n, nLg_i, nLg_r, tc_c, tc_l, tc_r, tc_m, tc_n, tc_o, tc_0, inR, true_and, and_true, ne_eq, not_true_eq_false, not_false_eq_true, true_imp_iff, false_imp_iff, Int.toNat_natCast, lit_a, Nat.reduceAdd, or_true, true_or, or_false, false_or, Int.reduceEq, Int.reduceNe, Int.reduceLT, Int.reduceLE, Int.reduceNeg, sg_nil, s1p, x0, x1, x2, x3, x4, x5, x6, x7, x8, x9, x10, x11, x12, x13, x56, x57, x388, x389, x390, x391, x392, x393, x394, x395, x396, x397, x398, x399]
  refine k_Sta_hasListener st1 hR hz hl (fun h1 h2 => ?_) (fun h0 => ?_)
  · obtain ⟨n, rfl⟩ := nat_of h1
    have nn := nw_eq hz h2
    have W := wO_W hz h2
    refine wp_go b56_8 ?_; simp only [l56_8, sg_if_ne, sg_iconst, sg_iret0, nLg_n, nLg_i, nLg_r, tc_c, tc_l, tc_r, tc_m, tc_n, tc_o, tc_0, inR, true_and, and_true, ne_eq, not_true_eq_false, not_false_eq_true, true_imp_iff, false_imp_iff, Int.toNat_natCast, lit_a, Nat.reduceAdd, or_true, true_or, or_false, false_or, Int.reduceEq, Int.reduceNe, Int.reduceLT, Int.reduceLE, Int.reduceNeg, sg_nil]
    repeat' (first | with_reducible apply And.intro | intro _)
    all_goals (try omega)
    refine wp_go b56_13 ?_; simp only [l56_13, sg_iload_2, sg_iconst, sg_sipush, len4_0, len4_1, len4_2, len4_3, len4_4, sg_is3_1, nLg_n, nLg_i, nLg_r, tc_c, tc_l, tc_r, tc_m, tc_n, tc_o, tc_0, inR, true_and, and_true, ne_eq, not_true_eq_false, not_false_eq_true, true_imp_iff, false_imp_iff, Int.toNat_natCast, lit_a, Nat.reduceAdd, or_true, true_or, or_false, false_or, Int.reduceEq, Int.reduceNe, Int.reduceLT, Int.reduceLE, Int.reduceNeg, sg_nil]
    refine k_NS_isWithin ht (by unfold inR; omega) (by unfold inR; omega) (fun g1 g2 => ?_) (fun g0 => ?_)
    · refine wp_go b56_21 ?_; simp only [l56_21, sg_if_ne, sg_bipush, sg_iret0, nLg_n, nLg_i, nLg_r, tc_c, tc_l, tc_r, tc_m, tc_n, tc_o, tc_0, inR, true_and, and_true, ne_eq, not_true_eq_false, not_false_eq_true, true_imp_iff, false_imp_iff, Int.toNat_natCast, lit_a, Nat.reduceAdd, or_true, true_or, or_false, false_or, Int.reduceEq, Int.reduceNe, Int.reduceLT, Int.reduceLE, Int.reduceNeg, sg_nil]
      repeat' (first | with_reducible apply And.intro | intro _)
      all_goals (try omega)
      refine wp_go b56_27 ?_; simp only [l56_27, sg_aload_0, sg_iload_1, sg_iv2_r, len4_0, len4_1, len4_2, len4_3, len4_4, nLg_n, nLg_i, nLg_r, tc_c, tc_l, tc_r, tc_m, tc_n, tc_o, tc_0, inR, true_and, and_true, ne_eq, not_true_eq_false, not_false_eq_true, true_imp_iff, false_imp_iff, Int.toNat_natCast, lit_a, Nat.reduceAdd, or_true, true_or, or_false, false_or, Int.reduceEq, Int.reduceNe, Int.reduceLT, Int.reduceLE, Int.reduceNeg, sg_nil, s1p, x0, x1, x2, x3, x4, x5, x6, x7, x8, x9, x10, x11, x12, x13, x56, x57, x388, x389, x390, x391, x392, x393, x394, x395, x396, x397, x398, x399]
      refine k_NS_hearingOf hz hR h2 (fun μ' c f H hH _ _ => ?_)
      have h := hq μ' (QF_s hz hR f)
      obtain ⟨a0, a1, a2, a3, a4, a5, a6, p0, p1, p2, p3, p4, p5⟩ := heaF hH
      refine wp_go b56_32 ?_; simp only [l56_32, sg_astore_3, sg_aload_3, sg_getfp, sg_iload_2, sg_iv2_i, len4_0, len4_1, len4_2, len4_3, len4_4, nLg_n, nLg_i, nLg_r, tc_c, tc_l, tc_r, tc_m, tc_n, tc_o, tc_0, inR, true_and, and_true, ne_eq, not_true_eq_false, not_false_eq_true, true_imp_iff, false_imp_iff, Int.toNat_natCast, lit_a, Nat.reduceAdd, or_true, true_or, or_false, false_or, Int.reduceEq, Int.reduceNe, Int.reduceLT, Int.reduceLE, Int.reduceNeg, sg_nil, a0, a1, a2, a3, a4, a5, a6, p0, p1, p2, p3, p4, p5]
      refine k_Sen_placeAtTime hH.2.1 (n := nw z n) (H.1.trans nn.1) nn.2.2 (fun i hi => ?_) ht ?_
      · have r := (W.2.1 i (by omega)).2.1
        rw [show μ' (c + 1 + 2) i = wO z n (5 * i + 4) from (H.2 i (by omega)).2.1]; omega
      · have e1 : fsI (fun i => decide (t < sm (μ' (c + 1 + 2)) (i + 1))) (-6) (nw z n) = pAt (wO z n) (nw z n) t := fsI_c (fun i hi => by simp only [h_len H (show ((i + 1 : Nat) : Int) ≤ wO z n 0 by omega)])
        rw [e1]
        rcases fsI_in (fun i => decide (t < sm (wl4 (wO z n)) (i + 1))) (-6) (nw z n) with e2 | ⟨i, i1, i2, i3⟩
        · have e2 : pAt (wO z n) (nw z n) t = -6 := e2
          rw [e2]
          have h : Q (.inl (-6)) μ' := by
            unfold F_whenHeard at h
            rw [if_neg (by omega), if_neg (by omega), Int.toNat_natCast, if_pos e2] at h
            exact h
          refine wp_go b56_41 ?_; simp only [l56_41, sg_istore, okS_4, stL_4, sg_iload, ldI_4, sg_bipush, sg_ic_ne, sg_iret0, nLg_n, nLg_i, nLg_r, tc_c, tc_l, tc_r, tc_m, tc_n, tc_o, tc_0, inR, true_and, and_true, ne_eq, not_true_eq_false, not_false_eq_true, true_imp_iff, false_imp_iff, Int.toNat_natCast, lit_a, Nat.reduceAdd, or_true, true_or, or_false, false_or, Int.reduceEq, Int.reduceNe, Int.reduceLT, Int.reduceLE, Int.reduceNeg, sg_nil]
          repeat' (first | with_reducible apply And.intro | (intro _) | ((first | refine wp_go b56_0 ?_ | refine wp_go b56_8 ?_ | refine wp_go b56_13 ?_ | refine wp_go b56_21 ?_ | refine wp_go b56_27 ?_ | refine wp_go b56_32 ?_ | refine wp_go b56_41 ?_ | refine wp_go b56_53 ?_ | refine wp_go b56_59 ?_ | refine wp_go b56_70 ?_); simp only [l56_0, l56_8, l56_13, l56_21, l56_27, l56_32, l56_41, l56_53, l56_59, l56_70, sg_aload_0, sg_getfp, sg_iload_1, sg_iv2_i, len4_0, len4_1, len4_2, len4_3, len4_4, sg_if_ne, sg_iconst, sg_iret0, sg_iload_2, sg_sipush, sg_is3_1, sg_bipush, sg_iv2_r, sg_astore_3, sg_aload_3, sg_istore, okS_4, stL_4, sg_iload, ldI_4, sg_ic_ne, sg_iadd, sg_isub, nLg_n, nLg_i, nLg_r, tc_c, tc_l, tc_r, tc_m, tc_n, tc_o, tc_0, inR, true_and, and_true, ne_eq, not_true_eq_false, not_false_eq_true, true_imp_iff, false_imp_iff, Int.toNat_natCast, lit_a, Nat.reduceAdd, or_true, true_or, or_false, false_or, Int.reduceEq, Int.reduceNe, Int.reduceLT, Int.reduceLE, Int.reduceNeg, sg_nil]))
          all_goals (try omega)
          all_goals exact h
        · have e2 : pAt (wO z n) (nw z n) t = (i : Int) := i2
          rw [e2]
          have h : Q (.inl (t + sm (fun i => wO z n (5 * i + 2)) (i + 1))) μ' := by
            unfold F_whenHeard at h
            rw [if_neg (by omega), if_neg (by omega), Int.toNat_natCast, e2, if_neg (by omega)] at h
            exact h
          refine wp_go b56_41 ?_; simp only [l56_41, sg_istore, okS_4, stL_4, sg_iload, ldI_4, sg_bipush, sg_ic_ne, sg_iret0, nLg_n, nLg_i, nLg_r, tc_c, tc_l, tc_r, tc_m, tc_n, tc_o, tc_0, inR, true_and, and_true, ne_eq, not_true_eq_false, not_false_eq_true, true_imp_iff, false_imp_iff, Int.toNat_natCast, lit_a, Nat.reduceAdd, or_true, true_or, or_false, false_or, Int.reduceEq, Int.reduceNe, Int.reduceLT, Int.reduceLE, Int.reduceNeg, sg_nil]
          repeat' (first | with_reducible apply And.intro | intro _)
          all_goals (try omega)
          refine wp_go b56_53 ?_; simp only [l56_53, sg_aload_3, sg_iload, ldI_4, sg_iv2_i, len4_0, len4_1, len4_2, len4_3, len4_4, nLg_n, nLg_i, nLg_r, tc_c, tc_l, tc_r, tc_m, tc_n, tc_o, tc_0, inR, true_and, and_true, ne_eq, not_true_eq_false, not_false_eq_true, true_imp_iff, false_imp_iff, Int.toNat_natCast, lit_a, Nat.reduceAdd, or_true, true_or, or_false, false_or, Int.reduceEq, Int.reduceNe, Int.reduceLT, Int.reduceLE, Int.reduceNeg, sg_nil, hH.1]
          refine k_Hea_sentenceTime hH H (by omega) (by omega) ?_
          refine wp_go b56_59 ?_; simp only [l56_59, sg_iload_2, sg_iadd, sg_aload_3, sg_getfp, sg_iload, ldI_4, sg_iv2_i, len4_0, len4_1, len4_2, len4_3, len4_4, nLg_n, nLg_i, nLg_r, tc_c, tc_l, tc_r, tc_m, tc_n, tc_o, tc_0, inR, true_and, and_true, ne_eq, not_true_eq_false, not_false_eq_true, true_imp_iff, false_imp_iff, Int.toNat_natCast, lit_a, Nat.reduceAdd, or_true, true_or, or_false, false_or, Int.reduceEq, Int.reduceNe, Int.reduceLT, Int.reduceLE, Int.reduceNeg, sg_nil, a0, a1, a2, a3, a4, a5, a6, p0, p1, p2, p3, p4, p5]
          refine k_Sen_timeOf hH.2.1 (by omega) ?_
          rw [h_len H (by omega)]
          have e3 : bt (wO z n) i + wO z n (5 * i + 2) + t - sm (wl4 (wO z n)) i = t + sm (fun i => wO z n (5 * i + 2)) (i + 1) := by
            rw [sm_s]; unfold bt wl4; omega
          refine wp_go b56_70 ?_; simp only [l56_70, sg_isub, sg_iret0, nLg_n, nLg_i, nLg_r, tc_c, tc_l, tc_r, tc_m, tc_n, tc_o, tc_0, inR, true_and, and_true, ne_eq, not_true_eq_false, not_false_eq_true, true_imp_iff, false_imp_iff, Int.toNat_natCast, lit_a, Nat.reduceAdd, or_true, true_or, or_false, false_or, Int.reduceEq, Int.reduceNe, Int.reduceLT, Int.reduceLE, Int.reduceNeg, sg_nil, e3]
          exact h
    · refine wp_go b56_21 ?_; simp only [l56_21, sg_if_ne, sg_bipush, sg_iret0, nLg_n, nLg_i, nLg_r, tc_c, tc_l, tc_r, tc_m, tc_n, tc_o, tc_0, inR, true_and, and_true, ne_eq, not_true_eq_false, not_false_eq_true, true_imp_iff, false_imp_iff, Int.toNat_natCast, lit_a, Nat.reduceAdd, or_true, true_or, or_false, false_or, Int.reduceEq, Int.reduceNe, Int.reduceLT, Int.reduceLE, Int.reduceNeg, sg_nil]
      repeat' (first | with_reducible apply And.intro | (intro _) | ((first | refine wp_go b56_0 ?_ | refine wp_go b56_8 ?_ | refine wp_go b56_13 ?_ | refine wp_go b56_21 ?_ | refine wp_go b56_27 ?_ | refine wp_go b56_32 ?_ | refine wp_go b56_41 ?_ | refine wp_go b56_53 ?_ | refine wp_go b56_59 ?_ | refine wp_go b56_70 ?_); simp only [l56_0, l56_8, l56_13, l56_21, l56_27, l56_32, l56_41, l56_53, l56_59, l56_70, sg_aload_0, sg_getfp, sg_iload_1, sg_iv2_i, len4_0, len4_1, len4_2, len4_3, len4_4, sg_if_ne, sg_iconst, sg_iret0, sg_iload_2, sg_sipush, sg_is3_1, sg_bipush, sg_iv2_r, sg_astore_3, sg_aload_3, sg_istore, okS_4, stL_4, sg_iload, ldI_4, sg_ic_ne, sg_iadd, sg_isub, nLg_n, nLg_i, nLg_r, tc_c, tc_l, tc_r, tc_m, tc_n, tc_o, tc_0, inR, true_and, and_true, ne_eq, not_true_eq_false, not_false_eq_true, true_imp_iff, false_imp_iff, Int.toNat_natCast, lit_a, Nat.reduceAdd, or_true, true_or, or_false, false_or, Int.reduceEq, Int.reduceNe, Int.reduceLT, Int.reduceLE, Int.reduceNeg, sg_nil]))
      all_goals (try omega)
      all_goals (revert h; unfold F_whenHeard; (try simp only [Int.toNat_natCast]); (repeat (first | rw [if_neg (by omega)] | rw [if_pos (by omega)])); exact id)
  · refine wp_go b56_8 ?_; simp only [l56_8, sg_if_ne, sg_iconst, sg_iret0, nLg_n, nLg_i, nLg_r, tc_c, tc_l, tc_r, tc_m, tc_n, tc_o, tc_0, inR, true_and, and_true, ne_eq, not_true_eq_false, not_false_eq_true, true_imp_iff, false_imp_iff, Int.toNat_natCast, lit_a, Nat.reduceAdd, or_true, true_or, or_false, false_or, Int.reduceEq, Int.reduceNe, Int.reduceLT, Int.reduceLE, Int.reduceNeg, sg_nil]
    repeat' (first | with_reducible apply And.intro | (intro _) | ((first | refine wp_go b56_0 ?_ | refine wp_go b56_8 ?_ | refine wp_go b56_13 ?_ | refine wp_go b56_21 ?_ | refine wp_go b56_27 ?_ | refine wp_go b56_32 ?_ | refine wp_go b56_41 ?_ | refine wp_go b56_53 ?_ | refine wp_go b56_59 ?_ | refine wp_go b56_70 ?_); simp only [l56_0, l56_8, l56_13, l56_21, l56_27, l56_32, l56_41, l56_53, l56_59, l56_70, sg_aload_0, sg_getfp, sg_iload_1, sg_iv2_i, len4_0, len4_1, len4_2, len4_3, len4_4, sg_if_ne, sg_iconst, sg_iret0, sg_iload_2, sg_sipush, sg_is3_1, sg_bipush, sg_iv2_r, sg_astore_3, sg_aload_3, sg_istore, okS_4, stL_4, sg_iload, ldI_4, sg_ic_ne, sg_iadd, sg_isub, nLg_n, nLg_i, nLg_r, tc_c, tc_l, tc_r, tc_m, tc_n, tc_o, tc_0, inR, true_and, and_true, ne_eq, not_true_eq_false, not_false_eq_true, true_imp_iff, false_imp_iff, Int.toNat_natCast, lit_a, Nat.reduceAdd, or_true, true_or, or_false, false_or, Int.reduceEq, Int.reduceNe, Int.reduceLT, Int.reduceLE, Int.reduceNeg, sg_nil, s1p, x0, x1, x2, x3, x4, x5, x6, x7, x8, x9, x10, x11, x12, x13, x56, x57, x388, x389, x390, x391, x392, x393, x394, x395, x396, x397, x398, x399]))
    all_goals (try omega)
    all_goals (revert h; unfold F_whenHeard; (try simp only [Int.toNat_natCast]); (repeat (first | rw [if_neg (by omega)] | rw [if_pos (by omega)])); exact id)
def pHt (w : Rw) (n : Nat) (t : Int) : Int := fsI (fun i => decide (t < ht w (i + 1))) (-6) n
/-- the time of the sentence at place p -/
def sT (w : Rw) (p : Nat) : Int := bt w p + w (5 * p + 2)
theorem sT_b {w : Rw} (hW : WH w) {p : Nat} (hp : (p : Int) < w 0) : 0 ≤ sT w p ∧ sT w p ≤ 10080 := by
  have b := bt_b hW (p := p) (by omega)
  have q := hW.nt hp
  have := hW.1
  unfold sT; omega
def F_heardAt (z : Rw) (l t x : Int) : Int := if l < 0 ∨ z 3 ≤ l then -1 else if (t < 0 ∨ 9999 < t) ∨ (x < 0 ∨ 3 < x) then -2 else if pHt (wO z l.toNat) (nw z l.toNat) t = -6 then -5 else
  if x = 0 then (if t < sT (wO z l.toNat) (pHt (wO z l.toNat) (nw z l.toNat) t).toNat then -6 else sm (wl4 (wO z l.toNat)) (pHt (wO z l.toNat) (nw z l.toNat) t).toNat + (t - sT (wO z l.toNat) (pHt (wO z l.toNat) (nw z l.toNat) t).toNat))
  else if x = 1 then (if t < sT (wO z l.toNat) (pHt (wO z l.toNat) (nw z l.toNat) t).toNat then wO z l.toNat (5 * (pHt (wO z l.toNat) (nw z l.toNat) t).toNat + 1) else -6)
  else if x = 2 then pHt (wO z l.toNat) (nw z l.toNat) t
  else sm (wb (wO z l.toNat)) ((pHt (wO z l.toNat) (nw z l.toNat) t).toNat + 1) - 1
-- NS.heardAt: blocks [0, 8, 13, 21, 30, 33, 36, 41, 49, 61, 69, 81, 82, 112, 122, 132, 135, 136, 152, 154, 155, 158, 168]
theorem k_NS_heardAt {d : Nat} {Q : QT} {μ : Mem} {l t x : Int} {z : Rw} (hz : IZ z) (hR : RC z μ 1) (hl : inR l) (ht1 : inR t) (hx : inR x) (hq : ∀ μ', QF z μ μ' → Q (.inl (F_heardAt z l t x)) μ') : Call σ1 (d + 5) 57 [.inr (.inr 0), .inl l, .inl t, .inl x] μ Q := by
  refine e_57 ?_
  have h := hq μ (QF_r hR)
  have q := hz.1
  refine wp_go b57_0 ?_; simp only [l57_0, sg_aload_0, sg_getfp, sg_iload_1, sg_iv2_i, len4_0, len4_1, len4_2, len4_3, len4_4, nLg_n, nLg_i, nLg_r, tc_c, tc_l, tc_r, tc_m, tc_n, tc_o, tc_0, inR, true_and, and_true, ne_eq, not_true_eq_false, not_false_eq_true, true_imp_iff, false_imp_iff, Int.toNat_natCast, lit_a, Nat.reduceAdd, or_true, true_or, or_false, false_or, Int.reduceEq, Int.reduceNe, Int.reduceLT, Int.reduceLE, Int.reduceNeg, sg_nil, s1p, x0, x1, x2, x3, x4, x5, x6, x7, x8, x9, x10, x11, x12, x13, x56, x57, x388, x389, x390, x391, x392, x393, x394, x395, x396, x397, x398, x399]
  refine k_Sta_hasListener st1 hR hz hl (fun h1 h2 => ?_) (fun h0 => ?_)
  · obtain ⟨n, rfl⟩ := nat_of h1
    have nn := nw_eq hz h2
    have W := wO_W hz h2
    refine wp_go b57_8 ?_; simp only [l57_8, sg_if_ne, sg_iconst, sg_iret0, nLg_n, nLg_i, nLg_r, tc_c, tc_l, tc_r, tc_m, tc_n, tc_o, tc_0, inR, true_and, and_true, ne_eq, not_true_eq_false, not_false_eq_true, true_imp_iff, false_imp_iff, Int.toNat_natCast, lit_a, Nat.reduceAdd, or_true, true_or, or_false, false_or, Int.reduceEq, Int.reduceNe, Int.reduceLT, Int.reduceLE, Int.reduceNeg, sg_nil]
    repeat' (first | with_reducible apply And.intro | intro _)
    all_goals (try omega)
    refine wp_go b57_13 ?_; simp only [l57_13, sg_iload_2, sg_iconst, sg_sipush, len4_0, len4_1, len4_2, len4_3, len4_4, sg_is3_1, nLg_n, nLg_i, nLg_r, tc_c, tc_l, tc_r, tc_m, tc_n, tc_o, tc_0, inR, true_and, and_true, ne_eq, not_true_eq_false, not_false_eq_true, true_imp_iff, false_imp_iff, Int.toNat_natCast, lit_a, Nat.reduceAdd, or_true, true_or, or_false, false_or, Int.reduceEq, Int.reduceNe, Int.reduceLT, Int.reduceLE, Int.reduceNeg, sg_nil]
    refine k_NS_isWithin ht1 (by unfold inR; omega) (by unfold inR; omega) (fun g1 g2 => ?_) (fun g0 => ?_)
    · refine wp_go b57_21 ?_; simp only [l57_21, sg_if_eq, sg_iload_3, sg_iconst, len4_0, len4_1, len4_2, len4_3, len4_4, sg_is3_1, nLg_n, nLg_i, nLg_r, tc_c, tc_l, tc_r, tc_m, tc_n, tc_o, tc_0, inR, true_and, and_true, ne_eq, not_true_eq_false, not_false_eq_true, true_imp_iff, false_imp_iff, Int.toNat_natCast, lit_a, Nat.reduceAdd, or_true, true_or, or_false, false_or, Int.reduceEq, Int.reduceNe, Int.reduceLT, Int.reduceLE, Int.reduceNeg, sg_nil]
      repeat' (first | with_reducible apply And.intro | intro _)
      all_goals (try omega)
      refine k_NS_isWithin hx (by unfold inR; omega) (by unfold inR; omega) (fun y1 y2 => ?_) (fun y0 => ?_)
      · refine wp_go b57_30 ?_; simp only [l57_30, sg_if_ne, nLg_n, nLg_i, nLg_r, tc_c, tc_l, tc_r, tc_m, tc_n, tc_o, tc_0, inR, true_and, and_true, ne_eq, not_true_eq_false, not_false_eq_true, true_imp_iff, false_imp_iff, Int.toNat_natCast, lit_a, Nat.reduceAdd, or_true, true_or, or_false, false_or, Int.reduceEq, Int.reduceNe, Int.reduceLT, Int.reduceLE, Int.reduceNeg, sg_nil]
        repeat' (first | with_reducible apply And.intro | intro _)
        all_goals (try omega)
        refine wp_go b57_36 ?_; simp only [l57_36, sg_aload_0, sg_iload_1, sg_iv2_r, len4_0, len4_1, len4_2, len4_3, len4_4, nLg_n, nLg_i, nLg_r, tc_c, tc_l, tc_r, tc_m, tc_n, tc_o, tc_0, inR, true_and, and_true, ne_eq, not_true_eq_false, not_false_eq_true, true_imp_iff, false_imp_iff, Int.toNat_natCast, lit_a, Nat.reduceAdd, or_true, true_or, or_false, false_or, Int.reduceEq, Int.reduceNe, Int.reduceLT, Int.reduceLE, Int.reduceNeg, sg_nil, s1p, x0, x1, x2, x3, x4, x5, x6, x7, x8, x9, x10, x11, x12, x13, x56, x57, x388, x389, x390, x391, x392, x393, x394, x395, x396, x397, x398, x399]
        refine k_NS_hearingOf hz hR h2 (fun μ' c f H hH _ _ => ?_)
        have h := hq μ' (QF_s hz hR f)
        obtain ⟨a0, a1, a2, a3, a4, a5, a6, p0, p1, p2, p3, p4, p5⟩ := heaF hH
        unfold F_heardAt at h
        rw [if_neg (by omega), if_neg (by omega), Int.toNat_natCast] at h
        refine wp_go b57_41 ?_; simp only [l57_41, sg_astore, okS_4, stL_4, sg_aload, ldR_4, sg_iload_2, sg_iv2_i, len4_0, len4_1, len4_2, len4_3, len4_4, nLg_n, nLg_i, nLg_r, tc_c, tc_l, tc_r, tc_m, tc_n, tc_o, tc_0, inR, true_and, and_true, ne_eq, not_true_eq_false, not_false_eq_true, true_imp_iff, false_imp_iff, Int.toNat_natCast, lit_a, Nat.reduceAdd, or_true, true_or, or_false, false_or, Int.reduceEq, Int.reduceNe, Int.reduceLT, Int.reduceLE, Int.reduceNeg, sg_nil, hH.1]
        refine k_Hea_placeHeardAt hH H W nn.1 ht1 ?_
        rcases fsI_in (fun i => decide (t < ht (wO z n) (i + 1))) (-6) (nw z n) with e2 | ⟨i, i1, i2, i3⟩
        · rw [e2]
          have e2 : pHt (wO z n) (nw z n) t = -6 := e2
          rw [if_pos e2] at h
          refine wp_go b57_49 ?_; simp only [l57_49, sg_istore, okS_5, stL_5, sg_iload, ldI_5, sg_bipush, sg_ic_ne, sg_iret0, nLg_n, nLg_i, nLg_r, tc_c, tc_l, tc_r, tc_m, tc_n, tc_o, tc_0, inR, true_and, and_true, ne_eq, not_true_eq_false, not_false_eq_true, true_imp_iff, false_imp_iff, Int.toNat_natCast, lit_a, Nat.reduceAdd, or_true, true_or, or_false, false_or, Int.reduceEq, Int.reduceNe, Int.reduceLT, Int.reduceLE, Int.reduceNeg, sg_nil]
          repeat' (first | with_reducible apply And.intro | (intro _) | ((first | refine wp_go b57_0 ?_ | refine wp_go b57_8 ?_ | refine wp_go b57_13 ?_ | refine wp_go b57_21 ?_ | refine wp_go b57_30 ?_ | refine wp_go b57_33 ?_ | refine wp_go b57_36 ?_ | refine wp_go b57_41 ?_ | refine wp_go b57_49 ?_ | refine wp_go b57_61 ?_ | refine wp_go b57_69 ?_ | refine wp_go b57_81 ?_ | refine wp_go b57_82 ?_ | refine wp_go b57_112 ?_ | refine wp_go b57_122 ?_ | refine wp_go b57_132 ?_ | refine wp_go b57_135 ?_ | refine wp_go b57_136 ?_ | refine wp_go b57_152 ?_ | refine wp_go b57_154 ?_ | refine wp_go b57_155 ?_ | refine wp_go b57_158 ?_ | refine wp_go b57_168 ?_); simp only [l57_0, l57_8, l57_13, l57_21, l57_30, l57_33, l57_36, l57_41, l57_49, l57_61, l57_69, l57_81, l57_82, l57_112, l57_122, l57_132, l57_135, l57_136, l57_152, l57_154, l57_155, l57_158, l57_168, sg_aload_0, sg_getfp, sg_iload_1, sg_iv2_i, len4_0, len4_1, len4_2, len4_3, len4_4, sg_if_ne, sg_iconst, sg_iret0, sg_iload_2, sg_sipush, sg_is3_1, sg_if_eq, sg_iload_3, sg_bipush, sg_iv2_r, sg_astore, okS_4, stL_4, sg_aload, ldR_4, sg_istore, okS_5, stL_5, sg_iload, ldI_5, sg_ic_ne, sg_isub, okS_6, stL_6, ldI_6, sg_if_ge, sg_goto, okS_7, stL_7, sg_tsw, swc_n, swc_c, List.toList_toArray, Int.reduceAdd, Int.reduceToNat, ldI_7, sg_iadd, sg_iaload, nLg_n, nLg_i, nLg_r, tc_c, tc_l, tc_r, tc_m, tc_n, tc_o, tc_0, inR, true_and, and_true, ne_eq, not_true_eq_false, not_false_eq_true, true_imp_iff, false_imp_iff, Int.toNat_natCast, lit_a, Nat.reduceAdd, or_true, true_or, or_false, false_or, Int.reduceEq, Int.reduceNe, Int.reduceLT, Int.reduceLE, Int.reduceNeg, sg_nil]))
          all_goals (try omega)
          all_goals exact h
        · rw [i2]
          have e2 : pHt (wO z n) (nw z n) t = (i : Int) := i2
          rw [e2, if_neg (by omega), Int.toNat_natCast] at h
          have sb := sT_b W (p := i) (by omega)
          have eno := (H.2 i (by omega)).2.2.2.1
          refine wp_go b57_49 ?_; simp only [l57_49, sg_istore, okS_5, stL_5, sg_iload, ldI_5, sg_bipush, sg_ic_ne, sg_iret0, nLg_n, nLg_i, nLg_r, tc_c, tc_l, tc_r, tc_m, tc_n, tc_o, tc_0, inR, true_and, and_true, ne_eq, not_true_eq_false, not_false_eq_true, true_imp_iff, false_imp_iff, Int.toNat_natCast, lit_a, Nat.reduceAdd, or_true, true_or, or_false, false_or, Int.reduceEq, Int.reduceNe, Int.reduceLT, Int.reduceLE, Int.reduceNeg, sg_nil]
          repeat' (first | with_reducible apply And.intro | intro _)
          all_goals (try omega)
          refine wp_go b57_61 ?_; simp only [l57_61, sg_iload_2, sg_aload, ldR_4, sg_iload, ldI_5, sg_iv2_i, len4_0, len4_1, len4_2, len4_3, len4_4, nLg_n, nLg_i, nLg_r, tc_c, tc_l, tc_r, tc_m, tc_n, tc_o, tc_0, inR, true_and, and_true, ne_eq, not_true_eq_false, not_false_eq_true, true_imp_iff, false_imp_iff, Int.toNat_natCast, lit_a, Nat.reduceAdd, or_true, true_or, or_false, false_or, Int.reduceEq, Int.reduceNe, Int.reduceLT, Int.reduceLE, Int.reduceNeg, sg_nil, hH.1]
          refine k_Hea_sentenceTime hH H (by omega) (by omega) ?_
          have e3 : bt (wO z n) i + wO z n (5 * i + 2) = sT (wO z n) i := rfl
          rw [e3]
          have ex : x = 0 ∨ x = 1 ∨ x = 2 ∨ x = 3 := by omega
          by_cases hn : t < sT (wO z n) i
          · rw [if_pos hn, if_pos hn] at h
            rcases ex with rfl | rfl | rfl | rfl
            · refine wp_go b57_69 ?_; simp only [l57_69, sg_isub, sg_istore, okS_6, stL_6, sg_iload, ldI_6, sg_if_ge, sg_iconst, sg_goto, nLg_n, nLg_i, nLg_r, tc_c, tc_l, tc_r, tc_m, tc_n, tc_o, tc_0, inR, true_and, and_true, ne_eq, not_true_eq_false, not_false_eq_true, true_imp_iff, false_imp_iff, Int.toNat_natCast, lit_a, Nat.reduceAdd, or_true, true_or, or_false, false_or, Int.reduceEq, Int.reduceNe, Int.reduceLT, Int.reduceLE, Int.reduceNeg, sg_nil]
              repeat' (first | with_reducible apply And.intro | (intro _) | ((first | refine wp_go b57_0 ?_ | refine wp_go b57_8 ?_ | refine wp_go b57_13 ?_ | refine wp_go b57_21 ?_ | refine wp_go b57_30 ?_ | refine wp_go b57_33 ?_ | refine wp_go b57_36 ?_ | refine wp_go b57_41 ?_ | refine wp_go b57_49 ?_ | refine wp_go b57_61 ?_ | refine wp_go b57_69 ?_ | refine wp_go b57_81 ?_ | refine wp_go b57_82 ?_ | refine wp_go b57_112 ?_ | refine wp_go b57_122 ?_ | refine wp_go b57_132 ?_ | refine wp_go b57_135 ?_ | refine wp_go b57_136 ?_ | refine wp_go b57_152 ?_ | refine wp_go b57_154 ?_ | refine wp_go b57_155 ?_ | refine wp_go b57_158 ?_ | refine wp_go b57_168 ?_); simp only [l57_0, l57_8, l57_13, l57_21, l57_30, l57_33, l57_36, l57_41, l57_49, l57_61, l57_69, l57_81, l57_82, l57_112, l57_122, l57_132, l57_135, l57_136, l57_152, l57_154, l57_155, l57_158, l57_168, sg_aload_0, sg_getfp, sg_iload_1, sg_iv2_i, len4_0, len4_1, len4_2, len4_3, len4_4, sg_if_ne, sg_iconst, sg_iret0, sg_iload_2, sg_sipush, sg_is3_1, sg_if_eq, sg_iload_3, sg_bipush, sg_iv2_r, sg_astore, okS_4, stL_4, sg_aload, ldR_4, sg_istore, okS_5, stL_5, sg_iload, ldI_5, sg_ic_ne, sg_isub, okS_6, stL_6, ldI_6, sg_if_ge, sg_goto, okS_7, stL_7, sg_tsw, swc_n, swc_c, List.toList_toArray, Int.reduceAdd, Int.reduceToNat, ldI_7, sg_iadd, sg_iaload, nLg_n, nLg_i, nLg_r, tc_c, tc_l, tc_r, tc_m, tc_n, tc_o, tc_0, inR, true_and, and_true, ne_eq, not_true_eq_false, not_false_eq_true, true_imp_iff, false_imp_iff, Int.toNat_natCast, lit_a, Nat.reduceAdd, or_true, true_or, or_false, false_or, Int.reduceEq, Int.reduceNe, Int.reduceLT, Int.reduceLE, Int.reduceNeg, sg_nil, a0, a1, a2, a3, a4, a5, a6, p0, p1, p2, p3, p4, p5]))
              all_goals (try omega)
              all_goals exact h
            · refine wp_go b57_69 ?_; simp only [l57_69, sg_isub, sg_istore, okS_6, stL_6, sg_iload, ldI_6, sg_if_ge, sg_iconst, sg_goto, nLg_n, nLg_i, nLg_r, tc_c, tc_l, tc_r, tc_m, tc_n, tc_o, tc_0, inR, true_and, and_true, ne_eq, not_true_eq_false, not_false_eq_true, true_imp_iff, false_imp_iff, Int.toNat_natCast, lit_a, Nat.reduceAdd, or_true, true_or, or_false, false_or, Int.reduceEq, Int.reduceNe, Int.reduceLT, Int.reduceLE, Int.reduceNeg, sg_nil]
              repeat' (first | with_reducible apply And.intro | (intro _) | ((first | refine wp_go b57_0 ?_ | refine wp_go b57_8 ?_ | refine wp_go b57_13 ?_ | refine wp_go b57_21 ?_ | refine wp_go b57_30 ?_ | refine wp_go b57_33 ?_ | refine wp_go b57_36 ?_ | refine wp_go b57_41 ?_ | refine wp_go b57_49 ?_ | refine wp_go b57_61 ?_ | refine wp_go b57_69 ?_ | refine wp_go b57_81 ?_ | refine wp_go b57_82 ?_ | refine wp_go b57_112 ?_ | refine wp_go b57_122 ?_ | refine wp_go b57_132 ?_ | refine wp_go b57_135 ?_ | refine wp_go b57_136 ?_ | refine wp_go b57_152 ?_ | refine wp_go b57_154 ?_ | refine wp_go b57_155 ?_ | refine wp_go b57_158 ?_ | refine wp_go b57_168 ?_); simp only [l57_0, l57_8, l57_13, l57_21, l57_30, l57_33, l57_36, l57_41, l57_49, l57_61, l57_69, l57_81, l57_82, l57_112, l57_122, l57_132, l57_135, l57_136, l57_152, l57_154, l57_155, l57_158, l57_168, sg_aload_0, sg_getfp, sg_iload_1, sg_iv2_i, len4_0, len4_1, len4_2, len4_3, len4_4, sg_if_ne, sg_iconst, sg_iret0, sg_iload_2, sg_sipush, sg_is3_1, sg_if_eq, sg_iload_3, sg_bipush, sg_iv2_r, sg_astore, okS_4, stL_4, sg_aload, ldR_4, sg_istore, okS_5, stL_5, sg_iload, ldI_5, sg_ic_ne, sg_isub, okS_6, stL_6, ldI_6, sg_if_ge, sg_goto, okS_7, stL_7, sg_tsw, swc_n, swc_c, List.toList_toArray, Int.reduceAdd, Int.reduceToNat, ldI_7, sg_iadd, sg_iaload, nLg_n, nLg_i, nLg_r, tc_c, tc_l, tc_r, tc_m, tc_n, tc_o, tc_0, inR, true_and, and_true, ne_eq, not_true_eq_false, not_false_eq_true, true_imp_iff, false_imp_iff, Int.toNat_natCast, lit_a, Nat.reduceAdd, or_true, true_or, or_false, false_or, Int.reduceEq, Int.reduceNe, Int.reduceLT, Int.reduceLE, Int.reduceNeg, sg_nil, a0, a1, a2, a3, a4, a5, a6, p0, p1, p2, p3, p4, p5, eno]))
              all_goals (try omega)
              all_goals exact h
            · refine wp_go b57_69 ?_; simp only [l57_69, sg_isub, sg_istore, okS_6, stL_6, sg_iload, ldI_6, sg_if_ge, sg_iconst, sg_goto, nLg_n, nLg_i, nLg_r, tc_c, tc_l, tc_r, tc_m, tc_n, tc_o, tc_0, inR, true_and, and_true, ne_eq, not_true_eq_false, not_false_eq_true, true_imp_iff, false_imp_iff, Int.toNat_natCast, lit_a, Nat.reduceAdd, or_true, true_or, or_false, false_or, Int.reduceEq, Int.reduceNe, Int.reduceLT, Int.reduceLE, Int.reduceNeg, sg_nil]
              repeat' (first | with_reducible apply And.intro | (intro _) | ((first | refine wp_go b57_0 ?_ | refine wp_go b57_8 ?_ | refine wp_go b57_13 ?_ | refine wp_go b57_21 ?_ | refine wp_go b57_30 ?_ | refine wp_go b57_33 ?_ | refine wp_go b57_36 ?_ | refine wp_go b57_41 ?_ | refine wp_go b57_49 ?_ | refine wp_go b57_61 ?_ | refine wp_go b57_69 ?_ | refine wp_go b57_81 ?_ | refine wp_go b57_82 ?_ | refine wp_go b57_112 ?_ | refine wp_go b57_122 ?_ | refine wp_go b57_132 ?_ | refine wp_go b57_135 ?_ | refine wp_go b57_136 ?_ | refine wp_go b57_152 ?_ | refine wp_go b57_154 ?_ | refine wp_go b57_155 ?_ | refine wp_go b57_158 ?_ | refine wp_go b57_168 ?_); simp only [l57_0, l57_8, l57_13, l57_21, l57_30, l57_33, l57_36, l57_41, l57_49, l57_61, l57_69, l57_81, l57_82, l57_112, l57_122, l57_132, l57_135, l57_136, l57_152, l57_154, l57_155, l57_158, l57_168, sg_aload_0, sg_getfp, sg_iload_1, sg_iv2_i, len4_0, len4_1, len4_2, len4_3, len4_4, sg_if_ne, sg_iconst, sg_iret0, sg_iload_2, sg_sipush, sg_is3_1, sg_if_eq, sg_iload_3, sg_bipush, sg_iv2_r, sg_astore, okS_4, stL_4, sg_aload, ldR_4, sg_istore, okS_5, stL_5, sg_iload, ldI_5, sg_ic_ne, sg_isub, okS_6, stL_6, ldI_6, sg_if_ge, sg_goto, okS_7, stL_7, sg_tsw, swc_n, swc_c, List.toList_toArray, Int.reduceAdd, Int.reduceToNat, ldI_7, sg_iadd, sg_iaload, nLg_n, nLg_i, nLg_r, tc_c, tc_l, tc_r, tc_m, tc_n, tc_o, tc_0, inR, true_and, and_true, ne_eq, not_true_eq_false, not_false_eq_true, true_imp_iff, false_imp_iff, Int.toNat_natCast, lit_a, Nat.reduceAdd, or_true, true_or, or_false, false_or, Int.reduceEq, Int.reduceNe, Int.reduceLT, Int.reduceLE, Int.reduceNeg, sg_nil, a0, a1, a2, a3, a4, a5, a6, p0, p1, p2, p3, p4, p5]))
              all_goals (try omega)
              all_goals exact h
            · refine wp_go b57_69 ?_; simp only [l57_69, sg_isub, sg_istore, okS_6, stL_6, sg_iload, ldI_6, sg_if_ge, sg_iconst, sg_goto, nLg_n, nLg_i, nLg_r, tc_c, tc_l, tc_r, tc_m, tc_n, tc_o, tc_0, inR, true_and, and_true, ne_eq, not_true_eq_false, not_false_eq_true, true_imp_iff, false_imp_iff, Int.toNat_natCast, lit_a, Nat.reduceAdd, or_true, true_or, or_false, false_or, Int.reduceEq, Int.reduceNe, Int.reduceLT, Int.reduceLE, Int.reduceNeg, sg_nil]
              repeat' (first | with_reducible apply And.intro | (intro _) | refine k_Sen_chapterOf hH.2.1 (by omega) ?_ | ((first | refine wp_go b57_0 ?_ | refine wp_go b57_8 ?_ | refine wp_go b57_13 ?_ | refine wp_go b57_21 ?_ | refine wp_go b57_30 ?_ | refine wp_go b57_33 ?_ | refine wp_go b57_36 ?_ | refine wp_go b57_41 ?_ | refine wp_go b57_49 ?_ | refine wp_go b57_61 ?_ | refine wp_go b57_69 ?_ | refine wp_go b57_81 ?_ | refine wp_go b57_82 ?_ | refine wp_go b57_112 ?_ | refine wp_go b57_122 ?_ | refine wp_go b57_132 ?_ | refine wp_go b57_135 ?_ | refine wp_go b57_136 ?_ | refine wp_go b57_152 ?_ | refine wp_go b57_154 ?_ | refine wp_go b57_155 ?_ | refine wp_go b57_158 ?_ | refine wp_go b57_168 ?_); simp only [l57_0, l57_8, l57_13, l57_21, l57_30, l57_33, l57_36, l57_41, l57_49, l57_61, l57_69, l57_81, l57_82, l57_112, l57_122, l57_132, l57_135, l57_136, l57_152, l57_154, l57_155, l57_158, l57_168, sg_aload_0, sg_getfp, sg_iload_1, sg_iv2_i, len4_0, len4_1, len4_2, len4_3, len4_4, sg_if_ne, sg_iconst, sg_iret0, sg_iload_2, sg_sipush, sg_is3_1, sg_if_eq, sg_iload_3, sg_bipush, sg_iv2_r, sg_astore, okS_4, stL_4, sg_aload, ldR_4, sg_istore, okS_5, stL_5, sg_iload, ldI_5, sg_ic_ne, sg_isub, okS_6, stL_6, ldI_6, sg_if_ge, sg_goto, okS_7, stL_7, sg_tsw, swc_n, swc_c, List.toList_toArray, Int.reduceAdd, Int.reduceToNat, ldI_7, sg_iadd, sg_iaload, nLg_n, nLg_i, nLg_r, tc_c, tc_l, tc_r, tc_m, tc_n, tc_o, tc_0, inR, true_and, and_true, ne_eq, not_true_eq_false, not_false_eq_true, true_imp_iff, false_imp_iff, Int.toNat_natCast, lit_a, Nat.reduceAdd, or_true, true_or, or_false, false_or, Int.reduceEq, Int.reduceNe, Int.reduceLT, Int.reduceLE, Int.reduceNeg, sg_nil, a0, a1, a2, a3, a4, a5, a6, p0, p1, p2, p3, p4, p5]))
              all_goals (try omega)
              rw [h_bg1 H W (by omega)]
              exact h
          · rw [if_neg hn, if_neg hn] at h
            rcases ex with rfl | rfl | rfl | rfl
            · refine wp_go b57_69 ?_; simp only [l57_69, sg_isub, sg_istore, okS_6, stL_6, sg_iload, ldI_6, sg_if_ge, sg_iconst, sg_goto, nLg_n, nLg_i, nLg_r, tc_c, tc_l, tc_r, tc_m, tc_n, tc_o, tc_0, inR, true_and, and_true, ne_eq, not_true_eq_false, not_false_eq_true, true_imp_iff, false_imp_iff, Int.toNat_natCast, lit_a, Nat.reduceAdd, or_true, true_or, or_false, false_or, Int.reduceEq, Int.reduceNe, Int.reduceLT, Int.reduceLE, Int.reduceNeg, sg_nil]
              repeat' (first | with_reducible apply And.intro | (intro _) | refine k_Sen_timeOf hH.2.1 (by omega) ?_ | ((first | refine wp_go b57_0 ?_ | refine wp_go b57_8 ?_ | refine wp_go b57_13 ?_ | refine wp_go b57_21 ?_ | refine wp_go b57_30 ?_ | refine wp_go b57_33 ?_ | refine wp_go b57_36 ?_ | refine wp_go b57_41 ?_ | refine wp_go b57_49 ?_ | refine wp_go b57_61 ?_ | refine wp_go b57_69 ?_ | refine wp_go b57_81 ?_ | refine wp_go b57_82 ?_ | refine wp_go b57_112 ?_ | refine wp_go b57_122 ?_ | refine wp_go b57_132 ?_ | refine wp_go b57_135 ?_ | refine wp_go b57_136 ?_ | refine wp_go b57_152 ?_ | refine wp_go b57_154 ?_ | refine wp_go b57_155 ?_ | refine wp_go b57_158 ?_ | refine wp_go b57_168 ?_); simp only [l57_0, l57_8, l57_13, l57_21, l57_30, l57_33, l57_36, l57_41, l57_49, l57_61, l57_69, l57_81, l57_82, l57_112, l57_122, l57_132, l57_135, l57_136, l57_152, l57_154, l57_155, l57_158, l57_168, sg_aload_0, sg_getfp, sg_iload_1, sg_iv2_i, len4_0, len4_1, len4_2, len4_3, len4_4, sg_if_ne, sg_iconst, sg_iret0, sg_iload_2, sg_sipush, sg_is3_1, sg_if_eq, sg_iload_3, sg_bipush, sg_iv2_r, sg_astore, okS_4, stL_4, sg_aload, ldR_4, sg_istore, okS_5, stL_5, sg_iload, ldI_5, sg_ic_ne, sg_isub, okS_6, stL_6, ldI_6, sg_if_ge, sg_goto, okS_7, stL_7, sg_tsw, swc_n, swc_c, List.toList_toArray, Int.reduceAdd, Int.reduceToNat, ldI_7, sg_iadd, sg_iaload, nLg_n, nLg_i, nLg_r, tc_c, tc_l, tc_r, tc_m, tc_n, tc_o, tc_0, inR, true_and, and_true, ne_eq, not_true_eq_false, not_false_eq_true, true_imp_iff, false_imp_iff, Int.toNat_natCast, lit_a, Nat.reduceAdd, or_true, true_or, or_false, false_or, Int.reduceEq, Int.reduceNe, Int.reduceLT, Int.reduceLE, Int.reduceNeg, sg_nil, a0, a1, a2, a3, a4, a5, a6, p0, p1, p2, p3, p4, p5]))
              all_goals (try omega)
              rw [h_len H (by omega)]
              exact h
            · refine wp_go b57_69 ?_; simp only [l57_69, sg_isub, sg_istore, okS_6, stL_6, sg_iload, ldI_6, sg_if_ge, sg_iconst, sg_goto, nLg_n, nLg_i, nLg_r, tc_c, tc_l, tc_r, tc_m, tc_n, tc_o, tc_0, inR, true_and, and_true, ne_eq, not_true_eq_false, not_false_eq_true, true_imp_iff, false_imp_iff, Int.toNat_natCast, lit_a, Nat.reduceAdd, or_true, true_or, or_false, false_or, Int.reduceEq, Int.reduceNe, Int.reduceLT, Int.reduceLE, Int.reduceNeg, sg_nil]
              repeat' (first | with_reducible apply And.intro | (intro _) | ((first | refine wp_go b57_0 ?_ | refine wp_go b57_8 ?_ | refine wp_go b57_13 ?_ | refine wp_go b57_21 ?_ | refine wp_go b57_30 ?_ | refine wp_go b57_33 ?_ | refine wp_go b57_36 ?_ | refine wp_go b57_41 ?_ | refine wp_go b57_49 ?_ | refine wp_go b57_61 ?_ | refine wp_go b57_69 ?_ | refine wp_go b57_81 ?_ | refine wp_go b57_82 ?_ | refine wp_go b57_112 ?_ | refine wp_go b57_122 ?_ | refine wp_go b57_132 ?_ | refine wp_go b57_135 ?_ | refine wp_go b57_136 ?_ | refine wp_go b57_152 ?_ | refine wp_go b57_154 ?_ | refine wp_go b57_155 ?_ | refine wp_go b57_158 ?_ | refine wp_go b57_168 ?_); simp only [l57_0, l57_8, l57_13, l57_21, l57_30, l57_33, l57_36, l57_41, l57_49, l57_61, l57_69, l57_81, l57_82, l57_112, l57_122, l57_132, l57_135, l57_136, l57_152, l57_154, l57_155, l57_158, l57_168, sg_aload_0, sg_getfp, sg_iload_1, sg_iv2_i, len4_0, len4_1, len4_2, len4_3, len4_4, sg_if_ne, sg_iconst, sg_iret0, sg_iload_2, sg_sipush, sg_is3_1, sg_if_eq, sg_iload_3, sg_bipush, sg_iv2_r, sg_astore, okS_4, stL_4, sg_aload, ldR_4, sg_istore, okS_5, stL_5, sg_iload, ldI_5, sg_ic_ne, sg_isub, okS_6, stL_6, ldI_6, sg_if_ge, sg_goto, okS_7, stL_7, sg_tsw, swc_n, swc_c, List.toList_toArray, Int.reduceAdd, Int.reduceToNat, ldI_7, sg_iadd, sg_iaload, nLg_n, nLg_i, nLg_r, tc_c, tc_l, tc_r, tc_m, tc_n, tc_o, tc_0, inR, true_and, and_true, ne_eq, not_true_eq_false, not_false_eq_true, true_imp_iff, false_imp_iff, Int.toNat_natCast, lit_a, Nat.reduceAdd, or_true, true_or, or_false, false_or, Int.reduceEq, Int.reduceNe, Int.reduceLT, Int.reduceLE, Int.reduceNeg, sg_nil, a0, a1, a2, a3, a4, a5, a6, p0, p1, p2, p3, p4, p5, eno]))
              all_goals (try omega)
              all_goals exact h
            · refine wp_go b57_69 ?_; simp only [l57_69, sg_isub, sg_istore, okS_6, stL_6, sg_iload, ldI_6, sg_if_ge, sg_iconst, sg_goto, nLg_n, nLg_i, nLg_r, tc_c, tc_l, tc_r, tc_m, tc_n, tc_o, tc_0, inR, true_and, and_true, ne_eq, not_true_eq_false, not_false_eq_true, true_imp_iff, false_imp_iff, Int.toNat_natCast, lit_a, Nat.reduceAdd, or_true, true_or, or_false, false_or, Int.reduceEq, Int.reduceNe, Int.reduceLT, Int.reduceLE, Int.reduceNeg, sg_nil]
              repeat' (first | with_reducible apply And.intro | (intro _) | ((first | refine wp_go b57_0 ?_ | refine wp_go b57_8 ?_ | refine wp_go b57_13 ?_ | refine wp_go b57_21 ?_ | refine wp_go b57_30 ?_ | refine wp_go b57_33 ?_ | refine wp_go b57_36 ?_ | refine wp_go b57_41 ?_ | refine wp_go b57_49 ?_ | refine wp_go b57_61 ?_ | refine wp_go b57_69 ?_ | refine wp_go b57_81 ?_ | refine wp_go b57_82 ?_ | refine wp_go b57_112 ?_ | refine wp_go b57_122 ?_ | refine wp_go b57_132 ?_ | refine wp_go b57_135 ?_ | refine wp_go b57_136 ?_ | refine wp_go b57_152 ?_ | refine wp_go b57_154 ?_ | refine wp_go b57_155 ?_ | refine wp_go b57_158 ?_ | refine wp_go b57_168 ?_); simp only [l57_0, l57_8, l57_13, l57_21, l57_30, l57_33, l57_36, l57_41, l57_49, l57_61, l57_69, l57_81, l57_82, l57_112, l57_122, l57_132, l57_135, l57_136, l57_152, l57_154, l57_155, l57_158, l57_168, sg_aload_0, sg_getfp, sg_iload_1, sg_iv2_i, len4_0, len4_1, len4_2, len4_3, len4_4, sg_if_ne, sg_iconst, sg_iret0, sg_iload_2, sg_sipush, sg_is3_1, sg_if_eq, sg_iload_3, sg_bipush, sg_iv2_r, sg_astore, okS_4, stL_4, sg_aload, ldR_4, sg_istore, okS_5, stL_5, sg_iload, ldI_5, sg_ic_ne, sg_isub, okS_6, stL_6, ldI_6, sg_if_ge, sg_goto, okS_7, stL_7, sg_tsw, swc_n, swc_c, List.toList_toArray, Int.reduceAdd, Int.reduceToNat, ldI_7, sg_iadd, sg_iaload, nLg_n, nLg_i, nLg_r, tc_c, tc_l, tc_r, tc_m, tc_n, tc_o, tc_0, inR, true_and, and_true, ne_eq, not_true_eq_false, not_false_eq_true, true_imp_iff, false_imp_iff, Int.toNat_natCast, lit_a, Nat.reduceAdd, or_true, true_or, or_false, false_or, Int.reduceEq, Int.reduceNe, Int.reduceLT, Int.reduceLE, Int.reduceNeg, sg_nil, a0, a1, a2, a3, a4, a5, a6, p0, p1, p2, p3, p4, p5]))
              all_goals (try omega)
              all_goals exact h
            · refine wp_go b57_69 ?_; simp only [l57_69, sg_isub, sg_istore, okS_6, stL_6, sg_iload, ldI_6, sg_if_ge, sg_iconst, sg_goto, nLg_n, nLg_i, nLg_r, tc_c, tc_l, tc_r, tc_m, tc_n, tc_o, tc_0, inR, true_and, and_true, ne_eq, not_true_eq_false, not_false_eq_true, true_imp_iff, false_imp_iff, Int.toNat_natCast, lit_a, Nat.reduceAdd, or_true, true_or, or_false, false_or, Int.reduceEq, Int.reduceNe, Int.reduceLT, Int.reduceLE, Int.reduceNeg, sg_nil]
              repeat' (first | with_reducible apply And.intro | (intro _) | refine k_Sen_chapterOf hH.2.1 (by omega) ?_ | ((first | refine wp_go b57_0 ?_ | refine wp_go b57_8 ?_ | refine wp_go b57_13 ?_ | refine wp_go b57_21 ?_ | refine wp_go b57_30 ?_ | refine wp_go b57_33 ?_ | refine wp_go b57_36 ?_ | refine wp_go b57_41 ?_ | refine wp_go b57_49 ?_ | refine wp_go b57_61 ?_ | refine wp_go b57_69 ?_ | refine wp_go b57_81 ?_ | refine wp_go b57_82 ?_ | refine wp_go b57_112 ?_ | refine wp_go b57_122 ?_ | refine wp_go b57_132 ?_ | refine wp_go b57_135 ?_ | refine wp_go b57_136 ?_ | refine wp_go b57_152 ?_ | refine wp_go b57_154 ?_ | refine wp_go b57_155 ?_ | refine wp_go b57_158 ?_ | refine wp_go b57_168 ?_); simp only [l57_0, l57_8, l57_13, l57_21, l57_30, l57_33, l57_36, l57_41, l57_49, l57_61, l57_69, l57_81, l57_82, l57_112, l57_122, l57_132, l57_135, l57_136, l57_152, l57_154, l57_155, l57_158, l57_168, sg_aload_0, sg_getfp, sg_iload_1, sg_iv2_i, len4_0, len4_1, len4_2, len4_3, len4_4, sg_if_ne, sg_iconst, sg_iret0, sg_iload_2, sg_sipush, sg_is3_1, sg_if_eq, sg_iload_3, sg_bipush, sg_iv2_r, sg_astore, okS_4, stL_4, sg_aload, ldR_4, sg_istore, okS_5, stL_5, sg_iload, ldI_5, sg_ic_ne, sg_isub, okS_6, stL_6, ldI_6, sg_if_ge, sg_goto, okS_7, stL_7, sg_tsw, swc_n, swc_c, List.toList_toArray, Int.reduceAdd, Int.reduceToNat, ldI_7, sg_iadd, sg_iaload, nLg_n, nLg_i, nLg_r, tc_c, tc_l, tc_r, tc_m, tc_n, tc_o, tc_0, inR, true_and, and_true, ne_eq, not_true_eq_false, not_false_eq_true, true_imp_iff, false_imp_iff, Int.toNat_natCast, lit_a, Nat.reduceAdd, or_true, true_or, or_false, false_or, Int.reduceEq, Int.reduceNe, Int.reduceLT, Int.reduceLE, Int.reduceNeg, sg_nil, a0, a1, a2, a3, a4, a5, a6, p0, p1, p2, p3, p4, p5]))
              all_goals (try omega)
              rw [h_bg1 H W (by omega)]
              exact h
      · refine wp_go b57_30 ?_; simp only [l57_30, sg_if_ne, nLg_n, nLg_i, nLg_r, tc_c, tc_l, tc_r, tc_m, tc_n, tc_o, tc_0, inR, true_and, and_true, ne_eq, not_true_eq_false, not_false_eq_true, true_imp_iff, false_imp_iff, Int.toNat_natCast, lit_a, Nat.reduceAdd, or_true, true_or, or_false, false_or, Int.reduceEq, Int.reduceNe, Int.reduceLT, Int.reduceLE, Int.reduceNeg, sg_nil]
        repeat' (first | with_reducible apply And.intro | (intro _) | ((first | refine wp_go b57_0 ?_ | refine wp_go b57_8 ?_ | refine wp_go b57_13 ?_ | refine wp_go b57_21 ?_ | refine wp_go b57_30 ?_ | refine wp_go b57_33 ?_ | refine wp_go b57_36 ?_ | refine wp_go b57_41 ?_ | refine wp_go b57_49 ?_ | refine wp_go b57_61 ?_ | refine wp_go b57_69 ?_ | refine wp_go b57_81 ?_ | refine wp_go b57_82 ?_ | refine wp_go b57_112 ?_ | refine wp_go b57_122 ?_ | refine wp_go b57_132 ?_ | refine wp_go b57_135 ?_ | refine wp_go b57_136 ?_ | refine wp_go b57_152 ?_ | refine wp_go b57_154 ?_ | refine wp_go b57_155 ?_ | refine wp_go b57_158 ?_ | refine wp_go b57_168 ?_); simp only [l57_0, l57_8, l57_13, l57_21, l57_30, l57_33, l57_36, l57_41, l57_49, l57_61, l57_69, l57_81, l57_82, l57_112, l57_122, l57_132, l57_135, l57_136, l57_152, l57_154, l57_155, l57_158, l57_168, sg_aload_0, sg_getfp, sg_iload_1, sg_iv2_i, len4_0, len4_1, len4_2, len4_3, len4_4, sg_if_ne, sg_iconst, sg_iret0, sg_iload_2, sg_sipush, sg_is3_1, sg_if_eq, sg_iload_3, sg_bipush, sg_iv2_r, sg_astore, okS_4, stL_4, sg_aload, ldR_4, sg_istore, okS_5, stL_5, sg_iload, ldI_5, sg_ic_ne, sg_isub, okS_6, stL_6, ldI_6, sg_if_ge, sg_goto, okS_7, stL_7, sg_tsw, swc_n, swc_c, List.toList_toArray, Int.reduceAdd, Int.reduceToNat, ldI_7, sg_iadd, sg_iaload, nLg_n, nLg_i, nLg_r, tc_c, tc_l, tc_r, tc_m, tc_n, tc_o, tc_0, inR, true_and, and_true, ne_eq, not_true_eq_false, not_false_eq_true, true_imp_iff, false_imp_iff, Int.toNat_natCast, lit_a, Nat.reduceAdd, or_true, true_or, or_false, false_or, Int.reduceEq, Int.reduceNe, Int.reduceLT, Int.reduceLE, Int.reduceNeg, sg_nil]))
        all_goals (try omega)
        all_goals (revert h; unfold F_heardAt; (try simp only [Int.toNat_natCast]); (repeat (first | rw [if_neg (by omega)] | rw [if_pos (by omega)])); exact id)
    · refine wp_go b57_21 ?_; simp only [l57_21, sg_if_eq, sg_iload_3, sg_iconst, len4_0, len4_1, len4_2, len4_3, len4_4, sg_is3_1, nLg_n, nLg_i, nLg_r, tc_c, tc_l, tc_r, tc_m, tc_n, tc_o, tc_0, inR, true_and, and_true, ne_eq, not_true_eq_false, not_false_eq_true, true_imp_iff, false_imp_iff, Int.toNat_natCast, lit_a, Nat.reduceAdd, or_true, true_or, or_false, false_or, Int.reduceEq, Int.reduceNe, Int.reduceLT, Int.reduceLE, Int.reduceNeg, sg_nil]
      repeat' (first | with_reducible apply And.intro | (intro _) | ((first | refine wp_go b57_0 ?_ | refine wp_go b57_8 ?_ | refine wp_go b57_13 ?_ | refine wp_go b57_21 ?_ | refine wp_go b57_30 ?_ | refine wp_go b57_33 ?_ | refine wp_go b57_36 ?_ | refine wp_go b57_41 ?_ | refine wp_go b57_49 ?_ | refine wp_go b57_61 ?_ | refine wp_go b57_69 ?_ | refine wp_go b57_81 ?_ | refine wp_go b57_82 ?_ | refine wp_go b57_112 ?_ | refine wp_go b57_122 ?_ | refine wp_go b57_132 ?_ | refine wp_go b57_135 ?_ | refine wp_go b57_136 ?_ | refine wp_go b57_152 ?_ | refine wp_go b57_154 ?_ | refine wp_go b57_155 ?_ | refine wp_go b57_158 ?_ | refine wp_go b57_168 ?_); simp only [l57_0, l57_8, l57_13, l57_21, l57_30, l57_33, l57_36, l57_41, l57_49, l57_61, l57_69, l57_81, l57_82, l57_112, l57_122, l57_132, l57_135, l57_136, l57_152, l57_154, l57_155, l57_158, l57_168, sg_aload_0, sg_getfp, sg_iload_1, sg_iv2_i, len4_0, len4_1, len4_2, len4_3, len4_4, sg_if_ne, sg_iconst, sg_iret0, sg_iload_2, sg_sipush, sg_is3_1, sg_if_eq, sg_iload_3, sg_bipush, sg_iv2_r, sg_astore, okS_4, stL_4, sg_aload, ldR_4, sg_istore, okS_5, stL_5, sg_iload, ldI_5, sg_ic_ne, sg_isub, okS_6, stL_6, ldI_6, sg_if_ge, sg_goto, okS_7, stL_7, sg_tsw, swc_n, swc_c, List.toList_toArray, Int.reduceAdd, Int.reduceToNat, ldI_7, sg_iadd, sg_iaload, nLg_n, nLg_i, nLg_r, tc_c, tc_l, tc_r, tc_m, tc_n, tc_o, tc_0, inR, true_and, and_true, ne_eq, not_true_eq_false, not_false_eq_true, true_imp_iff, false_imp_iff, Int.toNat_natCast, lit_a, Nat.reduceAdd, or_true, true_or, or_false, false_or, Int.reduceEq, Int.reduceNe, Int.reduceLT, Int.reduceLE, Int.reduceNeg, sg_nil]))
      all_goals (try omega)
      all_goals (revert h; unfold F_heardAt; (try simp only [Int.toNat_natCast]); (repeat (first | rw [if_neg (by omega)] | rw [if_pos (by omega)])); exact id)
  · refine wp_go b57_8 ?_; simp only [l57_8, sg_if_ne, sg_iconst, sg_iret0, nLg_n, nLg_i, nLg_r, tc_c, tc_l, tc_r, tc_m, tc_n, tc_o, tc_0, inR, true_and, and_true, ne_eq, not_true_eq_false, not_false_eq_true, true_imp_iff, false_imp_iff, Int.toNat_natCast, lit_a, Nat.reduceAdd, or_true, true_or, or_false, false_or, Int.reduceEq, Int.reduceNe, Int.reduceLT, Int.reduceLE, Int.reduceNeg, sg_nil]
    repeat' (first | with_reducible apply And.intro | (intro _) | ((first | refine wp_go b57_0 ?_ | refine wp_go b57_8 ?_ | refine wp_go b57_13 ?_ | refine wp_go b57_21 ?_ | refine wp_go b57_30 ?_ | refine wp_go b57_33 ?_ | refine wp_go b57_36 ?_ | refine wp_go b57_41 ?_ | refine wp_go b57_49 ?_ | refine wp_go b57_61 ?_ | refine wp_go b57_69 ?_ | refine wp_go b57_81 ?_ | refine wp_go b57_82 ?_ | refine wp_go b57_112 ?_ | refine wp_go b57_122 ?_ | refine wp_go b57_132 ?_ | refine wp_go b57_135 ?_ | refine wp_go b57_136 ?_ | refine wp_go b57_152 ?_ | refine wp_go b57_154 ?_ | refine wp_go b57_155 ?_ | refine wp_go b57_158 ?_ | refine wp_go b57_168 ?_); simp only [l57_0, l57_8, l57_13, l57_21, l57_30, l57_33, l57_36, l57_41, l57_49, l57_61, l57_69, l57_81, l57_82, l57_112, l57_122, l57_132, l57_135, l57_136, l57_152, l57_154, l57_155, l57_158, l57_168, sg_aload_0, sg_getfp, sg_iload_1, sg_iv2_i, len4_0, len4_1, len4_2, len4_3, len4_4, sg_if_ne, sg_iconst, sg_iret0, sg_iload_2, sg_sipush, sg_is3_1, sg_if_eq, sg_iload_3, sg_bipush, sg_iv2_r, sg_astore, okS_4, stL_4, sg_aload, ldR_4, sg_istore, okS_5, stL_5, sg_iload, ldI_5, sg_ic_ne, sg_isub, okS_6, stL_6, ldI_6, sg_if_ge, sg_goto, okS_7, stL_7, sg_tsw, swc_n, swc_c, List.toList_toArray, Int.reduceAdd, Int.reduceToNat, ldI_7, sg_iadd, sg_iaload, nLg_n, nLg_i, nLg_r, tc_c, tc_l, tc_r, tc_m, tc_n, tc_o, tc_0, inR, true_and, and_true, ne_eq, not_true_eq_false, not_false_eq_true, true_imp_iff, false_imp_iff, Int.toNat_natCast, lit_a, Nat.reduceAdd, or_true, true_or, or_false, false_or, Int.reduceEq, Int.reduceNe, Int.reduceLT, Int.reduceLE, Int.reduceNeg, sg_nil, s1p, x0, x1, x2, x3, x4, x5, x6, x7, x8, x9, x10, x11, x12, x13, x56, x57, x388, x389, x390, x391, x392, x393, x394, x395, x396, x397, x398, x399]))
    all_goals (try omega)
    all_goals (revert h; unfold F_heardAt; (try simp only [Int.toNat_natCast]); (repeat (first | rw [if_neg (by omega)] | rw [if_pos (by omega)])); exact id)
end
section
def F_chapterAt (z : Rw) (l c : Int) : Int := if l < 0 ∨ z 3 ≤ l then -1 else if c < 0 ∨ sm (wb (wO z l.toNat)) (nw z l.toNat) ≤ c then -1 else bt (wO z l.toNat) (fsI (fun i => decide (c < sm (wb (wO z l.toNat)) (i + 1))) 0 (nw z l.toNat)).toNat
theorem wb_b {w : Rw} (hW : WH w) {p : Nat} (hp : (p : Int) ≤ w 0) : 0 ≤ sm (wb w) p ∧ sm (wb w) p ≤ p := by
  have := sm_b (f := wb w) (b := 1) (n := p) (fun j hj => (hW.2.1 j (by omega)).2.2.1)
  omega
-- NS.chapterAt: blocks [0, 8, 13, 18, 28, 33, 38, 47, 50]
theorem k_NS_chapterAt {d : Nat} {Q : QT} {μ : Mem} {l t : Int} {z : Rw} (hz : IZ z) (hR : RC z μ 1) (hl : inR l) (ht : inR t) (hq : ∀ μ', QF z μ μ' → Q (.inl (F_chapterAt z l t)) μ') : Call σ1 (d + 5) 58 [.inr (.inr 0), .inl l, .inl t] μ Q := by
  refine e_58 ?_
  have h := hq μ (QF_r hR)
  have q := hz.1
  refine wp_go b58_0 ?_; simp only [l58_0, sg_aload_0, sg_getfp, sg_iload_1, sg_iv2_i, len4_0, len4_1, len4_2, len4_3, len4_4, nLg_n, nLg_i, nLg_r, tc_c, tc_l, tc_r, tc_m, tc_n, tc_o, tc_0, inR, true_and, and_true, ne_eq, not_true_eq_false, not_false_eq_true, true_imp_iff, false_imp_iff, Int.toNat_natCast, lit_a, Nat.reduceAdd, or_true, true_or, or_false, false_or, Int.reduceEq, Int.reduceNe, Int.reduceLT, Int.reduceLE, Int.reduceNeg, sg_nil, s1p, x0, x1, x2, x3, x4, x5, x6, x7, x8, x9, x10, x11, x12, x13, x56, x57, x388, x389, x390, x391, x392, x393, x394, x395, x396, x397, x398, x399]
  refine k_Sta_hasListener st1 hR hz hl (fun h1 h2 => ?_) (fun h0 => ?_)
  · obtain ⟨n, rfl⟩ := nat_of h1
    have nn := nw_eq hz h2
    have W := wO_W hz h2
    have wbb := wb_b W (p := nw z n) (by omega)
    refine wp_go b58_8 ?_; simp only [l58_8, sg_if_ne, sg_iconst, sg_iret0, nLg_n, nLg_i, nLg_r, tc_c, tc_l, tc_r, tc_m, tc_n, tc_o, tc_0, inR, true_and, and_true, ne_eq, not_true_eq_false, not_false_eq_true, true_imp_iff, false_imp_iff, Int.toNat_natCast, lit_a, Nat.reduceAdd, or_true, true_or, or_false, false_or, Int.reduceEq, Int.reduceNe, Int.reduceLT, Int.reduceLE, Int.reduceNeg, sg_nil]
    repeat' (first | with_reducible apply And.intro | intro _)
    all_goals (try omega)
    refine wp_go b58_13 ?_; simp only [l58_13, sg_aload_0, sg_iload_1, sg_iv2_r, len4_0, len4_1, len4_2, len4_3, len4_4, nLg_n, nLg_i, nLg_r, tc_c, tc_l, tc_r, tc_m, tc_n, tc_o, tc_0, inR, true_and, and_true, ne_eq, not_true_eq_false, not_false_eq_true, true_imp_iff, false_imp_iff, Int.toNat_natCast, lit_a, Nat.reduceAdd, or_true, true_or, or_false, false_or, Int.reduceEq, Int.reduceNe, Int.reduceLT, Int.reduceLE, Int.reduceNeg, sg_nil, s1p, x0, x1, x2, x3, x4, x5, x6, x7, x8, x9, x10, x11, x12, x13, x56, x57, x388, x389, x390, x391, x392, x393, x394, x395, x396, x397, x398, x399]
    refine k_NS_hearingOf hz hR h2 (fun μ' c f H hH _ _ => ?_)
    have h := hq μ' (QF_s hz hR f)
    obtain ⟨a0, a1, a2, a3, a4, a5, a6, p0, p1, p2, p3, p4, p5⟩ := heaF hH
    refine wp_go b58_18 ?_; simp only [l58_18, sg_astore_3, sg_iload_2, sg_iconst, sg_aload_3, sg_getfp, sg_iv1_i, len4_0, len4_1, len4_2, len4_3, len4_4, nLg_n, nLg_i, nLg_r, tc_c, tc_l, tc_r, tc_m, tc_n, tc_o, tc_0, inR, true_and, and_true, ne_eq, not_true_eq_false, not_false_eq_true, true_imp_iff, false_imp_iff, Int.toNat_natCast, lit_a, Nat.reduceAdd, or_true, true_or, or_false, false_or, Int.reduceEq, Int.reduceNe, Int.reduceLT, Int.reduceLE, Int.reduceNeg, sg_nil, a0, a1, a2, a3, a4, a5, a6, p0, p1, p2, p3, p4, p5]
    refine k_Sen_chapters hH.2.1 (n := nw z n - 1) (H.1.trans (by omega)) (by omega) ?_
    rw [show sm (fun i => μ' (c + 1 + 3) (i + 1)) (nw z n - 1) + 1 = sm (wb (wO z n)) (nw z n) from by
      rw [h_bg1 H W (p := nw z n - 1) (by omega), show nw z n - 1 + 1 = nw z n by omega]; omega]
    refine wp_go b58_28 ?_; simp only [l58_28, sg_iconst, sg_isub, len4_0, len4_1, len4_2, len4_3, len4_4, sg_is3_1, nLg_n, nLg_i, nLg_r, tc_c, tc_l, tc_r, tc_m, tc_n, tc_o, tc_0, inR, true_and, and_true, ne_eq, not_true_eq_false, not_false_eq_true, true_imp_iff, false_imp_iff, Int.toNat_natCast, lit_a, Nat.reduceAdd, or_true, true_or, or_false, false_or, Int.reduceEq, Int.reduceNe, Int.reduceLT, Int.reduceLE, Int.reduceNeg, sg_nil]
    refine k_NS_isWithin ht (by unfold inR; omega) (by unfold inR; omega) (fun g1 g2 => ?_) (fun g0 => ?_)
    · unfold F_chapterAt at h
      rw [if_neg (by omega), Int.toNat_natCast, if_neg (by omega)] at h
      refine wp_go b58_33 ?_; simp only [l58_33, sg_if_ne, sg_iconst, sg_iret0, nLg_n, nLg_i, nLg_r, tc_c, tc_l, tc_r, tc_m, tc_n, tc_o, tc_0, inR, true_and, and_true, ne_eq, not_true_eq_false, not_false_eq_true, true_imp_iff, false_imp_iff, Int.toNat_natCast, lit_a, Nat.reduceAdd, or_true, true_or, or_false, false_or, Int.reduceEq, Int.reduceNe, Int.reduceLT, Int.reduceLE, Int.reduceNeg, sg_nil]
      repeat' (first | with_reducible apply And.intro | intro _)
      all_goals (try omega)
      refine wp_go b58_38 ?_; simp only [l58_38, sg_aload_3, sg_getfp, sg_iload_2, sg_iv2_i, len4_0, len4_1, len4_2, len4_3, len4_4, nLg_n, nLg_i, nLg_r, tc_c, tc_l, tc_r, tc_m, tc_n, tc_o, tc_0, inR, true_and, and_true, ne_eq, not_true_eq_false, not_false_eq_true, true_imp_iff, false_imp_iff, Int.toNat_natCast, lit_a, Nat.reduceAdd, or_true, true_or, or_false, false_or, Int.reduceEq, Int.reduceNe, Int.reduceLT, Int.reduceLE, Int.reduceNeg, sg_nil, a0, a1, a2, a3, a4, a5, a6, p0, p1, p2, p3, p4, p5]
      refine k_Sen_firstOfChapter hH.2.1 (n := nw z n) (H.1.trans nn.1) nn.2.2 (fun i hi => ?_) ht ?_
      · rw [show μ' (c + 1 + 3) i = wO z n (5 * i + 5) from (H.2 i (by omega)).2.2.1]
        exact (W.2.1 i (by omega)).2.2.1
      · have e1 : fsI (fun i => decide (t < sm (μ' (c + 1 + 3)) (i + 1))) 0 (nw z n) = fsI (fun i => decide (t < sm (wb (wO z n)) (i + 1))) 0 (nw z n) := fsI_c (fun i hi => by simp only [h_bg H (show ((i + 1 : Nat) : Int) ≤ wO z n 0 by omega)])
        rw [e1]
        obtain ⟨i, hi, e2⟩ : ∃ i : Nat, i < nw z n ∧ fsI (fun i => decide (t < sm (wb (wO z n)) (i + 1))) 0 (nw z n) = (i : Int) := by
          rcases fsI_in (fun i => decide (t < sm (wb (wO z n)) (i + 1))) 0 (nw z n) with e | ⟨i, h1, h2, -⟩
          · exact ⟨0, by omega, e⟩
          · exact ⟨i, h1, h2⟩
        rw [e2, Int.toNat_natCast] at h
        rw [e2]
        refine wp_go b58_47 ?_; simp only [l58_47, sg_iv2_i, len4_0, len4_1, len4_2, len4_3, len4_4, nLg_n, nLg_i, nLg_r, tc_c, tc_l, tc_r, tc_m, tc_n, tc_o, tc_0, inR, true_and, and_true, ne_eq, not_true_eq_false, not_false_eq_true, true_imp_iff, false_imp_iff, Int.toNat_natCast, lit_a, Nat.reduceAdd, or_true, true_or, or_false, false_or, Int.reduceEq, Int.reduceNe, Int.reduceLT, Int.reduceLE, Int.reduceNeg, sg_nil, hH.1]
        refine k_Hea_breakTime hH H (by omega) (by omega) ?_
        refine wp_go b58_50 ?_; simp only [l58_50, sg_iret0, nLg_n, nLg_i, nLg_r, tc_c, tc_l, tc_r, tc_m, tc_n, tc_o, tc_0, inR, true_and, and_true, ne_eq, not_true_eq_false, not_false_eq_true, true_imp_iff, false_imp_iff, Int.toNat_natCast, lit_a, Nat.reduceAdd, or_true, true_or, or_false, false_or, Int.reduceEq, Int.reduceNe, Int.reduceLT, Int.reduceLE, Int.reduceNeg, sg_nil]
        exact h
    · refine wp_go b58_33 ?_; simp only [l58_33, sg_if_ne, sg_iconst, sg_iret0, nLg_n, nLg_i, nLg_r, tc_c, tc_l, tc_r, tc_m, tc_n, tc_o, tc_0, inR, true_and, and_true, ne_eq, not_true_eq_false, not_false_eq_true, true_imp_iff, false_imp_iff, Int.toNat_natCast, lit_a, Nat.reduceAdd, or_true, true_or, or_false, false_or, Int.reduceEq, Int.reduceNe, Int.reduceLT, Int.reduceLE, Int.reduceNeg, sg_nil]
      repeat' (first | with_reducible apply And.intro | (intro _) | ((first | refine wp_go b58_0 ?_ | refine wp_go b58_8 ?_ | refine wp_go b58_13 ?_ | refine wp_go b58_18 ?_ | refine wp_go b58_28 ?_ | refine wp_go b58_33 ?_ | refine wp_go b58_38 ?_ | refine wp_go b58_47 ?_ | refine wp_go b58_50 ?_); simp only [l58_0, l58_8, l58_13, l58_18, l58_28, l58_33, l58_38, l58_47, l58_50, sg_aload_0, sg_getfp, sg_iload_1, sg_iv2_i, len4_0, len4_1, len4_2, len4_3, len4_4, sg_if_ne, sg_iconst, sg_iret0, sg_iv2_r, sg_astore_3, sg_iload_2, sg_aload_3, sg_iv1_i, sg_isub, sg_is3_1, nLg_n, nLg_i, nLg_r, tc_c, tc_l, tc_r, tc_m, tc_n, tc_o, tc_0, inR, true_and, and_true, ne_eq, not_true_eq_false, not_false_eq_true, true_imp_iff, false_imp_iff, Int.toNat_natCast, lit_a, Nat.reduceAdd, or_true, true_or, or_false, false_or, Int.reduceEq, Int.reduceNe, Int.reduceLT, Int.reduceLE, Int.reduceNeg, sg_nil]))
      all_goals (try omega)
      all_goals (revert h; unfold F_chapterAt; (try simp only [Int.toNat_natCast]); (repeat (first | rw [if_neg (by omega)] | rw [if_pos (by omega)])); exact id)
  · refine wp_go b58_8 ?_; simp only [l58_8, sg_if_ne, sg_iconst, sg_iret0, nLg_n, nLg_i, nLg_r, tc_c, tc_l, tc_r, tc_m, tc_n, tc_o, tc_0, inR, true_and, and_true, ne_eq, not_true_eq_false, not_false_eq_true, true_imp_iff, false_imp_iff, Int.toNat_natCast, lit_a, Nat.reduceAdd, or_true, true_or, or_false, false_or, Int.reduceEq, Int.reduceNe, Int.reduceLT, Int.reduceLE, Int.reduceNeg, sg_nil]
    repeat' (first | with_reducible apply And.intro | (intro _) | ((first | refine wp_go b58_0 ?_ | refine wp_go b58_8 ?_ | refine wp_go b58_13 ?_ | refine wp_go b58_18 ?_ | refine wp_go b58_28 ?_ | refine wp_go b58_33 ?_ | refine wp_go b58_38 ?_ | refine wp_go b58_47 ?_ | refine wp_go b58_50 ?_); simp only [l58_0, l58_8, l58_13, l58_18, l58_28, l58_33, l58_38, l58_47, l58_50, sg_aload_0, sg_getfp, sg_iload_1, sg_iv2_i, len4_0, len4_1, len4_2, len4_3, len4_4, sg_if_ne, sg_iconst, sg_iret0, sg_iv2_r, sg_astore_3, sg_iload_2, sg_aload_3, sg_iv1_i, sg_isub, sg_is3_1, nLg_n, nLg_i, nLg_r, tc_c, tc_l, tc_r, tc_m, tc_n, tc_o, tc_0, inR, true_and, and_true, ne_eq, not_true_eq_false, not_false_eq_true, true_imp_iff, false_imp_iff, Int.toNat_natCast, lit_a, Nat.reduceAdd, or_true, true_or, or_false, false_or, Int.reduceEq, Int.reduceNe, Int.reduceLT, Int.reduceLE, Int.reduceNeg, sg_nil, s1p, x0, x1, x2, x3, x4, x5, x6, x7, x8, x9, x10, x11, x12, x13, x56, x57, x388, x389, x390, x391, x392, x393, x394, x395, x396, x397, x398, x399]))
    all_goals (try omega)
    all_goals (revert h; unfold F_chapterAt; (try simp only [Int.toNat_natCast]); (repeat (first | rw [if_neg (by omega)] | rw [if_pos (by omega)])); exact id)
def pMk (w : Rw) (n : Nat) (m : Int) : Int := fsI (fun i => decide (wm w i = m)) (-1) n
def F_open (z : Rw) (l m s : Int) : Int := if l < 0 ∨ z 3 ≤ l then -1 else if s < 0 ∨ 299 < s then -2 else if pMk (wO z l.toNat) (nw z l.toNat) m = -1 then -5 else if wl4 (wO z l.toNat) (pMk (wO z l.toNat) (nw z l.toNat) m).toNat ≤ s then -5 else sT (wO z l.toNat) (pMk (wO z l.toNat) (nw z l.toNat) m).toNat + s
theorem h_mk {w : Rw} {μ : Mem} {c n : Nat} {m : Int} (H : HR w μ c) (hn : w 0 = (n : Int)) : fsI (fun i => decide (μ (c + 1 + 1) i = m)) (-1) n = pMk w n m := fsI_c (fun i hi => by rw [show μ (c + 1 + 1) i = wm w i from (H.2 i (by omega)).1])
-- NS.open: blocks [0, 8, 13, 21, 27, 32, 43, 66, 69, 76]
theorem k_NS_open {d : Nat} {Q : QT} {μ : Mem} {l m s : Int} {z : Rw} (hz : IZ z) (hR : RC z μ 1) (hl : inR l) (hm : inR m) (hs : inR s) (hq : ∀ μ', QF z μ μ' → Q (.inl (F_open z l m s)) μ') : Call σ1 (d + 5) 59 [.inr (.inr 0), .inl l, .inl m, .inl s] μ Q := by
  refine e_59 ?_
  have h := hq μ (QF_r hR)
  have q := hz.1
  refine wp_go b59_0 ?_; simp only [l59_0, sg_aload_0, sg_getfp, sg_iload_1, sg_iv2_i, len4_0, len4_1, len4_2, len4_3, len4_4, nLg_n, nLg_i, nLg_r, tc_c, tc_l, tc_r, tc_m, tc_n, tc_o, tc_0, inR, true_and, and_true, ne_eq, not_true_eq_false, not_false_eq_true, true_imp_iff, false_imp_iff, Int.toNat_natCast, lit_a, Nat.reduceAdd, or_true, true_or, or_false, false_or, Int.reduceEq, Int.reduceNe, Int.reduceLT, Int.reduceLE, Int.reduceNeg, sg_nil, s1p, x0, x1, x2, x3, x4, x5, x6, x7, x8, x9, x10, x11, x12, x13, x56, x57, x388, x389, x390, x391, x392, x393, x394, x395, x396, x397, x398, x399]
  refine k_Sta_hasListener st1 hR hz hl (fun h1 h2 => ?_) (fun h0 => ?_)
  · obtain ⟨n, rfl⟩ := nat_of h1
    have nn := nw_eq hz h2
    have W := wO_W hz h2
    refine wp_go b59_8 ?_; simp only [l59_8, sg_if_ne, sg_iconst, sg_iret0, nLg_n, nLg_i, nLg_r, tc_c, tc_l, tc_r, tc_m, tc_n, tc_o, tc_0, inR, true_and, and_true, ne_eq, not_true_eq_false, not_false_eq_true, true_imp_iff, false_imp_iff, Int.toNat_natCast, lit_a, Nat.reduceAdd, or_true, true_or, or_false, false_or, Int.reduceEq, Int.reduceNe, Int.reduceLT, Int.reduceLE, Int.reduceNeg, sg_nil]
    repeat' (first | with_reducible apply And.intro | intro _)
    all_goals (try omega)
    refine wp_go b59_13 ?_; simp only [l59_13, sg_iload_3, sg_iconst, sg_sipush, len4_0, len4_1, len4_2, len4_3, len4_4, sg_is3_1, nLg_n, nLg_i, nLg_r, tc_c, tc_l, tc_r, tc_m, tc_n, tc_o, tc_0, inR, true_and, and_true, ne_eq, not_true_eq_false, not_false_eq_true, true_imp_iff, false_imp_iff, Int.toNat_natCast, lit_a, Nat.reduceAdd, or_true, true_or, or_false, false_or, Int.reduceEq, Int.reduceNe, Int.reduceLT, Int.reduceLE, Int.reduceNeg, sg_nil]
    refine k_NS_isWithin hs (by unfold inR; omega) (by unfold inR; omega) (fun g1 g2 => ?_) (fun g0 => ?_)
    · refine wp_go b59_21 ?_; simp only [l59_21, sg_if_ne, sg_bipush, sg_iret0, nLg_n, nLg_i, nLg_r, tc_c, tc_l, tc_r, tc_m, tc_n, tc_o, tc_0, inR, true_and, and_true, ne_eq, not_true_eq_false, not_false_eq_true, true_imp_iff, false_imp_iff, Int.toNat_natCast, lit_a, Nat.reduceAdd, or_true, true_or, or_false, false_or, Int.reduceEq, Int.reduceNe, Int.reduceLT, Int.reduceLE, Int.reduceNeg, sg_nil]
      repeat' (first | with_reducible apply And.intro | intro _)
      all_goals (try omega)
      refine wp_go b59_27 ?_; simp only [l59_27, sg_aload_0, sg_iload_1, sg_iv2_r, len4_0, len4_1, len4_2, len4_3, len4_4, nLg_n, nLg_i, nLg_r, tc_c, tc_l, tc_r, tc_m, tc_n, tc_o, tc_0, inR, true_and, and_true, ne_eq, not_true_eq_false, not_false_eq_true, true_imp_iff, false_imp_iff, Int.toNat_natCast, lit_a, Nat.reduceAdd, or_true, true_or, or_false, false_or, Int.reduceEq, Int.reduceNe, Int.reduceLT, Int.reduceLE, Int.reduceNeg, sg_nil, s1p, x0, x1, x2, x3, x4, x5, x6, x7, x8, x9, x10, x11, x12, x13, x56, x57, x388, x389, x390, x391, x392, x393, x394, x395, x396, x397, x398, x399]
      refine k_NS_hearingOf hz hR h2 (fun μ' c f H hH _ _ => ?_)
      have h := hq μ' (QF_s hz hR f)
      obtain ⟨a0, a1, a2, a3, a4, a5, a6, p0, p1, p2, p3, p4, p5⟩ := heaF hH
      unfold F_open at h
      rw [if_neg (by omega), if_neg (by omega), Int.toNat_natCast] at h
      refine wp_go b59_32 ?_; simp only [l59_32, sg_astore, okS_4, stL_4, sg_aload, ldR_4, sg_getfp, sg_iload_2, sg_iv2_i, len4_0, len4_1, len4_2, len4_3, len4_4, nLg_n, nLg_i, nLg_r, tc_c, tc_l, tc_r, tc_m, tc_n, tc_o, tc_0, inR, true_and, and_true, ne_eq, not_true_eq_false, not_false_eq_true, true_imp_iff, false_imp_iff, Int.toNat_natCast, lit_a, Nat.reduceAdd, or_true, true_or, or_false, false_or, Int.reduceEq, Int.reduceNe, Int.reduceLT, Int.reduceLE, Int.reduceNeg, sg_nil, a0, a1, a2, a3, a4, a5, a6, p0, p1, p2, p3, p4, p5]
      refine k_Sen_placeOf hH.2.1 (n := nw z n) (H.1.trans nn.1) nn.2.2 (fun i hi => ?_) hm ?_
      · rw [show μ' (c + 1 + 1) i = wO z n (5 * i + 3) from (H.2 i (by omega)).1]
        have := (W.2.1 i (by omega)).1
        unfold inR; omega
      · rw [h_mk H nn.1]
        rcases fsI_in (fun i => decide (wm (wO z n) i = m)) (-1) (nw z n) with e2 | ⟨i, i1, i2, i3⟩
        · have e2 : pMk (wO z n) (nw z n) m = -1 := e2
          rw [if_pos e2] at h
          rw [e2]
          refine wp_go b59_43 ?_; simp only [l59_43, sg_istore, okS_5, stL_5, sg_iload, ldI_5, sg_iconst, sg_ic_eq, sg_iload_3, sg_aload, ldR_4, sg_getfp, sg_iaload, sg_ic_lt, nLg_n, nLg_i, nLg_r, tc_c, tc_l, tc_r, tc_m, tc_n, tc_o, tc_0, inR, true_and, and_true, ne_eq, not_true_eq_false, not_false_eq_true, true_imp_iff, false_imp_iff, Int.toNat_natCast, lit_a, Nat.reduceAdd, or_true, true_or, or_false, false_or, Int.reduceEq, Int.reduceNe, Int.reduceLT, Int.reduceLE, Int.reduceNeg, sg_nil]
          repeat' (first | with_reducible apply And.intro | (intro _) | ((first | refine wp_go b59_0 ?_ | refine wp_go b59_8 ?_ | refine wp_go b59_13 ?_ | refine wp_go b59_21 ?_ | refine wp_go b59_27 ?_ | refine wp_go b59_32 ?_ | refine wp_go b59_43 ?_ | refine wp_go b59_66 ?_ | refine wp_go b59_69 ?_ | refine wp_go b59_76 ?_); simp only [l59_0, l59_8, l59_13, l59_21, l59_27, l59_32, l59_43, l59_66, l59_69, l59_76, sg_aload_0, sg_getfp, sg_iload_1, sg_iv2_i, len4_0, len4_1, len4_2, len4_3, len4_4, sg_if_ne, sg_iconst, sg_iret0, sg_iload_3, sg_sipush, sg_is3_1, sg_bipush, sg_iv2_r, sg_astore, okS_4, stL_4, sg_aload, ldR_4, sg_iload_2, sg_istore, okS_5, stL_5, sg_iload, ldI_5, sg_ic_eq, sg_iaload, sg_ic_lt, sg_iadd, nLg_n, nLg_i, nLg_r, tc_c, tc_l, tc_r, tc_m, tc_n, tc_o, tc_0, inR, true_and, and_true, ne_eq, not_true_eq_false, not_false_eq_true, true_imp_iff, false_imp_iff, Int.toNat_natCast, lit_a, Nat.reduceAdd, or_true, true_or, or_false, false_or, Int.reduceEq, Int.reduceNe, Int.reduceLT, Int.reduceLE, Int.reduceNeg, sg_nil]))
          all_goals (try omega)
          all_goals exact h
        · have e2 : pMk (wO z n) (nw z n) m = (i : Int) := i2
          rw [e2, if_neg (by omega), Int.toNat_natCast] at h
          have el : μ' (c + 3) i = wl4 (wO z n) i := (H.2 i (by omega)).2.1
          have rl : 1 ≤ wl4 (wO z n) i ∧ wl4 (wO z n) i ≤ 300 := (W.2.1 i (by omega)).2.1
          rw [e2]
          refine wp_go b59_43 ?_; simp only [l59_43, sg_istore, okS_5, stL_5, sg_iload, ldI_5, sg_iconst, sg_ic_eq, sg_iload_3, sg_aload, ldR_4, sg_getfp, sg_iaload, sg_ic_lt, nLg_n, nLg_i, nLg_r, tc_c, tc_l, tc_r, tc_m, tc_n, tc_o, tc_0, inR, true_and, and_true, ne_eq, not_true_eq_false, not_false_eq_true, true_imp_iff, false_imp_iff, Int.toNat_natCast, lit_a, Nat.reduceAdd, or_true, true_or, or_false, false_or, Int.reduceEq, Int.reduceNe, Int.reduceLT, Int.reduceLE, Int.reduceNeg, sg_nil, a0, a1, a2, a3, a4, a5, a6, p0, p1, p2, p3, p4, p5, el]
          repeat' (first | with_reducible apply And.intro | intro _)
          all_goals (try omega)
          · rw [if_neg (by omega)] at h
            refine wp_go b59_69 ?_; simp only [l59_69, sg_aload, ldR_4, sg_iload, ldI_5, sg_iv2_i, len4_0, len4_1, len4_2, len4_3, len4_4, nLg_n, nLg_i, nLg_r, tc_c, tc_l, tc_r, tc_m, tc_n, tc_o, tc_0, inR, true_and, and_true, ne_eq, not_true_eq_false, not_false_eq_true, true_imp_iff, false_imp_iff, Int.toNat_natCast, lit_a, Nat.reduceAdd, or_true, true_or, or_false, false_or, Int.reduceEq, Int.reduceNe, Int.reduceLT, Int.reduceLE, Int.reduceNeg, sg_nil, hH.1]
            refine k_Hea_sentenceTime hH H (by omega) (by omega) ?_
            refine wp_go b59_76 ?_; simp only [l59_76, sg_iload_3, sg_iadd, sg_iret0, nLg_n, nLg_i, nLg_r, tc_c, tc_l, tc_r, tc_m, tc_n, tc_o, tc_0, inR, true_and, and_true, ne_eq, not_true_eq_false, not_false_eq_true, true_imp_iff, false_imp_iff, Int.toNat_natCast, lit_a, Nat.reduceAdd, or_true, true_or, or_false, false_or, Int.reduceEq, Int.reduceNe, Int.reduceLT, Int.reduceLE, Int.reduceNeg, sg_nil]
            exact h
          · rw [if_pos (by omega)] at h
            refine wp_go b59_66 ?_; simp only [l59_66, sg_bipush, sg_iret0, nLg_n, nLg_i, nLg_r, tc_c, tc_l, tc_r, tc_m, tc_n, tc_o, tc_0, inR, true_and, and_true, ne_eq, not_true_eq_false, not_false_eq_true, true_imp_iff, false_imp_iff, Int.toNat_natCast, lit_a, Nat.reduceAdd, or_true, true_or, or_false, false_or, Int.reduceEq, Int.reduceNe, Int.reduceLT, Int.reduceLE, Int.reduceNeg, sg_nil]
            exact h
    · refine wp_go b59_21 ?_; simp only [l59_21, sg_if_ne, sg_bipush, sg_iret0, nLg_n, nLg_i, nLg_r, tc_c, tc_l, tc_r, tc_m, tc_n, tc_o, tc_0, inR, true_and, and_true, ne_eq, not_true_eq_false, not_false_eq_true, true_imp_iff, false_imp_iff, Int.toNat_natCast, lit_a, Nat.reduceAdd, or_true, true_or, or_false, false_or, Int.reduceEq, Int.reduceNe, Int.reduceLT, Int.reduceLE, Int.reduceNeg, sg_nil]
      repeat' (first | with_reducible apply And.intro | (intro _) | ((first | refine wp_go b59_0 ?_ | refine wp_go b59_8 ?_ | refine wp_go b59_13 ?_ | refine wp_go b59_21 ?_ | refine wp_go b59_27 ?_ | refine wp_go b59_32 ?_ | refine wp_go b59_43 ?_ | refine wp_go b59_66 ?_ | refine wp_go b59_69 ?_ | refine wp_go b59_76 ?_); simp only [l59_0, l59_8, l59_13, l59_21, l59_27, l59_32, l59_43, l59_66, l59_69, l59_76, sg_aload_0, sg_getfp, sg_iload_1, sg_iv2_i, len4_0, len4_1, len4_2, len4_3, len4_4, sg_if_ne, sg_iconst, sg_iret0, sg_iload_3, sg_sipush, sg_is3_1, sg_bipush, sg_iv2_r, sg_astore, okS_4, stL_4, sg_aload, ldR_4, sg_iload_2, sg_istore, okS_5, stL_5, sg_iload, ldI_5, sg_ic_eq, sg_iaload, sg_ic_lt, sg_iadd, nLg_n, nLg_i, nLg_r, tc_c, tc_l, tc_r, tc_m, tc_n, tc_o, tc_0, inR, true_and, and_true, ne_eq, not_true_eq_false, not_false_eq_true, true_imp_iff, false_imp_iff, Int.toNat_natCast, lit_a, Nat.reduceAdd, or_true, true_or, or_false, false_or, Int.reduceEq, Int.reduceNe, Int.reduceLT, Int.reduceLE, Int.reduceNeg, sg_nil]))
      all_goals (try omega)
      all_goals (revert h; unfold F_open; (try simp only [Int.toNat_natCast]); (repeat (first | rw [if_neg (by omega)] | rw [if_pos (by omega)])); exact id)
  · refine wp_go b59_8 ?_; simp only [l59_8, sg_if_ne, sg_iconst, sg_iret0, nLg_n, nLg_i, nLg_r, tc_c, tc_l, tc_r, tc_m, tc_n, tc_o, tc_0, inR, true_and, and_true, ne_eq, not_true_eq_false, not_false_eq_true, true_imp_iff, false_imp_iff, Int.toNat_natCast, lit_a, Nat.reduceAdd, or_true, true_or, or_false, false_or, Int.reduceEq, Int.reduceNe, Int.reduceLT, Int.reduceLE, Int.reduceNeg, sg_nil]
    repeat' (first | with_reducible apply And.intro | (intro _) | ((first | refine wp_go b59_0 ?_ | refine wp_go b59_8 ?_ | refine wp_go b59_13 ?_ | refine wp_go b59_21 ?_ | refine wp_go b59_27 ?_ | refine wp_go b59_32 ?_ | refine wp_go b59_43 ?_ | refine wp_go b59_66 ?_ | refine wp_go b59_69 ?_ | refine wp_go b59_76 ?_); simp only [l59_0, l59_8, l59_13, l59_21, l59_27, l59_32, l59_43, l59_66, l59_69, l59_76, sg_aload_0, sg_getfp, sg_iload_1, sg_iv2_i, len4_0, len4_1, len4_2, len4_3, len4_4, sg_if_ne, sg_iconst, sg_iret0, sg_iload_3, sg_sipush, sg_is3_1, sg_bipush, sg_iv2_r, sg_astore, okS_4, stL_4, sg_aload, ldR_4, sg_iload_2, sg_istore, okS_5, stL_5, sg_iload, ldI_5, sg_ic_eq, sg_iaload, sg_ic_lt, sg_iadd, nLg_n, nLg_i, nLg_r, tc_c, tc_l, tc_r, tc_m, tc_n, tc_o, tc_0, inR, true_and, and_true, ne_eq, not_true_eq_false, not_false_eq_true, true_imp_iff, false_imp_iff, Int.toNat_natCast, lit_a, Nat.reduceAdd, or_true, true_or, or_false, false_or, Int.reduceEq, Int.reduceNe, Int.reduceLT, Int.reduceLE, Int.reduceNeg, sg_nil, s1p, x0, x1, x2, x3, x4, x5, x6, x7, x8, x9, x10, x11, x12, x13, x56, x57, x388, x389, x390, x391, x392, x393, x394, x395, x396, x397, x398, x399]))
    all_goals (try omega)
    all_goals (revert h; unfold F_open; (try simp only [Int.toNat_natCast]); (repeat (first | rw [if_neg (by omega)] | rw [if_pos (by omega)])); exact id)
/-- the moment of the episode of now that a listener hears at a time -/
def mom (z : Rw) (l : Nat) (t : Int) : Int := if pHt (wO z l) (nw z l) t = -6 then -5 else if F_marked z (wm (wO z l) (pHt (wO z l) (nw z l) t).toNat) = -1 then -5 else sm (zl z) (F_marked z (wm (wO z l) (pHt (wO z l) (nw z l) t).toNat)).toNat + (if 0 < t - sT (wO z l) (pHt (wO z l) (nw z l) t).toNat then t - sT (wO z l) (pHt (wO z l) (nw z l) t).toNat else 0)
def F_wrongAt (z : Rw) (l o t : Int) : Int := if (l < 0 ∨ z 3 ≤ l) ∨ (o < 0 ∨ z 3 ≤ o) then -1 else if t < 0 ∨ 9999 < t then -2 else if mom z l.toNat t = -5 ∨ mom z o.toNat t = -5 then -5 else if 0 ≤ mom z o.toNat t - mom z l.toNat t then mom z o.toNat t - mom z l.toNat t else 0 - (mom z o.toNat t - mom z l.toNat t)
theorem mom_b {z : Rw} (hz : IZ z) {l : Nat} {t : Int} (htt : 0 ≤ t ∧ t ≤ 9999) (hl : (l : Int) < z 3) : -5 ≤ mom z l t ∧ mom z l t ≤ 20000 := by
  have W := wO_W hz hl
  have nn := nw_eq hz hl
  have e0 := zn_eq hz
  unfold mom
  rcases fsI_in (fun i => decide (t < ht (wO z l) (i + 1))) (-6) (nw z l) with e2 | ⟨i, i1, i2, i3⟩
  · have e2 : pHt (wO z l) (nw z l) t = -6 := e2
    rw [if_pos e2]; omega
  · have e2 : pHt (wO z l) (nw z l) t = (i : Int) := i2
    rw [e2, if_neg (by omega), Int.toNat_natCast]
    have sb := sT_b W (p := i) (by omega)
    rcases fsI_in (fun j => decide (zm z j = wm (wO z l) i)) (-1) (zn z) with e3 | ⟨j, j1, j2, j3⟩
    · have e3 : F_marked z (wm (wO z l) i) = -1 := e3
      rw [if_pos e3]; omega
    · have e3 : F_marked z (wm (wO z l) i) = (j : Int) := j2
      rw [e3, if_neg (by omega), Int.toNat_natCast]
      have b := sm_b (f := zl z) (b := 300) (n := j) (fun x hx => by
        have := (hz.2.1 x (by omega)).2.1
        unfold zl; omega)
      split <;> omega
end
section
theorem fw_book (z : Rw) (s : Nat) (t : Int) (l : Nat) (h : 77 + 5 * s + (z (76 + 5 * s)).toNat < 230) (h2 : s < 24) : fw (bookZ z s t) l = fw z l := by funext k; exact bookZ_o z s _ t (by omega) (by omega)
theorem IZ_book {z : Rw} {s : Nat} {t : Int} (hz : IZ z) (hs : (s : Int) < z 0) (h4 : z (76 + 5 * s) < 4) (ht : 0 ≤ t ∧ t < z 2) : IZ (bookZ z s t) := by
  have q := hz.1
  have r := (hz.2.1 s hs).2.2.2.1
  obtain ⟨n, hn⟩ := nat_of r.1
  have bo : ∀ k, k ≠ 76 + 5 * s → k ≠ 77 + 5 * s + n → bookZ z s t k = z k := fun k h1 h2 => bookZ_o z s k t h1 (by rw [hn]; exact h2)
  obtain ⟨h1, h2, h3, h5, h6⟩ := hz
  unfold IZ
  rw [bo 0 (by omega) (by omega), bo 1 (by omega) (by omega), bo 2 (by omega) (by omega), bo 3 (by omega) (by omega), bo 6 (by omega) (by omega)]
  refine ⟨h1, fun i hi => ?_, h3, fun i hi => ?_, fun l hl => ?_⟩
  · rw [bo (4 + 3 * i) (by omega) (by omega), bo (5 + 3 * i) (by omega) (by omega), bo (6 + 3 * i) (by omega) (by omega)]
    obtain ⟨b1, b2, b3, b4, b5⟩ := h2 i hi
    refine ⟨b1, b2, b3, ?_, fun j hj => ?_⟩
    · by_cases hii : i = s
      · subst hii; rw [bookZ_s]; omega
      · rw [bo _ (by omega) (by omega)]; exact b4
    · by_cases hii : i = s
      · subst hii
        rw [bookZ_s] at hj
        by_cases hjn : j = n
        · subst hjn; rw [bookZ_n z i j t hn]; exact ht
        · rw [bo _ (by omega) (by omega)]; exact b5 j (by omega)
      · rw [bo _ (by omega) (by omega)] at hj
        rw [bo _ (by omega) (by omega)]; exact b5 j hj
  · rw [bo (196 + 2 * i) (by omega) (by omega), bo (197 + 2 * i) (by omega) (by omega)]; exact h5 i hi
  · rw [bo (212 + 3 * l) (by omega) (by omega), bo (213 + 3 * l) (by omega) (by omega), bo (214 + 3 * l) (by omega) (by omega), fw_book z s t l (by omega) (by omega)]; exact h6 l hl
theorem QF_t {z : Rw} {μ μ1 μ2 : Mem} (h1 : QF z μ μ1) (h2 : QF z μ1 μ2) : QF z μ μ2 := ⟨fun k a b c => (h2.1 k a b c).trans (h1.1 k a b c), h2.2⟩
def hib (z : Rw) (t : Int) (s : Nat) : Int := if 4 ≤ z (76 + 5 * s) then -6 else sm (hrs (bookZ z s t) (zn z) t) (znl z)
def F_ifBooked (z : Rw) (s t : Int) : Int := if (s < 0 ∨ z 0 ≤ s) ∨ (t < 0 ∨ z 2 ≤ t) then -1 else if 4 ≤ z (76 + 5 * s.toNat) then -4 else 10000 + sm (secs (bookZ z s.toNat t) (zn z)) (znl z) - sm (secs z (zn z)) (znl z)
theorem secs_b {z : Rw} (hz : IZ z) : 0 ≤ sm (secs z (zn z)) (znl z) ∧ sm (secs z (zn z)) (znl z) ≤ 3600 := by
  have e := znl_eq hz
  have e0 := zn_eq hz
  have := sm_b (f := secs z (zn z)) (b := 600) (n := znl z) (fun i hi => by
    have c := (hz.2.2.2.2 i (by omega)).2.1
    have := rn_b (g := z (212 + 3 * i)) (b := z (213 + 3 * i)) hz (by omega) (zn z) (by omega)
    unfold secs; omega)
  omega
/-- the best break: where, and how many hear it -/
def bb (f : Nat → Int) : Nat → Int × Int
  | 0 => (-6, -6)
  | n + 1 => if (bb f n).2 < f n then ((n : Int), f n) else bb f n
def F_bestBreak (z : Rw) (t w : Int) : Int := if t < 0 ∨ z 2 ≤ t then -1 else if w < 0 ∨ 1 < w then -2 else if w = 0 then (bb (hib z t) (zn z)).1 else (bb (hib z t) (zn z)).2
theorem hib_b (z : Rw) (t : Int) (s : Nat) : -6 ≤ hib z t s ∧ hib z t s ≤ znl z := by
  unfold hib
  split
  · omega
  · have := sm_b (f := hrs (bookZ z s t) (zn z) t) (b := 1) (n := znl z) (fun i hi => by
      have := bit_01 (rn (bookZ z s t) (bookZ z s t (212 + 3 * i)) (bookZ z s t (213 + 3 * i)) (zn z)).1 t
      unfold hrs; omega)
    omega
theorem bb_b {f : Nat → Int} {a b : Int} (ha : a ≤ -6) (hb : -6 ≤ b) (h : ∀ i, a ≤ f i ∧ f i ≤ b) : ∀ n, a ≤ (bb f n).2 ∧ (bb f n).2 ≤ b
  | 0 => ⟨ha, hb⟩
  | n + 1 => by
    have := bb_b ha hb h n
    unfold bb
    split
    · exact h n
    · exact this
end
section
def cnt (z : Rw) (l : Nat) (b : Int) : Int := sm (fun i => bI (ch z (z (212 + 3 * l)) b i ≠ -6)) (zn z)
theorem rn_s (z : Rw) (g b : Int) (s : Nat) : rn z g b (s + 1) = nxt z (rn z g b s) (ch z g b s) := rfl
/-- whether something is chosen is seen from the seconds -/
theorem ch_rn {z : Rw} {g b : Int} {s : Nat} (hz : IZ z) (hs : (s : Int) < z 0) : bI (ch z g b s ≠ -6) = bI ((rn z g b (s + 1)).2 ≠ (rn z g b s).2) := by
  have q := hz.1
  rw [rn_s]
  unfold nxt bI
  rcases ch_in (g := g) (b := b) hz hs with h | ⟨h1, h2⟩
  · rw [h, if_neg (by simp), if_pos rfl, if_neg (by simp)]
  · have r := (hz.2.2.2.1 (ch z g b s).toNat (by omega)).1
    rw [if_neg (show ¬ ch z g b s = -6 by omega), if_pos (show ch z g b s ≠ -6 by omega), if_pos (show (rn z g b s).2 + z (196 + 2 * (ch z g b s).toNat) ≠ (rn z g b s).2 by omega)]
theorem cnt_c {z : Rw} {l : Nat} {b b' : Int} (hz : IZ z) (h : ∀ i, i ≤ zn z → rn z (z (212 + 3 * l)) b' i = rn z (z (212 + 3 * l)) b i) : cnt z l b' = cnt z l b := by
  have e0 := zn_eq hz
  unfold cnt
  refine sm_c (fun i hi => ?_)
  rw [ch_rn hz (by omega), ch_rn hz (by omega), h i (by omega), h (i + 1) (by omega)]
theorem cnt_b {z : Rw} {l : Nat} {b : Int} (hz : IZ z) : 0 ≤ cnt z l b ∧ cnt z l b ≤ 24 := by
  have e0 := zn_eq hz
  have := sm_b (f := fun i => bI (ch z (z (212 + 3 * l)) b i ≠ -6)) (b := 1) (n := zn z) (fun i _ => by
    show 0 ≤ bI _ ∧ bI _ ≤ 1
    unfold bI; split <;> omega)
  unfold cnt; omega
def F_enough (z : Rw) (l : Int) : Int := if l < 0 ∨ z 3 ≤ l then -1 else fsI (fun b => decide (cnt z l.toNat (b : Int) = cnt z l.toNat 600)) 600 600
-- NS.enough: blocks [0, 8, 13, 21, 34, 51, 58, 72, 80, 86]
theorem k_NS_enough {d : Nat} {Q : QT} {μ : Mem} {l : Int} {z : Rw} (hz : IZ z) (hR : RC z μ 1) (hl : inR l) (hq : ∀ μ', QF z μ μ' → Q (.inl (F_enough z l)) μ') : Call σ1 (d + 4) 60 [.inr (.inr 0), .inl l] μ Q := by
  refine e_60 ?_
  have h := hq μ (QF_r hR)
  have q := hz.1
  refine wp_go b60_0 ?_; simp only [l60_0, sg_aload_0, sg_getfp, sg_iload_1, sg_iv2_i, len4_0, len4_1, len4_2, len4_3, len4_4, nLg_n, nLg_i, nLg_r, tc_c, tc_l, tc_r, tc_m, tc_n, tc_o, tc_0, inR, true_and, and_true, ne_eq, not_true_eq_false, not_false_eq_true, true_imp_iff, false_imp_iff, Int.toNat_natCast, lit_a, Nat.reduceAdd, or_true, true_or, or_false, false_or, Int.reduceEq, Int.reduceNe, Int.reduceLT, Int.reduceLE, Int.reduceNeg, sg_nil, s1p, x0, x1, x2, x3, x4, x5, x6, x7, x8, x9, x10, x11, x12, x13, x56, x57, x388, x389, x390, x391, x392, x393, x394, x395, x396, x397, x398, x399]
  refine k_Sta_hasListener st1 hR hz hl (fun h1 h2 => ?_) (fun h0 => ?_)
  · obtain ⟨n, rfl⟩ := nat_of h1
    obtain ⟨e9, e10, -, -⟩ := hR.2.2.2 n h2
    refine wp_go b60_8 ?_; simp only [l60_8, sg_if_ne, sg_iconst, sg_iret0, nLg_n, nLg_i, nLg_r, tc_c, tc_l, tc_r, tc_m, tc_n, tc_o, tc_0, inR, true_and, and_true, ne_eq, not_true_eq_false, not_false_eq_true, true_imp_iff, false_imp_iff, Int.toNat_natCast, lit_a, Nat.reduceAdd, or_true, true_or, or_false, false_or, Int.reduceEq, Int.reduceNe, Int.reduceLT, Int.reduceLE, Int.reduceNeg, sg_nil]
    repeat' (first | with_reducible apply And.intro | intro _)
    all_goals (try omega)
    refine wp_go b60_13 ?_; simp only [l60_13, sg_aload_0, sg_iload_1, sg_sipush, sg_iv3_v, len4_0, len4_1, len4_2, len4_3, len4_4, nLg_n, nLg_i, nLg_r, tc_c, tc_l, tc_r, tc_m, tc_n, tc_o, tc_0, inR, true_and, and_true, ne_eq, not_true_eq_false, not_false_eq_true, true_imp_iff, false_imp_iff, Int.toNat_natCast, lit_a, Nat.reduceAdd, or_true, true_or, or_false, false_or, Int.reduceEq, Int.reduceNe, Int.reduceLT, Int.reduceLE, Int.reduceNeg, sg_nil, s1p, x0, x1, x2, x3, x4, x5, x6, x7, x8, x9, x10, x11, x12, x13, x56, x57, x388, x389, x390, x391, x392, x393, x394, x395, x396, x397, x398, x399]
    repeat' (first | with_reducible apply And.intro | intro _)
    all_goals (try omega)
    refine k_NS_chooseAll (b := 600) hz hR.r0 hR.1.1 (zn_eq hz).1 h2 e9 (by omega) (fun μ1 nb f1 c2 _ _ _ _ _ _ => ?_)
    have c2 : μ1 392 2 = cnt z n 600 := c2
    have loop : ∀ k i : Nat, i + k = 600 → ∀ (μ2 : Mem) (N : Int), (∀ k, k ≠ 392 → μ2 k = μ k) → 0 ≤ N → N ≤ 600 → (∀ j : Nat, j < i → cnt z n (j : Int) ≠ cnt z n 600) → (∀ j : Nat, i ≤ j → (j : Int) < N → cnt z n (j : Int) ≠ cnt z n 600) →
        wp σ1 (Call σ1 (d + 3)) 60 Q 34 [some (.inr (.inr 0)), some (.inl (n : Int)), some (.inl (cnt z n 600)), some (.inl N), some (.inl (i : Int))] [] μ2 := by
      intro k
      induction k with
      | zero =>
        intro i hi μ2 N f2 n1 n2 g1 g2
        have h := hq μ2 (QF_s hz hR (fun k hk => f2 k (by omega)))
        unfold F_enough at h
        rw [if_neg (by omega), Int.toNat_natCast, fsI_n (fun j hj => decide_eq_false (g1 j (by omega)))] at h
        refine wp_go b60_34 ?_; simp only [l60_34, sg_iload, ldI_4, sg_sipush, sg_ic_ge, sg_iload_3, sg_goto, nLg_n, nLg_i, nLg_r, tc_c, tc_l, tc_r, tc_m, tc_n, tc_o, tc_0, inR, true_and, and_true, ne_eq, not_true_eq_false, not_false_eq_true, true_imp_iff, false_imp_iff, Int.toNat_natCast, lit_a, Nat.reduceAdd, or_true, true_or, or_false, false_or, Int.reduceEq, Int.reduceNe, Int.reduceLT, Int.reduceLE, Int.reduceNeg, sg_nil]
        repeat' (first | with_reducible apply And.intro | intro _)
        all_goals (try omega)
        refine wp_go b60_86 ?_; simp only [l60_86, sg_sipush, sg_iret0, nLg_n, nLg_i, nLg_r, tc_c, tc_l, tc_r, tc_m, tc_n, tc_o, tc_0, inR, true_and, and_true, ne_eq, not_true_eq_false, not_false_eq_true, true_imp_iff, false_imp_iff, Int.toNat_natCast, lit_a, Nat.reduceAdd, or_true, true_or, or_false, false_or, Int.reduceEq, Int.reduceNe, Int.reduceLT, Int.reduceLE, Int.reduceNeg, sg_nil]
        exact h
      | succ k ih =>
        intro i hi μ2 N f2 n1 n2 g1 g2
        refine wp_go b60_34 ?_; simp only [l60_34, sg_iload, ldI_4, sg_sipush, sg_ic_ge, sg_iload_3, sg_goto, nLg_n, nLg_i, nLg_r, tc_c, tc_l, tc_r, tc_m, tc_n, tc_o, tc_0, inR, true_and, and_true, ne_eq, not_true_eq_false, not_false_eq_true, true_imp_iff, false_imp_iff, Int.toNat_natCast, lit_a, Nat.reduceAdd, or_true, true_or, or_false, false_or, Int.reduceEq, Int.reduceNe, Int.reduceLT, Int.reduceLE, Int.reduceNeg, sg_nil]
        repeat' (first | with_reducible apply And.intro | (intro _) | ((first | refine wp_go b60_0 ?_ | refine wp_go b60_8 ?_ | refine wp_go b60_13 ?_ | refine wp_go b60_21 ?_ | refine wp_go b60_51 ?_ | refine wp_go b60_58 ?_ | refine wp_go b60_72 ?_ | refine wp_go b60_80 ?_ | refine wp_go b60_86 ?_); simp only [l60_0, l60_8, l60_13, l60_21, l60_51, l60_58, l60_72, l60_80, l60_86, sg_aload_0, sg_getfp, sg_iload_1, sg_iv2_i, len4_0, len4_1, len4_2, len4_3, len4_4, sg_if_ne, sg_iconst, sg_iret0, sg_sipush, sg_iv3_v, sg_getf0, sg_istore_2, sg_istore_3, sg_istore, okS_4, stL_4, sg_iload, ldI_4, sg_iload_2, sg_ic_ne, sg_iinc, sg_goto, nLg_n, nLg_i, nLg_r, tc_c, tc_l, tc_r, tc_m, tc_n, tc_o, tc_0, inR, true_and, and_true, ne_eq, not_true_eq_false, not_false_eq_true, true_imp_iff, false_imp_iff, Int.toNat_natCast, lit_a, Nat.reduceAdd, or_true, true_or, or_false, false_or, Int.reduceEq, Int.reduceNe, Int.reduceLT, Int.reduceLE, Int.reduceNeg, sg_nil, s1p, x0, x1, x2, x3, x4, x5, x6, x7, x8, x9, x10, x11, x12, x13, x56, x57, x388, x389, x390, x391, x392, x393, x394, x395, x396, x397, x398, x399]))
        all_goals (try omega)
        · refine ih (i + 1) (by omega) μ2 N f2 n1 n2 (fun j hj => ?_) (fun j hj hj2 => g2 j (by omega) hj2)
          rcases Nat.lt_or_ge j i with hh | hh
          · exact g1 j hh
          · exact g2 j hh (by omega)
        · have R2 : RC z μ2 1 := RC_f (by omega) (fun k _ _ => f2 k (by omega)) hR
          obtain ⟨w9, -, -, -⟩ := R2.2.2.2 n h2
          refine k_NS_chooseAll (b := (i : Int)) hz R2.r0 R2.1.1 (zn_eq hz).1 h2 w9 (by omega) (fun μ3 nb f3 c2 _ _ c5 m1 m2 c6 => ?_)
          have c2 : μ3 392 2 = cnt z n (i : Int) := c2
          have f4 : ∀ k, k ≠ 392 → μ3 k = μ k := fun k hk => (f3 k hk).trans (f2 k hk)
          have cb := cnt_b (l := n) (b := (i : Int)) hz
          have cb6 := cnt_b (l := n) (b := 600) hz
          refine wp_go b60_58 ?_; simp only [l60_58, sg_aload_0, sg_getfp, sg_getf0, sg_iload_2, sg_ic_ne, sg_iload, ldI_4, sg_iret0, nLg_n, nLg_i, nLg_r, tc_c, tc_l, tc_r, tc_m, tc_n, tc_o, tc_0, inR, true_and, and_true, ne_eq, not_true_eq_false, not_false_eq_true, true_imp_iff, false_imp_iff, Int.toNat_natCast, lit_a, Nat.reduceAdd, or_true, true_or, or_false, false_or, Int.reduceEq, Int.reduceNe, Int.reduceLT, Int.reduceLE, Int.reduceNeg, sg_nil, s1p, x0, x1, x2, x3, x4, x5, x6, x7, x8, x9, x10, x11, x12, x13, x56, x57, x388, x389, x390, x391, x392, x393, x394, x395, x396, x397, x398, x399, c2]
          repeat' (first | with_reducible apply And.intro | intro _)
          all_goals (try omega)
          · have h := hq μ3 (QF_s hz hR (fun k hk => f4 k (by omega)))
            unfold F_enough at h
            rw [if_neg (by omega), Int.toNat_natCast, fsI_s (i := i) (by omega) (decide_eq_true (by assumption)) (fun j hj => decide_eq_false (g1 j (by omega)))] at h
            exact h
          · refine wp_go b60_72 ?_; simp only [l60_72, sg_aload_0, sg_getfp, sg_getf0, sg_istore_3, nLg_n, nLg_i, nLg_r, tc_c, tc_l, tc_r, tc_m, tc_n, tc_o, tc_0, inR, true_and, and_true, ne_eq, not_true_eq_false, not_false_eq_true, true_imp_iff, false_imp_iff, Int.toNat_natCast, lit_a, Nat.reduceAdd, or_true, true_or, or_false, false_or, Int.reduceEq, Int.reduceNe, Int.reduceLT, Int.reduceLE, Int.reduceNeg, sg_nil, s1p, x0, x1, x2, x3, x4, x5, x6, x7, x8, x9, x10, x11, x12, x13, x56, x57, x388, x389, x390, x391, x392, x393, x394, x395, x396, x397, x398, x399, c5]
            repeat' (first | with_reducible apply And.intro | (intro _) | ((first | refine wp_go b60_0 ?_ | refine wp_go b60_8 ?_ | refine wp_go b60_13 ?_ | refine wp_go b60_21 ?_ | refine wp_go b60_51 ?_ | refine wp_go b60_58 ?_ | refine wp_go b60_72 ?_ | refine wp_go b60_80 ?_ | refine wp_go b60_86 ?_); simp only [l60_0, l60_8, l60_13, l60_21, l60_51, l60_58, l60_72, l60_80, l60_86, sg_aload_0, sg_getfp, sg_iload_1, sg_iv2_i, len4_0, len4_1, len4_2, len4_3, len4_4, sg_if_ne, sg_iconst, sg_iret0, sg_sipush, sg_iv3_v, sg_getf0, sg_istore_2, sg_istore_3, sg_istore, okS_4, stL_4, sg_iload, ldI_4, sg_iload_2, sg_ic_ne, sg_iinc, sg_goto, nLg_n, nLg_i, nLg_r, tc_c, tc_l, tc_r, tc_m, tc_n, tc_o, tc_0, inR, true_and, and_true, ne_eq, not_true_eq_false, not_false_eq_true, true_imp_iff, false_imp_iff, Int.toNat_natCast, lit_a, Nat.reduceAdd, or_true, true_or, or_false, false_or, Int.reduceEq, Int.reduceNe, Int.reduceLT, Int.reduceLE, Int.reduceNeg, sg_nil]))
            all_goals (try omega)
            refine ih (i + 1) (by omega) μ3 nb f4 m1 m2 (fun j hj => ?_) (fun j hj hj2 => ?_)
            · rcases Nat.lt_or_ge j i with hh | hh
              · exact g1 j hh
              · rw [show j = i by omega]; assumption
            · rw [cnt_c hz (c6 j (by omega) hj2)]; assumption
    refine wp_go b60_21 ?_; simp only [l60_21, sg_aload_0, sg_getfp, sg_getf0, sg_istore_2, sg_iconst, sg_istore_3, sg_istore, okS_4, stL_4, nLg_n, nLg_i, nLg_r, tc_c, tc_l, tc_r, tc_m, tc_n, tc_o, tc_0, inR, true_and, and_true, ne_eq, not_true_eq_false, not_false_eq_true, true_imp_iff, false_imp_iff, Int.toNat_natCast, lit_a, Nat.reduceAdd, or_true, true_or, or_false, false_or, Int.reduceEq, Int.reduceNe, Int.reduceLT, Int.reduceLE, Int.reduceNeg, sg_nil, s1p, x0, x1, x2, x3, x4, x5, x6, x7, x8, x9, x10, x11, x12, x13, x56, x57, x388, x389, x390, x391, x392, x393, x394, x395, x396, x397, x398, x399, c2]
    exact loop 600 0 (by omega) μ1 0 f1 (by omega) (by omega) (fun j hj => absurd hj (by omega)) (fun j _ hj2 => absurd hj2 (by omega))
  · refine wp_go b60_8 ?_; simp only [l60_8, sg_if_ne, sg_iconst, sg_iret0, nLg_n, nLg_i, nLg_r, tc_c, tc_l, tc_r, tc_m, tc_n, tc_o, tc_0, inR, true_and, and_true, ne_eq, not_true_eq_false, not_false_eq_true, true_imp_iff, false_imp_iff, Int.toNat_natCast, lit_a, Nat.reduceAdd, or_true, true_or, or_false, false_or, Int.reduceEq, Int.reduceNe, Int.reduceLT, Int.reduceLE, Int.reduceNeg, sg_nil]
    repeat' (first | with_reducible apply And.intro | (intro _) | ((first | refine wp_go b60_0 ?_ | refine wp_go b60_8 ?_ | refine wp_go b60_13 ?_ | refine wp_go b60_21 ?_ | refine wp_go b60_51 ?_ | refine wp_go b60_58 ?_ | refine wp_go b60_72 ?_ | refine wp_go b60_80 ?_ | refine wp_go b60_86 ?_); simp only [l60_0, l60_8, l60_13, l60_21, l60_51, l60_58, l60_72, l60_80, l60_86, sg_aload_0, sg_getfp, sg_iload_1, sg_iv2_i, len4_0, len4_1, len4_2, len4_3, len4_4, sg_if_ne, sg_iconst, sg_iret0, sg_sipush, sg_iv3_v, sg_getf0, sg_istore_2, sg_istore_3, sg_istore, okS_4, stL_4, sg_iload, ldI_4, sg_iload_2, sg_ic_ne, sg_iinc, sg_goto, nLg_n, nLg_i, nLg_r, tc_c, tc_l, tc_r, tc_m, tc_n, tc_o, tc_0, inR, true_and, and_true, ne_eq, not_true_eq_false, not_false_eq_true, true_imp_iff, false_imp_iff, Int.toNat_natCast, lit_a, Nat.reduceAdd, or_true, true_or, or_false, false_or, Int.reduceEq, Int.reduceNe, Int.reduceLT, Int.reduceLE, Int.reduceNeg, sg_nil, s1p, x0, x1, x2, x3, x4, x5, x6, x7, x8, x9, x10, x11, x12, x13, x56, x57, x388, x389, x390, x391, x392, x393, x394, x395, x396, x397, x398, x399]))
    all_goals (try omega)
    all_goals (revert h; unfold F_enough; (try simp only [Int.toNat_natCast]); (repeat (first | rw [if_neg (by omega)] | rw [if_pos (by omega)])); exact id)
end
section
abbrev Hs : Type := Nat × (Nat → Rw) × (Nat → Int) × (Nat → Rw) × Nat × (Nat → Int)
def hsN (a : Hs) : Nat := a.1
def hsH (a : Hs) : Nat → Rw := a.2.1
def hsV (a : Hs) : Nat → Int := a.2.2.1
def hsL (a : Hs) : Nat → Rw := a.2.2.2.1
def hsP (a : Hs) : Nat := a.2.2.2.2.1
def hsC (a : Hs) : Nat → Int := a.2.2.2.2.2
def HisR (n : Nat) (H : Nat → Rw) (μ : Mem) : Prop := n ≤ 6 ∧ μ 56 2 = (n : Int) ∧ ∃ nx : Nat, nx < 6 ∧ μ 56 1 = (nx : Int) ∧ ∀ j : Nat, j < n → IZ (H j) ∧ RC (H j) μ (58 + 55 * ((nx + 6 - n + j) % 6))
def CRr (a : Hs) (μ : Mem) : Prop := HisR (hsN a) (hsH a) μ ∧
  (∀ s : Nat, s < 2 → ((hsV a) s = 0 ∨ (hsV a) s = 1) ∧ μ 389 s = (hsV a) s ∧ ((hsV a) s = 1 → IZ ((hsL a) s) ∧ RC ((hsL a) s) μ (400 + 55 * s))) ∧
  ((hsP a) ≤ 60 ∧ μ 390 1 = ((hsP a) : Int) ∧ ∀ i : Nat, i < (hsP a) → 33 ≤ (hsC a) i ∧ (hsC a) i ≤ 126 ∧ μ 391 i = (hsC a) i)
theorem HisR_f {n : Nat} {H : Nat → Rw} {μ μ' : Mem} (hf : ∀ k, 56 ≤ k → k < 388 → μ' k = μ k) (h : HisR n H μ) : HisR n H μ' := by
  obtain ⟨h1, h2, nx, h3, h4, h5⟩ := h
  refine ⟨h1, by rw [hf 56 (by omega) (by omega)]; exact h2, nx, h3, by rw [hf 56 (by omega) (by omega)]; exact h4, fun j hj => ⟨(h5 j hj).1, ?_⟩⟩
  exact RC_f (by have := (h5 j hj).1.1; omega) (fun k _ _ => hf k (by omega) (by omega)) (h5 j hj).2
theorem CRr_f {a : Hs} {μ μ' : Mem} (hf : ∀ k, (56 ≤ k ∧ k < 392) ∨ (400 ≤ k ∧ k < 510) → μ' k = μ k) (h : CRr a μ) : CRr a μ' := by
  obtain ⟨h1, h2, h3, h4, h5⟩ := h
  refine ⟨HisR_f (fun k _ _ => hf k (by omega)) h1, fun s hs => ?_, h3, by rw [hf 390 (by omega)]; exact h4, fun i hi => by rw [hf 391 (by omega)]; exact h5 i hi⟩
  obtain ⟨g1, g2, g3⟩ := h2 s hs
  refine ⟨g1, by rw [hf 389 (by omega)]; exact g2, fun h => ⟨(g3 h).1, ?_⟩⟩
  exact RC_f (by have := (g3 h).1.1; omega) (fun k _ _ => hf k (by omega)) (g3 h).2
theorem CRr_q {a : Hs} {z : Rw} {μ μ' : Mem} (hq : QF z μ μ') (h : CRr a μ) : CRr a μ' := CRr_f (fun k hk => hq.1 k (by omega) (by omega) (by omega)) h
def hpush (n : Nat) (H : Nat → Rw) (z : Rw) : Nat → Rw := fun j => if n < 6 then (if j = n then z else H j) else (if j = 5 then z else H (j + 1))
def hpn (n : Nat) : Nat := if n < 6 then n + 1 else 6
def hsPush (a : Hs) (z : Rw) : Hs := (hpn (hsN a), hpush (hsN a) (hsH a) z, hsV a, hsL a, hsP a, hsC a)
def hsPop (a : Hs) : Hs := (hsN a - 1, hsH a, hsV a, hsL a, hsP a, hsC a)
theorem HisR_push {n : Nat} {H : Nat → Rw} {z : Rw} {μ μ' : Mem} {nx : Nat} (hz : IZ z) (h1 : n ≤ 6) (h3 : nx < 6) (h5 : ∀ j : Nat, j < n → IZ (H j) ∧ RC (H j) μ (58 + 55 * ((nx + 6 - n + j) % 6)))
    (hf : ∀ k, 58 ≤ k → k < 388 → (k < 58 + 55 * nx ∨ 58 + 55 * nx + 55 ≤ k) → μ' k = μ k) (g2 : μ' 56 2 = if (n : Int) < 6 then (n : Int) + 1 else 6) (g1 : μ' 56 1 = if nx = 5 then 0 else (nx : Int) + 1) (gR : RC z μ' (58 + 55 * nx)) : HisR (hpn n) (hpush n H z) μ' := by
  have cp : ∀ (w : Rw) (k : Nat), k < 6 → k ≠ nx → IZ w → RC w μ (58 + 55 * k) → RC w μ' (58 + 55 * k) := fun w k hk hk2 hw hR => RC_f (by have := hw.1; omega) (fun x _ _ => hf x (by omega) (by omega) (by omega)) hR
  refine ⟨by unfold hpn; split <;> omega, by rw [g2]; unfold hpn; split <;> split <;> omega, (nx + 1) % 6, by omega, by rw [g1]; split <;> omega, fun j hj => ?_⟩
  unfold hpn at hj ⊢
  unfold hpush
  by_cases hn : n < 6
  · rw [if_pos hn] at hj ⊢
    rw [if_pos hn]
    by_cases hjn : j = n
    · rw [if_pos hjn, show ((nx + 1) % 6 + 6 - (n + 1) + j) % 6 = nx by omega]
      exact ⟨hz, gR⟩
    · rw [if_neg hjn, show ((nx + 1) % 6 + 6 - (n + 1) + j) % 6 = (nx + 6 - n + j) % 6 by omega]
      have := h5 j (by omega)
      exact ⟨this.1, cp _ _ (by omega) (by omega) this.1 this.2⟩
  · rw [if_neg hn] at hj ⊢
    rw [if_neg hn]
    by_cases hjn : j = 5
    · rw [if_pos hjn, show ((nx + 1) % 6 + 6 - 6 + j) % 6 = nx by omega]
      exact ⟨hz, gR⟩
    · rw [if_neg hjn, show ((nx + 1) % 6 + 6 - 6 + j) % 6 = (nx + 6 - n + (j + 1)) % 6 by omega]
      have := h5 (j + 1) (by omega)
      exact ⟨this.1, cp _ _ (by omega) (by omega) this.1 this.2⟩
-- His.keep: blocks [0, 13, 26, 32]
theorem k_His_keep {d : Nat} {Q : QT} {μ : Mem} {z : Rw} {a : Hs} (hz : IZ z) (hR : RC z μ 1) (hC : CRr a μ)
    (hq : ∀ μ' : Mem, (∀ k, k < 56 ∨ 388 ≤ k → μ' k = μ k) → CRr (hsPush a z) μ' → Q (.inl 0) μ') : Call σ1 (d + 4) 14 [.inr (.inr 56), .inr (.inr 1)] μ Q := by
  refine e_14 ?_
  obtain ⟨⟨h1, h2, nx, h3, h4, h5⟩, hs, hp⟩ := hC
  refine wp_go b14_0 ?_; simp only [l14_0, sg_aload_0, sg_getfp, sg_getf0, sg_aaload, sg_aload_1, sg_iv2_v, len4_0, len4_1, len4_2, len4_3, len4_4, nLg_n, nLg_i, nLg_r, tc_c, tc_l, tc_r, tc_m, tc_n, tc_o, tc_0, inR, true_and, and_true, ne_eq, not_true_eq_false, not_false_eq_true, true_imp_iff, false_imp_iff, Int.toNat_natCast, lit_a, Nat.reduceAdd, or_true, true_or, or_false, false_or, Int.reduceEq, Int.reduceNe, Int.reduceLT, Int.reduceLE, Int.reduceNeg, sg_nil, s1p, x0, x1, x2, x3, x4, x5, x6, x7, x8, x9, x10, x11, x12, x13, x56, x57, x388, x389, x390, x391, x392, x393, x394, x395, x396, x397, x398, x399, h4, (stH nx h3).1]
  repeat' (first | with_reducible apply And.intro | (intro _) | ((first | refine wp_go b14_0 ?_ | refine wp_go b14_13 ?_ | refine wp_go b14_26 ?_ | refine wp_go b14_32 ?_); simp only [l14_0, l14_13, l14_26, l14_32, sg_aload_0, sg_getfp, sg_getf0, sg_aaload, sg_aload_1, sg_iv2_v, len4_0, len4_1, len4_2, len4_3, len4_4, sg_iconst, sg_ic_ne, sg_goto, sg_iadd, sg_putf0, sg_bipush, sg_min, sg_ret, nLg_n, nLg_i, nLg_r, tc_c, tc_l, tc_r, tc_m, tc_n, tc_o, tc_0, inR, true_and, and_true, ne_eq, not_true_eq_false, not_false_eq_true, true_imp_iff, false_imp_iff, Int.toNat_natCast, lit_a, Nat.reduceAdd, or_true, true_or, or_false, false_or, Int.reduceEq, Int.reduceNe, Int.reduceLT, Int.reduceLE, Int.reduceNeg, sg_nil]))
  all_goals (try omega)
  refine k_Sta_copyFrom (stH nx h3) st1 (by omega) hz hR (fun μ1 f1 R1 => ?_)
  have e1 : μ1 56 1 = (nx : Int) := by rw [f1 56 (by omega)]; exact h4
  have e2 : μ1 56 2 = ((hsN a) : Int) := by rw [f1 56 (by omega)]; exact h2
  have fin : ∀ μ2 : Mem, (∀ k, k ≠ 56 → μ2 k = μ1 k) → μ2 56 2 = (if ((hsN a) : Int) < 6 then ((hsN a) : Int) + 1 else 6) → μ2 56 1 = (if nx = 5 then 0 else (nx : Int) + 1) → Q (.inl 0) μ2 := fun μ2 f2 g2 g1 => by
    have f3 : ∀ k, k < 56 ∨ 388 ≤ k → μ2 k = μ k := fun k hk => (f2 k (by omega)).trans (f1 k (by omega))
    refine hq μ2 f3 ⟨HisR_push hz h1 h3 h5 (fun k _ _ _ => (f2 k (by omega)).trans (f1 k (by omega))) g2 g1 (RC_f (by have := hz.1; omega) (fun k _ _ => f2 k (by omega)) R1), fun s hs' => ?_, ?_⟩
    · obtain ⟨g1, g2, g3⟩ := hs s hs'
      refine ⟨g1, by rw [f3 389 (by omega)]; exact g2, fun h => ⟨(g3 h).1, ?_⟩⟩
      exact RC_f (by have := (g3 h).1.1; show (hsL a) s 3 ≤ 6; omega) (fun k _ _ => f3 k (by omega)) (g3 h).2
    · show (hsP a) ≤ 60 ∧ _
      rw [f3 390 (by omega), f3 391 (by omega)]
      exact hp
  refine wp_go b14_13 ?_; simp only [l14_13, sg_aload_0, sg_getf0, sg_iconst, sg_ic_ne, sg_goto, nLg_n, nLg_i, nLg_r, tc_c, tc_l, tc_r, tc_m, tc_n, tc_o, tc_0, inR, true_and, and_true, ne_eq, not_true_eq_false, not_false_eq_true, true_imp_iff, false_imp_iff, Int.toNat_natCast, lit_a, Nat.reduceAdd, or_true, true_or, or_false, false_or, Int.reduceEq, Int.reduceNe, Int.reduceLT, Int.reduceLE, Int.reduceNeg, sg_nil, s1p, x0, x1, x2, x3, x4, x5, x6, x7, x8, x9, x10, x11, x12, x13, x56, x57, x388, x389, x390, x391, x392, x393, x394, x395, x396, x397, x398, x399, e1]
  repeat' (first | with_reducible apply And.intro | (intro _) | ((first | refine wp_go b14_0 ?_ | refine wp_go b14_13 ?_ | refine wp_go b14_26 ?_ | refine wp_go b14_32 ?_); simp only [l14_0, l14_13, l14_26, l14_32, sg_aload_0, sg_getfp, sg_getf0, sg_aaload, sg_aload_1, sg_iv2_v, len4_0, len4_1, len4_2, len4_3, len4_4, sg_iconst, sg_ic_ne, sg_goto, sg_iadd, sg_putf0, sg_bipush, sg_min, sg_ret, nLg_n, nLg_i, nLg_r, tc_c, tc_l, tc_r, tc_m, tc_n, tc_o, tc_0, inR, true_and, and_true, ne_eq, not_true_eq_false, not_false_eq_true, true_imp_iff, false_imp_iff, Int.toNat_natCast, lit_a, Nat.reduceAdd, or_true, true_or, or_false, false_or, Int.reduceEq, Int.reduceNe, Int.reduceLT, Int.reduceLE, Int.reduceNeg, sg_nil, s1p, x0, x1, x2, x3, x4, x5, x6, x7, x8, x9, x10, x11, x12, x13, x56, x57, x388, x389, x390, x391, x392, x393, x394, x395, x396, x397, x398, x399, e2, ms_at]))
  all_goals (try omega)
  all_goals
    refine fin _ (fun k hk => ?_) ?_ ?_
    · funext j; simp only [ms_at]; (repeat (first | rw [if_neg (by omega)] | rw [if_pos (by omega)]))
    · simp only [ms_at, true_and, and_true, if_true, Nat.reduceEqDiff, if_false, e1, e2]; (repeat' split) <;> omega
    · simp only [ms_at, true_and, and_true, if_true, Nat.reduceEqDiff, if_false, e1, e2]; (repeat' split) <;> omega
end
section
def uz (z : Rw) (k : Nat) (v : Int) : Rw := fun x => if x = k then v else z x
theorem uz_at (z : Rw) (k : Nat) (v : Int) (x : Nat) : uz z k v x = if x = k then v else z x := rfl
theorem uz_s (z : Rw) (k : Nat) (v : Int) : uz z k v k = v := by unfold uz; rw [if_pos rfl]
theorem uz_o (z : Rw) {k : Nat} (v : Int) {x : Nat} (h : x ≠ k) : uz z k v x = z x := by unfold uz; rw [if_neg h]
theorem fw_uz (z : Rw) {k : Nat} (v : Int) (l : Nat) (h : k < 230) : fw (uz z k v) l = fw z l := by funext x; exact uz_o z v (by omega)
theorem keep_R {z : Rw} {μ μ' : Mem} (hz : IZ z) (hf : ∀ k, k < 56 ∨ 388 ≤ k → μ' k = μ k) (h : RC z μ 1) : RC z μ' 1 := RC_f (by have := hz.1; omega) (fun k _ _ => hf k (by omega)) h
theorem IZ_len {z : Rw} {s : Nat} {v : Int} (hz : IZ z) (hs : (s : Int) < z 0) (hv : 1 ≤ v ∧ v ≤ 300) : IZ (uz z (5 + 3 * s) v) := by
  have q := hz.1
  obtain ⟨h1, h2, h3, h5, h6⟩ := hz
  have bo : ∀ k, k ≠ 5 + 3 * s → uz z (5 + 3 * s) v k = z k := fun k h => uz_o z v h
  unfold IZ
  rw [bo 0 (by omega), bo 1 (by omega), bo 2 (by omega), bo 3 (by omega), bo 6 (by omega)]
  refine ⟨h1, fun i hi => ?_, h3, fun i hi => ?_, fun l hl => ?_⟩
  · rw [bo (4 + 3 * i) (by omega), bo (6 + 3 * i) (by omega), bo (76 + 5 * i) (by omega)]
    obtain ⟨b1, b2, b3, b4, b5⟩ := h2 i hi
    refine ⟨b1, ?_, b3, b4, fun j hj => by rw [bo _ (by omega)]; exact b5 j hj⟩
    rw [uz_at]; split
    · exact hv
    · exact b2
  · rw [bo (196 + 2 * i) (by omega), bo (197 + 2 * i) (by omega)]; exact h5 i hi
  · rw [bo (212 + 3 * l) (by omega), bo (213 + 3 * l) (by omega), bo (214 + 3 * l) (by omega), fw_uz z v l (by omega)]; exact h6 l hl
theorem RC_len {z : Rw} {μ : Mem} {s : Nat} {v : Int} (hz : IZ z) (hs : (s : Int) < z 0) (hR : RC z μ 1) : RC (uz z (5 + 3 * s) v) (ms μ 4 s v) 1 := by
  have q := hz.1
  obtain ⟨⟨c0, c1, c2, c3⟩, h2, h5, h6⟩ := hR
  have bo : ∀ k, k ≠ 5 + 3 * s → uz z (5 + 3 * s) v k = z k := fun k h => uz_o z v h
  have mo : ∀ k, k ≠ 4 → ms μ 4 s v k = μ k := fun k h => by funext j; simp only [ms_at]; (repeat (first | rw [if_neg (by omega)] | rw [if_pos (by omega)]))
  unfold RC
  rw [bo 0 (by omega), bo 1 (by omega), bo 2 (by omega), bo 3 (by omega)]
  refine ⟨⟨by rw [mo _ (by omega)]; exact c0, by rw [mo _ (by omega)]; exact c1, by rw [mo _ (by omega)]; exact c2, by rw [mo _ (by omega)]; exact c3⟩, fun i hi => ?_, fun i hi => ?_, fun l hl => ?_⟩
  · rw [bo (4 + 3 * i) (by omega), bo (6 + 3 * i) (by omega), bo (76 + 5 * i) (by omega), mo (1 + 2) (by omega), mo (1 + 4) (by omega), mo (1 + 5) (by omega), mo (1 + 6) (by omega)]
    obtain ⟨b1, b2, b3, b4, b5⟩ := h2 i hi
    have r := (hz.2.1 i hi).2.2.2.1
    refine ⟨b1, ?_, b3, b4, fun j hj => by rw [bo _ (by omega)]; exact b5 j hj⟩
    simp only [uz_at, ms_at, true_and]
    by_cases h : i = s
    · rw [if_pos h, if_pos (by omega)]
    · rw [if_neg h, if_neg (by omega)]; exact b2
  · rw [bo (196 + 2 * i) (by omega), bo (197 + 2 * i) (by omega), mo (1 + 7) (by omega), mo (1 + 8) (by omega)]; exact h5 i hi
  · rw [bo (212 + 3 * l) (by omega), bo (213 + 3 * l) (by omega), bo (214 + 3 * l) (by omega), fw_uz z v l (by omega), mo (1 + 9) (by omega), mo (1 + 10) (by omega), mo (1 + 11) (by omega)]
    obtain ⟨b1, b2, b3, b4⟩ := h6 l hl
    exact ⟨b1, b2, b3, fun h => HR_f (fun k _ _ => mo k (by omega)) (b4 h)⟩
def c_change (z : Rw) (s v : Int) : Int := if s < 0 ∨ z 0 ≤ s then -1 else if v < 1 ∨ 300 < v then -2 else 0
/-- what a mutator of the class leaves -/
def MF (z' : Rw) (a' : Hs) (μ μ' : Mem) : Prop := (∀ k, 510 ≤ k → μ' k = μ k) ∧ RC z' μ' 1 ∧ CRr a' μ'
-- NS.change: blocks [0, 8, 13, 21, 27, 38]
theorem k_NS_change {d : Nat} {Q : QT} {μ : Mem} {s v : Int} {z : Rw} {a : Hs} (hz : IZ z) (hR : RC z μ 1) (hC : CRr a μ) (hs : inR s) (hv : inR v) (hf : c_change z s v < 0 → Q (.inl (c_change z s v)) μ)
    (hq : c_change z s v = 0 → ∀ μ', MF (uz z (5 + 3 * s.toNat) v) (hsPush a z) μ μ' → Q (.inl (z (5 + 3 * s.toNat))) μ') : Call σ1 (d + 5) 42 [.inr (.inr 0), .inl s, .inl v] μ Q := by
  refine e_42 ?_
  have q := hz.1
  refine wp_go b42_0 ?_; simp only [l42_0, sg_aload_0, sg_getfp, sg_iload_1, sg_iv2_i, len4_0, len4_1, len4_2, len4_3, len4_4, nLg_n, nLg_i, nLg_r, tc_c, tc_l, tc_r, tc_m, tc_n, tc_o, tc_0, inR, true_and, and_true, ne_eq, not_true_eq_false, not_false_eq_true, true_imp_iff, false_imp_iff, Int.toNat_natCast, lit_a, Nat.reduceAdd, or_true, true_or, or_false, false_or, Int.reduceEq, Int.reduceNe, Int.reduceLT, Int.reduceLE, Int.reduceNeg, sg_nil, s1p, x0, x1, x2, x3, x4, x5, x6, x7, x8, x9, x10, x11, x12, x13, x56, x57, x388, x389, x390, x391, x392, x393, x394, x395, x396, x397, x398, x399]
  refine k_Sta_hasSentence st1 hR hz hs (fun h1 h2 => ?_) (fun h0 => ?_)
  · obtain ⟨n, rfl⟩ := nat_of h1
    refine wp_go b42_8 ?_; simp only [l42_8, sg_if_ne, sg_iconst, sg_iret0, nLg_n, nLg_i, nLg_r, tc_c, tc_l, tc_r, tc_m, tc_n, tc_o, tc_0, inR, true_and, and_true, ne_eq, not_true_eq_false, not_false_eq_true, true_imp_iff, false_imp_iff, Int.toNat_natCast, lit_a, Nat.reduceAdd, or_true, true_or, or_false, false_or, Int.reduceEq, Int.reduceNe, Int.reduceLT, Int.reduceLE, Int.reduceNeg, sg_nil]
    repeat' (first | with_reducible apply And.intro | intro _)
    all_goals (try omega)
    refine wp_go b42_13 ?_; simp only [l42_13, sg_iload_2, sg_iconst, sg_sipush, len4_0, len4_1, len4_2, len4_3, len4_4, sg_is3_1, nLg_n, nLg_i, nLg_r, tc_c, tc_l, tc_r, tc_m, tc_n, tc_o, tc_0, inR, true_and, and_true, ne_eq, not_true_eq_false, not_false_eq_true, true_imp_iff, false_imp_iff, Int.toNat_natCast, lit_a, Nat.reduceAdd, or_true, true_or, or_false, false_or, Int.reduceEq, Int.reduceNe, Int.reduceLT, Int.reduceLE, Int.reduceNeg, sg_nil]
    refine k_NS_isWithin hv (by unfold inR; omega) (by unfold inR; omega) (fun g1 g2 => ?_) (fun g0 => ?_)
    · have ec : c_change z (n : Int) v = 0 := by unfold c_change; rw [if_neg (by omega), if_neg (by omega)]
      have hq := hq ec
      rw [Int.toNat_natCast] at hq
      refine wp_go b42_21 ?_; simp only [l42_21, sg_if_ne, sg_bipush, sg_iret0, nLg_n, nLg_i, nLg_r, tc_c, tc_l, tc_r, tc_m, tc_n, tc_o, tc_0, inR, true_and, and_true, ne_eq, not_true_eq_false, not_false_eq_true, true_imp_iff, false_imp_iff, Int.toNat_natCast, lit_a, Nat.reduceAdd, or_true, true_or, or_false, false_or, Int.reduceEq, Int.reduceNe, Int.reduceLT, Int.reduceLE, Int.reduceNeg, sg_nil, s1p, x0, x1, x2, x3, x4, x5, x6, x7, x8, x9, x10, x11, x12, x13, x56, x57, x388, x389, x390, x391, x392, x393, x394, x395, x396, x397, x398, x399]
      repeat' (first | with_reducible apply And.intro | intro _)
      all_goals (try omega)
      refine wp_go b42_27 ?_; simp only [l42_27, sg_aload_0, sg_getfp, sg_iv2_v, len4_0, len4_1, len4_2, len4_3, len4_4, nLg_n, nLg_i, nLg_r, tc_c, tc_l, tc_r, tc_m, tc_n, tc_o, tc_0, inR, true_and, and_true, ne_eq, not_true_eq_false, not_false_eq_true, true_imp_iff, false_imp_iff, Int.toNat_natCast, lit_a, Nat.reduceAdd, or_true, true_or, or_false, false_or, Int.reduceEq, Int.reduceNe, Int.reduceLT, Int.reduceLE, Int.reduceNeg, sg_nil, s1p, x0, x1, x2, x3, x4, x5, x6, x7, x8, x9, x10, x11, x12, x13, x56, x57, x388, x389, x390, x391, x392, x393, x394, x395, x396, x397, x398, x399]
      refine k_His_keep hz hR hC (fun μ1 f1 C1 => ?_)
      have R1 := keep_R hz f1 hR
      have e := (R1.2.1 n h2).2.1
      have hq := hq _ ⟨fun k hk => by rw [← f1 k (by omega)]; funext j; simp only [ms_at]; (repeat (first | rw [if_neg (by omega)] | rw [if_pos (by omega)])), RC_len hz h2 R1, CRr_f (fun k hk => by funext j; simp only [ms_at]; (repeat (first | rw [if_neg (by omega)] | rw [if_pos (by omega)]))) C1⟩
      have e : μ1 4 n = z (5 + 3 * n) := e
      refine wp_go b42_38 ?_; simp only [l42_38, sg_aload_0, sg_getfp, sg_iload_1, sg_iaload, sg_istore_3, sg_iload_2, sg_iastore, sg_iload_3, sg_iret0, nLg_n, nLg_i, nLg_r, tc_c, tc_l, tc_r, tc_m, tc_n, tc_o, tc_0, inR, true_and, and_true, ne_eq, not_true_eq_false, not_false_eq_true, true_imp_iff, false_imp_iff, Int.toNat_natCast, lit_a, Nat.reduceAdd, or_true, true_or, or_false, false_or, Int.reduceEq, Int.reduceNe, Int.reduceLT, Int.reduceLE, Int.reduceNeg, sg_nil, s1p, x0, x1, x2, x3, x4, x5, x6, x7, x8, x9, x10, x11, x12, x13, x56, x57, x388, x389, x390, x391, x392, x393, x394, x395, x396, x397, x398, x399, e]
      repeat' (first | with_reducible apply And.intro | (intro _) | ((first | refine wp_go b42_0 ?_ | refine wp_go b42_8 ?_ | refine wp_go b42_13 ?_ | refine wp_go b42_21 ?_ | refine wp_go b42_27 ?_ | refine wp_go b42_38 ?_); simp only [l42_0, l42_8, l42_13, l42_21, l42_27, l42_38, sg_aload_0, sg_getfp, sg_iload_1, sg_iv2_i, len4_0, len4_1, len4_2, len4_3, len4_4, sg_if_ne, sg_iconst, sg_iret0, sg_iload_2, sg_sipush, sg_is3_1, sg_bipush, sg_iv2_v, sg_iaload, sg_istore_3, sg_iastore, sg_iload_3, nLg_n, nLg_i, nLg_r, tc_c, tc_l, tc_r, tc_m, tc_n, tc_o, tc_0, inR, true_and, and_true, ne_eq, not_true_eq_false, not_false_eq_true, true_imp_iff, false_imp_iff, Int.toNat_natCast, lit_a, Nat.reduceAdd, or_true, true_or, or_false, false_or, Int.reduceEq, Int.reduceNe, Int.reduceLT, Int.reduceLE, Int.reduceNeg, sg_nil]))
      all_goals (try omega)
      all_goals exact hq
    · have ec : c_change z (n : Int) v = -2 := by unfold c_change; rw [if_neg (by omega), if_pos (by omega)]
      rw [ec] at hf
      have hf := hf (by omega)
      refine wp_go b42_21 ?_; simp only [l42_21, sg_if_ne, sg_bipush, sg_iret0, nLg_n, nLg_i, nLg_r, tc_c, tc_l, tc_r, tc_m, tc_n, tc_o, tc_0, inR, true_and, and_true, ne_eq, not_true_eq_false, not_false_eq_true, true_imp_iff, false_imp_iff, Int.toNat_natCast, lit_a, Nat.reduceAdd, or_true, true_or, or_false, false_or, Int.reduceEq, Int.reduceNe, Int.reduceLT, Int.reduceLE, Int.reduceNeg, sg_nil]
      repeat' (first | with_reducible apply And.intro | (intro _) | ((first | refine wp_go b42_0 ?_ | refine wp_go b42_8 ?_ | refine wp_go b42_13 ?_ | refine wp_go b42_21 ?_ | refine wp_go b42_27 ?_ | refine wp_go b42_38 ?_); simp only [l42_0, l42_8, l42_13, l42_21, l42_27, l42_38, sg_aload_0, sg_getfp, sg_iload_1, sg_iv2_i, len4_0, len4_1, len4_2, len4_3, len4_4, sg_if_ne, sg_iconst, sg_iret0, sg_iload_2, sg_sipush, sg_is3_1, sg_bipush, sg_iv2_v, sg_iaload, sg_istore_3, sg_iastore, sg_iload_3, nLg_n, nLg_i, nLg_r, tc_c, tc_l, tc_r, tc_m, tc_n, tc_o, tc_0, inR, true_and, and_true, ne_eq, not_true_eq_false, not_false_eq_true, true_imp_iff, false_imp_iff, Int.toNat_natCast, lit_a, Nat.reduceAdd, or_true, true_or, or_false, false_or, Int.reduceEq, Int.reduceNe, Int.reduceLT, Int.reduceLE, Int.reduceNeg, sg_nil]))
      all_goals (try omega)
      all_goals exact hf
  · have ec : c_change z s v = -1 := by unfold c_change; rw [if_pos (by omega)]
    rw [ec] at hf
    have hf := hf (by omega)
    refine wp_go b42_8 ?_; simp only [l42_8, sg_if_ne, sg_iconst, sg_iret0, nLg_n, nLg_i, nLg_r, tc_c, tc_l, tc_r, tc_m, tc_n, tc_o, tc_0, inR, true_and, and_true, ne_eq, not_true_eq_false, not_false_eq_true, true_imp_iff, false_imp_iff, Int.toNat_natCast, lit_a, Nat.reduceAdd, or_true, true_or, or_false, false_or, Int.reduceEq, Int.reduceNe, Int.reduceLT, Int.reduceLE, Int.reduceNeg, sg_nil]
    repeat' (first | with_reducible apply And.intro | (intro _) | ((first | refine wp_go b42_0 ?_ | refine wp_go b42_8 ?_ | refine wp_go b42_13 ?_ | refine wp_go b42_21 ?_ | refine wp_go b42_27 ?_ | refine wp_go b42_38 ?_); simp only [l42_0, l42_8, l42_13, l42_21, l42_27, l42_38, sg_aload_0, sg_getfp, sg_iload_1, sg_iv2_i, len4_0, len4_1, len4_2, len4_3, len4_4, sg_if_ne, sg_iconst, sg_iret0, sg_iload_2, sg_sipush, sg_is3_1, sg_bipush, sg_iv2_v, sg_iaload, sg_istore_3, sg_iastore, sg_iload_3, nLg_n, nLg_i, nLg_r, tc_c, tc_l, tc_r, tc_m, tc_n, tc_o, tc_0, inR, true_and, and_true, ne_eq, not_true_eq_false, not_false_eq_true, true_imp_iff, false_imp_iff, Int.toNat_natCast, lit_a, Nat.reduceAdd, or_true, true_or, or_false, false_or, Int.reduceEq, Int.reduceNe, Int.reduceLT, Int.reduceLE, Int.reduceNeg, sg_nil]))
    all_goals (try omega)
    all_goals exact hf
end
section
theorem IZ_beg {z : Rw} {s : Nat} {v : Int} (hz : IZ z) (hs : (s : Int) < z 0) (h0 : s ≠ 0) (hv : 0 ≤ v ∧ v ≤ 1) : IZ (uz z (6 + 3 * s) v) := by
  have q := hz.1
  obtain ⟨h1, h2, h3, h5, h6⟩ := hz
  have bo : ∀ k, k ≠ 6 + 3 * s → uz z (6 + 3 * s) v k = z k := fun k h => uz_o z v h
  unfold IZ
  rw [bo 0 (by omega), bo 1 (by omega), bo 2 (by omega), bo 3 (by omega), bo 6 (by omega)]
  refine ⟨h1, fun i hi => ?_, h3, fun i hi => ?_, fun l hl => ?_⟩
  · rw [bo (4 + 3 * i) (by omega), bo (5 + 3 * i) (by omega), bo (76 + 5 * i) (by omega)]
    obtain ⟨b1, b2, b3, b4, b5⟩ := h2 i hi
    refine ⟨b1, b2, ?_, b4, fun j hj => by rw [bo _ (by omega)]; exact b5 j hj⟩
    rw [uz_at]; split
    · exact hv
    · exact b3
  · rw [bo (196 + 2 * i) (by omega), bo (197 + 2 * i) (by omega)]; exact h5 i hi
  · rw [bo (212 + 3 * l) (by omega), bo (213 + 3 * l) (by omega), bo (214 + 3 * l) (by omega), fw_uz z v l (by omega)]; exact h6 l hl
theorem RC_beg {z : Rw} {μ : Mem} {s : Nat} {v : Int} (hz : IZ z) (hs : (s : Int) < z 0) (hR : RC z μ 1) : RC (uz z (6 + 3 * s) v) (ms μ 5 s v) 1 := by
  have q := hz.1
  obtain ⟨⟨c0, c1, c2, c3⟩, h2, h5, h6⟩ := hR
  have bo : ∀ k, k ≠ 6 + 3 * s → uz z (6 + 3 * s) v k = z k := fun k h => uz_o z v h
  have mo : ∀ k, k ≠ 5 → ms μ 5 s v k = μ k := fun k h => by funext j; simp only [ms_at]; (repeat (first | rw [if_neg (by omega)] | rw [if_pos (by omega)]))
  unfold RC
  rw [bo 0 (by omega), bo 1 (by omega), bo 2 (by omega), bo 3 (by omega)]
  refine ⟨⟨by rw [mo _ (by omega)]; exact c0, by rw [mo _ (by omega)]; exact c1, by rw [mo _ (by omega)]; exact c2, by rw [mo _ (by omega)]; exact c3⟩, fun i hi => ?_, fun i hi => ?_, fun l hl => ?_⟩
  · rw [bo (4 + 3 * i) (by omega), bo (5 + 3 * i) (by omega), bo (76 + 5 * i) (by omega), mo (1 + 2) (by omega), mo (1 + 3) (by omega), mo (1 + 5) (by omega), mo (1 + 6) (by omega)]
    obtain ⟨b1, b2, b3, b4, b5⟩ := h2 i hi
    have r := (hz.2.1 i hi).2.2.2.1
    refine ⟨b1, b2, ?_, b4, fun j hj => by rw [bo _ (by omega)]; exact b5 j hj⟩
    simp only [uz_at, ms_at, true_and]
    by_cases h : i = s
    · rw [if_pos h, if_pos (by omega)]
    · rw [if_neg h, if_neg (by omega)]; exact b3
  · rw [bo (196 + 2 * i) (by omega), bo (197 + 2 * i) (by omega), mo (1 + 7) (by omega), mo (1 + 8) (by omega)]; exact h5 i hi
  · rw [bo (212 + 3 * l) (by omega), bo (213 + 3 * l) (by omega), bo (214 + 3 * l) (by omega), fw_uz z v l (by omega), mo (1 + 9) (by omega), mo (1 + 10) (by omega), mo (1 + 11) (by omega)]
    obtain ⟨b1, b2, b3, b4⟩ := h6 l hl
    exact ⟨b1, b2, b3, fun h => HR_f (fun k _ _ => mo k (by omega)) (b4 h)⟩

theorem zb_sum {z : Rw} {s : Nat} {v : Int} : zb (uz z (6 + 3 * s) v) = fun i => if i = s then v else zb z i := by
  funext i
  unfold zb
  rw [uz_at]
  by_cases h : i = s
  · rw [if_pos h, if_pos (by omega)]
  · rw [if_neg h, if_neg (by omega)]
def c_chapter (z : Rw) (s b : Int) : Int := if s < 0 ∨ z 0 ≤ s then -1 else if s = 0 ∨ z (6 + 3 * s.toNat) = b then -5 else 0
-- NS.chapter: blocks [0, 8, 13, 17, 38, 41, 52, 75]
theorem k_NS_chapter {d : Nat} {Q : QT} {μ : Mem} {s b : Int} {z : Rw} {a : Hs} (hz : IZ z) (hR : RC z μ 1) (hC : CRr a μ) (hs : inR s) (hb : 0 ≤ b ∧ b ≤ 1) (hf : c_chapter z s b < 0 → Q (.inl (c_chapter z s b)) μ)
    (hq : c_chapter z s b = 0 → ∀ μ', MF (uz z (6 + 3 * s.toNat) b) (hsPush a z) μ μ' → Q (.inl (sm (zb (uz z (6 + 3 * s.toNat) b)) (zn z))) μ') : Call σ1 (d + 5) 43 [.inr (.inr 0), .inl s, .inl b] μ Q := by
  refine e_43 ?_
  have q := hz.1
  refine wp_go b43_0 ?_; simp only [l43_0, sg_aload_0, sg_getfp, sg_iload_1, sg_iv2_i, len4_0, len4_1, len4_2, len4_3, len4_4, nLg_n, nLg_i, nLg_r, tc_c, tc_l, tc_r, tc_m, tc_n, tc_o, tc_0, inR, true_and, and_true, ne_eq, not_true_eq_false, not_false_eq_true, true_imp_iff, false_imp_iff, Int.toNat_natCast, lit_a, Nat.reduceAdd, or_true, true_or, or_false, false_or, Int.reduceEq, Int.reduceNe, Int.reduceLT, Int.reduceLE, Int.reduceNeg, sg_nil, s1p, x0, x1, x2, x3, x4, x5, x6, x7, x8, x9, x10, x11, x12, x13, x56, x57, x388, x389, x390, x391, x392, x393, x394, x395, x396, x397, x398, x399]
  refine k_Sta_hasSentence st1 hR hz hs (fun h1 h2 => ?_) (fun h0 => ?_)
  · obtain ⟨n, rfl⟩ := nat_of h1
    have e5 : μ 5 n = z (6 + 3 * n) := (hR.2.1 n h2).2.2.1
    rw [Int.toNat_natCast] at hq
    refine wp_go b43_8 ?_; simp only [l43_8, sg_if_ne, sg_iconst, sg_iret0, nLg_n, nLg_i, nLg_r, tc_c, tc_l, tc_r, tc_m, tc_n, tc_o, tc_0, inR, true_and, and_true, ne_eq, not_true_eq_false, not_false_eq_true, true_imp_iff, false_imp_iff, Int.toNat_natCast, lit_a, Nat.reduceAdd, or_true, true_or, or_false, false_or, Int.reduceEq, Int.reduceNe, Int.reduceLT, Int.reduceLE, Int.reduceNeg, sg_nil]
    repeat' (first | with_reducible apply And.intro | intro _)
    all_goals (try omega)
    refine wp_go b43_13 ?_; simp only [l43_13, sg_iload_2, len4_0, len4_1, len4_2, len4_3, len4_4, sg_is1_1, nLg_n, nLg_i, nLg_r, tc_c, tc_l, tc_r, tc_m, tc_n, tc_o, tc_0, inR, true_and, and_true, ne_eq, not_true_eq_false, not_false_eq_true, true_imp_iff, false_imp_iff, Int.toNat_natCast, lit_a, Nat.reduceAdd, or_true, true_or, or_false, false_or, Int.reduceEq, Int.reduceNe, Int.reduceLT, Int.reduceLE, Int.reduceNeg, sg_nil]
    refine k_NS_asNumber (by omega) ?_
    have fin : ¬ ((n : Int) = 0 ∨ z (6 + 3 * n) = b) → wp σ1 (Call σ1 (d + 4)) 43 Q 41 [some (.inr (.inr 0)), some (.inl (n : Int)), some (.inl b), some (.inl b)] [] μ := fun hn => by
      have ec : c_chapter z (n : Int) b = 0 := by unfold c_chapter; rw [if_neg (by omega), Int.toNat_natCast, if_neg hn]
      have hq := hq ec
      refine wp_go b43_41 ?_; simp only [l43_41, sg_aload_0, sg_getfp, sg_iv2_v, len4_0, len4_1, len4_2, len4_3, len4_4, nLg_n, nLg_i, nLg_r, tc_c, tc_l, tc_r, tc_m, tc_n, tc_o, tc_0, inR, true_and, and_true, ne_eq, not_true_eq_false, not_false_eq_true, true_imp_iff, false_imp_iff, Int.toNat_natCast, lit_a, Nat.reduceAdd, or_true, true_or, or_false, false_or, Int.reduceEq, Int.reduceNe, Int.reduceLT, Int.reduceLE, Int.reduceNeg, sg_nil, s1p, x0, x1, x2, x3, x4, x5, x6, x7, x8, x9, x10, x11, x12, x13, x56, x57, x388, x389, x390, x391, x392, x393, x394, x395, x396, x397, x398, x399]
      repeat' (first | with_reducible apply And.intro | intro _)
      all_goals (try omega)
      refine k_His_keep hz hR hC (fun μ1 f1 C1 => ?_)
      have R1 := keep_R hz f1 hR
      have hz1 : IZ (uz z (6 + 3 * n) b) := IZ_beg hz h2 (by omega) hb
      have R2 : RC (uz z (6 + 3 * n) b) (ms μ1 5 n b) 1 := RC_beg hz h2 R1
      have hq := hq _ ⟨fun k hk => by rw [← f1 k (by omega)]; funext j; simp only [ms_at]; (repeat (first | rw [if_neg (by omega)] | rw [if_pos (by omega)])), R2, CRr_f (fun k hk => by funext j; simp only [ms_at]; (repeat (first | rw [if_neg (by omega)] | rw [if_pos (by omega)]))) C1⟩
      have e0 := zn_eq hz
      have b0 : uz z (6 + 3 * n) b 0 = z 0 := uz_o z b (by omega)
      have hn0 : ms μ1 5 n b 2 3 = ((zn z : Nat) : Int) := R2.1.1.trans (b0.trans e0.1)
      refine wp_go b43_52 ?_; simp only [l43_52, sg_aload_0, sg_getfp, sg_iload_1, sg_iload_3, sg_iastore, sg_iv1_i, len4_0, len4_1, len4_2, len4_3, len4_4, nLg_n, nLg_i, nLg_r, tc_c, tc_l, tc_r, tc_m, tc_n, tc_o, tc_0, inR, true_and, and_true, ne_eq, not_true_eq_false, not_false_eq_true, true_imp_iff, false_imp_iff, Int.toNat_natCast, lit_a, Nat.reduceAdd, or_true, true_or, or_false, false_or, Int.reduceEq, Int.reduceNe, Int.reduceLT, Int.reduceLE, Int.reduceNeg, sg_nil, s1p, x0, x1, x2, x3, x4, x5, x6, x7, x8, x9, x10, x11, x12, x13, x56, x57, x388, x389, x390, x391, x392, x393, x394, x395, x396, x397, x398, x399]
      repeat' (first | with_reducible apply And.intro | (intro _) | ((first | refine wp_go b43_0 ?_ | refine wp_go b43_8 ?_ | refine wp_go b43_13 ?_ | refine wp_go b43_17 ?_ | refine wp_go b43_38 ?_ | refine wp_go b43_41 ?_ | refine wp_go b43_52 ?_ | refine wp_go b43_75 ?_); simp only [l43_0, l43_8, l43_13, l43_17, l43_38, l43_41, l43_52, l43_75, sg_aload_0, sg_getfp, sg_iload_1, sg_iv2_i, len4_0, len4_1, len4_2, len4_3, len4_4, sg_if_ne, sg_iconst, sg_iret0, sg_iload_2, sg_is1_1, sg_istore_3, sg_if_eq, sg_iaload, sg_iload_3, sg_ic_ne, sg_bipush, sg_iv2_v, sg_iastore, sg_iv1_i, nLg_n, nLg_i, nLg_r, tc_c, tc_l, tc_r, tc_m, tc_n, tc_o, tc_0, inR, true_and, and_true, ne_eq, not_true_eq_false, not_false_eq_true, true_imp_iff, false_imp_iff, Int.toNat_natCast, lit_a, Nat.reduceAdd, or_true, true_or, or_false, false_or, Int.reduceEq, Int.reduceNe, Int.reduceLT, Int.reduceLE, Int.reduceNeg, sg_nil]))
      all_goals (try omega)
      refine k_Sen_chapters st1.2.1 (n := zn z - 1) (hn0.trans (by omega)) (by omega) ?_
      rw [show sm (fun i => ms μ1 5 n b (2 + 3) (i + 1)) (zn z - 1) + 1 = sm (zb (uz z (6 + 3 * n) b)) (zn z) from by
        rw [sm_zb hz1 R2 (by rw [b0]; omega), show zn z - 1 + 1 = zn z by omega]; omega]
      refine wp_go b43_75 ?_; simp only [l43_75, sg_iret0, nLg_n, nLg_i, nLg_r, tc_c, tc_l, tc_r, tc_m, tc_n, tc_o, tc_0, inR, true_and, and_true, ne_eq, not_true_eq_false, not_false_eq_true, true_imp_iff, false_imp_iff, Int.toNat_natCast, lit_a, Nat.reduceAdd, or_true, true_or, or_false, false_or, Int.reduceEq, Int.reduceNe, Int.reduceLT, Int.reduceLE, Int.reduceNeg, sg_nil]
      exact hq
    have bad : ((n : Int) = 0 ∨ z (6 + 3 * n) = b) → Q (.inl (-5)) μ := fun hn => by
      have ec : c_chapter z (n : Int) b = -5 := by unfold c_chapter; rw [if_neg (by omega), Int.toNat_natCast, if_pos hn]
      rw [ec] at hf
      exact hf (by omega)
    have rb := (hz.2.1 n h2).2.2.1
    refine wp_go b43_17 ?_; simp only [l43_17, sg_istore_3, sg_iload_1, sg_if_eq, sg_aload_0, sg_getfp, sg_iaload, sg_iload_3, sg_ic_ne, nLg_n, nLg_i, nLg_r, tc_c, tc_l, tc_r, tc_m, tc_n, tc_o, tc_0, inR, true_and, and_true, ne_eq, not_true_eq_false, not_false_eq_true, true_imp_iff, false_imp_iff, Int.toNat_natCast, lit_a, Nat.reduceAdd, or_true, true_or, or_false, false_or, Int.reduceEq, Int.reduceNe, Int.reduceLT, Int.reduceLE, Int.reduceNeg, sg_nil, s1p, x0, x1, x2, x3, x4, x5, x6, x7, x8, x9, x10, x11, x12, x13, x56, x57, x388, x389, x390, x391, x392, x393, x394, x395, x396, x397, x398, x399, e5]
    repeat' (first | with_reducible apply And.intro | intro _)
    all_goals (try omega)
    all_goals first
      | exact fin (by omega)
      | (have h := bad (by omega); refine wp_go b43_38 ?_; simp only [l43_38, sg_bipush, sg_iret0, nLg_n, nLg_i, nLg_r, tc_c, tc_l, tc_r, tc_m, tc_n, tc_o, tc_0, inR, true_and, and_true, ne_eq, not_true_eq_false, not_false_eq_true, true_imp_iff, false_imp_iff, Int.toNat_natCast, lit_a, Nat.reduceAdd, or_true, true_or, or_false, false_or, Int.reduceEq, Int.reduceNe, Int.reduceLT, Int.reduceLE, Int.reduceNeg, sg_nil]; exact h)
  · have ec : c_chapter z s b = -1 := by unfold c_chapter; rw [if_pos (by omega)]
    rw [ec] at hf
    have hf := hf (by omega)
    refine wp_go b43_8 ?_; simp only [l43_8, sg_if_ne, sg_iconst, sg_iret0, nLg_n, nLg_i, nLg_r, tc_c, tc_l, tc_r, tc_m, tc_n, tc_o, tc_0, inR, true_and, and_true, ne_eq, not_true_eq_false, not_false_eq_true, true_imp_iff, false_imp_iff, Int.toNat_natCast, lit_a, Nat.reduceAdd, or_true, true_or, or_false, false_or, Int.reduceEq, Int.reduceNe, Int.reduceLT, Int.reduceLE, Int.reduceNeg, sg_nil]
    repeat' (first | with_reducible apply And.intro | (intro _) | ((first | refine wp_go b43_0 ?_ | refine wp_go b43_8 ?_ | refine wp_go b43_13 ?_ | refine wp_go b43_17 ?_ | refine wp_go b43_38 ?_ | refine wp_go b43_41 ?_ | refine wp_go b43_52 ?_ | refine wp_go b43_75 ?_); simp only [l43_0, l43_8, l43_13, l43_17, l43_38, l43_41, l43_52, l43_75, sg_aload_0, sg_getfp, sg_iload_1, sg_iv2_i, len4_0, len4_1, len4_2, len4_3, len4_4, sg_if_ne, sg_iconst, sg_iret0, sg_iload_2, sg_is1_1, sg_istore_3, sg_if_eq, sg_iaload, sg_iload_3, sg_ic_ne, sg_bipush, sg_iv2_v, sg_iastore, sg_iv1_i, nLg_n, nLg_i, nLg_r, tc_c, tc_l, tc_r, tc_m, tc_n, tc_o, tc_0, inR, true_and, and_true, ne_eq, not_true_eq_false, not_false_eq_true, true_imp_iff, false_imp_iff, Int.toNat_natCast, lit_a, Nat.reduceAdd, or_true, true_or, or_false, false_or, Int.reduceEq, Int.reduceNe, Int.reduceLT, Int.reduceLE, Int.reduceNeg, sg_nil]))
    all_goals (try omega)
    all_goals exact hf
end
section
/-- a new notice -/
def ntZ (z : Rw) (v g : Int) : Rw := fun x => if x = 2 then z 2 + 1 else if x = 196 + 2 * (z 2).toNat then v else if x = 197 + 2 * (z 2).toNat then g else z x
theorem IZ_nt {z : Rw} {v g : Int} (hz : IZ z) (h2 : z 2 < 8) (hv : 1 ≤ v ∧ v ≤ 120) (hg : 1 ≤ g ∧ g ≤ 63) : IZ (ntZ z v g) := by
  have q := hz.1
  obtain ⟨n, hn⟩ := nat_of (show 0 ≤ z 2 by omega)
  have bo : ∀ k, k ≠ 2 → k ≠ 196 + 2 * n → k ≠ 197 + 2 * n → ntZ z v g k = z k := fun k h h3 h4 => by unfold ntZ; rw [hn, Int.toNat_natCast, if_neg h, if_neg h3, if_neg h4]
  have e2 : ntZ z v g 2 = z 2 + 1 := rfl
  obtain ⟨h1, h2, h3, h5, h6⟩ := hz
  unfold IZ
  rw [bo 0 (by omega) (by omega) (by omega), bo 1 (by omega) (by omega) (by omega), e2, bo 3 (by omega) (by omega) (by omega), bo 6 (by omega) (by omega) (by omega)]
  refine ⟨by omega, fun i hi => ?_, h3, fun i hi => ?_, fun l hl => ?_⟩
  · rw [bo (4 + 3 * i) (by omega) (by omega) (by omega), bo (5 + 3 * i) (by omega) (by omega) (by omega), bo (6 + 3 * i) (by omega) (by omega) (by omega), bo (76 + 5 * i) (by omega) (by omega) (by omega)]
    obtain ⟨b1, b2, b3, b4, b5⟩ := h2 i hi
    refine ⟨b1, b2, b3, b4, fun j hj => ?_⟩
    rw [bo _ (by omega) (by omega) (by omega)]
    have := b5 j hj
    omega
  · by_cases h : i = n
    · subst h
      unfold ntZ
      rw [hn, Int.toNat_natCast]
      (repeat (first | rw [if_neg (by omega)] | rw [if_pos (by omega)]))
      exact ⟨hv, hg⟩
    · rw [bo (196 + 2 * i) (by omega) (by omega) (by omega), bo (197 + 2 * i) (by omega) (by omega) (by omega)]; exact h5 i (by omega)
  · rw [bo (212 + 3 * l) (by omega) (by omega) (by omega), bo (213 + 3 * l) (by omega) (by omega) (by omega), bo (214 + 3 * l) (by omega) (by omega) (by omega)]
    rw [show fw (ntZ z v g) l = fw z l from by funext x; exact bo _ (by omega) (by omega) (by omega)]; exact h6 l hl
theorem RC_nt {z : Rw} {μ μ' : Mem} {n : Nat} {v g : Int} (hz : IZ z) (hn : z 2 = (n : Int)) (h2 : z 2 < 8) (hR : RC z μ 1)
    (mo : ∀ k, k ≠ 1 → k ≠ 8 → k ≠ 9 → μ' k = μ k) (m1 : ∀ j, j ≠ 10 → μ' 1 j = μ 1 j) (m2 : μ' 1 10 = (n : Int) + 1) (m8 : ∀ j, μ' 8 j = if j = n then v else μ 8 j) (m9 : ∀ j, μ' 9 j = if j = n then g else μ 9 j) : RC (ntZ z v g) μ' 1 := by
  have q := hz.1
  have bo : ∀ k, k ≠ 2 → k ≠ 196 + 2 * n → k ≠ 197 + 2 * n → ntZ z v g k = z k := fun k h h3 h4 => by unfold ntZ; rw [hn, Int.toNat_natCast, if_neg h, if_neg h3, if_neg h4]
  have e2 : ntZ z v g 2 = z 2 + 1 := rfl
  obtain ⟨⟨c0, c1, c2, c3⟩, h2, h5, h6⟩ := hR
  unfold RC
  rw [bo 0 (by omega) (by omega) (by omega), bo 1 (by omega) (by omega) (by omega), e2, bo 3 (by omega) (by omega) (by omega)]
  refine ⟨⟨by rw [mo _ (by omega) (by omega) (by omega)]; exact c0, by rw [m1 _ (by omega)]; exact c1, by rw [m2]; omega, by rw [m1 _ (by omega)]; exact c3⟩, fun i hi => ?_, fun i hi => ?_, fun l hl => ?_⟩
  · rw [bo (4 + 3 * i) (by omega) (by omega) (by omega), bo (5 + 3 * i) (by omega) (by omega) (by omega), bo (6 + 3 * i) (by omega) (by omega) (by omega), bo (76 + 5 * i) (by omega) (by omega) (by omega), mo (1 + 2) (by omega) (by omega) (by omega), mo (1 + 3) (by omega) (by omega) (by omega), mo (1 + 4) (by omega) (by omega) (by omega), mo (1 + 5) (by omega) (by omega) (by omega), mo (1 + 6) (by omega) (by omega) (by omega)]
    obtain ⟨b1, b2, b3, b4, b5⟩ := h2 i hi
    have r := (hz.2.1 i hi).2.2.2.1
    exact ⟨b1, b2, b3, b4, fun j hj => by rw [bo _ (by omega) (by omega) (by omega)]; exact b5 j hj⟩
  · rw [show 1 + 7 = 8 from rfl, show 1 + 8 = 9 from rfl, m8, m9]
    by_cases h : i = n
    · subst h
      unfold ntZ
      rw [hn, Int.toNat_natCast]
      (repeat (first | rw [if_neg (by omega)] | rw [if_pos (by omega)]))
      exact ⟨rfl, rfl⟩
    · rw [bo (196 + 2 * i) (by omega) (by omega) (by omega), bo (197 + 2 * i) (by omega) (by omega) (by omega), if_neg h, if_neg h]; exact h5 i (by omega)
  · rw [bo (212 + 3 * l) (by omega) (by omega) (by omega), bo (213 + 3 * l) (by omega) (by omega) (by omega), bo (214 + 3 * l) (by omega) (by omega) (by omega), mo (1 + 9) (by omega) (by omega) (by omega), mo (1 + 10) (by omega) (by omega) (by omega), mo (1 + 11) (by omega) (by omega) (by omega)]
    rw [show fw (ntZ z v g) l = fw z l from by funext x; exact bo _ (by omega) (by omega) (by omega)]
    obtain ⟨b1, b2, b3, b4⟩ := h6 l hl
    exact ⟨b1, b2, b3, fun h => HR_f (fun k _ _ => mo k (by omega) (by omega) (by omega)) (b4 h)⟩
def c_notice (z : Rw) (v g : Int) : Int := if (v < 1 ∨ 120 < v) ∨ (g < 1 ∨ 63 < g) then -2 else if 8 ≤ z 2 then -4 else 0
-- NS.notice: blocks [0, 7, 17, 20, 23, 38, 49]
theorem k_NS_notice {d : Nat} {Q : QT} {μ : Mem} {v g : Int} {z : Rw} {a : Hs} (hz : IZ z) (hR : RC z μ 1) (hC : CRr a μ) (hv : inR v) (hg : inR g) (hf : c_notice z v g < 0 → Q (.inl (c_notice z v g)) μ)
    (hq : c_notice z v g = 0 → ∀ μ', MF (ntZ z v g) (hsPush a z) μ μ' → Q (.inl (z 2)) μ') : Call σ1 (d + 5) 44 [.inr (.inr 0), .inl v, .inl g] μ Q := by
  refine e_44 ?_
  have q := hz.1
  have bad2 : ((v < 1 ∨ 120 < v) ∨ (g < 1 ∨ 63 < g)) → Q (.inl (-2)) μ := fun h => by
    have ec : c_notice z v g = -2 := by unfold c_notice; rw [if_pos h]
    rw [ec] at hf
    exact hf (by omega)
  refine wp_go b44_0 ?_; simp only [l44_0, sg_iload_1, sg_iconst, sg_bipush, len4_0, len4_1, len4_2, len4_3, len4_4, sg_is3_1, nLg_n, nLg_i, nLg_r, tc_c, tc_l, tc_r, tc_m, tc_n, tc_o, tc_0, inR, true_and, and_true, ne_eq, not_true_eq_false, not_false_eq_true, true_imp_iff, false_imp_iff, Int.toNat_natCast, lit_a, Nat.reduceAdd, or_true, true_or, or_false, false_or, Int.reduceEq, Int.reduceNe, Int.reduceLT, Int.reduceLE, Int.reduceNeg, sg_nil]
  refine k_NS_isWithin hv (by unfold inR; omega) (by unfold inR; omega) (fun g1 g2 => ?_) (fun g0 => ?_)
  · refine wp_go b44_7 ?_; simp only [l44_7, sg_if_eq, sg_iload_2, sg_iconst, sg_bipush, len4_0, len4_1, len4_2, len4_3, len4_4, sg_is3_1, nLg_n, nLg_i, nLg_r, tc_c, tc_l, tc_r, tc_m, tc_n, tc_o, tc_0, inR, true_and, and_true, ne_eq, not_true_eq_false, not_false_eq_true, true_imp_iff, false_imp_iff, Int.toNat_natCast, lit_a, Nat.reduceAdd, or_true, true_or, or_false, false_or, Int.reduceEq, Int.reduceNe, Int.reduceLT, Int.reduceLE, Int.reduceNeg, sg_nil]
    repeat' (first | with_reducible apply And.intro | intro _)
    all_goals (try omega)
    refine k_NS_isWithin hg (by unfold inR; omega) (by unfold inR; omega) (fun g3 g4 => ?_) (fun g0 => ?_)
    · have e10 : μ 1 10 = z 2 := hR.1.2.2.1
      obtain ⟨n, hn⟩ := nat_of (show 0 ≤ z 2 by omega)
      refine wp_go b44_17 ?_; simp only [l44_17, sg_if_ne, nLg_n, nLg_i, nLg_r, tc_c, tc_l, tc_r, tc_m, tc_n, tc_o, tc_0, inR, true_and, and_true, ne_eq, not_true_eq_false, not_false_eq_true, true_imp_iff, false_imp_iff, Int.toNat_natCast, lit_a, Nat.reduceAdd, or_true, true_or, or_false, false_or, Int.reduceEq, Int.reduceNe, Int.reduceLT, Int.reduceLE, Int.reduceNeg, sg_nil]
      repeat' (first | with_reducible apply And.intro | intro _)
      all_goals (try omega)
      refine wp_go b44_23 ?_; simp only [l44_23, sg_aload_0, sg_getfp, sg_getf0, sg_bipush, sg_ic_lt, sg_iret0, nLg_n, nLg_i, nLg_r, tc_c, tc_l, tc_r, tc_m, tc_n, tc_o, tc_0, inR, true_and, and_true, ne_eq, not_true_eq_false, not_false_eq_true, true_imp_iff, false_imp_iff, Int.toNat_natCast, lit_a, Nat.reduceAdd, or_true, true_or, or_false, false_or, Int.reduceEq, Int.reduceNe, Int.reduceLT, Int.reduceLE, Int.reduceNeg, sg_nil, s1p, x0, x1, x2, x3, x4, x5, x6, x7, x8, x9, x10, x11, x12, x13, x56, x57, x388, x389, x390, x391, x392, x393, x394, x395, x396, x397, x398, x399, e10]
      by_cases h8 : 8 ≤ z 2
      · have ec : c_notice z v g = -4 := by unfold c_notice; rw [if_neg (by omega), if_pos h8]
        rw [ec] at hf
        have hf := hf (by omega)
        repeat' (first | with_reducible apply And.intro | intro _)
        all_goals (try omega)
      · have ec : c_notice z v g = 0 := by unfold c_notice; rw [if_neg (by omega), if_neg h8]
        have hq := hq ec
        repeat' (first | with_reducible apply And.intro | intro _)
        all_goals (try omega)
        refine wp_go b44_38 ?_; simp only [l44_38, sg_aload_0, sg_getfp, sg_iv2_v, len4_0, len4_1, len4_2, len4_3, len4_4, nLg_n, nLg_i, nLg_r, tc_c, tc_l, tc_r, tc_m, tc_n, tc_o, tc_0, inR, true_and, and_true, ne_eq, not_true_eq_false, not_false_eq_true, true_imp_iff, false_imp_iff, Int.toNat_natCast, lit_a, Nat.reduceAdd, or_true, true_or, or_false, false_or, Int.reduceEq, Int.reduceNe, Int.reduceLT, Int.reduceLE, Int.reduceNeg, sg_nil, s1p, x0, x1, x2, x3, x4, x5, x6, x7, x8, x9, x10, x11, x12, x13, x56, x57, x388, x389, x390, x391, x392, x393, x394, x395, x396, x397, x398, x399]
        refine k_His_keep hz hR hC (fun μ1 f1 C1 => ?_)
        have R1 := keep_R hz f1 hR
        have w10 : μ1 1 10 = (n : Int) := R1.1.2.2.1.trans hn
        have hq : ∀ μ', (∀ k, k ≠ 1 → k ≠ 8 → k ≠ 9 → μ' k = μ1 k) → (∀ j, j ≠ 10 → μ' 1 j = μ1 1 j) → μ' 1 10 = (n : Int) + 1 → (∀ j, μ' 8 j = if j = n then v else μ1 8 j) → (∀ j, μ' 9 j = if j = n then g else μ1 9 j) → Q (.inl (z 2)) μ' := fun μ' m0 m1 m2 m8 m9 =>
          hq μ' ⟨fun k hk => by rw [m0 k (by omega) (by omega) (by omega), f1 k (by omega)], RC_nt hz hn (by omega) R1 m0 m1 m2 m8 m9, CRr_f (fun k hk => m0 k (by omega) (by omega) (by omega)) C1⟩
        rw [hn] at hq
        refine wp_go b44_49 ?_; simp only [l44_49, sg_aload_0, sg_getfp, sg_getf0, sg_istore_3, sg_iload_3, sg_iload_1, sg_iastore, sg_iload_2, sg_dup_i, sg_dup_r, sg_iconst, sg_iadd, sg_putf0, sg_iret0, nLg_n, nLg_i, nLg_r, tc_c, tc_l, tc_r, tc_m, tc_n, tc_o, tc_0, inR, true_and, and_true, ne_eq, not_true_eq_false, not_false_eq_true, true_imp_iff, false_imp_iff, Int.toNat_natCast, lit_a, Nat.reduceAdd, or_true, true_or, or_false, false_or, Int.reduceEq, Int.reduceNe, Int.reduceLT, Int.reduceLE, Int.reduceNeg, sg_nil, s1p, x0, x1, x2, x3, x4, x5, x6, x7, x8, x9, x10, x11, x12, x13, x56, x57, x388, x389, x390, x391, x392, x393, x394, x395, x396, x397, x398, x399, w10, ms_at, false_and, and_false, if_false, if_true, and_self, Nat.reduceEqDiff, ne_a, ne_b, Nat.add_left_cancel_iff]
        repeat' (first | with_reducible apply And.intro | (intro _) | ((first | refine wp_go b44_0 ?_ | refine wp_go b44_7 ?_ | refine wp_go b44_17 ?_ | refine wp_go b44_20 ?_ | refine wp_go b44_23 ?_ | refine wp_go b44_38 ?_ | refine wp_go b44_49 ?_); simp only [l44_0, l44_7, l44_17, l44_20, l44_23, l44_38, l44_49, sg_iload_1, sg_iconst, sg_bipush, len4_0, len4_1, len4_2, len4_3, len4_4, sg_is3_1, sg_if_eq, sg_iload_2, sg_if_ne, sg_iret0, sg_aload_0, sg_getfp, sg_getf0, sg_ic_lt, sg_iv2_v, sg_istore_3, sg_iload_3, sg_iastore, sg_dup_i, sg_dup_r, sg_iadd, sg_putf0, nLg_n, nLg_i, nLg_r, tc_c, tc_l, tc_r, tc_m, tc_n, tc_o, tc_0, inR, true_and, and_true, ne_eq, not_true_eq_false, not_false_eq_true, true_imp_iff, false_imp_iff, Int.toNat_natCast, lit_a, Nat.reduceAdd, or_true, true_or, or_false, false_or, Int.reduceEq, Int.reduceNe, Int.reduceLT, Int.reduceLE, Int.reduceNeg, sg_nil]))
        all_goals (try omega)
        all_goals
          refine hq _ (fun k h1 h2 h3 => ?_) (fun j hj => ?_) ?_ (fun j => ?_) (fun j => ?_)
          · funext j; simp only [ms_at]; (repeat (first | rw [if_neg (by omega)] | rw [if_pos (by omega)]))
          · simp only [ms_at, true_and, and_true, if_true, Nat.reduceEqDiff, if_false, false_and]; (repeat (first | rw [if_neg (by omega)] | rw [if_pos (by omega)]))
          · simp [ms_at, w10]
          · simp [ms_at]
          · simp [ms_at]
    · have hf := bad2 (by omega)
      refine wp_go b44_17 ?_; simp only [l44_17, sg_if_ne, nLg_n, nLg_i, nLg_r, tc_c, tc_l, tc_r, tc_m, tc_n, tc_o, tc_0, inR, true_and, and_true, ne_eq, not_true_eq_false, not_false_eq_true, true_imp_iff, false_imp_iff, Int.toNat_natCast, lit_a, Nat.reduceAdd, or_true, true_or, or_false, false_or, Int.reduceEq, Int.reduceNe, Int.reduceLT, Int.reduceLE, Int.reduceNeg, sg_nil]
      repeat' (first | with_reducible apply And.intro | (intro _) | ((first | refine wp_go b44_0 ?_ | refine wp_go b44_7 ?_ | refine wp_go b44_17 ?_ | refine wp_go b44_20 ?_ | refine wp_go b44_23 ?_ | refine wp_go b44_38 ?_ | refine wp_go b44_49 ?_); simp only [l44_0, l44_7, l44_17, l44_20, l44_23, l44_38, l44_49, sg_iload_1, sg_iconst, sg_bipush, len4_0, len4_1, len4_2, len4_3, len4_4, sg_is3_1, sg_if_eq, sg_iload_2, sg_if_ne, sg_iret0, sg_aload_0, sg_getfp, sg_getf0, sg_ic_lt, sg_iv2_v, sg_istore_3, sg_iload_3, sg_iastore, sg_dup_i, sg_dup_r, sg_iadd, sg_putf0, nLg_n, nLg_i, nLg_r, tc_c, tc_l, tc_r, tc_m, tc_n, tc_o, tc_0, inR, true_and, and_true, ne_eq, not_true_eq_false, not_false_eq_true, true_imp_iff, false_imp_iff, Int.toNat_natCast, lit_a, Nat.reduceAdd, or_true, true_or, or_false, false_or, Int.reduceEq, Int.reduceNe, Int.reduceLT, Int.reduceLE, Int.reduceNeg, sg_nil]))
      all_goals (try omega)
      all_goals exact hf
  · have hf := bad2 (by omega)
    refine wp_go b44_7 ?_; simp only [l44_7, sg_if_eq, sg_iload_2, sg_iconst, sg_bipush, len4_0, len4_1, len4_2, len4_3, len4_4, sg_is3_1, nLg_n, nLg_i, nLg_r, tc_c, tc_l, tc_r, tc_m, tc_n, tc_o, tc_0, inR, true_and, and_true, ne_eq, not_true_eq_false, not_false_eq_true, true_imp_iff, false_imp_iff, Int.toNat_natCast, lit_a, Nat.reduceAdd, or_true, true_or, or_false, false_or, Int.reduceEq, Int.reduceNe, Int.reduceLT, Int.reduceLE, Int.reduceNeg, sg_nil]
    repeat' (first | with_reducible apply And.intro | (intro _) | ((first | refine wp_go b44_0 ?_ | refine wp_go b44_7 ?_ | refine wp_go b44_17 ?_ | refine wp_go b44_20 ?_ | refine wp_go b44_23 ?_ | refine wp_go b44_38 ?_ | refine wp_go b44_49 ?_); simp only [l44_0, l44_7, l44_17, l44_20, l44_23, l44_38, l44_49, sg_iload_1, sg_iconst, sg_bipush, len4_0, len4_1, len4_2, len4_3, len4_4, sg_is3_1, sg_if_eq, sg_iload_2, sg_if_ne, sg_iret0, sg_aload_0, sg_getfp, sg_getf0, sg_ic_lt, sg_iv2_v, sg_istore_3, sg_iload_3, sg_iastore, sg_dup_i, sg_dup_r, sg_iadd, sg_putf0, nLg_n, nLg_i, nLg_r, tc_c, tc_l, tc_r, tc_m, tc_n, tc_o, tc_0, inR, true_and, and_true, ne_eq, not_true_eq_false, not_false_eq_true, true_imp_iff, false_imp_iff, Int.toNat_natCast, lit_a, Nat.reduceAdd, or_true, true_or, or_false, false_or, Int.reduceEq, Int.reduceNe, Int.reduceLT, Int.reduceLE, Int.reduceNeg, sg_nil]))
    all_goals (try omega)
    all_goals exact hf
def c_book (z : Rw) (s t : Int) : Int := if (s < 0 ∨ z 0 ≤ s) ∨ (t < 0 ∨ z 2 ≤ t) then -1 else if 4 ≤ z (76 + 5 * s.toNat) then -4 else 0
-- NS.book: blocks [0, 8, 19, 22, 24, 32, 38, 49, 58]
theorem k_NS_book {d : Nat} {Q : QT} {μ : Mem} {s t : Int} {z : Rw} {a : Hs} (hz : IZ z) (hR : RC z μ 1) (hC : CRr a μ) (hs : inR s) (ht : inR t) (hf : c_book z s t < 0 → Q (.inl (c_book z s t)) μ)
    (hq : c_book z s t = 0 → ∀ μ', MF (bookZ z s.toNat t) (hsPush a z) μ μ' → Q (.inl (z (76 + 5 * s.toNat) + 1)) μ') : Call σ1 (d + 5) 45 [.inr (.inr 0), .inl s, .inl t] μ Q := by
  refine e_45 ?_
  have q := hz.1
  have bad1 : ((s < 0 ∨ z 0 ≤ s) ∨ (t < 0 ∨ z 2 ≤ t)) → Q (.inl (-1)) μ := fun h => by
    have ec : c_book z s t = -1 := by unfold c_book; rw [if_pos h]
    rw [ec] at hf
    exact hf (by omega)
  refine wp_go b45_0 ?_; simp only [l45_0, sg_aload_0, sg_getfp, sg_iload_1, sg_iv2_i, len4_0, len4_1, len4_2, len4_3, len4_4, nLg_n, nLg_i, nLg_r, tc_c, tc_l, tc_r, tc_m, tc_n, tc_o, tc_0, inR, true_and, and_true, ne_eq, not_true_eq_false, not_false_eq_true, true_imp_iff, false_imp_iff, Int.toNat_natCast, lit_a, Nat.reduceAdd, or_true, true_or, or_false, false_or, Int.reduceEq, Int.reduceNe, Int.reduceLT, Int.reduceLE, Int.reduceNeg, sg_nil, s1p, x0, x1, x2, x3, x4, x5, x6, x7, x8, x9, x10, x11, x12, x13, x56, x57, x388, x389, x390, x391, x392, x393, x394, x395, x396, x397, x398, x399]
  refine k_Sta_hasSentence st1 hR hz hs (fun h1 h2 => ?_) (fun h0 => ?_)
  · obtain ⟨n, rfl⟩ := nat_of h1
    refine wp_go b45_8 ?_; simp only [l45_8, sg_if_eq, sg_aload_0, sg_getfp, sg_iload_2, sg_iv2_i, len4_0, len4_1, len4_2, len4_3, len4_4, nLg_n, nLg_i, nLg_r, tc_c, tc_l, tc_r, tc_m, tc_n, tc_o, tc_0, inR, true_and, and_true, ne_eq, not_true_eq_false, not_false_eq_true, true_imp_iff, false_imp_iff, Int.toNat_natCast, lit_a, Nat.reduceAdd, or_true, true_or, or_false, false_or, Int.reduceEq, Int.reduceNe, Int.reduceLT, Int.reduceLE, Int.reduceNeg, sg_nil, s1p, x0, x1, x2, x3, x4, x5, x6, x7, x8, x9, x10, x11, x12, x13, x56, x57, x388, x389, x390, x391, x392, x393, x394, x395, x396, x397, x398, x399]
    repeat' (first | with_reducible apply And.intro | intro _)
    all_goals (try omega)
    refine k_Sta_hasNotice st1 hR hz ht (fun h3 h4 => ?_) (fun h0 => ?_)
    · refine wp_go b45_19 ?_; simp only [l45_19, sg_if_ne, nLg_n, nLg_i, nLg_r, tc_c, tc_l, tc_r, tc_m, tc_n, tc_o, tc_0, inR, true_and, and_true, ne_eq, not_true_eq_false, not_false_eq_true, true_imp_iff, false_imp_iff, Int.toNat_natCast, lit_a, Nat.reduceAdd, or_true, true_or, or_false, false_or, Int.reduceEq, Int.reduceNe, Int.reduceLT, Int.reduceLE, Int.reduceNeg, sg_nil, s1p, x0, x1, x2, x3, x4, x5, x6, x7, x8, x9, x10, x11, x12, x13, x56, x57, x388, x389, x390, x391, x392, x393, x394, x395, x396, x397, x398, x399]
      repeat' (first | with_reducible apply And.intro | intro _)
      all_goals (try omega)
      refine wp_go b45_24 ?_; simp only [l45_24, sg_aload_0, sg_getfp, sg_iload_1, sg_iv2_i, len4_0, len4_1, len4_2, len4_3, len4_4, nLg_n, nLg_i, nLg_r, tc_c, tc_l, tc_r, tc_m, tc_n, tc_o, tc_0, inR, true_and, and_true, ne_eq, not_true_eq_false, not_false_eq_true, true_imp_iff, false_imp_iff, Int.toNat_natCast, lit_a, Nat.reduceAdd, or_true, true_or, or_false, false_or, Int.reduceEq, Int.reduceNe, Int.reduceLT, Int.reduceLE, Int.reduceNeg, sg_nil, s1p, x0, x1, x2, x3, x4, x5, x6, x7, x8, x9, x10, x11, x12, x13, x56, x57, x388, x389, x390, x391, x392, x393, x394, x395, x396, x397, x398, x399]
      refine k_Sta_isRowFull st1 hR hz h2 (fun h5 => ?_) (fun h5 => ?_)
      · have ec : c_book z n t = -4 := by unfold c_book; rw [if_neg (by omega), Int.toNat_natCast, if_pos h5]
        rw [ec] at hf
        have hf := hf (by omega)
        refine wp_go b45_32 ?_; simp only [l45_32, sg_if_eq, sg_bipush, sg_iret0, nLg_n, nLg_i, nLg_r, tc_c, tc_l, tc_r, tc_m, tc_n, tc_o, tc_0, inR, true_and, and_true, ne_eq, not_true_eq_false, not_false_eq_true, true_imp_iff, false_imp_iff, Int.toNat_natCast, lit_a, Nat.reduceAdd, or_true, true_or, or_false, false_or, Int.reduceEq, Int.reduceNe, Int.reduceLT, Int.reduceLE, Int.reduceNeg, sg_nil]
        repeat' (first | with_reducible apply And.intro | (intro _) | ((first | refine wp_go b45_0 ?_ | refine wp_go b45_8 ?_ | refine wp_go b45_19 ?_ | refine wp_go b45_22 ?_ | refine wp_go b45_24 ?_ | refine wp_go b45_32 ?_ | refine wp_go b45_38 ?_ | refine wp_go b45_49 ?_ | refine wp_go b45_58 ?_); simp only [l45_0, l45_8, l45_19, l45_22, l45_24, l45_32, l45_38, l45_49, l45_58, sg_aload_0, sg_getfp, sg_iload_1, sg_iv2_i, len4_0, len4_1, len4_2, len4_3, len4_4, sg_if_eq, sg_iload_2, sg_if_ne, sg_iconst, sg_iret0, sg_bipush, sg_iv2_v, sg_iv3_v, sg_iaload, nLg_n, nLg_i, nLg_r, tc_c, tc_l, tc_r, tc_m, tc_n, tc_o, tc_0, inR, true_and, and_true, ne_eq, not_true_eq_false, not_false_eq_true, true_imp_iff, false_imp_iff, Int.toNat_natCast, lit_a, Nat.reduceAdd, or_true, true_or, or_false, false_or, Int.reduceEq, Int.reduceNe, Int.reduceLT, Int.reduceLE, Int.reduceNeg, sg_nil]))
        all_goals (try omega)
        all_goals exact hf
      · have ec : c_book z n t = 0 := by unfold c_book; rw [if_neg (by omega), Int.toNat_natCast, if_neg (by omega)]
        have hq := hq ec
        rw [Int.toNat_natCast] at hq
        refine wp_go b45_32 ?_; simp only [l45_32, sg_if_eq, sg_bipush, sg_iret0, nLg_n, nLg_i, nLg_r, tc_c, tc_l, tc_r, tc_m, tc_n, tc_o, tc_0, inR, true_and, and_true, ne_eq, not_true_eq_false, not_false_eq_true, true_imp_iff, false_imp_iff, Int.toNat_natCast, lit_a, Nat.reduceAdd, or_true, true_or, or_false, false_or, Int.reduceEq, Int.reduceNe, Int.reduceLT, Int.reduceLE, Int.reduceNeg, sg_nil]
        repeat' (first | with_reducible apply And.intro | intro _)
        all_goals (try omega)
        refine wp_go b45_38 ?_; simp only [l45_38, sg_aload_0, sg_getfp, sg_iv2_v, len4_0, len4_1, len4_2, len4_3, len4_4, nLg_n, nLg_i, nLg_r, tc_c, tc_l, tc_r, tc_m, tc_n, tc_o, tc_0, inR, true_and, and_true, ne_eq, not_true_eq_false, not_false_eq_true, true_imp_iff, false_imp_iff, Int.toNat_natCast, lit_a, Nat.reduceAdd, or_true, true_or, or_false, false_or, Int.reduceEq, Int.reduceNe, Int.reduceLT, Int.reduceLE, Int.reduceNeg, sg_nil, s1p, x0, x1, x2, x3, x4, x5, x6, x7, x8, x9, x10, x11, x12, x13, x56, x57, x388, x389, x390, x391, x392, x393, x394, x395, x396, x397, x398, x399]
        refine k_His_keep hz hR hC (fun μ1 f1 C1 => ?_)
        have R1 := keep_R hz f1 hR
        refine wp_go b45_49 ?_; simp only [l45_49, sg_aload_0, sg_getfp, sg_iload_1, sg_iload_2, sg_iv3_v, len4_0, len4_1, len4_2, len4_3, len4_4, nLg_n, nLg_i, nLg_r, tc_c, tc_l, tc_r, tc_m, tc_n, tc_o, tc_0, inR, true_and, and_true, ne_eq, not_true_eq_false, not_false_eq_true, true_imp_iff, false_imp_iff, Int.toNat_natCast, lit_a, Nat.reduceAdd, or_true, true_or, or_false, false_or, Int.reduceEq, Int.reduceNe, Int.reduceLT, Int.reduceLE, Int.reduceNeg, sg_nil, s1p, x0, x1, x2, x3, x4, x5, x6, x7, x8, x9, x10, x11, x12, x13, x56, x57, x388, x389, x390, x391, x392, x393, x394, x395, x396, x397, x398, x399]
        refine k_Sta_appendToRow st1 R1 hz h2 h5 (fun μ2 f2 R2 => ?_)
        have b0 : bookZ z n t 0 = z 0 := bookZ_o z n 0 t (by omega) (by have := (hz.2.1 n h2).2.2.2.1; omega)
        have e : μ2 6 n = z (76 + 5 * n) + 1 := ((R2.2.1 n (by omega)).2.2.2.1).trans (bookZ_s z n t)
        have hq := hq μ2 ⟨fun k hk => by rw [f2 k (by omega) (by omega), f1 k (by omega)], R2, CRr_f (fun k hk => f2 k (by omega) (by omega)) C1⟩
        refine wp_go b45_58 ?_; simp only [l45_58, sg_aload_0, sg_getfp, sg_iload_1, sg_iaload, sg_iret0, nLg_n, nLg_i, nLg_r, tc_c, tc_l, tc_r, tc_m, tc_n, tc_o, tc_0, inR, true_and, and_true, ne_eq, not_true_eq_false, not_false_eq_true, true_imp_iff, false_imp_iff, Int.toNat_natCast, lit_a, Nat.reduceAdd, or_true, true_or, or_false, false_or, Int.reduceEq, Int.reduceNe, Int.reduceLT, Int.reduceLE, Int.reduceNeg, sg_nil, s1p, x0, x1, x2, x3, x4, x5, x6, x7, x8, x9, x10, x11, x12, x13, x56, x57, x388, x389, x390, x391, x392, x393, x394, x395, x396, x397, x398, x399, e]
        repeat' (first | with_reducible apply And.intro | (intro _) | ((first | refine wp_go b45_0 ?_ | refine wp_go b45_8 ?_ | refine wp_go b45_19 ?_ | refine wp_go b45_22 ?_ | refine wp_go b45_24 ?_ | refine wp_go b45_32 ?_ | refine wp_go b45_38 ?_ | refine wp_go b45_49 ?_ | refine wp_go b45_58 ?_); simp only [l45_0, l45_8, l45_19, l45_22, l45_24, l45_32, l45_38, l45_49, l45_58, sg_aload_0, sg_getfp, sg_iload_1, sg_iv2_i, len4_0, len4_1, len4_2, len4_3, len4_4, sg_if_eq, sg_iload_2, sg_if_ne, sg_iconst, sg_iret0, sg_bipush, sg_iv2_v, sg_iv3_v, sg_iaload, nLg_n, nLg_i, nLg_r, tc_c, tc_l, tc_r, tc_m, tc_n, tc_o, tc_0, inR, true_and, and_true, ne_eq, not_true_eq_false, not_false_eq_true, true_imp_iff, false_imp_iff, Int.toNat_natCast, lit_a, Nat.reduceAdd, or_true, true_or, or_false, false_or, Int.reduceEq, Int.reduceNe, Int.reduceLT, Int.reduceLE, Int.reduceNeg, sg_nil]))
        all_goals (try omega)
        all_goals exact hq
    · have hf := bad1 (by omega)
      refine wp_go b45_19 ?_; simp only [l45_19, sg_if_ne, nLg_n, nLg_i, nLg_r, tc_c, tc_l, tc_r, tc_m, tc_n, tc_o, tc_0, inR, true_and, and_true, ne_eq, not_true_eq_false, not_false_eq_true, true_imp_iff, false_imp_iff, Int.toNat_natCast, lit_a, Nat.reduceAdd, or_true, true_or, or_false, false_or, Int.reduceEq, Int.reduceNe, Int.reduceLT, Int.reduceLE, Int.reduceNeg, sg_nil]
      repeat' (first | with_reducible apply And.intro | (intro _) | ((first | refine wp_go b45_0 ?_ | refine wp_go b45_8 ?_ | refine wp_go b45_19 ?_ | refine wp_go b45_22 ?_ | refine wp_go b45_24 ?_ | refine wp_go b45_32 ?_ | refine wp_go b45_38 ?_ | refine wp_go b45_49 ?_ | refine wp_go b45_58 ?_); simp only [l45_0, l45_8, l45_19, l45_22, l45_24, l45_32, l45_38, l45_49, l45_58, sg_aload_0, sg_getfp, sg_iload_1, sg_iv2_i, len4_0, len4_1, len4_2, len4_3, len4_4, sg_if_eq, sg_iload_2, sg_if_ne, sg_iconst, sg_iret0, sg_bipush, sg_iv2_v, sg_iv3_v, sg_iaload, nLg_n, nLg_i, nLg_r, tc_c, tc_l, tc_r, tc_m, tc_n, tc_o, tc_0, inR, true_and, and_true, ne_eq, not_true_eq_false, not_false_eq_true, true_imp_iff, false_imp_iff, Int.toNat_natCast, lit_a, Nat.reduceAdd, or_true, true_or, or_false, false_or, Int.reduceEq, Int.reduceNe, Int.reduceLT, Int.reduceLE, Int.reduceNeg, sg_nil]))
      all_goals (try omega)
      all_goals exact hf
  · have hf := bad1 (by omega)
    refine wp_go b45_8 ?_; simp only [l45_8, sg_if_eq, sg_aload_0, sg_getfp, sg_iload_2, sg_iv2_i, len4_0, len4_1, len4_2, len4_3, len4_4, nLg_n, nLg_i, nLg_r, tc_c, tc_l, tc_r, tc_m, tc_n, tc_o, tc_0, inR, true_and, and_true, ne_eq, not_true_eq_false, not_false_eq_true, true_imp_iff, false_imp_iff, Int.toNat_natCast, lit_a, Nat.reduceAdd, or_true, true_or, or_false, false_or, Int.reduceEq, Int.reduceNe, Int.reduceLT, Int.reduceLE, Int.reduceNeg, sg_nil]
    repeat' (first | with_reducible apply And.intro | (intro _) | ((first | refine wp_go b45_0 ?_ | refine wp_go b45_8 ?_ | refine wp_go b45_19 ?_ | refine wp_go b45_22 ?_ | refine wp_go b45_24 ?_ | refine wp_go b45_32 ?_ | refine wp_go b45_38 ?_ | refine wp_go b45_49 ?_ | refine wp_go b45_58 ?_); simp only [l45_0, l45_8, l45_19, l45_22, l45_24, l45_32, l45_38, l45_49, l45_58, sg_aload_0, sg_getfp, sg_iload_1, sg_iv2_i, len4_0, len4_1, len4_2, len4_3, len4_4, sg_if_eq, sg_iload_2, sg_if_ne, sg_iconst, sg_iret0, sg_bipush, sg_iv2_v, sg_iv3_v, sg_iaload, nLg_n, nLg_i, nLg_r, tc_c, tc_l, tc_r, tc_m, tc_n, tc_o, tc_0, inR, true_and, and_true, ne_eq, not_true_eq_false, not_false_eq_true, true_imp_iff, false_imp_iff, Int.toNat_natCast, lit_a, Nat.reduceAdd, or_true, true_or, or_false, false_or, Int.reduceEq, Int.reduceNe, Int.reduceLT, Int.reduceLE, Int.reduceNeg, sg_nil, s1p, x0, x1, x2, x3, x4, x5, x6, x7, x8, x9, x10, x11, x12, x13, x56, x57, x388, x389, x390, x391, x392, x393, x394, x395, x396, x397, x398, x399]))
    all_goals (try omega)
    all_goals exact hf
end
section
theorem HR_c {w w' : Rw} {μ : Mem} {h : Nat} (hw : w 0 ≤ 24) (e : ∀ k, k < 121 → w' k = w k) (H : HR w μ h) : HR w' μ h := by
  obtain ⟨h1, h2⟩ := H
  refine ⟨by rw [e 0 (by omega)]; exact h1, fun i hi => ?_⟩
  rw [e 0 (by omega)] at hi
  rw [e (5 * i + 3) (by omega), e (5 * i + 4) (by omega), e (5 * i + 5) (by omega), e (5 * i + 1) (by omega), e (5 * i + 2) (by omega)]
  exact h2 i hi
theorem WH_c {w w' : Rw} (e : ∀ k, k < 121 → w' k = w k) (H : WH w) : WH w' := by
  obtain ⟨h1, h2, h3, h4⟩ := H
  unfold WH
  rw [e 0 (by omega), e 5 (by omega)]
  refine ⟨h1, fun i hi => ?_, h3, fun k hk hk2 => by rw [e k hk2]; exact h4 k hk hk2⟩
  rw [e (5 * i + 3) (by omega), e (5 * i + 4) (by omega), e (5 * i + 5) (by omega), e (5 * i + 1) (by omega), e (5 * i + 2) (by omega)]
  exact h2 i hi
/-- an emptied break -/
def emZ (z : Rw) (s : Nat) : Rw := fun x => if 76 + 5 * s ≤ x ∧ x < 81 + 5 * s then 0 else z x
theorem emZ_o (z : Rw) (s : Nat) {k : Nat} (h : k < 76 + 5 * s ∨ 81 + 5 * s ≤ k) : emZ z s k = z k := by unfold emZ; rw [if_neg (by omega)]
theorem emZ_s (z : Rw) (s : Nat) : emZ z s (76 + 5 * s) = 0 := by unfold emZ; rw [if_pos (by omega)]
theorem IZ_em {z : Rw} {s : Nat} (hz : IZ z) (hs : (s : Int) < z 0) : IZ (emZ z s) := by
  have q := hz.1
  have bo : ∀ k, k < 76 + 5 * s ∨ 81 + 5 * s ≤ k → emZ z s k = z k := fun k h => emZ_o z s h
  obtain ⟨h1, h2, h3, h5, h6⟩ := hz
  unfold IZ
  rw [bo 0 (by omega), bo 1 (by omega), bo 2 (by omega), bo 3 (by omega), bo 6 (by omega)]
  refine ⟨h1, fun i hi => ?_, h3, fun i hi => ?_, fun l hl => ?_⟩
  · rw [bo (4 + 3 * i) (by omega), bo (5 + 3 * i) (by omega), bo (6 + 3 * i) (by omega)]
    obtain ⟨b1, b2, b3, b4, b5⟩ := h2 i hi
    by_cases h : i = s
    · subst h
      rw [emZ_s]
      exact ⟨b1, b2, b3, by omega, fun j hj => absurd hj (by omega)⟩
    · rw [bo (76 + 5 * i) (by omega)]
      exact ⟨b1, b2, b3, b4, fun j hj => by rw [bo _ (by omega)]; exact b5 j hj⟩
  · rw [bo (196 + 2 * i) (by omega), bo (197 + 2 * i) (by omega)]; exact h5 i hi
  · rw [bo (212 + 3 * l) (by omega), bo (213 + 3 * l) (by omega), bo (214 + 3 * l) (by omega), show fw (emZ z s) l = fw z l from by funext x; exact bo _ (by omega)]; exact h6 l hl
theorem RC_em {z : Rw} {μ : Mem} {s : Nat} (hz : IZ z) (hs : (s : Int) < z 0) (hR : RC z μ 1) : RC (emZ z s) (ms μ 6 s 0) 1 := by
  have q := hz.1
  obtain ⟨⟨c0, c1, c2, c3⟩, h2, h5, h6⟩ := hR
  have bo : ∀ k, k < 76 + 5 * s ∨ 81 + 5 * s ≤ k → emZ z s k = z k := fun k h => emZ_o z s h
  have mo : ∀ k, k ≠ 6 → ms μ 6 s 0 k = μ k := fun k h => by funext j; simp only [ms_at]; (repeat (first | rw [if_neg (by omega)] | rw [if_pos (by omega)]))
  unfold RC
  rw [bo 0 (by omega), bo 1 (by omega), bo 2 (by omega), bo 3 (by omega)]
  refine ⟨⟨by rw [mo _ (by omega)]; exact c0, by rw [mo _ (by omega)]; exact c1, by rw [mo _ (by omega)]; exact c2, by rw [mo _ (by omega)]; exact c3⟩, fun i hi => ?_, fun i hi => ?_, fun l hl => ?_⟩
  · rw [bo (4 + 3 * i) (by omega), bo (5 + 3 * i) (by omega), bo (6 + 3 * i) (by omega), mo (1 + 2) (by omega), mo (1 + 3) (by omega), mo (1 + 4) (by omega), mo (1 + 6) (by omega)]
    obtain ⟨b1, b2, b3, b4, b5⟩ := h2 i hi
    have r := (hz.2.1 i hi).2.2.2.1
    refine ⟨b1, b2, b3, ?_⟩
    simp only [ms_at, true_and]
    by_cases h : i = s
    · subst h
      rw [emZ_s, if_pos rfl]
      exact ⟨rfl, fun j hj => absurd hj (by omega)⟩
    · rw [if_neg h, bo (76 + 5 * i) (by omega)]
      exact ⟨b4, fun j hj => by rw [bo _ (by omega)]; exact b5 j hj⟩
  · rw [bo (196 + 2 * i) (by omega), bo (197 + 2 * i) (by omega), mo (1 + 7) (by omega), mo (1 + 8) (by omega)]; exact h5 i hi
  · rw [bo (212 + 3 * l) (by omega), bo (213 + 3 * l) (by omega), bo (214 + 3 * l) (by omega), show fw (emZ z s) l = fw z l from by funext x; exact bo _ (by omega), mo (1 + 9) (by omega), mo (1 + 10) (by omega), mo (1 + 11) (by omega)]
    obtain ⟨b1, b2, b3, b4⟩ := h6 l hl
    exact ⟨b1, b2, b3, fun h => HR_f (fun k _ _ => mo k (by omega)) (b4 h)⟩
def c_sen (z : Rw) (s : Int) : Int := if s < 0 ∨ z 0 ≤ s then -1 else 0
-- NS.empty: blocks [0, 8, 13, 24]
theorem k_NS_empty {d : Nat} {Q : QT} {μ : Mem} {s : Int} {z : Rw} {a : Hs} (hz : IZ z) (hR : RC z μ 1) (hC : CRr a μ) (hs : inR s) (hf : c_sen z s < 0 → Q (.inl (c_sen z s)) μ)
    (hq : c_sen z s = 0 → ∀ μ', MF (emZ z s.toNat) (hsPush a z) μ μ' → Q (.inl (z (76 + 5 * s.toNat))) μ') : Call σ1 (d + 5) 46 [.inr (.inr 0), .inl s] μ Q := by
  refine e_46 ?_
  have q := hz.1
  refine wp_go b46_0 ?_; simp only [l46_0, sg_aload_0, sg_getfp, sg_iload_1, sg_iv2_i, len4_0, len4_1, len4_2, len4_3, len4_4, nLg_n, nLg_i, nLg_r, tc_c, tc_l, tc_r, tc_m, tc_n, tc_o, tc_0, inR, true_and, and_true, ne_eq, not_true_eq_false, not_false_eq_true, true_imp_iff, false_imp_iff, Int.toNat_natCast, lit_a, Nat.reduceAdd, or_true, true_or, or_false, false_or, Int.reduceEq, Int.reduceNe, Int.reduceLT, Int.reduceLE, Int.reduceNeg, sg_nil, s1p, x0, x1, x2, x3, x4, x5, x6, x7, x8, x9, x10, x11, x12, x13, x56, x57, x388, x389, x390, x391, x392, x393, x394, x395, x396, x397, x398, x399]
  refine k_Sta_hasSentence st1 hR hz hs (fun h1 h2 => ?_) (fun h0 => ?_)
  · obtain ⟨n, rfl⟩ := nat_of h1
    have ec : c_sen z (n : Int) = 0 := by unfold c_sen; rw [if_neg (by omega)]
    have hq := hq ec
    rw [Int.toNat_natCast] at hq
    refine wp_go b46_8 ?_; simp only [l46_8, sg_if_ne, sg_iconst, sg_iret0, nLg_n, nLg_i, nLg_r, tc_c, tc_l, tc_r, tc_m, tc_n, tc_o, tc_0, inR, true_and, and_true, ne_eq, not_true_eq_false, not_false_eq_true, true_imp_iff, false_imp_iff, Int.toNat_natCast, lit_a, Nat.reduceAdd, or_true, true_or, or_false, false_or, Int.reduceEq, Int.reduceNe, Int.reduceLT, Int.reduceLE, Int.reduceNeg, sg_nil]
    repeat' (first | with_reducible apply And.intro | intro _)
    all_goals (try omega)
    refine wp_go b46_13 ?_; simp only [l46_13, sg_aload_0, sg_getfp, sg_iv2_v, len4_0, len4_1, len4_2, len4_3, len4_4, nLg_n, nLg_i, nLg_r, tc_c, tc_l, tc_r, tc_m, tc_n, tc_o, tc_0, inR, true_and, and_true, ne_eq, not_true_eq_false, not_false_eq_true, true_imp_iff, false_imp_iff, Int.toNat_natCast, lit_a, Nat.reduceAdd, or_true, true_or, or_false, false_or, Int.reduceEq, Int.reduceNe, Int.reduceLT, Int.reduceLE, Int.reduceNeg, sg_nil, s1p, x0, x1, x2, x3, x4, x5, x6, x7, x8, x9, x10, x11, x12, x13, x56, x57, x388, x389, x390, x391, x392, x393, x394, x395, x396, x397, x398, x399]
    refine k_His_keep hz hR hC (fun μ1 f1 C1 => ?_)
    have R1 := keep_R hz f1 hR
    have e : μ1 6 n = z (76 + 5 * n) := (R1.2.1 n h2).2.2.2.1
    have hq := hq _ ⟨fun k hk => by rw [← f1 k (by omega)]; funext j; simp only [ms_at]; (repeat (first | rw [if_neg (by omega)] | rw [if_pos (by omega)])), RC_em hz h2 R1, CRr_f (fun k hk => by funext j; simp only [ms_at]; (repeat (first | rw [if_neg (by omega)] | rw [if_pos (by omega)]))) C1⟩
    refine wp_go b46_24 ?_; simp only [l46_24, sg_aload_0, sg_getfp, sg_iload_1, sg_iaload, sg_istore_2, sg_iconst, sg_iastore, sg_iload_2, sg_iret0, nLg_n, nLg_i, nLg_r, tc_c, tc_l, tc_r, tc_m, tc_n, tc_o, tc_0, inR, true_and, and_true, ne_eq, not_true_eq_false, not_false_eq_true, true_imp_iff, false_imp_iff, Int.toNat_natCast, lit_a, Nat.reduceAdd, or_true, true_or, or_false, false_or, Int.reduceEq, Int.reduceNe, Int.reduceLT, Int.reduceLE, Int.reduceNeg, sg_nil, s1p, x0, x1, x2, x3, x4, x5, x6, x7, x8, x9, x10, x11, x12, x13, x56, x57, x388, x389, x390, x391, x392, x393, x394, x395, x396, x397, x398, x399, e]
    repeat' (first | with_reducible apply And.intro | (intro _) | ((first | refine wp_go b46_0 ?_ | refine wp_go b46_8 ?_ | refine wp_go b46_13 ?_ | refine wp_go b46_24 ?_); simp only [l46_0, l46_8, l46_13, l46_24, sg_aload_0, sg_getfp, sg_iload_1, sg_iv2_i, len4_0, len4_1, len4_2, len4_3, len4_4, sg_if_ne, sg_iconst, sg_iret0, sg_iv2_v, sg_iaload, sg_istore_2, sg_iastore, sg_iload_2, nLg_n, nLg_i, nLg_r, tc_c, tc_l, tc_r, tc_m, tc_n, tc_o, tc_0, inR, true_and, and_true, ne_eq, not_true_eq_false, not_false_eq_true, true_imp_iff, false_imp_iff, Int.toNat_natCast, lit_a, Nat.reduceAdd, or_true, true_or, or_false, false_or, Int.reduceEq, Int.reduceNe, Int.reduceLT, Int.reduceLE, Int.reduceNeg, sg_nil]))
    all_goals (try omega)
    all_goals exact hq
  · have ec : c_sen z s = -1 := by unfold c_sen; rw [if_pos (by omega)]
    rw [ec] at hf
    have hf := hf (by omega)
    refine wp_go b46_8 ?_; simp only [l46_8, sg_if_ne, sg_iconst, sg_iret0, nLg_n, nLg_i, nLg_r, tc_c, tc_l, tc_r, tc_m, tc_n, tc_o, tc_0, inR, true_and, and_true, ne_eq, not_true_eq_false, not_false_eq_true, true_imp_iff, false_imp_iff, Int.toNat_natCast, lit_a, Nat.reduceAdd, or_true, true_or, or_false, false_or, Int.reduceEq, Int.reduceNe, Int.reduceLT, Int.reduceLE, Int.reduceNeg, sg_nil]
    repeat' (first | with_reducible apply And.intro | (intro _) | ((first | refine wp_go b46_0 ?_ | refine wp_go b46_8 ?_ | refine wp_go b46_13 ?_ | refine wp_go b46_24 ?_); simp only [l46_0, l46_8, l46_13, l46_24, sg_aload_0, sg_getfp, sg_iload_1, sg_iv2_i, len4_0, len4_1, len4_2, len4_3, len4_4, sg_if_ne, sg_iconst, sg_iret0, sg_iv2_v, sg_iaload, sg_istore_2, sg_iastore, sg_iload_2, nLg_n, nLg_i, nLg_r, tc_c, tc_l, tc_r, tc_m, tc_n, tc_o, tc_0, inR, true_and, and_true, ne_eq, not_true_eq_false, not_false_eq_true, true_imp_iff, false_imp_iff, Int.toNat_natCast, lit_a, Nat.reduceAdd, or_true, true_or, or_false, false_or, Int.reduceEq, Int.reduceNe, Int.reduceLT, Int.reduceLE, Int.reduceNeg, sg_nil]))
    all_goals (try omega)
    all_goals exact hf
/-- a new listener -/
def lsZ (z : Rw) (g b : Int) : Rw := fun x => if x = 3 then z 3 + 1 else if x = 212 + 3 * (z 3).toNat then g else if x = 213 + 3 * (z 3).toNat then b else if x = 214 + 3 * (z 3).toNat then 0 else z x
theorem IZ_ls {z : Rw} {g b : Int} (hz : IZ z) (h2 : z 3 < 6) (hg : 0 ≤ g ∧ g ≤ 5) (hb : 0 ≤ b ∧ b ≤ 600) : IZ (lsZ z g b) := by
  have q := hz.1
  obtain ⟨n, hn⟩ := nat_of (show 0 ≤ z 3 by omega)
  have bo : ∀ k, k ≠ 3 → (k < 212 + 3 * n ∨ 215 + 3 * n ≤ k) → lsZ z g b k = z k := fun k h h3 => by unfold lsZ; rw [hn, Int.toNat_natCast]; (repeat (first | rw [if_neg (by omega)] | rw [if_pos (by omega)]))
  have e3 : lsZ z g b 3 = z 3 + 1 := rfl
  obtain ⟨h1, h2, h3, h5, h6⟩ := hz
  unfold IZ
  rw [bo 0 (by omega) (by omega), bo 1 (by omega) (by omega), e3, bo 2 (by omega) (by omega), bo 6 (by omega) (by omega)]
  refine ⟨by omega, fun i hi => ?_, h3, fun i hi => ?_, fun l hl => ?_⟩
  · rw [bo (4 + 3 * i) (by omega) (by omega), bo (5 + 3 * i) (by omega) (by omega), bo (6 + 3 * i) (by omega) (by omega), bo (76 + 5 * i) (by omega) (by omega)]
    obtain ⟨b1, b2, b3, b4, b5⟩ := h2 i hi
    refine ⟨b1, b2, b3, b4, fun j hj => ?_⟩
    rw [bo _ (by omega) (by omega)]
    exact b5 j hj
  · rw [bo (196 + 2 * i) (by omega) (by omega), bo (197 + 2 * i) (by omega) (by omega)]; exact h5 i hi
  · rw [show fw (lsZ z g b) l = fw z l from by funext x; exact bo _ (by omega) (by omega)]
    by_cases h : l = n
    · subst h
      unfold lsZ
      rw [hn, Int.toNat_natCast]
      (repeat (first | rw [if_neg (by omega)] | rw [if_pos (by omega)]))
      exact ⟨hg, hb, by omega, fun h => absurd h (by omega)⟩
    · rw [bo (212 + 3 * l) (by omega) (by omega), bo (213 + 3 * l) (by omega) (by omega), bo (214 + 3 * l) (by omega) (by omega)]
      exact h6 l (by omega)
theorem RC_ls {z : Rw} {μ μ' : Mem} {n : Nat} {g b : Int} (hz : IZ z) (hn : z 3 = (n : Int)) (h2 : z 3 < 6) (hR : RC z μ 1)
    (mo : ∀ k, k ≠ 1 → k ≠ 10 → k ≠ 11 → k ≠ 12 → μ' k = μ k) (m1 : ∀ j, j ≠ 11 → μ' 1 j = μ 1 j) (m2 : μ' 1 11 = (n : Int) + 1) (m8 : ∀ j, μ' 10 j = if j = n then g else μ 10 j) (m9 : ∀ j, μ' 11 j = if j = n then b else μ 11 j) (m12 : ∀ j, μ' 12 j = if j = n then 0 else μ 12 j) : RC (lsZ z g b) μ' 1 := by
  have q := hz.1
  have bo : ∀ k, k ≠ 3 → (k < 212 + 3 * n ∨ 215 + 3 * n ≤ k) → lsZ z g b k = z k := fun k h h3 => by unfold lsZ; rw [hn, Int.toNat_natCast]; (repeat (first | rw [if_neg (by omega)] | rw [if_pos (by omega)]))
  have e3 : lsZ z g b 3 = z 3 + 1 := rfl
  have mo : ∀ k, (k ≠ 1 ∧ k ≠ 10 ∧ k ≠ 11 ∧ k ≠ 12) → μ' k = μ k := fun k h => mo k h.1 h.2.1 h.2.2.1 h.2.2.2
  obtain ⟨⟨c0, c1, c2, c3⟩, h2, h5, h6⟩ := hR
  unfold RC
  rw [bo 0 (by omega) (by omega), bo 1 (by omega) (by omega), e3, bo 2 (by omega) (by omega)]
  refine ⟨⟨by rw [mo _ (by omega)]; exact c0, by rw [m1 _ (by omega)]; exact c1, by rw [m1 _ (by omega)]; exact c2, by rw [m2]; omega⟩, fun i hi => ?_, fun i hi => ?_, fun l hl => ?_⟩
  · rw [bo (4 + 3 * i) (by omega) (by omega), bo (5 + 3 * i) (by omega) (by omega), bo (6 + 3 * i) (by omega) (by omega), bo (76 + 5 * i) (by omega) (by omega), mo (1 + 2) (by omega), mo (1 + 3) (by omega), mo (1 + 4) (by omega), mo (1 + 5) (by omega), mo (1 + 6) (by omega)]
    obtain ⟨b1, b2, b3, b4, b5⟩ := h2 i hi
    have r := (hz.2.1 i hi).2.2.2.1
    exact ⟨b1, b2, b3, b4, fun j hj => by rw [bo _ (by omega) (by omega)]; exact b5 j hj⟩
  · rw [bo (196 + 2 * i) (by omega) (by omega), bo (197 + 2 * i) (by omega) (by omega), mo (1 + 7) (by omega), mo (1 + 8) (by omega)]; exact h5 i hi
  · rw [show 1 + 9 = 10 from rfl, show 1 + 10 = 11 from rfl, show 1 + 11 = 12 from rfl, m8, m9, m12]
    rw [show fw (lsZ z g b) l = fw z l from by funext x; exact bo _ (by omega) (by omega)]
    by_cases h : l = n
    · subst h
      unfold lsZ
      rw [hn, Int.toNat_natCast]
      (repeat (first | rw [if_neg (by omega)] | rw [if_pos (by omega)]))
      exact ⟨rfl, rfl, rfl, fun h => absurd h (by omega)⟩
    · rw [bo (212 + 3 * l) (by omega) (by omega), bo (213 + 3 * l) (by omega) (by omega), bo (214 + 3 * l) (by omega) (by omega), if_neg h, if_neg h, if_neg h]
      obtain ⟨b1, b2, b3, b4⟩ := h6 l (by omega)
      exact ⟨b1, b2, b3, fun h => HR_f (fun k _ _ => mo k (by omega)) (b4 h)⟩
def c_listener (z : Rw) (g b : Int) : Int := if (g < 0 ∨ 5 < g) ∨ (b < 0 ∨ 600 < b) then -2 else if 6 ≤ z 3 then -4 else 0
-- NS.listener: blocks [0, 6, 17, 20, 23, 38, 49]
theorem k_NS_listener {d : Nat} {Q : QT} {μ : Mem} {v g : Int} {z : Rw} {a : Hs} (hz : IZ z) (hR : RC z μ 1) (hC : CRr a μ) (hv : inR v) (hg : inR g) (hf : c_listener z v g < 0 → Q (.inl (c_listener z v g)) μ)
    (hq : c_listener z v g = 0 → ∀ μ', MF (lsZ z v g) (hsPush a z) μ μ' → Q (.inl (z 3)) μ') : Call σ1 (d + 5) 47 [.inr (.inr 0), .inl v, .inl g] μ Q := by
  refine e_47 ?_
  have q := hz.1
  have bad2 : ((v < 0 ∨ 5 < v) ∨ (g < 0 ∨ 600 < g)) → Q (.inl (-2)) μ := fun h => by
    have ec : c_listener z v g = -2 := by unfold c_listener; rw [if_pos h]
    rw [ec] at hf
    exact hf (by omega)
  refine wp_go b47_0 ?_; simp only [l47_0, sg_iload_1, sg_iconst, len4_0, len4_1, len4_2, len4_3, len4_4, sg_is3_1, nLg_n, nLg_i, nLg_r, tc_c, tc_l, tc_r, tc_m, tc_n, tc_o, tc_0, inR, true_and, and_true, ne_eq, not_true_eq_false, not_false_eq_true, true_imp_iff, false_imp_iff, Int.toNat_natCast, lit_a, Nat.reduceAdd, or_true, true_or, or_false, false_or, Int.reduceEq, Int.reduceNe, Int.reduceLT, Int.reduceLE, Int.reduceNeg, sg_nil]
  refine k_NS_isWithin hv (by unfold inR; omega) (by unfold inR; omega) (fun g1 g2 => ?_) (fun g0 => ?_)
  · refine wp_go b47_6 ?_; simp only [l47_6, sg_if_eq, sg_iload_2, sg_iconst, sg_sipush, len4_0, len4_1, len4_2, len4_3, len4_4, sg_is3_1, nLg_n, nLg_i, nLg_r, tc_c, tc_l, tc_r, tc_m, tc_n, tc_o, tc_0, inR, true_and, and_true, ne_eq, not_true_eq_false, not_false_eq_true, true_imp_iff, false_imp_iff, Int.toNat_natCast, lit_a, Nat.reduceAdd, or_true, true_or, or_false, false_or, Int.reduceEq, Int.reduceNe, Int.reduceLT, Int.reduceLE, Int.reduceNeg, sg_nil]
    repeat' (first | with_reducible apply And.intro | intro _)
    all_goals (try omega)
    refine k_NS_isWithin hg (by unfold inR; omega) (by unfold inR; omega) (fun g3 g4 => ?_) (fun g0 => ?_)
    · have e10 : μ 1 11 = z 3 := hR.1.2.2.2
      obtain ⟨n, hn⟩ := nat_of (show 0 ≤ z 3 by omega)
      refine wp_go b47_17 ?_; simp only [l47_17, sg_if_ne, nLg_n, nLg_i, nLg_r, tc_c, tc_l, tc_r, tc_m, tc_n, tc_o, tc_0, inR, true_and, and_true, ne_eq, not_true_eq_false, not_false_eq_true, true_imp_iff, false_imp_iff, Int.toNat_natCast, lit_a, Nat.reduceAdd, or_true, true_or, or_false, false_or, Int.reduceEq, Int.reduceNe, Int.reduceLT, Int.reduceLE, Int.reduceNeg, sg_nil]
      repeat' (first | with_reducible apply And.intro | intro _)
      all_goals (try omega)
      refine wp_go b47_23 ?_; simp only [l47_23, sg_aload_0, sg_getfp, sg_getf0, sg_bipush, sg_ic_lt, sg_iret0, nLg_n, nLg_i, nLg_r, tc_c, tc_l, tc_r, tc_m, tc_n, tc_o, tc_0, inR, true_and, and_true, ne_eq, not_true_eq_false, not_false_eq_true, true_imp_iff, false_imp_iff, Int.toNat_natCast, lit_a, Nat.reduceAdd, or_true, true_or, or_false, false_or, Int.reduceEq, Int.reduceNe, Int.reduceLT, Int.reduceLE, Int.reduceNeg, sg_nil, s1p, x0, x1, x2, x3, x4, x5, x6, x7, x8, x9, x10, x11, x12, x13, x56, x57, x388, x389, x390, x391, x392, x393, x394, x395, x396, x397, x398, x399, e10]
      by_cases h8 : 6 ≤ z 3
      · have ec : c_listener z v g = -4 := by unfold c_listener; rw [if_neg (by omega), if_pos h8]
        rw [ec] at hf
        have hf := hf (by omega)
        repeat' (first | with_reducible apply And.intro | intro _)
        all_goals (try omega)
      · have ec : c_listener z v g = 0 := by unfold c_listener; rw [if_neg (by omega), if_neg h8]
        have hq := hq ec
        repeat' (first | with_reducible apply And.intro | intro _)
        all_goals (try omega)
        refine wp_go b47_38 ?_; simp only [l47_38, sg_aload_0, sg_getfp, sg_iv2_v, len4_0, len4_1, len4_2, len4_3, len4_4, nLg_n, nLg_i, nLg_r, tc_c, tc_l, tc_r, tc_m, tc_n, tc_o, tc_0, inR, true_and, and_true, ne_eq, not_true_eq_false, not_false_eq_true, true_imp_iff, false_imp_iff, Int.toNat_natCast, lit_a, Nat.reduceAdd, or_true, true_or, or_false, false_or, Int.reduceEq, Int.reduceNe, Int.reduceLT, Int.reduceLE, Int.reduceNeg, sg_nil, s1p, x0, x1, x2, x3, x4, x5, x6, x7, x8, x9, x10, x11, x12, x13, x56, x57, x388, x389, x390, x391, x392, x393, x394, x395, x396, x397, x398, x399]
        refine k_His_keep hz hR hC (fun μ1 f1 C1 => ?_)
        have R1 := keep_R hz f1 hR
        have w10 : μ1 1 11 = (n : Int) := R1.1.2.2.2.trans hn
        have hq : ∀ μ', (∀ k, k ≠ 1 → k ≠ 10 → k ≠ 11 → k ≠ 12 → μ' k = μ1 k) → (∀ j, j ≠ 11 → μ' 1 j = μ1 1 j) → μ' 1 11 = (n : Int) + 1 → (∀ j, μ' 10 j = if j = n then v else μ1 10 j) → (∀ j, μ' 11 j = if j = n then g else μ1 11 j) → (∀ j, μ' 12 j = if j = n then 0 else μ1 12 j) → Q (.inl (z 3)) μ' := fun μ' m0 m1 m2 m8 m9 m12 =>
          hq μ' ⟨fun k hk => by rw [m0 k (by omega) (by omega) (by omega) (by omega), f1 k (by omega)], RC_ls hz hn (by omega) R1 m0 m1 m2 m8 m9 m12, CRr_f (fun k hk => m0 k (by omega) (by omega) (by omega) (by omega)) C1⟩
        rw [hn] at hq
        refine wp_go b47_49 ?_; simp only [l47_49, sg_aload_0, sg_getfp, sg_getf0, sg_istore_3, sg_iload_3, sg_iload_1, sg_iastore, sg_iload_2, sg_iconst, sg_bastore, sg_dup_i, sg_dup_r, sg_iadd, sg_putf0, sg_iret0, nLg_n, nLg_i, nLg_r, tc_c, tc_l, tc_r, tc_m, tc_n, tc_o, tc_0, inR, true_and, and_true, ne_eq, not_true_eq_false, not_false_eq_true, true_imp_iff, false_imp_iff, Int.toNat_natCast, lit_a, Nat.reduceAdd, or_true, true_or, or_false, false_or, Int.reduceEq, Int.reduceNe, Int.reduceLT, Int.reduceLE, Int.reduceNeg, sg_nil, s1p, x0, x1, x2, x3, x4, x5, x6, x7, x8, x9, x10, x11, x12, x13, x56, x57, x388, x389, x390, x391, x392, x393, x394, x395, x396, x397, x398, x399, w10, ms_at, false_and, and_false, if_false, if_true, and_self, Nat.reduceEqDiff, ne_a, ne_b, Nat.add_left_cancel_iff]
        repeat' (first | with_reducible apply And.intro | (intro _) | ((first | refine wp_go b47_0 ?_ | refine wp_go b47_6 ?_ | refine wp_go b47_17 ?_ | refine wp_go b47_20 ?_ | refine wp_go b47_23 ?_ | refine wp_go b47_38 ?_ | refine wp_go b47_49 ?_); simp only [l47_0, l47_6, l47_17, l47_20, l47_23, l47_38, l47_49, sg_iload_1, sg_iconst, len4_0, len4_1, len4_2, len4_3, len4_4, sg_is3_1, sg_if_eq, sg_iload_2, sg_sipush, sg_if_ne, sg_bipush, sg_iret0, sg_aload_0, sg_getfp, sg_getf0, sg_ic_lt, sg_iv2_v, sg_istore_3, sg_iload_3, sg_iastore, sg_bastore, sg_dup_i, sg_dup_r, sg_iadd, sg_putf0, nLg_n, nLg_i, nLg_r, tc_c, tc_l, tc_r, tc_m, tc_n, tc_o, tc_0, inR, true_and, and_true, ne_eq, not_true_eq_false, not_false_eq_true, true_imp_iff, false_imp_iff, Int.toNat_natCast, lit_a, Nat.reduceAdd, or_true, true_or, or_false, false_or, Int.reduceEq, Int.reduceNe, Int.reduceLT, Int.reduceLE, Int.reduceNeg, sg_nil]))
        all_goals (try omega)
        all_goals
          refine hq _ (fun k h1 h2 h3 h4 => ?_) (fun j hj => ?_) ?_ (fun j => ?_) (fun j => ?_) (fun j => ?_)
          · funext j; simp only [ms_at]; (repeat (first | rw [if_neg (by omega)] | rw [if_pos (by omega)]))
          · simp only [ms_at, true_and, and_true, if_true, Nat.reduceEqDiff, if_false, false_and]; (repeat (first | rw [if_neg (by omega)] | rw [if_pos (by omega)]))
          · simp [ms_at, w10]
          · simp [ms_at]
          · simp [ms_at]
          · simp [ms_at]
    · have hf := bad2 (by omega)
      refine wp_go b47_17 ?_; simp only [l47_17, sg_if_ne, nLg_n, nLg_i, nLg_r, tc_c, tc_l, tc_r, tc_m, tc_n, tc_o, tc_0, inR, true_and, and_true, ne_eq, not_true_eq_false, not_false_eq_true, true_imp_iff, false_imp_iff, Int.toNat_natCast, lit_a, Nat.reduceAdd, or_true, true_or, or_false, false_or, Int.reduceEq, Int.reduceNe, Int.reduceLT, Int.reduceLE, Int.reduceNeg, sg_nil]
      repeat' (first | with_reducible apply And.intro | (intro _) | ((first | refine wp_go b47_0 ?_ | refine wp_go b47_6 ?_ | refine wp_go b47_17 ?_ | refine wp_go b47_20 ?_ | refine wp_go b47_23 ?_ | refine wp_go b47_38 ?_ | refine wp_go b47_49 ?_); simp only [l47_0, l47_6, l47_17, l47_20, l47_23, l47_38, l47_49, sg_iload_1, sg_iconst, len4_0, len4_1, len4_2, len4_3, len4_4, sg_is3_1, sg_if_eq, sg_iload_2, sg_sipush, sg_if_ne, sg_bipush, sg_iret0, sg_aload_0, sg_getfp, sg_getf0, sg_ic_lt, sg_iv2_v, sg_istore_3, sg_iload_3, sg_iastore, sg_bastore, sg_dup_i, sg_dup_r, sg_iadd, sg_putf0, nLg_n, nLg_i, nLg_r, tc_c, tc_l, tc_r, tc_m, tc_n, tc_o, tc_0, inR, true_and, and_true, ne_eq, not_true_eq_false, not_false_eq_true, true_imp_iff, false_imp_iff, Int.toNat_natCast, lit_a, Nat.reduceAdd, or_true, true_or, or_false, false_or, Int.reduceEq, Int.reduceNe, Int.reduceLT, Int.reduceLE, Int.reduceNeg, sg_nil]))
      all_goals (try omega)
      all_goals exact hf
  · have hf := bad2 (by omega)
    refine wp_go b47_6 ?_; simp only [l47_6, sg_if_eq, sg_iload_2, sg_iconst, sg_sipush, len4_0, len4_1, len4_2, len4_3, len4_4, sg_is3_1, nLg_n, nLg_i, nLg_r, tc_c, tc_l, tc_r, tc_m, tc_n, tc_o, tc_0, inR, true_and, and_true, ne_eq, not_true_eq_false, not_false_eq_true, true_imp_iff, false_imp_iff, Int.toNat_natCast, lit_a, Nat.reduceAdd, or_true, true_or, or_false, false_or, Int.reduceEq, Int.reduceNe, Int.reduceLT, Int.reduceLE, Int.reduceNeg, sg_nil]
    repeat' (first | with_reducible apply And.intro | (intro _) | ((first | refine wp_go b47_0 ?_ | refine wp_go b47_6 ?_ | refine wp_go b47_17 ?_ | refine wp_go b47_20 ?_ | refine wp_go b47_23 ?_ | refine wp_go b47_38 ?_ | refine wp_go b47_49 ?_); simp only [l47_0, l47_6, l47_17, l47_20, l47_23, l47_38, l47_49, sg_iload_1, sg_iconst, len4_0, len4_1, len4_2, len4_3, len4_4, sg_is3_1, sg_if_eq, sg_iload_2, sg_sipush, sg_if_ne, sg_bipush, sg_iret0, sg_aload_0, sg_getfp, sg_getf0, sg_ic_lt, sg_iv2_v, sg_istore_3, sg_iload_3, sg_iastore, sg_bastore, sg_dup_i, sg_dup_r, sg_iadd, sg_putf0, nLg_n, nLg_i, nLg_r, tc_c, tc_l, tc_r, tc_m, tc_n, tc_o, tc_0, inR, true_and, and_true, ne_eq, not_true_eq_false, not_false_eq_true, true_imp_iff, false_imp_iff, Int.toNat_natCast, lit_a, Nat.reduceAdd, or_true, true_or, or_false, false_or, Int.reduceEq, Int.reduceNe, Int.reduceLT, Int.reduceLE, Int.reduceNeg, sg_nil]))
    all_goals (try omega)
    all_goals exact hf
end
section
def hsSave (a : Hs) (s : Nat) (z : Rw) : Hs := (hsN a, hsH a, (fun i => if i = s then 1 else hsV a i), (fun i => if i = s then z else hsL a i), hsP a, hsC a)
def c_restore (a : Hs) (s : Int) : Int := if s < 0 ∨ 1 < s then -2 else if hsV a s.toNat ≠ 1 then -5 else 0
end
section
/-- a file laid or thrown away -/
def ldZ (z : Rw) (l : Nat) (b : Int) : Rw := fun x => if x = 214 + 3 * l then 1 - b else if 230 + 121 * l ≤ x ∧ x < 351 + 121 * l then (if b = 1 then 0 else hrL z l (x - (230 + 121 * l))) else z x
theorem ldZ_o (z : Rw) (l : Nat) (b : Int) {k : Nat} (h1 : k ≠ 214 + 3 * l) (h2 : k < 230 + 121 * l ∨ 351 + 121 * l ≤ k) : ldZ z l b k = z k := by unfold ldZ; rw [if_neg h1, if_neg (by omega)]
theorem ldZ_f (z : Rw) (l : Nat) (h : l < 6) {k : Nat} (hk : k < 121) : fw (ldZ z l 0) l k = hrL z l k := by
  show ldZ z l 0 (230 + 121 * l + k) = _
  unfold ldZ
  rw [if_neg (by omega), if_pos (by omega), if_neg (by omega), show 230 + 121 * l + k - (230 + 121 * l) = k by omega]
theorem ldZ_g (z : Rw) (l : Nat) (h : l < 6) (b : Int) {i k : Nat} (hi : i ≠ l) (h2 : i < 6) (hk : k < 121) : fw (ldZ z l b) i k = fw z i k := ldZ_o z l b (by omega) (by omega)
theorem IZ_ld {z : Rw} {l : Nat} {b : Int} (hz : IZ z) (hl : (l : Int) < z 3) (hb : b = 0 ∨ b = 1) : IZ (ldZ z l b) := by
  have q := hz.1
  have hW := hr_W (g := z (212 + 3 * l)) (b := z (213 + 3 * l)) hz
  have bo : ∀ k, k ≠ 214 + 3 * l → k < 230 → ldZ z l b k = z k := fun k h h2 => ldZ_o z l b h (by omega)
  obtain ⟨h1, h2, h3, h5, h6⟩ := hz
  unfold IZ
  rw [bo 0 (by omega) (by omega), bo 1 (by omega) (by omega), bo 2 (by omega) (by omega), bo 3 (by omega) (by omega), bo 6 (by omega) (by omega)]
  refine ⟨h1, fun i hi => ?_, h3, fun i hi => ?_, fun i hi => ?_⟩
  · rw [bo (4 + 3 * i) (by omega) (by omega), bo (5 + 3 * i) (by omega) (by omega), bo (6 + 3 * i) (by omega) (by omega), bo (76 + 5 * i) (by omega) (by omega)]
    obtain ⟨b1, b2, b3, b4, b5⟩ := h2 i hi
    exact ⟨b1, b2, b3, b4, fun j hj => by rw [bo _ (by omega) (by omega)]; exact b5 j hj⟩
  · rw [bo (196 + 2 * i) (by omega) (by omega), bo (197 + 2 * i) (by omega) (by omega)]; exact h5 i hi
  · rw [bo (212 + 3 * i) (by omega) (by omega), bo (213 + 3 * i) (by omega) (by omega)]
    obtain ⟨b1, b2, b3, b4⟩ := h6 i hi
    by_cases h : i = l
    · subst h
      have e : ldZ z i b (214 + 3 * i) = 1 - b := by unfold ldZ; rw [if_pos rfl]
      rw [e]
      refine ⟨b1, b2, by omega, fun h => ?_⟩
      have hb0 : b = 0 := by omega
      rw [hb0]
      exact WH_c (fun k hk => ldZ_f z i (by omega) hk) hW
    · rw [bo (214 + 3 * i) (by omega) (by omega)]
      exact ⟨b1, b2, b3, fun hh => WH_c (fun k hk => ldZ_g z l (by omega) b h (by omega) hk) (b4 hh)⟩
theorem RC_ld {z : Rw} {μ μ' : Mem} {l : Nat} {b : Int} (hz : IZ z) (hl : (l : Int) < z 3) (hb : b = 0 ∨ b = 1) (hR : RC z μ 1)
    (mo : ∀ k, k ≠ 12 → (k < 14 + 7 * l ∨ 21 + 7 * l ≤ k) → k < 56 → μ' k = μ k) (m12 : ∀ j, μ' 12 j = if j = l then 1 - b else μ 12 j) (mf : b = 0 → HR (hrL z l) μ' (14 + 7 * l)) : RC (ldZ z l b) μ' 1 := by
  have q := hz.1
  have bo : ∀ k, k ≠ 214 + 3 * l → k < 230 → ldZ z l b k = z k := fun k h h2 => ldZ_o z l b h (by omega)
  have mo' : ∀ k, k < 12 → μ' k = μ k := fun k h => mo k (by omega) (by omega) (by omega)
  obtain ⟨⟨c0, c1, c2, c3⟩, h2, h5, h6⟩ := hR
  unfold RC
  rw [bo 0 (by omega) (by omega), bo 1 (by omega) (by omega), bo 2 (by omega) (by omega), bo 3 (by omega) (by omega)]
  refine ⟨⟨by rw [mo' _ (by omega)]; exact c0, by rw [mo' _ (by omega)]; exact c1, by rw [mo' _ (by omega)]; exact c2, by rw [mo' _ (by omega)]; exact c3⟩, fun i hi => ?_, fun i hi => ?_, fun i hi => ?_⟩
  · rw [bo (4 + 3 * i) (by omega) (by omega), bo (5 + 3 * i) (by omega) (by omega), bo (6 + 3 * i) (by omega) (by omega), bo (76 + 5 * i) (by omega) (by omega), mo' (1 + 2) (by omega), mo' (1 + 3) (by omega), mo' (1 + 4) (by omega), mo' (1 + 5) (by omega), mo' (1 + 6) (by omega)]
    obtain ⟨b1, b2, b3, b4, b5⟩ := h2 i hi
    have r := (hz.2.1 i hi).2.2.2.1
    exact ⟨b1, b2, b3, b4, fun j hj => by rw [bo _ (by omega) (by omega)]; exact b5 j hj⟩
  · rw [bo (196 + 2 * i) (by omega) (by omega), bo (197 + 2 * i) (by omega) (by omega), mo' (1 + 7) (by omega), mo' (1 + 8) (by omega)]; exact h5 i hi
  · rw [bo (212 + 3 * i) (by omega) (by omega), bo (213 + 3 * i) (by omega) (by omega), mo' (1 + 9) (by omega), mo' (1 + 10) (by omega), show 1 + 11 = 12 from rfl, m12]
    obtain ⟨b1, b2, b3, b4⟩ := h6 i hi
    by_cases h : i = l
    · subst h
      have e : ldZ z i b (214 + 3 * i) = 1 - b := by unfold ldZ; rw [if_pos rfl]
      rw [e, if_pos rfl]
      refine ⟨b1, b2, rfl, fun h => ?_⟩
      have hb0 : b = 0 := by omega
      subst hb0
      exact HR_c (by show z 0 ≤ 24; omega) (fun k hk => ldZ_f z i (by omega) hk) (mf rfl)
    · rw [bo (214 + 3 * i) (by omega) (by omega), if_neg h]
      refine ⟨b1, b2, b3, fun hh => ?_⟩
      have hW := (hz.2.2.2.2 i hi).2.2.2 hh
      exact HR_c hW.1.2 (fun k hk => ldZ_g z l (by omega) b h (by omega) hk) (HR_f (fun k h1 h2 => mo k (by omega) (by omega) (by omega)) (b4 hh))
-- NS.hearingOf: blocks [0, 22, 31]
theorem k_NS_hearingF {d : Nat} {Q : QT} {μ : Mem} {l : Nat} (l6 : l < 6) (e12 : μ 12 l = 1) (hq : Q (.inr (.inr (14 + 7 * l))) μ) : Call σ1 (d + 4) 63 [.inr (.inr 0), .inl (l : Int)] μ Q := by
  refine e_63 ?_
  refine wp_go b63_0 ?_; simp only [l63_0, sg_aload_0, sg_getfp, sg_iload_1, sg_baload, sg_if_eq, sg_aaload, sg_aret, nLg_n, nLg_i, nLg_r, tc_c, tc_l, tc_r, tc_m, tc_n, tc_o, tc_0, inR, true_and, and_true, ne_eq, not_true_eq_false, not_false_eq_true, true_imp_iff, false_imp_iff, Int.toNat_natCast, lit_a, Nat.reduceAdd, or_true, true_or, or_false, false_or, Int.reduceEq, Int.reduceNe, Int.reduceLT, Int.reduceLE, Int.reduceNeg, sg_nil, s1p, x0, x1, x2, x3, x4, x5, x6, x7, x8, x9, x10, x11, x12, x13, x56, x57, x388, x389, x390, x391, x392, x393, x394, x395, x396, x397, x398, x399, e12]
  repeat' (first | with_reducible apply And.intro | (intro _) | ((first | refine wp_go b63_0 ?_ | refine wp_go b63_22 ?_ | refine wp_go b63_31 ?_); simp only [l63_0, l63_22, l63_31, sg_aload_0, sg_getfp, sg_iload_1, sg_baload, sg_if_eq, sg_aaload, sg_aret, sg_iv3_v, len4_0, len4_1, len4_2, len4_3, len4_4, nLg_n, nLg_i, nLg_r, tc_c, tc_l, tc_r, tc_m, tc_n, tc_o, tc_0, inR, true_and, and_true, ne_eq, not_true_eq_false, not_false_eq_true, true_imp_iff, false_imp_iff, Int.toNat_natCast, lit_a, Nat.reduceAdd, or_true, true_or, or_false, false_or, Int.reduceEq, Int.reduceNe, Int.reduceLT, Int.reduceLE, Int.reduceNeg, sg_nil]))
  all_goals (try omega)
  all_goals exact hq
theorem k_NS_hearingN {d : Nat} {Q : QT} {μ : Mem} {l : Nat} {z : Rw} (hz : IZ z) (hR : R0 z μ 1) (hn0 : μ 2 3 = z 0) (hl : (l : Int) < z 3) (hg : μ 10 l = z (212 + 3 * l)) (hb : μ 11 l = z (213 + 3 * l)) (e12 : μ 12 l = 0)
    (hq : ∀ μ' : Mem, (∀ k, (k < 392 ∨ 400 ≤ k) → μ' k = μ k) → HR (hrL z l) μ' 393 → Q (.inr (.inr 393)) μ') : Call σ1 (d + 4) 63 [.inr (.inr 0), .inl (l : Int)] μ Q := by
  refine e_63 ?_
  have l6 := l6 hz hl
  refine wp_go b63_0 ?_; simp only [l63_0, sg_aload_0, sg_getfp, sg_iload_1, sg_baload, sg_if_eq, sg_aaload, sg_aret, nLg_n, nLg_i, nLg_r, tc_c, tc_l, tc_r, tc_m, tc_n, tc_o, tc_0, inR, true_and, and_true, ne_eq, not_true_eq_false, not_false_eq_true, true_imp_iff, false_imp_iff, Int.toNat_natCast, lit_a, Nat.reduceAdd, or_true, true_or, or_false, false_or, Int.reduceEq, Int.reduceNe, Int.reduceLT, Int.reduceLE, Int.reduceNeg, sg_nil, s1p, x0, x1, x2, x3, x4, x5, x6, x7, x8, x9, x10, x11, x12, x13, x56, x57, x388, x389, x390, x391, x392, x393, x394, x395, x396, x397, x398, x399, e12]
  repeat' (first | with_reducible apply And.intro | intro _)
  all_goals (try omega)
  refine wp_go b63_22 ?_; simp only [l63_22, sg_aload_0, sg_iload_1, sg_getfp, sg_iv3_v, len4_0, len4_1, len4_2, len4_3, len4_4, nLg_n, nLg_i, nLg_r, tc_c, tc_l, tc_r, tc_m, tc_n, tc_o, tc_0, inR, true_and, and_true, ne_eq, not_true_eq_false, not_false_eq_true, true_imp_iff, false_imp_iff, Int.toNat_natCast, lit_a, Nat.reduceAdd, or_true, true_or, or_false, false_or, Int.reduceEq, Int.reduceNe, Int.reduceLT, Int.reduceLE, Int.reduceNeg, sg_nil, s1p, x0, x1, x2, x3, x4, x5, x6, x7, x8, x9, x10, x11, x12, x13, x56, x57, x388, x389, x390, x391, x392, x393, x394, x395, x396, x397, x398, x399]
  refine k_NS_hearNow hz hR hn0 hl hg hb he393 (by omega) (fun μ' f h => ?_)
  have hq := hq μ' (fun k hk => f k (by omega) (by omega)) h
  refine wp_go b63_31 ?_; simp only [l63_31, sg_aload_0, sg_getfp, sg_aret, nLg_n, nLg_i, nLg_r, tc_c, tc_l, tc_r, tc_m, tc_n, tc_o, tc_0, inR, true_and, and_true, ne_eq, not_true_eq_false, not_false_eq_true, true_imp_iff, false_imp_iff, Int.toNat_natCast, lit_a, Nat.reduceAdd, or_true, true_or, or_false, false_or, Int.reduceEq, Int.reduceNe, Int.reduceLT, Int.reduceLE, Int.reduceNeg, sg_nil, s1p, x0, x1, x2, x3, x4, x5, x6, x7, x8, x9, x10, x11, x12, x13, x56, x57, x388, x389, x390, x391, x392, x393, x394, x395, x396, x397, x398, x399]
  exact hq
def c_load (z : Rw) (l b : Int) : Int := if l < 0 ∨ z 3 ≤ l then -1 else if b = 1 ∧ z (214 + 3 * l.toNat) = 0 then -5 else 0
-- NS.load: blocks [0, 8, 13, 32, 43, 59, 60, 79, 84, 87]
theorem k_NS_load {d : Nat} {Q : QT} {μ : Mem} {l b : Int} {z : Rw} {a : Hs} (hz : IZ z) (hR : RC z μ 1) (hC : CRr a μ) (hl : inR l) (hb : b = 0 ∨ b = 1) (hf : c_load z l b < 0 → Q (.inl (c_load z l b)) μ)
    (hq : c_load z l b = 0 → ∀ μ', MF (ldZ z l.toNat b) (hsPush a z) μ μ' → Q (.inl (bt (hrL z l.toNat) (zn z))) μ') : Call σ1 (d + 5) 48 [.inr (.inr 0), .inl l, .inl b] μ Q := by
  refine e_48 ?_
  have q := hz.1
  refine wp_go b48_0 ?_; simp only [l48_0, sg_aload_0, sg_getfp, sg_iload_1, sg_iv2_i, len4_0, len4_1, len4_2, len4_3, len4_4, nLg_n, nLg_i, nLg_r, tc_c, tc_l, tc_r, tc_m, tc_n, tc_o, tc_0, inR, true_and, and_true, ne_eq, not_true_eq_false, not_false_eq_true, true_imp_iff, false_imp_iff, Int.toNat_natCast, lit_a, Nat.reduceAdd, or_true, true_or, or_false, false_or, Int.reduceEq, Int.reduceNe, Int.reduceLT, Int.reduceLE, Int.reduceNeg, sg_nil, s1p, x0, x1, x2, x3, x4, x5, x6, x7, x8, x9, x10, x11, x12, x13, x56, x57, x388, x389, x390, x391, x392, x393, x394, x395, x396, x397, x398, x399]
  refine k_Sta_hasListener st1 hR hz hl (fun h1 h2 => ?_) (fun h0 => ?_)
  · obtain ⟨n, rfl⟩ := nat_of h1
    have l6 := l6 hz h2
    rw [Int.toNat_natCast] at hq
    obtain ⟨e10, e11, e12, -⟩ := hR.2.2.2 n h2
    have e12 : μ 12 n = z (214 + 3 * n) := e12
    have z01 := (hz.2.2.2.2 n h2).2.2.1
    have hW := hr_W (g := z (212 + 3 * n)) (b := z (213 + 3 * n)) hz
    have e0 := zn_eq hz
    by_cases hg : b = 1 ∧ z (214 + 3 * n) = 0
    · have ec : c_load z (n : Int) b = -5 := by unfold c_load; rw [if_neg (by omega), Int.toNat_natCast, if_pos hg]
      rw [ec] at hf
      have hf := hf (by omega)
      rw [hg.2] at e12
      refine wp_go b48_8 ?_; simp only [l48_8, sg_if_ne, sg_iconst, sg_iret0, nLg_n, nLg_i, nLg_r, tc_c, tc_l, tc_r, tc_m, tc_n, tc_o, tc_0, inR, true_and, and_true, ne_eq, not_true_eq_false, not_false_eq_true, true_imp_iff, false_imp_iff, Int.toNat_natCast, lit_a, Nat.reduceAdd, or_true, true_or, or_false, false_or, Int.reduceEq, Int.reduceNe, Int.reduceLT, Int.reduceLE, Int.reduceNeg, sg_nil]
      repeat' (first | with_reducible apply And.intro | intro _)
      all_goals (try omega)
      refine wp_go b48_13 ?_; simp only [l48_13, sg_iload_2, sg_if_eq, sg_aload_0, sg_getfp, sg_iload_1, sg_baload, sg_if_ne, sg_bipush, sg_iret0, nLg_n, nLg_i, nLg_r, tc_c, tc_l, tc_r, tc_m, tc_n, tc_o, tc_0, inR, true_and, and_true, ne_eq, not_true_eq_false, not_false_eq_true, true_imp_iff, false_imp_iff, Int.toNat_natCast, lit_a, Nat.reduceAdd, or_true, true_or, or_false, false_or, Int.reduceEq, Int.reduceNe, Int.reduceLT, Int.reduceLE, Int.reduceNeg, sg_nil, s1p, x0, x1, x2, x3, x4, x5, x6, x7, x8, x9, x10, x11, x12, x13, x56, x57, x388, x389, x390, x391, x392, x393, x394, x395, x396, x397, x398, x399, e12]
      repeat' (first | with_reducible apply And.intro | (intro _) | ((first | refine wp_go b48_0 ?_ | refine wp_go b48_8 ?_ | refine wp_go b48_13 ?_ | refine wp_go b48_32 ?_ | refine wp_go b48_43 ?_ | refine wp_go b48_59 ?_ | refine wp_go b48_60 ?_ | refine wp_go b48_79 ?_ | refine wp_go b48_84 ?_ | refine wp_go b48_87 ?_); simp only [l48_0, l48_8, l48_13, l48_32, l48_43, l48_59, l48_60, l48_79, l48_84, l48_87, sg_aload_0, sg_getfp, sg_iload_1, sg_iv2_i, len4_0, len4_1, len4_2, len4_3, len4_4, sg_if_ne, sg_iconst, sg_iret0, sg_iload_2, sg_if_eq, sg_baload, sg_bipush, sg_iv2_v, sg_goto, sg_bastore, sg_aaload, sg_iv3_v, sg_iv2_r, sg_iv1_i, nLg_n, nLg_i, nLg_r, tc_c, tc_l, tc_r, tc_m, tc_n, tc_o, tc_0, inR, true_and, and_true, ne_eq, not_true_eq_false, not_false_eq_true, true_imp_iff, false_imp_iff, Int.toNat_natCast, lit_a, Nat.reduceAdd, or_true, true_or, or_false, false_or, Int.reduceEq, Int.reduceNe, Int.reduceLT, Int.reduceLE, Int.reduceNeg, sg_nil]))
      all_goals (try omega)
      all_goals exact hf
    · have ec : c_load z (n : Int) b = 0 := by unfold c_load; rw [if_neg (by omega), Int.toNat_natCast, if_neg hg]
      have hq := hq ec
      have go : wp σ1 (Call σ1 (d + 4)) 48 Q 32 [some (.inr (.inr 0)), some (.inl (n : Int)), some (.inl b)] [] μ := by
        refine wp_go b48_32 ?_; simp only [l48_32, sg_aload_0, sg_getfp, sg_iv2_v, len4_0, len4_1, len4_2, len4_3, len4_4, nLg_n, nLg_i, nLg_r, tc_c, tc_l, tc_r, tc_m, tc_n, tc_o, tc_0, inR, true_and, and_true, ne_eq, not_true_eq_false, not_false_eq_true, true_imp_iff, false_imp_iff, Int.toNat_natCast, lit_a, Nat.reduceAdd, or_true, true_or, or_false, false_or, Int.reduceEq, Int.reduceNe, Int.reduceLT, Int.reduceLE, Int.reduceNeg, sg_nil, s1p, x0, x1, x2, x3, x4, x5, x6, x7, x8, x9, x10, x11, x12, x13, x56, x57, x388, x389, x390, x391, x392, x393, x394, x395, x396, x397, x398, x399]
        refine k_His_keep hz hR hC (fun μ1 f1 C1 => ?_)
        have R1 := keep_R hz f1 hR
        obtain ⟨w10, w11, w12, -⟩ := R1.2.2.2 n h2
        have w10 : μ1 10 n = z (212 + 3 * n) := w10
        have w11 : μ1 11 n = z (213 + 3 * n) := w11
        have fin : ∀ (μ3 : Mem) (h : Nat), iHea σ1 h → HR (hrL z n) μ3 h → MF (ldZ z n b) (hsPush a z) μ μ3 → wp σ1 (Call σ1 (d + 4)) 48 Q 84 [some (.inr (.inr 0)), some (.inl (n : Int)), some (.inl b)] [.inr (.inr h)] μ3 := fun μ3 h hH H m => by
          have hq := hq μ3 m
          refine wp_go b48_84 ?_; simp only [l48_84, sg_iv1_i, len4_0, len4_1, len4_2, len4_3, len4_4, nLg_n, nLg_i, nLg_r, tc_c, tc_l, tc_r, tc_m, tc_n, tc_o, tc_0, inR, true_and, and_true, ne_eq, not_true_eq_false, not_false_eq_true, true_imp_iff, false_imp_iff, Int.toNat_natCast, lit_a, Nat.reduceAdd, or_true, true_or, or_false, false_or, Int.reduceEq, Int.reduceNe, Int.reduceLT, Int.reduceLE, Int.reduceNeg, sg_nil, hH.1]
          refine k_Hea_total hH H (by show z 0 ≤ 24; omega) e0.1 ?_
          refine wp_go b48_87 ?_; simp only [l48_87, sg_iret0, nLg_n, nLg_i, nLg_r, tc_c, tc_l, tc_r, tc_m, tc_n, tc_o, tc_0, inR, true_and, and_true, ne_eq, not_true_eq_false, not_false_eq_true, true_imp_iff, false_imp_iff, Int.toNat_natCast, lit_a, Nat.reduceAdd, or_true, true_or, or_false, false_or, Int.reduceEq, Int.reduceNe, Int.reduceLT, Int.reduceLE, Int.reduceNeg, sg_nil]
          exact hq
        have mo1 : ∀ v k, k ≠ 12 → ms μ1 12 n v k = μ1 k := fun v k h => by funext j; simp only [ms_at]; (repeat (first | rw [if_neg (by omega)] | rw [if_pos (by omega)]))
        have m12 : ∀ v j, ms μ1 12 n v 12 j = if j = n then v else μ1 12 j := fun v j => by simp [ms_at]
        rcases hb with rfl | rfl
        · have go2 : Call σ1 (d + 4) 64 [.inr (.inr 0), .inl (n : Int), .inr (.inr (14 + 7 * n))] (ms μ1 12 n 1) (fun _ μ' => wp σ1 (Call σ1 (d + 4)) 48 Q 79 [some (.inr (.inr 0)), some (.inl (n : Int)), some (.inl 0)] [] μ') := by
            refine k_NS_hearNow hz (R0_f (fun k _ _ => mo1 _ k (by omega)) R1.r0) (by rw [mo1 _ 2 (by omega)]; exact R1.1.1) h2 (by rw [mo1 _ 10 (by omega)]; exact w10) (by rw [mo1 _ 11 (by omega)]; exact w11) (heF n l6) (by omega) (fun μ3 f3 H3 => ?_)
            have e3 : μ3 12 n = 1 := by rw [f3 12 (by omega) (by omega), m12, if_pos rfl]
            have R3 : RC (ldZ z n 0) μ3 1 := RC_ld hz h2 (Or.inl rfl) R1 (fun k h1 h2 h3 => by rw [f3 k (by omega) (by omega), mo1 _ k h1]) (fun j => by rw [f3 12 (by omega) (by omega), m12]; rfl) (fun _ => H3)
            refine wp_go b48_79 ?_; simp only [l48_79, sg_aload_0, sg_iload_1, sg_iv2_r, len4_0, len4_1, len4_2, len4_3, len4_4, nLg_n, nLg_i, nLg_r, tc_c, tc_l, tc_r, tc_m, tc_n, tc_o, tc_0, inR, true_and, and_true, ne_eq, not_true_eq_false, not_false_eq_true, true_imp_iff, false_imp_iff, Int.toNat_natCast, lit_a, Nat.reduceAdd, or_true, true_or, or_false, false_or, Int.reduceEq, Int.reduceNe, Int.reduceLT, Int.reduceLE, Int.reduceNeg, sg_nil, s1p, x0, x1, x2, x3, x4, x5, x6, x7, x8, x9, x10, x11, x12, x13, x56, x57, x388, x389, x390, x391, x392, x393, x394, x395, x396, x397, x398, x399]
            refine k_NS_hearingF l6 e3 ?_
            exact fin μ3 _ (heF n l6) H3 ⟨fun k hk => by rw [f3 k (by omega) (by omega), mo1 _ k (by omega), f1 k (by omega)], R3, CRr_f (fun k hk => by rw [f3 k (by omega) (by omega), mo1 _ k (by omega)]) C1⟩
          refine wp_go b48_43 ?_; simp only [l48_43, sg_aload_0, sg_getfp, sg_iload_1, sg_iload_2, sg_if_ne, sg_iconst, sg_goto, nLg_n, nLg_i, nLg_r, tc_c, tc_l, tc_r, tc_m, tc_n, tc_o, tc_0, inR, true_and, and_true, ne_eq, not_true_eq_false, not_false_eq_true, true_imp_iff, false_imp_iff, Int.toNat_natCast, lit_a, Nat.reduceAdd, or_true, true_or, or_false, false_or, Int.reduceEq, Int.reduceNe, Int.reduceLT, Int.reduceLE, Int.reduceNeg, sg_nil, s1p, x0, x1, x2, x3, x4, x5, x6, x7, x8, x9, x10, x11, x12, x13, x56, x57, x388, x389, x390, x391, x392, x393, x394, x395, x396, x397, x398, x399]
          repeat' (first | with_reducible apply And.intro | (intro _) | ((first | refine wp_go b48_0 ?_ | refine wp_go b48_8 ?_ | refine wp_go b48_13 ?_ | refine wp_go b48_32 ?_ | refine wp_go b48_43 ?_ | refine wp_go b48_59 ?_ | refine wp_go b48_60 ?_ | refine wp_go b48_79 ?_ | refine wp_go b48_84 ?_ | refine wp_go b48_87 ?_); simp only [l48_0, l48_8, l48_13, l48_32, l48_43, l48_59, l48_60, l48_79, l48_84, l48_87, sg_aload_0, sg_getfp, sg_iload_1, sg_iv2_i, len4_0, len4_1, len4_2, len4_3, len4_4, sg_if_ne, sg_iconst, sg_iret0, sg_iload_2, sg_if_eq, sg_baload, sg_bipush, sg_iv2_v, sg_goto, sg_bastore, sg_aaload, sg_iv3_v, sg_iv2_r, sg_iv1_i, nLg_n, nLg_i, nLg_r, tc_c, tc_l, tc_r, tc_m, tc_n, tc_o, tc_0, inR, true_and, and_true, ne_eq, not_true_eq_false, not_false_eq_true, true_imp_iff, false_imp_iff, Int.toNat_natCast, lit_a, Nat.reduceAdd, or_true, true_or, or_false, false_or, Int.reduceEq, Int.reduceNe, Int.reduceLT, Int.reduceLE, Int.reduceNeg, sg_nil, s1p, x0, x1, x2, x3, x4, x5, x6, x7, x8, x9, x10, x11, x12, x13, x56, x57, x388, x389, x390, x391, x392, x393, x394, x395, x396, x397, x398, x399]))
          all_goals (try omega)
          all_goals exact go2
        · have go2 : wp σ1 (Call σ1 (d + 4)) 48 Q 79 [some (.inr (.inr 0)), some (.inl (n : Int)), some (.inl 1)] [] (ms μ1 12 n 0) := by
            refine wp_go b48_79 ?_; simp only [l48_79, sg_aload_0, sg_iload_1, sg_iv2_r, len4_0, len4_1, len4_2, len4_3, len4_4, nLg_n, nLg_i, nLg_r, tc_c, tc_l, tc_r, tc_m, tc_n, tc_o, tc_0, inR, true_and, and_true, ne_eq, not_true_eq_false, not_false_eq_true, true_imp_iff, false_imp_iff, Int.toNat_natCast, lit_a, Nat.reduceAdd, or_true, true_or, or_false, false_or, Int.reduceEq, Int.reduceNe, Int.reduceLT, Int.reduceLE, Int.reduceNeg, sg_nil, s1p, x0, x1, x2, x3, x4, x5, x6, x7, x8, x9, x10, x11, x12, x13, x56, x57, x388, x389, x390, x391, x392, x393, x394, x395, x396, x397, x398, x399]
            refine k_NS_hearingN hz (R0_f (fun k _ _ => mo1 _ k (by omega)) R1.r0) (by rw [mo1 _ 2 (by omega)]; exact R1.1.1) h2 (by rw [mo1 _ 10 (by omega)]; exact w10) (by rw [mo1 _ 11 (by omega)]; exact w11) (by rw [m12, if_pos rfl]) (fun μ3 f3 H3 => ?_)
            have R3 : RC (ldZ z n 1) μ3 1 := RC_ld hz h2 (Or.inr rfl) R1 (fun k h1 h2 h3 => by rw [f3 k (by omega), mo1 _ k h1]) (fun j => by rw [f3 12 (by omega), m12]; rfl) (fun h => absurd h (by omega))
            exact fin μ3 _ he393 H3 ⟨fun k hk => by rw [f3 k (by omega), mo1 _ k (by omega), f1 k (by omega)], R3, CRr_f (fun k hk => by rw [f3 k (by omega), mo1 _ k (by omega)]) C1⟩
          refine wp_go b48_43 ?_; simp only [l48_43, sg_aload_0, sg_getfp, sg_iload_1, sg_iload_2, sg_if_ne, sg_iconst, sg_goto, nLg_n, nLg_i, nLg_r, tc_c, tc_l, tc_r, tc_m, tc_n, tc_o, tc_0, inR, true_and, and_true, ne_eq, not_true_eq_false, not_false_eq_true, true_imp_iff, false_imp_iff, Int.toNat_natCast, lit_a, Nat.reduceAdd, or_true, true_or, or_false, false_or, Int.reduceEq, Int.reduceNe, Int.reduceLT, Int.reduceLE, Int.reduceNeg, sg_nil, s1p, x0, x1, x2, x3, x4, x5, x6, x7, x8, x9, x10, x11, x12, x13, x56, x57, x388, x389, x390, x391, x392, x393, x394, x395, x396, x397, x398, x399]
          refine wp_go b48_59 ?_; simp only [l48_59, sg_iconst, nLg_n, nLg_i, nLg_r, tc_c, tc_l, tc_r, tc_m, tc_n, tc_o, tc_0, inR, true_and, and_true, ne_eq, not_true_eq_false, not_false_eq_true, true_imp_iff, false_imp_iff, Int.toNat_natCast, lit_a, Nat.reduceAdd, or_true, true_or, or_false, false_or, Int.reduceEq, Int.reduceNe, Int.reduceLT, Int.reduceLE, Int.reduceNeg, sg_nil]
          refine wp_go b48_60 ?_; simp only [l48_60, sg_bastore, sg_iload_2, sg_if_ne, sg_aload_0, sg_iload_1, sg_getfp, sg_aaload, sg_iv3_v, len4_0, len4_1, len4_2, len4_3, len4_4, nLg_n, nLg_i, nLg_r, tc_c, tc_l, tc_r, tc_m, tc_n, tc_o, tc_0, inR, true_and, and_true, ne_eq, not_true_eq_false, not_false_eq_true, true_imp_iff, false_imp_iff, Int.toNat_natCast, lit_a, Nat.reduceAdd, or_true, true_or, or_false, false_or, Int.reduceEq, Int.reduceNe, Int.reduceLT, Int.reduceLE, Int.reduceNeg, sg_nil, s1p, x0, x1, x2, x3, x4, x5, x6, x7, x8, x9, x10, x11, x12, x13, x56, x57, x388, x389, x390, x391, x392, x393, x394, x395, x396, x397, x398, x399]
          repeat' (first | with_reducible apply And.intro | intro _)
          all_goals (try omega)
      refine wp_go b48_8 ?_; simp only [l48_8, sg_if_ne, sg_iconst, sg_iret0, nLg_n, nLg_i, nLg_r, tc_c, tc_l, tc_r, tc_m, tc_n, tc_o, tc_0, inR, true_and, and_true, ne_eq, not_true_eq_false, not_false_eq_true, true_imp_iff, false_imp_iff, Int.toNat_natCast, lit_a, Nat.reduceAdd, or_true, true_or, or_false, false_or, Int.reduceEq, Int.reduceNe, Int.reduceLT, Int.reduceLE, Int.reduceNeg, sg_nil]
      repeat' (first | with_reducible apply And.intro | intro _)
      all_goals (try omega)
      rcases hb with rfl | rfl
      · refine wp_go b48_13 ?_; simp only [l48_13, sg_iload_2, sg_if_eq, sg_aload_0, sg_getfp, sg_iload_1, sg_baload, sg_if_ne, sg_bipush, sg_iret0, nLg_n, nLg_i, nLg_r, tc_c, tc_l, tc_r, tc_m, tc_n, tc_o, tc_0, inR, true_and, and_true, ne_eq, not_true_eq_false, not_false_eq_true, true_imp_iff, false_imp_iff, Int.toNat_natCast, lit_a, Nat.reduceAdd, or_true, true_or, or_false, false_or, Int.reduceEq, Int.reduceNe, Int.reduceLT, Int.reduceLE, Int.reduceNeg, sg_nil, s1p, x0, x1, x2, x3, x4, x5, x6, x7, x8, x9, x10, x11, x12, x13, x56, x57, x388, x389, x390, x391, x392, x393, x394, x395, x396, x397, x398, x399, e12]
        exact go
      · have e12 : μ 12 n = 1 := by omega
        refine wp_go b48_13 ?_; simp only [l48_13, sg_iload_2, sg_if_eq, sg_aload_0, sg_getfp, sg_iload_1, sg_baload, sg_if_ne, sg_bipush, sg_iret0, nLg_n, nLg_i, nLg_r, tc_c, tc_l, tc_r, tc_m, tc_n, tc_o, tc_0, inR, true_and, and_true, ne_eq, not_true_eq_false, not_false_eq_true, true_imp_iff, false_imp_iff, Int.toNat_natCast, lit_a, Nat.reduceAdd, or_true, true_or, or_false, false_or, Int.reduceEq, Int.reduceNe, Int.reduceLT, Int.reduceLE, Int.reduceNeg, sg_nil, s1p, x0, x1, x2, x3, x4, x5, x6, x7, x8, x9, x10, x11, x12, x13, x56, x57, x388, x389, x390, x391, x392, x393, x394, x395, x396, x397, x398, x399, e12]
        repeat' (first | with_reducible apply And.intro | intro _)
        all_goals (try omega)
  · have ec : c_load z l b = -1 := by unfold c_load; rw [if_pos (by omega)]
    rw [ec] at hf
    have hf := hf (by omega)
    refine wp_go b48_8 ?_; simp only [l48_8, sg_if_ne, sg_iconst, sg_iret0, nLg_n, nLg_i, nLg_r, tc_c, tc_l, tc_r, tc_m, tc_n, tc_o, tc_0, inR, true_and, and_true, ne_eq, not_true_eq_false, not_false_eq_true, true_imp_iff, false_imp_iff, Int.toNat_natCast, lit_a, Nat.reduceAdd, or_true, true_or, or_false, false_or, Int.reduceEq, Int.reduceNe, Int.reduceLT, Int.reduceLE, Int.reduceNeg, sg_nil]
    repeat' (first | with_reducible apply And.intro | (intro _) | ((first | refine wp_go b48_0 ?_ | refine wp_go b48_8 ?_ | refine wp_go b48_13 ?_ | refine wp_go b48_32 ?_ | refine wp_go b48_43 ?_ | refine wp_go b48_59 ?_ | refine wp_go b48_60 ?_ | refine wp_go b48_79 ?_ | refine wp_go b48_84 ?_ | refine wp_go b48_87 ?_); simp only [l48_0, l48_8, l48_13, l48_32, l48_43, l48_59, l48_60, l48_79, l48_84, l48_87, sg_aload_0, sg_getfp, sg_iload_1, sg_iv2_i, len4_0, len4_1, len4_2, len4_3, len4_4, sg_if_ne, sg_iconst, sg_iret0, sg_iload_2, sg_if_eq, sg_baload, sg_bipush, sg_iv2_v, sg_goto, sg_bastore, sg_aaload, sg_iv3_v, sg_iv2_r, sg_iv1_i, nLg_n, nLg_i, nLg_r, tc_c, tc_l, tc_r, tc_m, tc_n, tc_o, tc_0, inR, true_and, and_true, ne_eq, not_true_eq_false, not_false_eq_true, true_imp_iff, false_imp_iff, Int.toNat_natCast, lit_a, Nat.reduceAdd, or_true, true_or, or_false, false_or, Int.reduceEq, Int.reduceNe, Int.reduceLT, Int.reduceLE, Int.reduceNeg, sg_nil]))
    all_goals (try omega)
    all_goals exact hf
end
section
/-- a sentence with its break, of two states -/
def SE (w : Rw) (i' : Nat) (z : Rw) (i : Nat) : Prop := w (4 + 3 * i') = z (4 + 3 * i) ∧ w (5 + 3 * i') = z (5 + 3 * i) ∧ w (6 + 3 * i') = z (6 + 3 * i) ∧ w (76 + 5 * i') = z (76 + 5 * i) ∧ ∀ j, j < 4 → w (77 + 5 * i' + j) = z (77 + 5 * i + j)
def insR (z w : Rw) (p n : Nat) (len : Int) : Prop := w 0 = ((n + 1 : Nat) : Int) ∧ w 1 = z 1 + 1 ∧ (∀ k, k = 2 ∨ k = 3 ∨ 196 ≤ k → w k = z k) ∧ (∀ i, i < p → SE w i z i) ∧ (∀ i, p ≤ i → i < n → SE w (i + 1) z i) ∧ w (4 + 3 * p) = z 1 ∧ w (5 + 3 * p) = len ∧ w (6 + 3 * p) = bI (p = 0) ∧ w (76 + 5 * p) = 0
theorem fw_hi {z w : Rw} (h : ∀ k, k = 2 ∨ k = 3 ∨ 196 ≤ k → w k = z k) (l : Nat) : fw w l = fw z l := by funext x; exact h _ (by omega)
theorem IZ_ins {z w : Rw} {p n : Nat} {len : Int} (hz : IZ z) (hn : z 0 = (n : Int)) (hn2 : n < 24) (hp : p ≤ n) (h1 : z 1 < 100) (hlen : 1 ≤ len ∧ len ≤ 300) (H : insR z w p n len) : IZ w := by
  obtain ⟨g0, g1, gh, ga, gb, g4, g5, g6, g7⟩ := H
  have q := hz.1
  obtain ⟨q1, q2, q3, q5, q6⟩ := hz
  unfold IZ
  rw [g0, g1, gh 2 (by omega), gh 3 (by omega)]
  have cp : ∀ i' i, i < n → SE w i' z i → ((0 ≤ w (4 + 3 * i') ∧ w (4 + 3 * i') ≤ 99) ∧ (1 ≤ w (5 + 3 * i') ∧ w (5 + 3 * i') ≤ 300) ∧ (0 ≤ w (6 + 3 * i') ∧ w (6 + 3 * i') ≤ 1) ∧ (0 ≤ w (76 + 5 * i') ∧ w (76 + 5 * i') ≤ 4) ∧ ∀ j : Nat, (j : Int) < w (76 + 5 * i') → 0 ≤ w (77 + 5 * i' + j) ∧ w (77 + 5 * i' + j) < z 2) := fun i' i hi h => by
    obtain ⟨s1, s2, s3, s4, s5⟩ := h
    have := q2 i (by omega)
    rw [s1, s2, s3, s4]
    refine ⟨this.1, this.2.1, this.2.2.1, this.2.2.2.1, fun j hj => ?_⟩
    rw [s5 j (by omega)]
    exact this.2.2.2.2 j hj
  refine ⟨by omega, fun i hi => ?_, ?_, fun i hi => ?_, fun l hl => ?_⟩
  · rcases Nat.lt_trichotomy i p with h | h | h
    · exact cp i i (by omega) (ga i h)
    · subst h
      rw [g4, g5, g6, g7]
      have : bI (i = 0) = 0 ∨ bI (i = 0) = 1 := by unfold bI; split <;> simp
      exact ⟨by omega, hlen, by omega, by omega, fun j hj => absurd hj (by omega)⟩
    · obtain ⟨m, rfl⟩ : ∃ m, i = m + 1 := ⟨i - 1, by omega⟩
      exact cp (m + 1) m (by omega) (gb m (by omega) (by omega))
  · rcases Nat.eq_zero_or_pos p with h | h
    · subst h; exact g6
    · exact (ga 0 h).2.2.1.trans q3
  · rw [gh (196 + 2 * i) (by omega), gh (197 + 2 * i) (by omega)]; exact q5 i hi
  · rw [gh (212 + 3 * l) (by omega), gh (213 + 3 * l) (by omega), gh (214 + 3 * l) (by omega), fw_hi gh l]; exact q6 l hl
theorem RC_ins {z w : Rw} {μ μ' : Mem} {p n : Nat} {len : Int} (hz : IZ z) (hn : z 0 = (n : Int)) (hp : p ≤ n) (hR : RC z μ 1) (H : insR z w p n len)
    (f1 : ∀ k, (k < 1 ∨ 1 + 6 < k) → μ' k = μ k) (f2 : ∀ j, j ≠ 9 → μ' 1 j = μ 1 j) (f3 : μ' 1 9 = μ 1 9 + 1) (f4 : μ' (1 + 1) 3 = ((n + 1 : Nat) : Int))
    (f5 : ∀ k i, 1 + 2 ≤ k → k ≤ 1 + 5 → i < p → μ' k i = μ k i) (f6 : ∀ k i, 1 + 2 ≤ k → k ≤ 1 + 5 → p ≤ i → i < n → μ' k (i + 1) = μ k i)
    (f7 : μ' (1 + 2) p = μ 1 9) (f8 : μ' (1 + 3) p = len) (f9 : μ' (1 + 4) p = bI (p = 0)) (f10 : μ' (1 + 5) p = 0)
    (f11 : ∀ i j, j < 4 → i < p → μ' (1 + 6) (4 * i + j) = μ (1 + 6) (4 * i + j)) (f12 : ∀ i j, j < 4 → p ≤ i → i < n → μ' (1 + 6) (4 * (i + 1) + j) = μ (1 + 6) (4 * i + j)) : RC w μ' 1 := by
  obtain ⟨g0, g1, gh, ga, gb, g4, g5, g6, g7⟩ := H
  have q := hz.1
  obtain ⟨⟨c0, c1, c2, c3⟩, h2, h5, h6⟩ := hR
  unfold RC
  rw [g0, g1, gh 2 (by omega), gh 3 (by omega)]
  refine ⟨⟨f4, by rw [f3, c1], by rw [f2 10 (by omega)]; exact c2, by rw [f2 11 (by omega)]; exact c3⟩, fun i hi => ?_, fun i hi => ?_, fun l hl => ?_⟩
  · rcases Nat.lt_trichotomy i p with h | h | h
    · obtain ⟨s1, s2, s3, s4, s5⟩ := ga i h
      obtain ⟨b1, b2, b3, b4, b5⟩ := h2 i (by omega)
      have r := (hz.2.1 i (by omega)).2.2.2.1
      rw [s1, s2, s3, s4, f5 _ _ (by omega) (by omega) h, f5 _ _ (by omega) (by omega) h, f5 _ _ (by omega) (by omega) h, f5 _ _ (by omega) (by omega) h]
      exact ⟨b1, b2, b3, b4, fun j hj => by rw [f11 i j (by omega) h, s5 j (by omega)]; exact b5 j hj⟩
    · subst h
      rw [g4, g5, g6, g7, f7, f8, f9, f10, c1]
      exact ⟨rfl, rfl, rfl, rfl, fun j hj => absurd hj (by omega)⟩
    · obtain ⟨m, rfl⟩ : ∃ m, i = m + 1 := ⟨i - 1, by omega⟩
      obtain ⟨s1, s2, s3, s4, s5⟩ := gb m (by omega) (by omega)
      obtain ⟨b1, b2, b3, b4, b5⟩ := h2 m (by omega)
      have r := (hz.2.1 m (by omega)).2.2.2.1
      rw [s1, s2, s3, s4, f6 _ _ (by omega) (by omega) (by omega) (by omega), f6 _ _ (by omega) (by omega) (by omega) (by omega), f6 _ _ (by omega) (by omega) (by omega) (by omega), f6 _ _ (by omega) (by omega) (by omega) (by omega)]
      exact ⟨b1, b2, b3, b4, fun j hj => by rw [f12 m j (by omega) (by omega) (by omega), s5 j (by omega)]; exact b5 j hj⟩
  · rw [gh (196 + 2 * i) (by omega), gh (197 + 2 * i) (by omega), f1 _ (by omega), f1 _ (by omega)]; exact h5 i hi
  · rw [gh (212 + 3 * l) (by omega), gh (213 + 3 * l) (by omega), gh (214 + 3 * l) (by omega), fw_hi gh l, f1 (1 + 9) (by omega), f1 (1 + 10) (by omega), f1 (1 + 11) (by omega)]
    obtain ⟨b1, b2, b3, b4⟩ := h6 l hl
    exact ⟨b1, b2, b3, fun h => HR_f (fun k _ _ => f1 k (by omega)) (b4 h)⟩
def c_putIn (z : Rw) (p len : Int) : Int := if p < 0 ∨ z 0 < p then -1 else if len < 1 ∨ 300 < len then -2 else if 24 ≤ z 0 ∨ 100 ≤ z 1 then -4 else 0
/-- what a mutator of the class leaves, with a state that a relation gives -/
def MG (R : Rw → Prop) (a' : Hs) (μ μ' : Mem) : Prop := (∀ k, 510 ≤ k → μ' k = μ k) ∧ (∀ w, R w → RC w μ' 1) ∧ CRr a' μ'
-- NS.putIn: blocks [0, 15, 20, 28, 34, 61, 64, 75, 84]
theorem k_NS_putIn {d : Nat} {Q : QT} {μ : Mem} {p len : Int} {z : Rw} {a : Hs} (hz : IZ z) (hR : RC z μ 1) (hC : CRr a μ) (hp : inR p) (hlen : inR len) (hf : c_putIn z p len < 0 → Q (.inl (c_putIn z p len)) μ)
    (hq : c_putIn z p len = 0 → ∀ μ', MG (fun w => insR z w p.toNat (zn z) len) (hsPush a z) μ μ' → Q (.inl (z 1)) μ') : Call σ1 (d + 5) 40 [.inr (.inr 0), .inl p, .inl len] μ Q := by
  refine e_40 ?_
  have q := hz.1
  have e0 := zn_eq hz
  have e3 : μ 2 3 = z 0 := hR.1.1
  have e9 : μ 1 9 = z 1 := hR.1.2.1
  refine wp_go b40_0 ?_; simp only [l40_0, sg_iload_1, sg_iconst, sg_aload_0, sg_getfp, sg_getf0, len4_0, len4_1, len4_2, len4_3, len4_4, sg_is3_1, nLg_n, nLg_i, nLg_r, tc_c, tc_l, tc_r, tc_m, tc_n, tc_o, tc_0, inR, true_and, and_true, ne_eq, not_true_eq_false, not_false_eq_true, true_imp_iff, false_imp_iff, Int.toNat_natCast, lit_a, Nat.reduceAdd, or_true, true_or, or_false, false_or, Int.reduceEq, Int.reduceNe, Int.reduceLT, Int.reduceLE, Int.reduceNeg, sg_nil, s1p, x0, x1, x2, x3, x4, x5, x6, x7, x8, x9, x10, x11, x12, x13, x56, x57, x388, x389, x390, x391, x392, x393, x394, x395, x396, x397, x398, x399, e3]
  refine k_NS_isWithin hp (by unfold inR; omega) (by unfold inR; omega) (fun h1 h2 => ?_) (fun h0 => ?_)
  · obtain ⟨n, rfl⟩ := nat_of h1
    rw [Int.toNat_natCast] at hq
    refine wp_go b40_15 ?_; simp only [l40_15, sg_if_ne, sg_iconst, sg_iret0, nLg_n, nLg_i, nLg_r, tc_c, tc_l, tc_r, tc_m, tc_n, tc_o, tc_0, inR, true_and, and_true, ne_eq, not_true_eq_false, not_false_eq_true, true_imp_iff, false_imp_iff, Int.toNat_natCast, lit_a, Nat.reduceAdd, or_true, true_or, or_false, false_or, Int.reduceEq, Int.reduceNe, Int.reduceLT, Int.reduceLE, Int.reduceNeg, sg_nil]
    repeat' (first | with_reducible apply And.intro | intro _)
    all_goals (try omega)
    refine wp_go b40_20 ?_; simp only [l40_20, sg_iload_2, sg_iconst, sg_sipush, len4_0, len4_1, len4_2, len4_3, len4_4, sg_is3_1, nLg_n, nLg_i, nLg_r, tc_c, tc_l, tc_r, tc_m, tc_n, tc_o, tc_0, inR, true_and, and_true, ne_eq, not_true_eq_false, not_false_eq_true, true_imp_iff, false_imp_iff, Int.toNat_natCast, lit_a, Nat.reduceAdd, or_true, true_or, or_false, false_or, Int.reduceEq, Int.reduceNe, Int.reduceLT, Int.reduceLE, Int.reduceNeg, sg_nil]
    refine k_NS_isWithin hlen (by unfold inR; omega) (by unfold inR; omega) (fun g1 g2 => ?_) (fun g0 => ?_)
    · refine wp_go b40_28 ?_; simp only [l40_28, sg_if_ne, sg_bipush, sg_iret0, nLg_n, nLg_i, nLg_r, tc_c, tc_l, tc_r, tc_m, tc_n, tc_o, tc_0, inR, true_and, and_true, ne_eq, not_true_eq_false, not_false_eq_true, true_imp_iff, false_imp_iff, Int.toNat_natCast, lit_a, Nat.reduceAdd, or_true, true_or, or_false, false_or, Int.reduceEq, Int.reduceNe, Int.reduceLT, Int.reduceLE, Int.reduceNeg, sg_nil]
      repeat' (first | with_reducible apply And.intro | intro _)
      all_goals (try omega)
      by_cases hg : 24 ≤ z 0 ∨ 100 ≤ z 1
      · have ec : c_putIn z (n : Int) len = -4 := by unfold c_putIn; rw [if_neg (by omega), if_neg (by omega), if_pos hg]
        rw [ec] at hf
        have hf := hf (by omega)
        refine wp_go b40_34 ?_; simp only [l40_34, sg_aload_0, sg_getfp, sg_getf0, sg_bipush, sg_ic_ge, sg_ic_lt, nLg_n, nLg_i, nLg_r, tc_c, tc_l, tc_r, tc_m, tc_n, tc_o, tc_0, inR, true_and, and_true, ne_eq, not_true_eq_false, not_false_eq_true, true_imp_iff, false_imp_iff, Int.toNat_natCast, lit_a, Nat.reduceAdd, or_true, true_or, or_false, false_or, Int.reduceEq, Int.reduceNe, Int.reduceLT, Int.reduceLE, Int.reduceNeg, sg_nil, s1p, x0, x1, x2, x3, x4, x5, x6, x7, x8, x9, x10, x11, x12, x13, x56, x57, x388, x389, x390, x391, x392, x393, x394, x395, x396, x397, x398, x399, e3, e9]
        repeat' (first | with_reducible apply And.intro | (intro _) | ((first | refine wp_go b40_0 ?_ | refine wp_go b40_15 ?_ | refine wp_go b40_20 ?_ | refine wp_go b40_28 ?_ | refine wp_go b40_34 ?_ | refine wp_go b40_61 ?_ | refine wp_go b40_64 ?_ | refine wp_go b40_75 ?_ | refine wp_go b40_84 ?_); simp only [l40_0, l40_15, l40_20, l40_28, l40_34, l40_61, l40_64, l40_75, l40_84, sg_iload_1, sg_iconst, sg_aload_0, sg_getfp, sg_getf0, len4_0, len4_1, len4_2, len4_3, len4_4, sg_is3_1, sg_if_ne, sg_iret0, sg_iload_2, sg_sipush, sg_bipush, sg_ic_ge, sg_ic_lt, sg_iv2_v, sg_iv3_v, sg_iaload, nLg_n, nLg_i, nLg_r, tc_c, tc_l, tc_r, tc_m, tc_n, tc_o, tc_0, inR, true_and, and_true, ne_eq, not_true_eq_false, not_false_eq_true, true_imp_iff, false_imp_iff, Int.toNat_natCast, lit_a, Nat.reduceAdd, or_true, true_or, or_false, false_or, Int.reduceEq, Int.reduceNe, Int.reduceLT, Int.reduceLE, Int.reduceNeg, sg_nil]))
        all_goals (try omega)
        all_goals exact hf
      · have ec : c_putIn z (n : Int) len = 0 := by unfold c_putIn; rw [if_neg (by omega), if_neg (by omega), if_neg hg]
        have hq := hq ec
        refine wp_go b40_34 ?_; simp only [l40_34, sg_aload_0, sg_getfp, sg_getf0, sg_bipush, sg_ic_ge, sg_ic_lt, nLg_n, nLg_i, nLg_r, tc_c, tc_l, tc_r, tc_m, tc_n, tc_o, tc_0, inR, true_and, and_true, ne_eq, not_true_eq_false, not_false_eq_true, true_imp_iff, false_imp_iff, Int.toNat_natCast, lit_a, Nat.reduceAdd, or_true, true_or, or_false, false_or, Int.reduceEq, Int.reduceNe, Int.reduceLT, Int.reduceLE, Int.reduceNeg, sg_nil, s1p, x0, x1, x2, x3, x4, x5, x6, x7, x8, x9, x10, x11, x12, x13, x56, x57, x388, x389, x390, x391, x392, x393, x394, x395, x396, x397, x398, x399, e3, e9]
        repeat' (first | with_reducible apply And.intro | intro _)
        all_goals (try omega)
        refine wp_go b40_64 ?_; simp only [l40_64, sg_aload_0, sg_getfp, sg_iv2_v, len4_0, len4_1, len4_2, len4_3, len4_4, nLg_n, nLg_i, nLg_r, tc_c, tc_l, tc_r, tc_m, tc_n, tc_o, tc_0, inR, true_and, and_true, ne_eq, not_true_eq_false, not_false_eq_true, true_imp_iff, false_imp_iff, Int.toNat_natCast, lit_a, Nat.reduceAdd, or_true, true_or, or_false, false_or, Int.reduceEq, Int.reduceNe, Int.reduceLT, Int.reduceLE, Int.reduceNeg, sg_nil, s1p, x0, x1, x2, x3, x4, x5, x6, x7, x8, x9, x10, x11, x12, x13, x56, x57, x388, x389, x390, x391, x392, x393, x394, x395, x396, x397, x398, x399]
        refine k_His_keep hz hR hC (fun μ1 f1 C1 => ?_)
        have R1 := keep_R hz f1 hR
        refine wp_go b40_75 ?_; simp only [l40_75, sg_aload_0, sg_getfp, sg_iload_1, sg_iload_2, sg_iv3_v, len4_0, len4_1, len4_2, len4_3, len4_4, nLg_n, nLg_i, nLg_r, tc_c, tc_l, tc_r, tc_m, tc_n, tc_o, tc_0, inR, true_and, and_true, ne_eq, not_true_eq_false, not_false_eq_true, true_imp_iff, false_imp_iff, Int.toNat_natCast, lit_a, Nat.reduceAdd, or_true, true_or, or_false, false_or, Int.reduceEq, Int.reduceNe, Int.reduceLT, Int.reduceLE, Int.reduceNeg, sg_nil, s1p, x0, x1, x2, x3, x4, x5, x6, x7, x8, x9, x10, x11, x12, x13, x56, x57, x388, x389, x390, x391, x392, x393, x394, x395, x396, x397, x398, x399]
        refine k_Sta_insertSentence st1 (n := zn z) (R1.1.1.trans e0.1) (by omega) (by omega) (fun μ2 g1 g2 g3 g4 g5 g6 g7 g8 g9 g10 g11 g12 => ?_)
        have hq := hq μ2 ⟨fun k hk => by rw [g1 k (by omega), f1 k (by omega)], fun w hw => RC_ins hz e0.1 (by omega) R1 hw g1 g2 g3 g4 g5 g6 g7 g8 g9 g10 g11 g12, CRr_f (fun k hk => g1 k (by omega)) C1⟩
        have e : μ2 3 n = z 1 := g7.trans R1.1.2.1
        refine wp_go b40_84 ?_; simp only [l40_84, sg_aload_0, sg_getfp, sg_iload_1, sg_iaload, sg_iret0, nLg_n, nLg_i, nLg_r, tc_c, tc_l, tc_r, tc_m, tc_n, tc_o, tc_0, inR, true_and, and_true, ne_eq, not_true_eq_false, not_false_eq_true, true_imp_iff, false_imp_iff, Int.toNat_natCast, lit_a, Nat.reduceAdd, or_true, true_or, or_false, false_or, Int.reduceEq, Int.reduceNe, Int.reduceLT, Int.reduceLE, Int.reduceNeg, sg_nil, s1p, x0, x1, x2, x3, x4, x5, x6, x7, x8, x9, x10, x11, x12, x13, x56, x57, x388, x389, x390, x391, x392, x393, x394, x395, x396, x397, x398, x399, e]
        repeat' (first | with_reducible apply And.intro | (intro _) | ((first | refine wp_go b40_0 ?_ | refine wp_go b40_15 ?_ | refine wp_go b40_20 ?_ | refine wp_go b40_28 ?_ | refine wp_go b40_34 ?_ | refine wp_go b40_61 ?_ | refine wp_go b40_64 ?_ | refine wp_go b40_75 ?_ | refine wp_go b40_84 ?_); simp only [l40_0, l40_15, l40_20, l40_28, l40_34, l40_61, l40_64, l40_75, l40_84, sg_iload_1, sg_iconst, sg_aload_0, sg_getfp, sg_getf0, len4_0, len4_1, len4_2, len4_3, len4_4, sg_is3_1, sg_if_ne, sg_iret0, sg_iload_2, sg_sipush, sg_bipush, sg_ic_ge, sg_ic_lt, sg_iv2_v, sg_iv3_v, sg_iaload, nLg_n, nLg_i, nLg_r, tc_c, tc_l, tc_r, tc_m, tc_n, tc_o, tc_0, inR, true_and, and_true, ne_eq, not_true_eq_false, not_false_eq_true, true_imp_iff, false_imp_iff, Int.toNat_natCast, lit_a, Nat.reduceAdd, or_true, true_or, or_false, false_or, Int.reduceEq, Int.reduceNe, Int.reduceLT, Int.reduceLE, Int.reduceNeg, sg_nil]))
        all_goals (try omega)
        all_goals exact hq
    · have ec : c_putIn z (n : Int) len = -2 := by unfold c_putIn; rw [if_neg (by omega), if_pos (by omega)]
      rw [ec] at hf
      have hf := hf (by omega)
      refine wp_go b40_28 ?_; simp only [l40_28, sg_if_ne, sg_bipush, sg_iret0, nLg_n, nLg_i, nLg_r, tc_c, tc_l, tc_r, tc_m, tc_n, tc_o, tc_0, inR, true_and, and_true, ne_eq, not_true_eq_false, not_false_eq_true, true_imp_iff, false_imp_iff, Int.toNat_natCast, lit_a, Nat.reduceAdd, or_true, true_or, or_false, false_or, Int.reduceEq, Int.reduceNe, Int.reduceLT, Int.reduceLE, Int.reduceNeg, sg_nil]
      repeat' (first | with_reducible apply And.intro | (intro _) | ((first | refine wp_go b40_0 ?_ | refine wp_go b40_15 ?_ | refine wp_go b40_20 ?_ | refine wp_go b40_28 ?_ | refine wp_go b40_34 ?_ | refine wp_go b40_61 ?_ | refine wp_go b40_64 ?_ | refine wp_go b40_75 ?_ | refine wp_go b40_84 ?_); simp only [l40_0, l40_15, l40_20, l40_28, l40_34, l40_61, l40_64, l40_75, l40_84, sg_iload_1, sg_iconst, sg_aload_0, sg_getfp, sg_getf0, len4_0, len4_1, len4_2, len4_3, len4_4, sg_is3_1, sg_if_ne, sg_iret0, sg_iload_2, sg_sipush, sg_bipush, sg_ic_ge, sg_ic_lt, sg_iv2_v, sg_iv3_v, sg_iaload, nLg_n, nLg_i, nLg_r, tc_c, tc_l, tc_r, tc_m, tc_n, tc_o, tc_0, inR, true_and, and_true, ne_eq, not_true_eq_false, not_false_eq_true, true_imp_iff, false_imp_iff, Int.toNat_natCast, lit_a, Nat.reduceAdd, or_true, true_or, or_false, false_or, Int.reduceEq, Int.reduceNe, Int.reduceLT, Int.reduceLE, Int.reduceNeg, sg_nil]))
      all_goals (try omega)
      all_goals exact hf
  · have ec : c_putIn z p len = -1 := by unfold c_putIn; rw [if_pos (by omega)]
    rw [ec] at hf
    have hf := hf (by omega)
    refine wp_go b40_15 ?_; simp only [l40_15, sg_if_ne, sg_iconst, sg_iret0, nLg_n, nLg_i, nLg_r, tc_c, tc_l, tc_r, tc_m, tc_n, tc_o, tc_0, inR, true_and, and_true, ne_eq, not_true_eq_false, not_false_eq_true, true_imp_iff, false_imp_iff, Int.toNat_natCast, lit_a, Nat.reduceAdd, or_true, true_or, or_false, false_or, Int.reduceEq, Int.reduceNe, Int.reduceLT, Int.reduceLE, Int.reduceNeg, sg_nil]
    repeat' (first | with_reducible apply And.intro | (intro _) | ((first | refine wp_go b40_0 ?_ | refine wp_go b40_15 ?_ | refine wp_go b40_20 ?_ | refine wp_go b40_28 ?_ | refine wp_go b40_34 ?_ | refine wp_go b40_61 ?_ | refine wp_go b40_64 ?_ | refine wp_go b40_75 ?_ | refine wp_go b40_84 ?_); simp only [l40_0, l40_15, l40_20, l40_28, l40_34, l40_61, l40_64, l40_75, l40_84, sg_iload_1, sg_iconst, sg_aload_0, sg_getfp, sg_getf0, len4_0, len4_1, len4_2, len4_3, len4_4, sg_is3_1, sg_if_ne, sg_iret0, sg_iload_2, sg_sipush, sg_bipush, sg_ic_ge, sg_ic_lt, sg_iv2_v, sg_iv3_v, sg_iaload, nLg_n, nLg_i, nLg_r, tc_c, tc_l, tc_r, tc_m, tc_n, tc_o, tc_0, inR, true_and, and_true, ne_eq, not_true_eq_false, not_false_eq_true, true_imp_iff, false_imp_iff, Int.toNat_natCast, lit_a, Nat.reduceAdd, or_true, true_or, or_false, false_or, Int.reduceEq, Int.reduceNe, Int.reduceLT, Int.reduceLE, Int.reduceNeg, sg_nil]))
    all_goals (try omega)
    all_goals exact hf
def delR (z w : Rw) (s m : Nat) : Prop := w 0 = (m : Int) ∧ (∀ k, (1 ≤ k ∧ k ≤ 3) ∨ 196 ≤ k → w k = z k) ∧ w 6 = 1 ∧
  ∀ i, i < m → w (4 + 3 * i) = z (4 + 3 * (if i < s then i else i + 1)) ∧ w (5 + 3 * i) = z (5 + 3 * (if i < s then i else i + 1)) ∧ (i ≠ 0 → w (6 + 3 * i) = z (6 + 3 * (if i < s then i else i + 1))) ∧ w (76 + 5 * i) = z (76 + 5 * (if i < s then i else i + 1)) ∧ ∀ j, j < 4 → w (77 + 5 * i + j) = z (77 + 5 * (if i < s then i else i + 1) + j)
theorem IZ_del {z w : Rw} {s m : Nat} (hz : IZ z) (hn : z 0 = ((m + 1 : Nat) : Int)) (hm : 1 ≤ m) (H : delR z w s m) : IZ w := by
  obtain ⟨g0, gh, g6, ga⟩ := H
  have q := hz.1
  obtain ⟨q1, q2, q3, q5, q6⟩ := hz
  unfold IZ
  rw [g0, gh 1 (by omega), gh 2 (by omega), gh 3 (by omega)]
  refine ⟨by omega, fun i hi => ?_, g6, fun i hi => ?_, fun l hl => ?_⟩
  · obtain ⟨s1, s2, s3, s4, s5⟩ := ga i (by omega)
    have := q2 (if i < s then i else i + 1) (by split <;> omega)
    rw [s1, s2, s4]
    refine ⟨this.1, this.2.1, ?_, this.2.2.2.1, fun j hj => ?_⟩
    · by_cases h : i = 0
      · subst h
        rw [show 6 + 3 * 0 = 6 from rfl, g6]; omega
      · rw [s3 h]; exact this.2.2.1
    · rw [s5 j (by omega)]
      exact this.2.2.2.2 j hj
  · rw [gh (196 + 2 * i) (by omega), gh (197 + 2 * i) (by omega)]; exact q5 i hi
  · rw [gh (212 + 3 * l) (by omega), gh (213 + 3 * l) (by omega), gh (214 + 3 * l) (by omega), fw_hi (fun k hk => gh k (by omega)) l]; exact q6 l hl
theorem RC_del {z w : Rw} {μ μ' : Mem} {s m : Nat} (hz : IZ z) (hn : z 0 = ((m + 1 : Nat) : Int)) (hR : RC z μ 1) (H : delR z w s m)
    (f1 : ∀ k, (k < 1 + 1 ∨ 1 + 6 < k) → μ' k = μ k) (f2 : μ' (1 + 1) 3 = (m : Int))
    (f3 : ∀ k x, 1 + 2 ≤ k → k ≤ 1 + 5 → (k ≠ 1 + 4 ∨ x ≠ 0) → x < m → μ' k x = if x < s then μ k x else μ k (x + 1)) (f4 : μ' (1 + 4) 0 = 1)
    (f5 : ∀ x j, j < 4 → x < m → μ' (1 + 6) (4 * x + j) = if x < s then μ (1 + 6) (4 * x + j) else μ (1 + 6) (4 * (x + 1) + j)) : RC w μ' 1 := by
  obtain ⟨g0, gh, g6, ga⟩ := H
  have q := hz.1
  obtain ⟨⟨c0, c1, c2, c3⟩, h2, h5, h6⟩ := hR
  unfold RC
  rw [g0, gh 1 (by omega), gh 2 (by omega), gh 3 (by omega)]
  refine ⟨⟨f2, by rw [f1 1 (by omega)]; exact c1, by rw [f1 1 (by omega)]; exact c2, by rw [f1 1 (by omega)]; exact c3⟩, fun i hi => ?_, fun i hi => ?_, fun l hl => ?_⟩
  · obtain ⟨s1, s2, s3, s4, s5⟩ := ga i (by omega)
    have f3' : ∀ k, 1 + 2 ≤ k → k ≤ 1 + 5 → (k ≠ 1 + 4 ∨ i ≠ 0) → μ' k i = μ k (if i < s then i else i + 1) := fun k a b c => by rw [f3 k i a b c (by omega)]; split <;> rfl
    have f5' : ∀ j, j < 4 → μ' (1 + 6) (4 * i + j) = μ (1 + 6) (4 * (if i < s then i else i + 1) + j) := fun j hj => by rw [f5 i j hj (by omega)]; split <;> rfl
    have hlt : ((if i < s then i else i + 1 : Nat) : Int) < z 0 := by split <;> omega
    obtain ⟨b1, b2, b3, b4, b5⟩ := h2 (if i < s then i else i + 1) hlt
    have r := (hz.2.1 (if i < s then i else i + 1) hlt).2.2.2.1
    rw [s1, s2, s4, f3' (1 + 2) (by omega) (by omega) (by omega), f3' (1 + 3) (by omega) (by omega) (by omega), f3' (1 + 5) (by omega) (by omega) (by omega)]
    refine ⟨b1, b2, ?_, b4, fun j hj => by rw [f5' j (by omega), s5 j (by omega)]; exact b5 j hj⟩
    by_cases h : i = 0
    · subst h
      rw [show 6 + 3 * 0 = 6 from rfl, g6]; exact f4
    · rw [s3 h, f3' (1 + 4) (by omega) (by omega) (by omega)]; exact b3
  · rw [gh (196 + 2 * i) (by omega), gh (197 + 2 * i) (by omega), f1 _ (by omega), f1 _ (by omega)]; exact h5 i hi
  · rw [gh (212 + 3 * l) (by omega), gh (213 + 3 * l) (by omega), gh (214 + 3 * l) (by omega), fw_hi (fun k hk => gh k (by omega)) l, f1 (1 + 9) (by omega), f1 (1 + 10) (by omega), f1 (1 + 11) (by omega)]
    obtain ⟨b1, b2, b3, b4⟩ := h6 l hl
    exact ⟨b1, b2, b3, fun h => HR_f (fun k _ _ => f1 k (by omega)) (b4 h)⟩
def c_cutOut (z : Rw) (s : Int) : Int := if s < 0 ∨ z 0 ≤ s then -1 else if z 0 = 1 then -5 else 0
-- NS.cutOut: blocks [0, 8, 13, 30, 41, 62]
theorem k_NS_cutOut {d : Nat} {Q : QT} {μ : Mem} {s : Int} {z : Rw} {a : Hs} (hz : IZ z) (hR : RC z μ 1) (hC : CRr a μ) (hs : inR s) (hf : c_cutOut z s < 0 → Q (.inl (c_cutOut z s)) μ)
    (hq : c_cutOut z s = 0 → ∀ μ', MG (fun w => delR z w s.toNat (zn z - 1)) (hsPush a z) μ μ' → Q (.inl (z (4 + 3 * s.toNat))) μ') : Call σ1 (d + 5) 41 [.inr (.inr 0), .inl s] μ Q := by
  refine e_41 ?_
  have q := hz.1
  have e0 := zn_eq hz
  have e3 : μ 2 3 = z 0 := hR.1.1
  refine wp_go b41_0 ?_; simp only [l41_0, sg_aload_0, sg_getfp, sg_iload_1, sg_iv2_i, len4_0, len4_1, len4_2, len4_3, len4_4, nLg_n, nLg_i, nLg_r, tc_c, tc_l, tc_r, tc_m, tc_n, tc_o, tc_0, inR, true_and, and_true, ne_eq, not_true_eq_false, not_false_eq_true, true_imp_iff, false_imp_iff, Int.toNat_natCast, lit_a, Nat.reduceAdd, or_true, true_or, or_false, false_or, Int.reduceEq, Int.reduceNe, Int.reduceLT, Int.reduceLE, Int.reduceNeg, sg_nil, s1p, x0, x1, x2, x3, x4, x5, x6, x7, x8, x9, x10, x11, x12, x13, x56, x57, x388, x389, x390, x391, x392, x393, x394, x395, x396, x397, x398, x399]
  refine k_Sta_hasSentence st1 hR hz hs (fun h1 h2 => ?_) (fun h0 => ?_)
  · obtain ⟨n, rfl⟩ := nat_of h1
    rw [Int.toNat_natCast] at hq
    refine wp_go b41_8 ?_; simp only [l41_8, sg_if_ne, sg_iconst, sg_iret0, nLg_n, nLg_i, nLg_r, tc_c, tc_l, tc_r, tc_m, tc_n, tc_o, tc_0, inR, true_and, and_true, ne_eq, not_true_eq_false, not_false_eq_true, true_imp_iff, false_imp_iff, Int.toNat_natCast, lit_a, Nat.reduceAdd, or_true, true_or, or_false, false_or, Int.reduceEq, Int.reduceNe, Int.reduceLT, Int.reduceLE, Int.reduceNeg, sg_nil]
    repeat' (first | with_reducible apply And.intro | intro _)
    all_goals (try omega)
    by_cases hg : z 0 = 1
    · have ec : c_cutOut z (n : Int) = -5 := by unfold c_cutOut; rw [if_neg (by omega), if_pos hg]
      rw [ec] at hf
      have hf := hf (by omega)
      refine wp_go b41_13 ?_; simp only [l41_13, sg_aload_0, sg_getfp, sg_getf0, sg_iconst, sg_ic_ne, sg_bipush, sg_iret0, nLg_n, nLg_i, nLg_r, tc_c, tc_l, tc_r, tc_m, tc_n, tc_o, tc_0, inR, true_and, and_true, ne_eq, not_true_eq_false, not_false_eq_true, true_imp_iff, false_imp_iff, Int.toNat_natCast, lit_a, Nat.reduceAdd, or_true, true_or, or_false, false_or, Int.reduceEq, Int.reduceNe, Int.reduceLT, Int.reduceLE, Int.reduceNeg, sg_nil, s1p, x0, x1, x2, x3, x4, x5, x6, x7, x8, x9, x10, x11, x12, x13, x56, x57, x388, x389, x390, x391, x392, x393, x394, x395, x396, x397, x398, x399, e3]
      repeat' (first | with_reducible apply And.intro | (intro _) | ((first | refine wp_go b41_0 ?_ | refine wp_go b41_8 ?_ | refine wp_go b41_13 ?_ | refine wp_go b41_30 ?_ | refine wp_go b41_41 ?_ | refine wp_go b41_62 ?_); simp only [l41_0, l41_8, l41_13, l41_30, l41_41, l41_62, sg_aload_0, sg_getfp, sg_iload_1, sg_iv2_i, len4_0, len4_1, len4_2, len4_3, len4_4, sg_if_ne, sg_iconst, sg_iret0, sg_getf0, sg_ic_ne, sg_bipush, sg_iv2_v, sg_iaload, sg_istore_2, sg_iload_2, nLg_n, nLg_i, nLg_r, tc_c, tc_l, tc_r, tc_m, tc_n, tc_o, tc_0, inR, true_and, and_true, ne_eq, not_true_eq_false, not_false_eq_true, true_imp_iff, false_imp_iff, Int.toNat_natCast, lit_a, Nat.reduceAdd, or_true, true_or, or_false, false_or, Int.reduceEq, Int.reduceNe, Int.reduceLT, Int.reduceLE, Int.reduceNeg, sg_nil]))
      all_goals (try omega)
      all_goals exact hf
    · have ec : c_cutOut z (n : Int) = 0 := by unfold c_cutOut; rw [if_neg (by omega), if_neg hg]
      have hq := hq ec
      refine wp_go b41_13 ?_; simp only [l41_13, sg_aload_0, sg_getfp, sg_getf0, sg_iconst, sg_ic_ne, sg_bipush, sg_iret0, nLg_n, nLg_i, nLg_r, tc_c, tc_l, tc_r, tc_m, tc_n, tc_o, tc_0, inR, true_and, and_true, ne_eq, not_true_eq_false, not_false_eq_true, true_imp_iff, false_imp_iff, Int.toNat_natCast, lit_a, Nat.reduceAdd, or_true, true_or, or_false, false_or, Int.reduceEq, Int.reduceNe, Int.reduceLT, Int.reduceLE, Int.reduceNeg, sg_nil, s1p, x0, x1, x2, x3, x4, x5, x6, x7, x8, x9, x10, x11, x12, x13, x56, x57, x388, x389, x390, x391, x392, x393, x394, x395, x396, x397, x398, x399, e3]
      repeat' (first | with_reducible apply And.intro | intro _)
      all_goals (try omega)
      refine wp_go b41_30 ?_; simp only [l41_30, sg_aload_0, sg_getfp, sg_iv2_v, len4_0, len4_1, len4_2, len4_3, len4_4, nLg_n, nLg_i, nLg_r, tc_c, tc_l, tc_r, tc_m, tc_n, tc_o, tc_0, inR, true_and, and_true, ne_eq, not_true_eq_false, not_false_eq_true, true_imp_iff, false_imp_iff, Int.toNat_natCast, lit_a, Nat.reduceAdd, or_true, true_or, or_false, false_or, Int.reduceEq, Int.reduceNe, Int.reduceLT, Int.reduceLE, Int.reduceNeg, sg_nil, s1p, x0, x1, x2, x3, x4, x5, x6, x7, x8, x9, x10, x11, x12, x13, x56, x57, x388, x389, x390, x391, x392, x393, x394, x395, x396, x397, x398, x399]
      refine k_His_keep hz hR hC (fun μ1 f1 C1 => ?_)
      have R1 := keep_R hz f1 hR
      have e : μ1 3 n = z (4 + 3 * n) := (R1.2.1 n h2).1
      refine wp_go b41_41 ?_; simp only [l41_41, sg_aload_0, sg_getfp, sg_iload_1, sg_iaload, sg_istore_2, sg_iv2_v, len4_0, len4_1, len4_2, len4_3, len4_4, nLg_n, nLg_i, nLg_r, tc_c, tc_l, tc_r, tc_m, tc_n, tc_o, tc_0, inR, true_and, and_true, ne_eq, not_true_eq_false, not_false_eq_true, true_imp_iff, false_imp_iff, Int.toNat_natCast, lit_a, Nat.reduceAdd, or_true, true_or, or_false, false_or, Int.reduceEq, Int.reduceNe, Int.reduceLT, Int.reduceLE, Int.reduceNeg, sg_nil, s1p, x0, x1, x2, x3, x4, x5, x6, x7, x8, x9, x10, x11, x12, x13, x56, x57, x388, x389, x390, x391, x392, x393, x394, x395, x396, x397, x398, x399, e]
      repeat' (first | with_reducible apply And.intro | (intro _) | ((first | refine wp_go b41_0 ?_ | refine wp_go b41_8 ?_ | refine wp_go b41_13 ?_ | refine wp_go b41_30 ?_ | refine wp_go b41_41 ?_ | refine wp_go b41_62 ?_); simp only [l41_0, l41_8, l41_13, l41_30, l41_41, l41_62, sg_aload_0, sg_getfp, sg_iload_1, sg_iv2_i, len4_0, len4_1, len4_2, len4_3, len4_4, sg_if_ne, sg_iconst, sg_iret0, sg_getf0, sg_ic_ne, sg_bipush, sg_iv2_v, sg_iaload, sg_istore_2, sg_iload_2, nLg_n, nLg_i, nLg_r, tc_c, tc_l, tc_r, tc_m, tc_n, tc_o, tc_0, inR, true_and, and_true, ne_eq, not_true_eq_false, not_false_eq_true, true_imp_iff, false_imp_iff, Int.toNat_natCast, lit_a, Nat.reduceAdd, or_true, true_or, or_false, false_or, Int.reduceEq, Int.reduceNe, Int.reduceLT, Int.reduceLE, Int.reduceNeg, sg_nil]))
      all_goals (try omega)
      refine k_Sta_removeSentence st1 (m := zn z - 1) (R1.1.1.trans (by omega)) (by omega) (by omega) (fun μ2 g1 g2 g3 g4 g5 => ?_)
      have hq := hq μ2 ⟨fun k hk => by rw [g1 k (by omega), f1 k (by omega)], fun w hw => RC_del hz (by omega) R1 hw g1 g2 g3 g4 g5, CRr_f (fun k hk => g1 k (by omega)) C1⟩
      refine wp_go b41_62 ?_; simp only [l41_62, sg_iload_2, sg_iret0, nLg_n, nLg_i, nLg_r, tc_c, tc_l, tc_r, tc_m, tc_n, tc_o, tc_0, inR, true_and, and_true, ne_eq, not_true_eq_false, not_false_eq_true, true_imp_iff, false_imp_iff, Int.toNat_natCast, lit_a, Nat.reduceAdd, or_true, true_or, or_false, false_or, Int.reduceEq, Int.reduceNe, Int.reduceLT, Int.reduceLE, Int.reduceNeg, sg_nil]
      exact hq
  · have ec : c_cutOut z s = -1 := by unfold c_cutOut; rw [if_pos (by omega)]
    rw [ec] at hf
    have hf := hf (by omega)
    refine wp_go b41_8 ?_; simp only [l41_8, sg_if_ne, sg_iconst, sg_iret0, nLg_n, nLg_i, nLg_r, tc_c, tc_l, tc_r, tc_m, tc_n, tc_o, tc_0, inR, true_and, and_true, ne_eq, not_true_eq_false, not_false_eq_true, true_imp_iff, false_imp_iff, Int.toNat_natCast, lit_a, Nat.reduceAdd, or_true, true_or, or_false, false_or, Int.reduceEq, Int.reduceNe, Int.reduceLT, Int.reduceLE, Int.reduceNeg, sg_nil]
    repeat' (first | with_reducible apply And.intro | (intro _) | ((first | refine wp_go b41_0 ?_ | refine wp_go b41_8 ?_ | refine wp_go b41_13 ?_ | refine wp_go b41_30 ?_ | refine wp_go b41_41 ?_ | refine wp_go b41_62 ?_); simp only [l41_0, l41_8, l41_13, l41_30, l41_41, l41_62, sg_aload_0, sg_getfp, sg_iload_1, sg_iv2_i, len4_0, len4_1, len4_2, len4_3, len4_4, sg_if_ne, sg_iconst, sg_iret0, sg_getf0, sg_ic_ne, sg_bipush, sg_iv2_v, sg_iaload, sg_istore_2, sg_iload_2, nLg_n, nLg_i, nLg_r, tc_c, tc_l, tc_r, tc_m, tc_n, tc_o, tc_0, inR, true_and, and_true, ne_eq, not_true_eq_false, not_false_eq_true, true_imp_iff, false_imp_iff, Int.toNat_natCast, lit_a, Nat.reduceAdd, or_true, true_or, or_false, false_or, Int.reduceEq, Int.reduceNe, Int.reduceLT, Int.reduceLE, Int.reduceNeg, sg_nil]))
    all_goals (try omega)
    all_goals exact hf
end
section
/-! THE LAW'S METHODS: tables, words -/
abbrev MrL : Type := MethodName × ByteArray × Nat × Option FieldType × Nat × Nat
def mtL : List MrL := [(yL_cell, cL_cell, 2, (some .int), 2, 0), (yL_low, cL_low, 2, (some .int), 2, 0), (yL_build, cL_build, 13, (some .boolean), 5, 0), (yL_now, cL_now, 14, (some .int), 5, 0), (yL_isHeard, cL_isHeard, 15, (some .boolean), 3, 2), (yL_enough, cL_enough, 11, (some .boolean), 2, 2), (yL_notices, cL_notices, 10, (some .boolean), 1, 2), (yL_tells, cL_tells, 6, (some .boolean), 2, 26), (yL_law, cL_law, 13, (some .boolean), 1, 200)]
def mrL (a : Nat) : MrL := mtL.getD a (yL_cell, cL_cell, 0, none, 0, 0)
def yL (a : Nat) : MethodName := (mrL a).1
def bL (a : Nat) : ByteArray := (mrL a).2.1
def lL (a : Nat) : Nat := (mrL a).2.2.1
def rL (a : Nat) : Option FieldType := (mrL a).2.2.2.1
def nL2 (a : Nat) : Nat := (mrL a).2.2.2.2.1
def mcL (a : Nat) : Nat := (mrL a).2.2.2.2.2
-- cell
def v0_0 : List Ent := [(0, .iload_n 1, 0, 0, 0, 0), (1, .aload_n 0, 0, 0, 0, 0), (2, .arraylength, 0, 0, 0, 0), (3, .if_icmp .ge 9, 12, 0, 0, 0), (6, .aload_n 0, 0, 0, 0, 0), (7, .iload_n 1, 0, 0, 0, 0), (8, .iaload, 1, 0, 0, 0), (9, .goto 10, 19, 0, 0, 0)]
def v0_12 : List Ent := [(12, .ldc 7, 32452867, 0, 0, 0), (14, .iload_n 1, 0, 0, 0, 0), (15, .imul, 0, 0, 0, 0), (16, .ldc 8, 15485863, 0, 0, 0), (18, .iadd, 0, 0, 0, 0)]
def v0_19 : List Ent := [(19, .ireturn, 0, 0, 0, 0)]
def bv0 : List Blk := [(0, v0_0, 12), (12, v0_12, 19), (19, v0_19, 20)]
-- low
def v1_0 : List Ent := [(0, .iload_n 0, 0, 0, 0, 0), (1, .ldc 9, 2147483647, 0, 0, 0), (3, .iand, 0, 0, 0, 0), (4, .iload_n 1, 0, 0, 0, 0), (5, .irem, 0, 0, 0, 0), (6, .ireturn, 0, 0, 0, 0)]
def bv1 : List Blk := [(0, v1_0, 7)]
-- build
def v2_0 : List Ent := [(0, .iconst 1, 0, 0, 0, 0), (1, .istore 5, 0, 0, 0, 0), (3, .iconst 0, 0, 0, 0, 0), (4, .istore 6, 0, 0, 0, 0)]
def v2_6 : List Ent := [(6, .iload 6, 0, 0, 0, 0), (8, .iload_n 3, 0, 0, 0, 0), (9, .if_icmp .ge 213, 222, 0, 0, 0), (12, .iload 5, 0, 0, 0, 0), (14, .ifCond .eq 208, 222, 0, 0, 0), (17, .aload_n 1, 0, 0, 0, 0), (18, .iload_n 2, 0, 0, 0, 0), (19, .iload 6, 0, 0, 0, 0), (21, .iadd, 0, 0, 0, 0), (22, .invokestatic 10, 0, 2, 0, 0)]
def v2_25 : List Ent := [(25, .istore 7, 0, 0, 0, 0), (27, .aload_n 0, 0, 0, 0, 0), (28, .iconst 0, 0, 0, 0, 0), (29, .invokevirtual 16, 54, 2, 0, 0)]
def v2_32 : List Ent := [(32, .istore 8, 0, 0, 0, 0), (34, .iload 7, 0, 0, 0, 0), (36, .iload 8, 0, 0, 0, 0), (38, .iconst 1, 0, 0, 0, 0), (39, .iadd, 0, 0, 0, 0), (40, .invokestatic 22, 1, 2, 0, 0)]
def v2_43 : List Ent := [(43, .istore 9, 0, 0, 0, 0), (45, .iconst 1, 0, 0, 0, 0), (46, .iload 7, 0, 0, 0, 0), (48, .iconst 5, 0, 0, 0, 0), (49, .ishr, 0, 0, 0, 0), (50, .iload 7, 0, 0, 0, 0), (52, .bipush 14, 0, 0, 0, 0), (54, .ishr, 0, 0, 0, 0), (55, .iconst 3, 0, 0, 0, 0), (56, .invokestatic 22, 1, 2, 0, 0)]
def v2_59 : List Ent := [(59, .ifCond .ne 9, 68, 0, 0, 0), (62, .sipush 300, 0, 0, 0, 0), (65, .goto 5, 70, 0, 0, 0)]
def v2_68 : List Ent := [(68, .bipush 30, 0, 0, 0, 0)]
def v2_70 : List Ent := [(70, .invokestatic 22, 1, 2, 0, 0)]
def v2_73 : List Ent := [(73, .iadd, 0, 0, 0, 0), (74, .istore 10, 0, 0, 0, 0), (76, .aload_n 0, 0, 0, 0, 0), (77, .iload 9, 0, 0, 0, 0), (79, .iload 10, 0, 0, 0, 0), (81, .invokevirtual 26, 40, 3, 0, 0)]
def v2_84 : List Ent := [(84, .istore 11, 0, 0, 0, 0), (86, .iload 11, 0, 0, 0, 0), (88, .ifCond .lt 64, 152, 0, 0, 0), (91, .aload_n 0, 0, 0, 0, 0), (92, .iconst 0, 0, 0, 0, 0), (93, .invokevirtual 16, 54, 2, 0, 0)]
def v2_96 : List Ent := [(96, .iload 8, 0, 0, 0, 0), (98, .iconst 1, 0, 0, 0, 0), (99, .iadd, 0, 0, 0, 0), (100, .if_icmp .ne 52, 152, 0, 0, 0), (103, .aload_n 0, 0, 0, 0, 0), (104, .iload 9, 0, 0, 0, 0), (106, .iconst 0, 0, 0, 0, 0), (107, .invokevirtual 29, 49, 3, 0, 0)]
def v2_110 : List Ent := [(110, .iload 11, 0, 0, 0, 0), (112, .if_icmp .ne 40, 152, 0, 0, 0), (115, .aload_n 0, 0, 0, 0, 0), (116, .iload 9, 0, 0, 0, 0), (118, .iconst 1, 0, 0, 0, 0), (119, .invokevirtual 29, 49, 3, 0, 0)]
def v2_122 : List Ent := [(122, .iload 10, 0, 0, 0, 0), (124, .if_icmp .ne 28, 152, 0, 0, 0), (127, .aload_n 0, 0, 0, 0, 0), (128, .iload 9, 0, 0, 0, 0), (130, .iconst 5, 0, 0, 0, 0), (131, .invokevirtual 29, 49, 3, 0, 0)]
def v2_134 : List Ent := [(134, .ifCond .ne 18, 152, 0, 0, 0), (137, .aload_n 0, 0, 0, 0, 0), (138, .iload 11, 0, 0, 0, 0), (140, .invokevirtual 32, 50, 2, 0, 0)]
def v2_143 : List Ent := [(143, .iload 9, 0, 0, 0, 0), (145, .if_icmp .ne 7, 152, 0, 0, 0), (148, .iconst 1, 0, 0, 0, 0), (149, .goto 4, 153, 0, 0, 0)]
def v2_152 : List Ent := [(152, .iconst 0, 0, 0, 0, 0)]
def v2_153 : List Ent := [(153, .istore 5, 0, 0, 0, 0), (155, .iload 5, 0, 0, 0, 0), (157, .ifCond .eq 59, 216, 0, 0, 0), (160, .iload 9, 0, 0, 0, 0), (162, .ifCond .le 54, 216, 0, 0, 0), (165, .iload 7, 0, 0, 0, 0), (167, .bipush 16, 0, 0, 0, 0), (169, .ishr, 0, 0, 0, 0), (170, .iconst 3, 0, 0, 0, 0), (171, .invokestatic 22, 1, 2, 0, 0)]
def v2_174 : List Ent := [(174, .ifCond .ne 42, 216, 0, 0, 0), (177, .aload_n 0, 0, 0, 0, 0), (178, .iconst 2, 0, 0, 0, 0), (179, .invokevirtual 16, 54, 2, 0, 0)]
def v2_182 : List Ent := [(182, .istore 12, 0, 0, 0, 0), (184, .aload_n 0, 0, 0, 0, 0), (185, .iload 9, 0, 0, 0, 0), (187, .iconst 1, 0, 0, 0, 0), (188, .invokevirtual 35, 43, 3, 0, 0)]
def v2_191 : List Ent := [(191, .iload 12, 0, 0, 0, 0), (193, .iconst 1, 0, 0, 0, 0), (194, .iadd, 0, 0, 0, 0), (195, .if_icmp .ne 18, 213, 0, 0, 0), (198, .aload_n 0, 0, 0, 0, 0), (199, .iload 9, 0, 0, 0, 0), (201, .iconst 4, 0, 0, 0, 0), (202, .invokevirtual 29, 49, 3, 0, 0)]
def v2_205 : List Ent := [(205, .iconst 1, 0, 0, 0, 0), (206, .if_icmp .ne 7, 213, 0, 0, 0), (209, .iconst 1, 0, 0, 0, 0), (210, .goto 4, 214, 0, 0, 0)]
def v2_213 : List Ent := [(213, .iconst 0, 0, 0, 0, 0)]
def v2_214 : List Ent := [(214, .istore 5, 0, 0, 0, 0)]
def v2_216 : List Ent := [(216, .iinc 6 1, 0, 0, 0, 0), (219, .goto (-213), 6, 0, 0, 0)]
def v2_222 : List Ent := [(222, .iconst 1, 0, 0, 0, 0), (223, .aload_n 1, 0, 0, 0, 0), (224, .iload_n 2, 0, 0, 0, 0), (225, .bipush 30, 0, 0, 0, 0), (227, .iadd, 0, 0, 0, 0), (228, .invokestatic 10, 0, 2, 0, 0)]
def v2_231 : List Ent := [(231, .bipush 8, 0, 0, 0, 0), (233, .invokestatic 22, 1, 2, 0, 0)]
def v2_236 : List Ent := [(236, .iadd, 0, 0, 0, 0), (237, .istore 6, 0, 0, 0, 0), (239, .iconst 0, 0, 0, 0, 0), (240, .istore 7, 0, 0, 0, 0)]
def v2_242 : List Ent := [(242, .iload 7, 0, 0, 0, 0), (244, .iload 6, 0, 0, 0, 0), (246, .if_icmp .ge 138, 384, 0, 0, 0), (249, .iload 5, 0, 0, 0, 0), (251, .ifCond .eq 133, 384, 0, 0, 0), (254, .aload_n 1, 0, 0, 0, 0), (255, .iload_n 2, 0, 0, 0, 0), (256, .bipush 31, 0, 0, 0, 0), (258, .iadd, 0, 0, 0, 0), (259, .iload 7, 0, 0, 0, 0), (261, .iadd, 0, 0, 0, 0), (262, .invokestatic 10, 0, 2, 0, 0)]
def v2_265 : List Ent := [(265, .istore 8, 0, 0, 0, 0), (267, .iconst 1, 0, 0, 0, 0), (268, .iload 8, 0, 0, 0, 0), (270, .iload 8, 0, 0, 0, 0), (272, .bipush 8, 0, 0, 0, 0), (274, .ishr, 0, 0, 0, 0), (275, .iconst 3, 0, 0, 0, 0), (276, .invokestatic 22, 1, 2, 0, 0)]
def v2_279 : List Ent := [(279, .ifCond .ne 8, 287, 0, 0, 0), (282, .bipush 120, 0, 0, 0, 0), (284, .goto 5, 289, 0, 0, 0)]
def v2_287 : List Ent := [(287, .bipush 25, 0, 0, 0, 0)]
def v2_289 : List Ent := [(289, .invokestatic 22, 1, 2, 0, 0)]
def v2_292 : List Ent := [(292, .iadd, 0, 0, 0, 0), (293, .istore 9, 0, 0, 0, 0), (295, .iconst 1, 0, 0, 0, 0), (296, .iload 8, 0, 0, 0, 0), (298, .bipush 10, 0, 0, 0, 0), (300, .ishr, 0, 0, 0, 0), (301, .bipush 63, 0, 0, 0, 0), (303, .invokestatic 22, 1, 2, 0, 0)]
def v2_306 : List Ent := [(306, .iadd, 0, 0, 0, 0), (307, .istore 10, 0, 0, 0, 0), (309, .aload_n 0, 0, 0, 0, 0), (310, .iconst 3, 0, 0, 0, 0), (311, .invokevirtual 16, 54, 2, 0, 0)]
def v2_314 : List Ent := [(314, .bipush 8, 0, 0, 0, 0), (316, .if_icmp .eq 55, 371, 0, 0, 0), (319, .aload_n 0, 0, 0, 0, 0), (320, .iload 9, 0, 0, 0, 0), (322, .iload 10, 0, 0, 0, 0), (324, .invokevirtual 39, 44, 3, 0, 0)]
def v2_327 : List Ent := [(327, .aload_n 0, 0, 0, 0, 0), (328, .iconst 3, 0, 0, 0, 0), (329, .invokevirtual 16, 54, 2, 0, 0)]
def v2_332 : List Ent := [(332, .iconst 1, 0, 0, 0, 0), (333, .isub, 0, 0, 0, 0), (334, .if_icmp .ne 41, 375, 0, 0, 0), (337, .aload_n 0, 0, 0, 0, 0), (338, .aload_n 0, 0, 0, 0, 0), (339, .iconst 3, 0, 0, 0, 0), (340, .invokevirtual 16, 54, 2, 0, 0)]
def v2_343 : List Ent := [(343, .iconst 1, 0, 0, 0, 0), (344, .isub, 0, 0, 0, 0), (345, .iconst 0, 0, 0, 0, 0), (346, .invokevirtual 42, 52, 3, 0, 0)]
def v2_349 : List Ent := [(349, .iload 9, 0, 0, 0, 0), (351, .if_icmp .ne 24, 375, 0, 0, 0), (354, .aload_n 0, 0, 0, 0, 0), (355, .aload_n 0, 0, 0, 0, 0), (356, .iconst 3, 0, 0, 0, 0), (357, .invokevirtual 16, 54, 2, 0, 0)]
def v2_360 : List Ent := [(360, .iconst 1, 0, 0, 0, 0), (361, .isub, 0, 0, 0, 0), (362, .iconst 1, 0, 0, 0, 0), (363, .invokevirtual 42, 52, 3, 0, 0)]
def v2_366 : List Ent := [(366, .iload 10, 0, 0, 0, 0), (368, .if_icmp .ne 7, 375, 0, 0, 0)]
def v2_371 : List Ent := [(371, .iconst 1, 0, 0, 0, 0), (372, .goto 4, 376, 0, 0, 0)]
def v2_375 : List Ent := [(375, .iconst 0, 0, 0, 0, 0)]
def v2_376 : List Ent := [(376, .istore 5, 0, 0, 0, 0), (378, .iinc 7 1, 0, 0, 0, 0), (381, .goto (-139), 242, 0, 0, 0)]
def v2_384 : List Ent := [(384, .iconst 0, 0, 0, 0, 0), (385, .istore 7, 0, 0, 0, 0)]
def v2_387 : List Ent := [(387, .iload 7, 0, 0, 0, 0), (389, .bipush 30, 0, 0, 0, 0), (391, .if_icmp .ge 125, 516, 0, 0, 0), (394, .iload 5, 0, 0, 0, 0), (396, .ifCond .eq 120, 516, 0, 0, 0), (399, .aload_n 1, 0, 0, 0, 0), (400, .iload_n 2, 0, 0, 0, 0), (401, .bipush 40, 0, 0, 0, 0), (403, .iadd, 0, 0, 0, 0), (404, .iload 7, 0, 0, 0, 0), (406, .iadd, 0, 0, 0, 0), (407, .invokestatic 10, 0, 2, 0, 0)]
def v2_410 : List Ent := [(410, .istore 8, 0, 0, 0, 0), (412, .iload 8, 0, 0, 0, 0), (414, .aload_n 0, 0, 0, 0, 0), (415, .iconst 0, 0, 0, 0, 0), (416, .invokevirtual 16, 54, 2, 0, 0)]
def v2_419 : List Ent := [(419, .invokestatic 22, 1, 2, 0, 0)]
def v2_422 : List Ent := [(422, .istore 9, 0, 0, 0, 0), (424, .aload_n 0, 0, 0, 0, 0), (425, .iload 9, 0, 0, 0, 0), (427, .iconst 5, 0, 0, 0, 0), (428, .invokevirtual 29, 49, 3, 0, 0)]
def v2_431 : List Ent := [(431, .istore 10, 0, 0, 0, 0), (433, .iload 8, 0, 0, 0, 0), (435, .bipush 6, 0, 0, 0, 0), (437, .ishr, 0, 0, 0, 0), (438, .aload_n 0, 0, 0, 0, 0), (439, .iconst 3, 0, 0, 0, 0), (440, .invokevirtual 16, 54, 2, 0, 0)]
def v2_443 : List Ent := [(443, .invokestatic 22, 1, 2, 0, 0)]
def v2_446 : List Ent := [(446, .istore 11, 0, 0, 0, 0), (448, .iload 10, 0, 0, 0, 0), (450, .iconst 4, 0, 0, 0, 0), (451, .if_icmp .ne 24, 475, 0, 0, 0), (454, .aload_n 0, 0, 0, 0, 0), (455, .iload 9, 0, 0, 0, 0), (457, .iload 11, 0, 0, 0, 0), (459, .invokevirtual 45, 45, 3, 0, 0)]
def v2_462 : List Ent := [(462, .bipush (-4), 0, 0, 0, 0), (464, .if_icmp .ne 7, 471, 0, 0, 0), (467, .iconst 1, 0, 0, 0, 0), (468, .goto 40, 508, 0, 0, 0)]
def v2_471 : List Ent := [(471, .iconst 0, 0, 0, 0, 0), (472, .goto 36, 508, 0, 0, 0)]
def v2_475 : List Ent := [(475, .aload_n 0, 0, 0, 0, 0), (476, .iload 9, 0, 0, 0, 0), (478, .iload 11, 0, 0, 0, 0), (480, .invokevirtual 45, 45, 3, 0, 0)]
def v2_483 : List Ent := [(483, .iload 10, 0, 0, 0, 0), (485, .iconst 1, 0, 0, 0, 0), (486, .iadd, 0, 0, 0, 0), (487, .if_icmp .ne 20, 507, 0, 0, 0), (490, .aload_n 0, 0, 0, 0, 0), (491, .iload 9, 0, 0, 0, 0), (493, .iload 10, 0, 0, 0, 0), (495, .invokevirtual 48, 51, 3, 0, 0)]
def v2_498 : List Ent := [(498, .iload 11, 0, 0, 0, 0), (500, .if_icmp .ne 7, 507, 0, 0, 0), (503, .iconst 1, 0, 0, 0, 0), (504, .goto 4, 508, 0, 0, 0)]
def v2_507 : List Ent := [(507, .iconst 0, 0, 0, 0, 0)]
def v2_508 : List Ent := [(508, .istore 5, 0, 0, 0, 0), (510, .iinc 7 1, 0, 0, 0, 0), (513, .goto (-126), 387, 0, 0, 0)]
def v2_516 : List Ent := [(516, .iconst 0, 0, 0, 0, 0), (517, .istore 7, 0, 0, 0, 0)]
def v2_519 : List Ent := [(519, .iload 7, 0, 0, 0, 0), (521, .iload 4, 0, 0, 0, 0), (523, .if_icmp .ge 149, 672, 0, 0, 0), (526, .iload 5, 0, 0, 0, 0), (528, .ifCond .eq 144, 672, 0, 0, 0), (531, .aload_n 1, 0, 0, 0, 0), (532, .iload_n 2, 0, 0, 0, 0), (533, .bipush 72, 0, 0, 0, 0), (535, .iadd, 0, 0, 0, 0), (536, .iload 7, 0, 0, 0, 0), (538, .iadd, 0, 0, 0, 0), (539, .invokestatic 10, 0, 2, 0, 0)]
def v2_542 : List Ent := [(542, .istore 8, 0, 0, 0, 0), (544, .aload_n 0, 0, 0, 0, 0), (545, .iconst 4, 0, 0, 0, 0), (546, .invokevirtual 16, 54, 2, 0, 0)]
def v2_549 : List Ent := [(549, .istore 9, 0, 0, 0, 0), (551, .iload 8, 0, 0, 0, 0), (553, .iload 8, 0, 0, 0, 0), (555, .bipush 12, 0, 0, 0, 0), (557, .ishr, 0, 0, 0, 0), (558, .iconst 2, 0, 0, 0, 0), (559, .invokestatic 22, 1, 2, 0, 0)]
def v2_562 : List Ent := [(562, .ifCond .ne 8, 570, 0, 0, 0), (565, .bipush 6, 0, 0, 0, 0), (567, .goto 4, 571, 0, 0, 0)]
def v2_570 : List Ent := [(570, .iconst 2, 0, 0, 0, 0)]
def v2_571 : List Ent := [(571, .invokestatic 22, 1, 2, 0, 0)]
def v2_574 : List Ent := [(574, .istore 10, 0, 0, 0, 0), (576, .iload 8, 0, 0, 0, 0), (578, .iconst 3, 0, 0, 0, 0), (579, .ishr, 0, 0, 0, 0), (580, .iload 8, 0, 0, 0, 0), (582, .bipush 13, 0, 0, 0, 0), (584, .ishr, 0, 0, 0, 0), (585, .iconst 2, 0, 0, 0, 0), (586, .invokestatic 22, 1, 2, 0, 0)]
def v2_589 : List Ent := [(589, .ifCond .ne 9, 598, 0, 0, 0), (592, .sipush 601, 0, 0, 0, 0), (595, .goto 5, 600, 0, 0, 0)]
def v2_598 : List Ent := [(598, .bipush 90, 0, 0, 0, 0)]
def v2_600 : List Ent := [(600, .invokestatic 22, 1, 2, 0, 0)]
def v2_603 : List Ent := [(603, .istore 11, 0, 0, 0, 0), (605, .iload 9, 0, 0, 0, 0), (607, .bipush 6, 0, 0, 0, 0), (609, .if_icmp .eq 50, 659, 0, 0, 0), (612, .aload_n 0, 0, 0, 0, 0), (613, .iload 10, 0, 0, 0, 0), (615, .iload 11, 0, 0, 0, 0), (617, .invokevirtual 51, 47, 3, 0, 0)]
def v2_620 : List Ent := [(620, .iload 9, 0, 0, 0, 0), (622, .if_icmp .ne 41, 663, 0, 0, 0), (625, .aload_n 0, 0, 0, 0, 0), (626, .iload 9, 0, 0, 0, 0), (628, .iconst 0, 0, 0, 0, 0), (629, .invokevirtual 54, 53, 3, 0, 0)]
def v2_632 : List Ent := [(632, .iload 10, 0, 0, 0, 0), (634, .if_icmp .ne 29, 663, 0, 0, 0), (637, .aload_n 0, 0, 0, 0, 0), (638, .iload 9, 0, 0, 0, 0), (640, .iconst 1, 0, 0, 0, 0), (641, .invokevirtual 54, 53, 3, 0, 0)]
def v2_644 : List Ent := [(644, .iload 11, 0, 0, 0, 0), (646, .if_icmp .ne 17, 663, 0, 0, 0), (649, .aload_n 0, 0, 0, 0, 0), (650, .iload 9, 0, 0, 0, 0), (652, .iconst 2, 0, 0, 0, 0), (653, .invokevirtual 54, 53, 3, 0, 0)]
def v2_656 : List Ent := [(656, .ifCond .ne 7, 663, 0, 0, 0)]
def v2_659 : List Ent := [(659, .iconst 1, 0, 0, 0, 0), (660, .goto 4, 664, 0, 0, 0)]
def v2_663 : List Ent := [(663, .iconst 0, 0, 0, 0, 0)]
def v2_664 : List Ent := [(664, .istore 5, 0, 0, 0, 0), (666, .iinc 7 1, 0, 0, 0, 0), (669, .goto (-150), 519, 0, 0, 0)]
def v2_672 : List Ent := [(672, .iload 5, 0, 0, 0, 0), (674, .ireturn, 1, 0, 0, 0)]
def bv2 : List Blk := [(0, v2_0, 6), (6, v2_6, 25), (25, v2_25, 32), (32, v2_32, 43), (43, v2_43, 59), (59, v2_59, 68), (68, v2_68, 70), (70, v2_70, 73), (73, v2_73, 84), (84, v2_84, 96), (96, v2_96, 110), (110, v2_110, 122), (122, v2_122, 134), (134, v2_134, 143), (143, v2_143, 152), (152, v2_152, 153), (153, v2_153, 174), (174, v2_174, 182), (182, v2_182, 191), (191, v2_191, 205), (205, v2_205, 213), (213, v2_213, 214), (214, v2_214, 216), (216, v2_216, 222), (222, v2_222, 231), (231, v2_231, 236), (236, v2_236, 242), (242, v2_242, 265), (265, v2_265, 279), (279, v2_279, 287), (287, v2_287, 289), (289, v2_289, 292), (292, v2_292, 306), (306, v2_306, 314), (314, v2_314, 327), (327, v2_327, 332), (332, v2_332, 343), (343, v2_343, 349), (349, v2_349, 360), (360, v2_360, 366), (366, v2_366, 371), (371, v2_371, 375), (375, v2_375, 376), (376, v2_376, 384), (384, v2_384, 387), (387, v2_387, 410), (410, v2_410, 419), (419, v2_419, 422), (422, v2_422, 431), (431, v2_431, 443), (443, v2_443, 446), (446, v2_446, 462), (462, v2_462, 471), (471, v2_471, 475), (475, v2_475, 483), (483, v2_483, 498), (498, v2_498, 507), (507, v2_507, 508), (508, v2_508, 516), (516, v2_516, 519), (519, v2_519, 542), (542, v2_542, 549), (549, v2_549, 562), (562, v2_562, 570), (570, v2_570, 571), (571, v2_571, 574), (574, v2_574, 589), (589, v2_589, 598), (598, v2_598, 600), (600, v2_600, 603), (603, v2_603, 620), (620, v2_620, 632), (632, v2_632, 644), (644, v2_644, 656), (656, v2_656, 659), (659, v2_659, 663), (663, v2_663, 664), (664, v2_664, 672), (672, v2_672, 675)]
-- now
def v3_0 : List Ent := [(0, .aload_n 0, 0, 0, 0, 0), (1, .iload_n 1, 0, 0, 0, 0), (2, .iconst 0, 0, 0, 0, 0), (3, .invokevirtual 54, 53, 3, 0, 0)]
def v3_6 : List Ent := [(6, .istore 5, 0, 0, 0, 0), (8, .iconst 0, 0, 0, 0, 0), (9, .istore 6, 0, 0, 0, 0), (11, .iconst 0, 0, 0, 0, 0), (12, .istore 7, 0, 0, 0, 0), (14, .aload_n 0, 0, 0, 0, 0), (15, .iconst 0, 0, 0, 0, 0), (16, .invokevirtual 16, 54, 2, 0, 0)]
def v3_19 : List Ent := [(19, .istore 8, 0, 0, 0, 0), (21, .iconst 0, 0, 0, 0, 0), (22, .istore 9, 0, 0, 0, 0)]
def v3_24 : List Ent := [(24, .iload 9, 0, 0, 0, 0), (26, .iload 8, 0, 0, 0, 0), (28, .if_icmp .ge 202, 230, 0, 0, 0), (31, .bipush (-6), 0, 0, 0, 0), (33, .istore 10, 0, 0, 0, 0), (35, .iconst 0, 0, 0, 0, 0), (36, .istore 11, 0, 0, 0, 0)]
def v3_38 : List Ent := [(38, .iload 11, 0, 0, 0, 0), (40, .aload_n 0, 0, 0, 0, 0), (41, .iload 9, 0, 0, 0, 0), (43, .iconst 5, 0, 0, 0, 0), (44, .invokevirtual 29, 49, 3, 0, 0)]
def v3_47 : List Ent := [(47, .if_icmp .ge 85, 132, 0, 0, 0), (50, .iload 10, 0, 0, 0, 0), (52, .ifCond .ge 80, 132, 0, 0, 0), (55, .aload_n 0, 0, 0, 0, 0), (56, .iload 9, 0, 0, 0, 0), (58, .iload 11, 0, 0, 0, 0), (60, .invokevirtual 48, 51, 3, 0, 0)]
def v3_63 : List Ent := [(63, .istore 12, 0, 0, 0, 0), (65, .aload_n 0, 0, 0, 0, 0), (66, .iload 12, 0, 0, 0, 0), (68, .iconst 1, 0, 0, 0, 0), (69, .invokevirtual 42, 52, 3, 0, 0)]
def v3_72 : List Ent := [(72, .iload 5, 0, 0, 0, 0), (74, .ishr, 0, 0, 0, 0), (75, .iconst 1, 0, 0, 0, 0), (76, .iand, 0, 0, 0, 0), (77, .iconst 1, 0, 0, 0, 0), (78, .if_icmp .ne 31, 109, 0, 0, 0), (81, .iload 7, 0, 0, 0, 0), (83, .iload 12, 0, 0, 0, 0), (85, .ishr, 0, 0, 0, 0), (86, .iconst 1, 0, 0, 0, 0), (87, .iand, 0, 0, 0, 0), (88, .ifCond .ne 21, 109, 0, 0, 0), (91, .iload 6, 0, 0, 0, 0), (93, .aload_n 0, 0, 0, 0, 0), (94, .iload 12, 0, 0, 0, 0), (96, .iconst 0, 0, 0, 0, 0), (97, .invokevirtual 42, 52, 3, 0, 0)]
def v3_100 : List Ent := [(100, .iadd, 0, 0, 0, 0), (101, .iload_n 2, 0, 0, 0, 0), (102, .if_icmp .gt 7, 109, 0, 0, 0), (105, .iconst 1, 0, 0, 0, 0), (106, .goto 4, 110, 0, 0, 0)]
def v3_109 : List Ent := [(109, .iconst 0, 0, 0, 0, 0)]
def v3_110 : List Ent := [(110, .istore 13, 0, 0, 0, 0), (112, .iload 13, 0, 0, 0, 0), (114, .ifCond .eq 8, 122, 0, 0, 0), (117, .iload 12, 0, 0, 0, 0), (119, .goto 5, 124, 0, 0, 0)]
def v3_122 : List Ent := [(122, .iload 10, 0, 0, 0, 0)]
def v3_124 : List Ent := [(124, .istore 10, 0, 0, 0, 0), (126, .iinc 11 1, 0, 0, 0, 0), (129, .goto (-91), 38, 0, 0, 0)]
def v3_132 : List Ent := [(132, .iload 7, 0, 0, 0, 0), (134, .iload 10, 0, 0, 0, 0), (136, .ifCond .ge 7, 143, 0, 0, 0), (139, .iconst 0, 0, 0, 0, 0), (140, .goto 7, 147, 0, 0, 0)]
def v3_143 : List Ent := [(143, .iconst 1, 0, 0, 0, 0), (144, .iload 10, 0, 0, 0, 0), (146, .ishl, 0, 0, 0, 0)]
def v3_147 : List Ent := [(147, .ior, 0, 0, 0, 0), (148, .istore 7, 0, 0, 0, 0), (150, .aload_n 3, 0, 0, 0, 0), (151, .iconst 2, 0, 0, 0, 0), (152, .iload 9, 0, 0, 0, 0), (154, .imul, 0, 0, 0, 0), (155, .iload 10, 0, 0, 0, 0), (157, .iastore, 0, 0, 0, 0), (158, .aload_n 3, 0, 0, 0, 0), (159, .iconst 2, 0, 0, 0, 0), (160, .iload 9, 0, 0, 0, 0), (162, .imul, 0, 0, 0, 0), (163, .iconst 1, 0, 0, 0, 0), (164, .iadd, 0, 0, 0, 0), (165, .aload_n 0, 0, 0, 0, 0), (166, .iload 9, 0, 0, 0, 0), (168, .iconst 0, 0, 0, 0, 0), (169, .invokevirtual 29, 49, 3, 0, 0)]
def v3_172 : List Ent := [(172, .iastore, 0, 0, 0, 0), (173, .aload 4, 0, 0, 0, 0), (175, .iconst 2, 0, 0, 0, 0), (176, .iload 9, 0, 0, 0, 0), (178, .imul, 0, 0, 0, 0), (179, .iload 10, 0, 0, 0, 0), (181, .ifCond .ge 7, 188, 0, 0, 0), (184, .iconst 0, 0, 0, 0, 0), (185, .goto 10, 195, 0, 0, 0)]
def v3_188 : List Ent := [(188, .aload_n 0, 0, 0, 0, 0), (189, .iload 10, 0, 0, 0, 0), (191, .iconst 0, 0, 0, 0, 0), (192, .invokevirtual 42, 52, 3, 0, 0)]
def v3_195 : List Ent := [(195, .iastore, 0, 0, 0, 0), (196, .aload 4, 0, 0, 0, 0), (198, .iconst 2, 0, 0, 0, 0), (199, .iload 9, 0, 0, 0, 0), (201, .imul, 0, 0, 0, 0), (202, .iconst 1, 0, 0, 0, 0), (203, .iadd, 0, 0, 0, 0), (204, .aload_n 0, 0, 0, 0, 0), (205, .iload 9, 0, 0, 0, 0), (207, .iconst 1, 0, 0, 0, 0), (208, .invokevirtual 29, 49, 3, 0, 0)]
def v3_211 : List Ent := [(211, .iastore, 0, 0, 0, 0), (212, .iload 6, 0, 0, 0, 0), (214, .aload 4, 0, 0, 0, 0), (216, .iconst 2, 0, 0, 0, 0), (217, .iload 9, 0, 0, 0, 0), (219, .imul, 0, 0, 0, 0), (220, .iaload, 0, 0, 0, 0), (221, .iadd, 0, 0, 0, 0), (222, .istore 6, 0, 0, 0, 0), (224, .iinc 9 1, 0, 0, 0, 0), (227, .goto (-203), 24, 0, 0, 0)]
def v3_230 : List Ent := [(230, .iload 8, 0, 0, 0, 0), (232, .ireturn, 0, 0, 0, 0)]
def bv3 : List Blk := [(0, v3_0, 6), (6, v3_6, 19), (19, v3_19, 24), (24, v3_24, 38), (38, v3_38, 47), (47, v3_47, 63), (63, v3_63, 72), (72, v3_72, 100), (100, v3_100, 109), (109, v3_109, 110), (110, v3_110, 122), (122, v3_122, 124), (124, v3_124, 132), (132, v3_132, 143), (143, v3_143, 147), (147, v3_147, 172), (172, v3_172, 188), (188, v3_188, 195), (195, v3_195, 211), (211, v3_211, 230), (230, v3_230, 233)]
-- isHeard
def v4_0 : List Ent := [(0, .bipush 48, 0, 0, 0, 0), (2, .newarray .int, 0, 0, 0, 0), (4, .astore_n 3, 0, 0, 0, 0), (5, .bipush 48, 0, 0, 0, 0), (7, .newarray .int, 0, 0, 0, 0), (9, .astore 4, 0, 0, 0, 0), (11, .aload_n 0, 0, 0, 0, 0), (12, .iload_n 1, 0, 0, 0, 0), (13, .aload_n 0, 0, 0, 0, 0), (14, .iload_n 1, 0, 0, 0, 0), (15, .iconst 1, 0, 0, 0, 0), (16, .invokevirtual 54, 53, 3, 0, 0)]
def v4_19 : List Ent := [(19, .aload_n 3, 0, 0, 0, 0), (20, .aload 4, 0, 0, 0, 0), (22, .invokestatic 57, 3, 5, 0, 0)]
def v4_25 : List Ent := [(25, .istore 5, 0, 0, 0, 0), (27, .iconst 0, 0, 0, 0, 0), (28, .istore 6, 0, 0, 0, 0), (30, .iconst 0, 0, 0, 0, 0), (31, .istore 7, 0, 0, 0, 0), (33, .iconst 0, 0, 0, 0, 0), (34, .istore 8, 0, 0, 0, 0), (36, .iconst 0, 0, 0, 0, 0), (37, .istore 9, 0, 0, 0, 0), (39, .iconst (-1), 0, 0, 0, 0), (40, .istore 10, 0, 0, 0, 0), (42, .iconst 0, 0, 0, 0, 0), (43, .istore 11, 0, 0, 0, 0)]
def v4_45 : List Ent := [(45, .iload 11, 0, 0, 0, 0), (47, .iload 5, 0, 0, 0, 0), (49, .if_icmp .ge 455, 504, 0, 0, 0), (52, .iload 10, 0, 0, 0, 0), (54, .aload_n 0, 0, 0, 0, 0), (55, .iload 11, 0, 0, 0, 0), (57, .iconst 4, 0, 0, 0, 0), (58, .invokevirtual 29, 49, 3, 0, 0)]
def v4_61 : List Ent := [(61, .iadd, 0, 0, 0, 0), (62, .istore 10, 0, 0, 0, 0), (64, .aload_n 0, 0, 0, 0, 0), (65, .iload_n 1, 0, 0, 0, 0), (66, .iload 11, 0, 0, 0, 0), (68, .invokevirtual 61, 55, 3, 0, 0)]
def v4_71 : List Ent := [(71, .aload_n 3, 0, 0, 0, 0), (72, .iconst 2, 0, 0, 0, 0), (73, .iload 11, 0, 0, 0, 0), (75, .imul, 0, 0, 0, 0), (76, .iaload, 0, 0, 0, 0), (77, .if_icmp .ne 53, 130, 0, 0, 0), (80, .aload_n 0, 0, 0, 0, 0), (81, .iload 11, 0, 0, 0, 0), (83, .iconst 4, 0, 0, 0, 0), (84, .invokevirtual 29, 49, 3, 0, 0)]
def v4_87 : List Ent := [(87, .ifCond .eq 15, 102, 0, 0, 0), (90, .aload_n 0, 0, 0, 0, 0), (91, .iload_n 1, 0, 0, 0, 0), (92, .iload 10, 0, 0, 0, 0), (94, .invokevirtual 64, 58, 3, 0, 0)]
def v4_97 : List Ent := [(97, .iload 6, 0, 0, 0, 0), (99, .if_icmp .ne 31, 130, 0, 0, 0)]
def v4_102 : List Ent := [(102, .aload_n 0, 0, 0, 0, 0), (103, .iload 11, 0, 0, 0, 0), (105, .iconst 3, 0, 0, 0, 0), (106, .invokevirtual 29, 49, 3, 0, 0)]
def v4_109 : List Ent := [(109, .iload 10, 0, 0, 0, 0), (111, .if_icmp .ne 19, 130, 0, 0, 0), (114, .aload_n 0, 0, 0, 0, 0), (115, .iload 11, 0, 0, 0, 0), (117, .iconst 2, 0, 0, 0, 0), (118, .invokevirtual 29, 49, 3, 0, 0)]
def v4_121 : List Ent := [(121, .iload 7, 0, 0, 0, 0), (123, .if_icmp .ne 7, 130, 0, 0, 0), (126, .iconst 1, 0, 0, 0, 0), (127, .goto 4, 131, 0, 0, 0)]
def v4_130 : List Ent := [(130, .iconst 0, 0, 0, 0, 0)]
def v4_131 : List Ent := [(131, .istore 12, 0, 0, 0, 0), (133, .iload_n 2, 0, 0, 0, 0), (134, .iload 11, 0, 0, 0, 0), (136, .bipush 9, 0, 0, 0, 0), (138, .irem, 0, 0, 0, 0), (139, .ishr, 0, 0, 0, 0), (140, .aload 4, 0, 0, 0, 0), (142, .iconst 2, 0, 0, 0, 0), (143, .iload 11, 0, 0, 0, 0), (145, .imul, 0, 0, 0, 0), (146, .iconst 1, 0, 0, 0, 0), (147, .iadd, 0, 0, 0, 0), (148, .iaload, 0, 0, 0, 0), (149, .invokestatic 22, 1, 2, 0, 0)]
def v4_152 : List Ent := [(152, .istore 13, 0, 0, 0, 0), (154, .iload 6, 0, 0, 0, 0), (156, .aload 4, 0, 0, 0, 0), (158, .iconst 2, 0, 0, 0, 0), (159, .iload 11, 0, 0, 0, 0), (161, .imul, 0, 0, 0, 0), (162, .iaload, 0, 0, 0, 0), (163, .iadd, 0, 0, 0, 0), (164, .istore 14, 0, 0, 0, 0), (166, .iload 12, 0, 0, 0, 0), (168, .ifCond .eq 102, 270, 0, 0, 0), (171, .aload_n 0, 0, 0, 0, 0), (172, .iload_n 1, 0, 0, 0, 0), (173, .iload 7, 0, 0, 0, 0), (175, .invokevirtual 67, 56, 3, 0, 0)]
def v4_178 : List Ent := [(178, .iload 14, 0, 0, 0, 0), (180, .if_icmp .ne 90, 270, 0, 0, 0), (183, .aload_n 0, 0, 0, 0, 0), (184, .iload_n 1, 0, 0, 0, 0), (185, .iload 7, 0, 0, 0, 0), (187, .iload 13, 0, 0, 0, 0), (189, .iadd, 0, 0, 0, 0), (190, .invokevirtual 67, 56, 3, 0, 0)]
def v4_193 : List Ent := [(193, .iload 14, 0, 0, 0, 0), (195, .iload 13, 0, 0, 0, 0), (197, .iadd, 0, 0, 0, 0), (198, .if_icmp .ne 72, 270, 0, 0, 0), (201, .aload_n 0, 0, 0, 0, 0), (202, .iload_n 1, 0, 0, 0, 0), (203, .aload_n 3, 0, 0, 0, 0), (204, .iconst 2, 0, 0, 0, 0), (205, .iload 11, 0, 0, 0, 0), (207, .imul, 0, 0, 0, 0), (208, .iconst 1, 0, 0, 0, 0), (209, .iadd, 0, 0, 0, 0), (210, .iaload, 0, 0, 0, 0), (211, .iload 13, 0, 0, 0, 0), (213, .invokevirtual 70, 59, 4, 0, 0)]
def v4_216 : List Ent := [(216, .iload 14, 0, 0, 0, 0), (218, .iload 13, 0, 0, 0, 0), (220, .iadd, 0, 0, 0, 0), (221, .if_icmp .ne 49, 270, 0, 0, 0), (224, .aload 4, 0, 0, 0, 0), (226, .iconst 2, 0, 0, 0, 0), (227, .iload 11, 0, 0, 0, 0), (229, .imul, 0, 0, 0, 0), (230, .iconst 1, 0, 0, 0, 0), (231, .iadd, 0, 0, 0, 0), (232, .iaload, 0, 0, 0, 0), (233, .sipush 299, 0, 0, 0, 0), (236, .if_icmp .gt 30, 266, 0, 0, 0), (239, .aload_n 0, 0, 0, 0, 0), (240, .iload_n 1, 0, 0, 0, 0), (241, .aload_n 3, 0, 0, 0, 0), (242, .iconst 2, 0, 0, 0, 0), (243, .iload 11, 0, 0, 0, 0), (245, .imul, 0, 0, 0, 0), (246, .iconst 1, 0, 0, 0, 0), (247, .iadd, 0, 0, 0, 0), (248, .iaload, 0, 0, 0, 0), (249, .aload 4, 0, 0, 0, 0), (251, .iconst 2, 0, 0, 0, 0), (252, .iload 11, 0, 0, 0, 0), (254, .imul, 0, 0, 0, 0), (255, .iconst 1, 0, 0, 0, 0), (256, .iadd, 0, 0, 0, 0), (257, .iaload, 0, 0, 0, 0), (258, .invokevirtual 70, 59, 4, 0, 0)]
def v4_261 : List Ent := [(261, .bipush (-5), 0, 0, 0, 0), (263, .if_icmp .ne 7, 270, 0, 0, 0)]
def v4_266 : List Ent := [(266, .iconst 1, 0, 0, 0, 0), (267, .goto 4, 271, 0, 0, 0)]
def v4_270 : List Ent := [(270, .iconst 0, 0, 0, 0, 0)]
def v4_271 : List Ent := [(271, .istore 12, 0, 0, 0, 0), (273, .iload 12, 0, 0, 0, 0), (275, .ifCond .eq 74, 349, 0, 0, 0), (278, .aload_n 0, 0, 0, 0, 0), (279, .iload_n 1, 0, 0, 0, 0), (280, .iload 14, 0, 0, 0, 0), (282, .iload 13, 0, 0, 0, 0), (284, .iadd, 0, 0, 0, 0), (285, .iconst 0, 0, 0, 0, 0), (286, .invokevirtual 74, 57, 4, 0, 0)]
def v4_289 : List Ent := [(289, .iload 7, 0, 0, 0, 0), (291, .iload 13, 0, 0, 0, 0), (293, .iadd, 0, 0, 0, 0), (294, .if_icmp .ne 55, 349, 0, 0, 0), (297, .aload_n 0, 0, 0, 0, 0), (298, .iload_n 1, 0, 0, 0, 0), (299, .iload 14, 0, 0, 0, 0), (301, .iload 13, 0, 0, 0, 0), (303, .iadd, 0, 0, 0, 0), (304, .iconst 1, 0, 0, 0, 0), (305, .invokevirtual 74, 57, 4, 0, 0)]
def v4_308 : List Ent := [(308, .bipush (-6), 0, 0, 0, 0), (310, .if_icmp .ne 39, 349, 0, 0, 0), (313, .aload_n 0, 0, 0, 0, 0), (314, .iload_n 1, 0, 0, 0, 0), (315, .iload 14, 0, 0, 0, 0), (317, .iload 13, 0, 0, 0, 0), (319, .iadd, 0, 0, 0, 0), (320, .iconst 2, 0, 0, 0, 0), (321, .invokevirtual 74, 57, 4, 0, 0)]
def v4_324 : List Ent := [(324, .iload 11, 0, 0, 0, 0), (326, .if_icmp .ne 23, 349, 0, 0, 0), (329, .aload_n 0, 0, 0, 0, 0), (330, .iload_n 1, 0, 0, 0, 0), (331, .iload 14, 0, 0, 0, 0), (333, .iload 13, 0, 0, 0, 0), (335, .iadd, 0, 0, 0, 0), (336, .iconst 3, 0, 0, 0, 0), (337, .invokevirtual 74, 57, 4, 0, 0)]
def v4_340 : List Ent := [(340, .iload 10, 0, 0, 0, 0), (342, .if_icmp .ne 7, 349, 0, 0, 0), (345, .iconst 1, 0, 0, 0, 0), (346, .goto 4, 350, 0, 0, 0)]
def v4_349 : List Ent := [(349, .iconst 0, 0, 0, 0, 0)]
def v4_350 : List Ent := [(350, .istore 12, 0, 0, 0, 0), (352, .iload 12, 0, 0, 0, 0), (354, .ifCond .eq 75, 429, 0, 0, 0), (357, .aload 4, 0, 0, 0, 0), (359, .iconst 2, 0, 0, 0, 0), (360, .iload 11, 0, 0, 0, 0), (362, .imul, 0, 0, 0, 0), (363, .iaload, 0, 0, 0, 0), (364, .ifCond .eq 61, 425, 0, 0, 0), (367, .aload_n 0, 0, 0, 0, 0), (368, .iload_n 1, 0, 0, 0, 0), (369, .iload 6, 0, 0, 0, 0), (371, .iconst 0, 0, 0, 0, 0), (372, .invokevirtual 74, 57, 4, 0, 0)]
def v4_375 : List Ent := [(375, .bipush (-6), 0, 0, 0, 0), (377, .if_icmp .ne 52, 429, 0, 0, 0), (380, .aload_n 0, 0, 0, 0, 0), (381, .iload_n 1, 0, 0, 0, 0), (382, .iload 14, 0, 0, 0, 0), (384, .iconst 1, 0, 0, 0, 0), (385, .isub, 0, 0, 0, 0), (386, .iconst 1, 0, 0, 0, 0), (387, .invokevirtual 74, 57, 4, 0, 0)]
def v4_390 : List Ent := [(390, .aload_n 3, 0, 0, 0, 0), (391, .iconst 2, 0, 0, 0, 0), (392, .iload 11, 0, 0, 0, 0), (394, .imul, 0, 0, 0, 0), (395, .iaload, 0, 0, 0, 0), (396, .if_icmp .ne 33, 429, 0, 0, 0), (399, .aload_n 0, 0, 0, 0, 0), (400, .iload_n 1, 0, 0, 0, 0), (401, .iload 6, 0, 0, 0, 0), (403, .iconst 2, 0, 0, 0, 0), (404, .invokevirtual 74, 57, 4, 0, 0)]
def v4_407 : List Ent := [(407, .iload 11, 0, 0, 0, 0), (409, .if_icmp .ne 20, 429, 0, 0, 0), (412, .aload_n 0, 0, 0, 0, 0), (413, .iload_n 1, 0, 0, 0, 0), (414, .iload 6, 0, 0, 0, 0), (416, .iconst 3, 0, 0, 0, 0), (417, .invokevirtual 74, 57, 4, 0, 0)]
def v4_420 : List Ent := [(420, .iload 10, 0, 0, 0, 0), (422, .if_icmp .ne 7, 429, 0, 0, 0)]
def v4_425 : List Ent := [(425, .iconst 1, 0, 0, 0, 0), (426, .goto 4, 430, 0, 0, 0)]
def v4_429 : List Ent := [(429, .iconst 0, 0, 0, 0, 0)]
def v4_430 : List Ent := [(430, .istore 12, 0, 0, 0, 0), (432, .iload 12, 0, 0, 0, 0), (434, .ifCond .ne 5, 439, 0, 0, 0), (437, .iconst 0, 0, 0, 0, 0), (438, .ireturn, 1, 0, 0, 0)]
def v4_439 : List Ent := [(439, .iload 14, 0, 0, 0, 0), (441, .aload 4, 0, 0, 0, 0), (443, .iconst 2, 0, 0, 0, 0), (444, .iload 11, 0, 0, 0, 0), (446, .imul, 0, 0, 0, 0), (447, .iconst 1, 0, 0, 0, 0), (448, .iadd, 0, 0, 0, 0), (449, .iaload, 0, 0, 0, 0), (450, .iadd, 0, 0, 0, 0), (451, .istore 6, 0, 0, 0, 0), (453, .iload 7, 0, 0, 0, 0), (455, .aload 4, 0, 0, 0, 0), (457, .iconst 2, 0, 0, 0, 0), (458, .iload 11, 0, 0, 0, 0), (460, .imul, 0, 0, 0, 0), (461, .iconst 1, 0, 0, 0, 0), (462, .iadd, 0, 0, 0, 0), (463, .iaload, 0, 0, 0, 0), (464, .iadd, 0, 0, 0, 0), (465, .istore 7, 0, 0, 0, 0), (467, .iload 8, 0, 0, 0, 0), (469, .aload_n 3, 0, 0, 0, 0), (470, .iconst 2, 0, 0, 0, 0), (471, .iload 11, 0, 0, 0, 0), (473, .imul, 0, 0, 0, 0), (474, .iaload, 0, 0, 0, 0), (475, .ifCond .ge 7, 482, 0, 0, 0), (478, .iconst 0, 0, 0, 0, 0), (479, .goto 4, 483, 0, 0, 0)]
def v4_482 : List Ent := [(482, .iconst 1, 0, 0, 0, 0)]
def v4_483 : List Ent := [(483, .iadd, 0, 0, 0, 0), (484, .istore 8, 0, 0, 0, 0), (486, .iload 9, 0, 0, 0, 0), (488, .aload 4, 0, 0, 0, 0), (490, .iconst 2, 0, 0, 0, 0), (491, .iload 11, 0, 0, 0, 0), (493, .imul, 0, 0, 0, 0), (494, .iaload, 0, 0, 0, 0), (495, .iadd, 0, 0, 0, 0), (496, .istore 9, 0, 0, 0, 0), (498, .iinc 11 1, 0, 0, 0, 0), (501, .goto (-456), 45, 0, 0, 0)]
def v4_504 : List Ent := [(504, .aload_n 0, 0, 0, 0, 0), (505, .iload_n 1, 0, 0, 0, 0), (506, .iconst 4, 0, 0, 0, 0), (507, .invokevirtual 54, 53, 3, 0, 0)]
def v4_510 : List Ent := [(510, .iload 6, 0, 0, 0, 0), (512, .if_icmp .ne 62, 574, 0, 0, 0), (515, .aload_n 0, 0, 0, 0, 0), (516, .iload_n 1, 0, 0, 0, 0), (517, .iconst 5, 0, 0, 0, 0), (518, .invokevirtual 54, 53, 3, 0, 0)]
def v4_521 : List Ent := [(521, .iload 8, 0, 0, 0, 0), (523, .if_icmp .ne 51, 574, 0, 0, 0), (526, .aload_n 0, 0, 0, 0, 0), (527, .iload_n 1, 0, 0, 0, 0), (528, .bipush 6, 0, 0, 0, 0), (530, .invokevirtual 54, 53, 3, 0, 0)]
def v4_533 : List Ent := [(533, .iload 9, 0, 0, 0, 0), (535, .if_icmp .ne 39, 574, 0, 0, 0), (538, .aload_n 0, 0, 0, 0, 0), (539, .iload_n 1, 0, 0, 0, 0), (540, .bipush 7, 0, 0, 0, 0), (542, .invokevirtual 54, 53, 3, 0, 0)]
def v4_545 : List Ent := [(545, .iload 5, 0, 0, 0, 0), (547, .if_icmp .ne 27, 574, 0, 0, 0), (550, .aload_n 0, 0, 0, 0, 0), (551, .iload_n 1, 0, 0, 0, 0), (552, .iconst 3, 0, 0, 0, 0), (553, .invokevirtual 54, 53, 3, 0, 0)]
def v4_556 : List Ent := [(556, .ifCond .ne 18, 574, 0, 0, 0), (559, .iload 9, 0, 0, 0, 0), (561, .aload_n 0, 0, 0, 0, 0), (562, .iload_n 1, 0, 0, 0, 0), (563, .iconst 1, 0, 0, 0, 0), (564, .invokevirtual 54, 53, 3, 0, 0)]
def v4_567 : List Ent := [(567, .if_icmp .gt 7, 574, 0, 0, 0), (570, .iconst 1, 0, 0, 0, 0), (571, .goto 4, 575, 0, 0, 0)]
def v4_574 : List Ent := [(574, .iconst 0, 0, 0, 0, 0)]
def v4_575 : List Ent := [(575, .istore 11, 0, 0, 0, 0), (577, .iload 11, 0, 0, 0, 0), (579, .ifCond .eq 74, 653, 0, 0, 0), (582, .aload_n 0, 0, 0, 0, 0), (583, .iload_n 1, 0, 0, 0, 0), (584, .iload 6, 0, 0, 0, 0), (586, .iconst 2, 0, 0, 0, 0), (587, .invokevirtual 74, 57, 4, 0, 0)]
def v4_590 : List Ent := [(590, .bipush (-5), 0, 0, 0, 0), (592, .if_icmp .ne 61, 653, 0, 0, 0), (595, .iload 7, 0, 0, 0, 0), (597, .sipush 7199, 0, 0, 0, 0), (600, .if_icmp .gt 15, 615, 0, 0, 0), (603, .aload_n 0, 0, 0, 0, 0), (604, .iload_n 1, 0, 0, 0, 0), (605, .iload 7, 0, 0, 0, 0), (607, .invokevirtual 67, 56, 3, 0, 0)]
def v4_610 : List Ent := [(610, .bipush (-6), 0, 0, 0, 0), (612, .if_icmp .ne 41, 653, 0, 0, 0)]
def v4_615 : List Ent := [(615, .aload_n 0, 0, 0, 0, 0), (616, .iload_n 1, 0, 0, 0, 0), (617, .iload 5, 0, 0, 0, 0), (619, .invokevirtual 61, 55, 3, 0, 0)]
def v4_622 : List Ent := [(622, .iconst (-1), 0, 0, 0, 0), (623, .if_icmp .ne 30, 653, 0, 0, 0), (626, .aload_n 0, 0, 0, 0, 0), (627, .iload_n 1, 0, 0, 0, 0), (628, .iload 10, 0, 0, 0, 0), (630, .iconst 1, 0, 0, 0, 0), (631, .iadd, 0, 0, 0, 0), (632, .invokevirtual 64, 58, 3, 0, 0)]
def v4_635 : List Ent := [(635, .iconst (-1), 0, 0, 0, 0), (636, .if_icmp .ne 17, 653, 0, 0, 0), (639, .aload_n 0, 0, 0, 0, 0), (640, .iload_n 1, 0, 0, 0, 0), (641, .iconst (-1), 0, 0, 0, 0), (642, .invokevirtual 64, 58, 3, 0, 0)]
def v4_645 : List Ent := [(645, .iconst (-1), 0, 0, 0, 0), (646, .if_icmp .ne 7, 653, 0, 0, 0), (649, .iconst 1, 0, 0, 0, 0), (650, .goto 4, 654, 0, 0, 0)]
def v4_653 : List Ent := [(653, .iconst 0, 0, 0, 0, 0)]
def v4_654 : List Ent := [(654, .istore 11, 0, 0, 0, 0), (656, .iload 11, 0, 0, 0, 0), (658, .ifCond .eq 29, 687, 0, 0, 0), (661, .aload_n 0, 0, 0, 0, 0), (662, .iconst 1, 0, 0, 0, 0), (663, .invokevirtual 16, 54, 2, 0, 0)]
def v4_666 : List Ent := [(666, .iload 7, 0, 0, 0, 0), (668, .if_icmp .ne 19, 687, 0, 0, 0), (671, .aload_n 0, 0, 0, 0, 0), (672, .iconst 2, 0, 0, 0, 0), (673, .invokevirtual 16, 54, 2, 0, 0)]
def v4_676 : List Ent := [(676, .iload 10, 0, 0, 0, 0), (678, .iconst 1, 0, 0, 0, 0), (679, .iadd, 0, 0, 0, 0), (680, .if_icmp .ne 7, 687, 0, 0, 0), (683, .iconst 1, 0, 0, 0, 0), (684, .goto 4, 688, 0, 0, 0)]
def v4_687 : List Ent := [(687, .iconst 0, 0, 0, 0, 0)]
def v4_688 : List Ent := [(688, .ireturn, 1, 0, 0, 0)]
def bv4 : List Blk := [(0, v4_0, 19), (19, v4_19, 25), (25, v4_25, 45), (45, v4_45, 61), (61, v4_61, 71), (71, v4_71, 87), (87, v4_87, 97), (97, v4_97, 102), (102, v4_102, 109), (109, v4_109, 121), (121, v4_121, 130), (130, v4_130, 131), (131, v4_131, 152), (152, v4_152, 178), (178, v4_178, 193), (193, v4_193, 216), (216, v4_216, 261), (261, v4_261, 266), (266, v4_266, 270), (270, v4_270, 271), (271, v4_271, 289), (289, v4_289, 308), (308, v4_308, 324), (324, v4_324, 340), (340, v4_340, 349), (349, v4_349, 350), (350, v4_350, 375), (375, v4_375, 390), (390, v4_390, 407), (407, v4_407, 420), (420, v4_420, 425), (425, v4_425, 429), (429, v4_429, 430), (430, v4_430, 439), (439, v4_439, 482), (482, v4_482, 483), (483, v4_483, 504), (504, v4_504, 510), (510, v4_510, 521), (521, v4_521, 533), (533, v4_533, 545), (545, v4_545, 556), (556, v4_556, 567), (567, v4_567, 574), (574, v4_574, 575), (575, v4_575, 590), (590, v4_590, 610), (610, v4_610, 615), (615, v4_615, 622), (622, v4_622, 635), (635, v4_635, 645), (645, v4_645, 653), (653, v4_653, 654), (654, v4_654, 666), (666, v4_666, 676), (676, v4_676, 687), (687, v4_687, 688), (688, v4_688, 689)]
-- enough
def v5_0 : List Ent := [(0, .bipush 48, 0, 0, 0, 0), (2, .newarray .int, 0, 0, 0, 0), (4, .astore_n 2, 0, 0, 0, 0), (5, .bipush 48, 0, 0, 0, 0), (7, .newarray .int, 0, 0, 0, 0), (9, .astore_n 3, 0, 0, 0, 0), (10, .aload_n 0, 0, 0, 0, 0), (11, .iload_n 1, 0, 0, 0, 0), (12, .invokevirtual 77, 60, 2, 0, 0)]
def v5_15 : List Ent := [(15, .istore 4, 0, 0, 0, 0), (17, .aload_n 0, 0, 0, 0, 0), (18, .iload_n 1, 0, 0, 0, 0), (19, .sipush 600, 0, 0, 0, 0), (22, .aload_n 2, 0, 0, 0, 0), (23, .aload_n 3, 0, 0, 0, 0), (24, .invokestatic 57, 3, 5, 0, 0)]
def v5_27 : List Ent := [(27, .istore 5, 0, 0, 0, 0), (29, .iconst 0, 0, 0, 0, 0), (30, .istore 6, 0, 0, 0, 0), (32, .iconst 0, 0, 0, 0, 0), (33, .istore 7, 0, 0, 0, 0)]
def v5_35 : List Ent := [(35, .iload 7, 0, 0, 0, 0), (37, .iload 5, 0, 0, 0, 0), (39, .if_icmp .ge 28, 67, 0, 0, 0), (42, .iload 6, 0, 0, 0, 0), (44, .aload_n 2, 0, 0, 0, 0), (45, .iconst 2, 0, 0, 0, 0), (46, .iload 7, 0, 0, 0, 0), (48, .imul, 0, 0, 0, 0), (49, .iaload, 0, 0, 0, 0), (50, .ifCond .ge 7, 57, 0, 0, 0), (53, .iconst 0, 0, 0, 0, 0), (54, .goto 4, 58, 0, 0, 0)]
def v5_57 : List Ent := [(57, .iconst 1, 0, 0, 0, 0)]
def v5_58 : List Ent := [(58, .iadd, 0, 0, 0, 0), (59, .istore 6, 0, 0, 0, 0), (61, .iinc 7 1, 0, 0, 0, 0), (64, .goto (-29), 35, 0, 0, 0)]
def v5_67 : List Ent := [(67, .iconst 0, 0, 0, 0, 0), (68, .istore 7, 0, 0, 0, 0)]
def v5_70 : List Ent := [(70, .iload 7, 0, 0, 0, 0), (72, .iconst 3, 0, 0, 0, 0), (73, .if_icmp .ge 120, 193, 0, 0, 0), (76, .iload 7, 0, 0, 0, 0), (78, .ifCond .ne 8, 86, 0, 0, 0), (81, .iload 4, 0, 0, 0, 0), (83, .goto 20, 103, 0, 0, 0)]
def v5_86 : List Ent := [(86, .iload 7, 0, 0, 0, 0), (88, .iconst 1, 0, 0, 0, 0), (89, .if_icmp .ne 10, 99, 0, 0, 0), (92, .iload 4, 0, 0, 0, 0), (94, .iconst 1, 0, 0, 0, 0), (95, .isub, 0, 0, 0, 0), (96, .goto 7, 103, 0, 0, 0)]
def v5_99 : List Ent := [(99, .iload 4, 0, 0, 0, 0), (101, .iconst 2, 0, 0, 0, 0), (102, .idiv, 0, 0, 0, 0)]
def v5_103 : List Ent := [(103, .istore 8, 0, 0, 0, 0), (105, .iconst 0, 0, 0, 0, 0), (106, .istore 9, 0, 0, 0, 0), (108, .aload_n 0, 0, 0, 0, 0), (109, .iload_n 1, 0, 0, 0, 0), (110, .iload 8, 0, 0, 0, 0), (112, .aload_n 2, 0, 0, 0, 0), (113, .aload_n 3, 0, 0, 0, 0), (114, .invokestatic 57, 3, 5, 0, 0)]
def v5_117 : List Ent := [(117, .pop, 0, 0, 0, 0), (118, .iconst 0, 0, 0, 0, 0), (119, .istore 10, 0, 0, 0, 0)]
def v5_121 : List Ent := [(121, .iload 10, 0, 0, 0, 0), (123, .iload 5, 0, 0, 0, 0), (125, .if_icmp .ge 28, 153, 0, 0, 0), (128, .iload 9, 0, 0, 0, 0), (130, .aload_n 2, 0, 0, 0, 0), (131, .iconst 2, 0, 0, 0, 0), (132, .iload 10, 0, 0, 0, 0), (134, .imul, 0, 0, 0, 0), (135, .iaload, 0, 0, 0, 0), (136, .ifCond .ge 7, 143, 0, 0, 0), (139, .iconst 0, 0, 0, 0, 0), (140, .goto 4, 144, 0, 0, 0)]
def v5_143 : List Ent := [(143, .iconst 1, 0, 0, 0, 0)]
def v5_144 : List Ent := [(144, .iadd, 0, 0, 0, 0), (145, .istore 9, 0, 0, 0, 0), (147, .iinc 10 1, 0, 0, 0, 0), (150, .goto (-29), 121, 0, 0, 0)]
def v5_153 : List Ent := [(153, .iload 8, 0, 0, 0, 0), (155, .ifCond .lt 32, 187, 0, 0, 0), (158, .iload 9, 0, 0, 0, 0), (160, .iload 6, 0, 0, 0, 0), (162, .if_icmp .ne 7, 169, 0, 0, 0), (165, .iconst 1, 0, 0, 0, 0), (166, .goto 4, 170, 0, 0, 0)]
def v5_169 : List Ent := [(169, .iconst 0, 0, 0, 0, 0)]
def v5_170 : List Ent := [(170, .iload 8, 0, 0, 0, 0), (172, .iload 4, 0, 0, 0, 0), (174, .if_icmp .ne 7, 181, 0, 0, 0), (177, .iconst 1, 0, 0, 0, 0), (178, .goto 4, 182, 0, 0, 0)]
def v5_181 : List Ent := [(181, .iconst 0, 0, 0, 0, 0)]
def v5_182 : List Ent := [(182, .if_icmp .eq 5, 187, 0, 0, 0), (185, .iconst 0, 0, 0, 0, 0), (186, .ireturn, 1, 0, 0, 0)]
def v5_187 : List Ent := [(187, .iinc 7 1, 0, 0, 0, 0), (190, .goto (-120), 70, 0, 0, 0)]
def v5_193 : List Ent := [(193, .iload 4, 0, 0, 0, 0), (195, .ifCond .lt 15, 210, 0, 0, 0), (198, .iload 4, 0, 0, 0, 0), (200, .sipush 600, 0, 0, 0, 0), (203, .if_icmp .gt 7, 210, 0, 0, 0), (206, .iconst 1, 0, 0, 0, 0), (207, .goto 4, 211, 0, 0, 0)]
def v5_210 : List Ent := [(210, .iconst 0, 0, 0, 0, 0)]
def v5_211 : List Ent := [(211, .ireturn, 1, 0, 0, 0)]
def bv5 : List Blk := [(0, v5_0, 15), (15, v5_15, 27), (27, v5_27, 35), (35, v5_35, 57), (57, v5_57, 58), (58, v5_58, 67), (67, v5_67, 70), (70, v5_70, 86), (86, v5_86, 99), (99, v5_99, 103), (103, v5_103, 117), (117, v5_117, 121), (121, v5_121, 143), (143, v5_143, 144), (144, v5_144, 153), (153, v5_153, 169), (169, v5_169, 170), (170, v5_170, 181), (181, v5_181, 182), (182, v5_182, 187), (187, v5_187, 193), (193, v5_193, 210), (210, v5_210, 211), (211, v5_211, 212)]
-- notices
def v6_0 : List Ent := [(0, .bipush 48, 0, 0, 0, 0), (2, .newarray .int, 0, 0, 0, 0), (4, .astore_n 1, 0, 0, 0, 0), (5, .bipush 48, 0, 0, 0, 0), (7, .newarray .int, 0, 0, 0, 0), (9, .astore_n 2, 0, 0, 0, 0), (10, .iconst 0, 0, 0, 0, 0), (11, .istore_n 3, 0, 0, 0, 0)]
def v6_12 : List Ent := [(12, .iload_n 3, 0, 0, 0, 0), (13, .aload_n 0, 0, 0, 0, 0), (14, .iconst 3, 0, 0, 0, 0), (15, .invokevirtual 16, 54, 2, 0, 0)]
def v6_18 : List Ent := [(18, .if_icmp .ge 213, 231, 0, 0, 0), (21, .iconst 0, 0, 0, 0, 0), (22, .istore 4, 0, 0, 0, 0), (24, .iconst 0, 0, 0, 0, 0), (25, .istore 5, 0, 0, 0, 0), (27, .iconst 0, 0, 0, 0, 0), (28, .istore 6, 0, 0, 0, 0)]
def v6_30 : List Ent := [(30, .iload 6, 0, 0, 0, 0), (32, .aload_n 0, 0, 0, 0, 0), (33, .iconst 4, 0, 0, 0, 0), (34, .invokevirtual 16, 54, 2, 0, 0)]
def v6_37 : List Ent := [(37, .if_icmp .ge 82, 119, 0, 0, 0), (40, .aload_n 0, 0, 0, 0, 0), (41, .iload 6, 0, 0, 0, 0), (43, .aload_n 0, 0, 0, 0, 0), (44, .iload 6, 0, 0, 0, 0), (46, .iconst 1, 0, 0, 0, 0), (47, .invokevirtual 54, 53, 3, 0, 0)]
def v6_50 : List Ent := [(50, .aload_n 1, 0, 0, 0, 0), (51, .aload_n 2, 0, 0, 0, 0), (52, .invokestatic 57, 3, 5, 0, 0)]
def v6_55 : List Ent := [(55, .istore 7, 0, 0, 0, 0), (57, .iconst 0, 0, 0, 0, 0), (58, .istore 8, 0, 0, 0, 0), (60, .iconst 0, 0, 0, 0, 0), (61, .istore 9, 0, 0, 0, 0)]
def v6_63 : List Ent := [(63, .iload 9, 0, 0, 0, 0), (65, .iload 7, 0, 0, 0, 0), (67, .if_icmp .ge 31, 98, 0, 0, 0), (70, .iload 8, 0, 0, 0, 0), (72, .ifCond .ne 13, 85, 0, 0, 0), (75, .aload_n 1, 0, 0, 0, 0), (76, .iconst 2, 0, 0, 0, 0), (77, .iload 9, 0, 0, 0, 0), (79, .imul, 0, 0, 0, 0), (80, .iaload, 0, 0, 0, 0), (81, .iload_n 3, 0, 0, 0, 0), (82, .if_icmp .ne 7, 89, 0, 0, 0)]
def v6_85 : List Ent := [(85, .iconst 1, 0, 0, 0, 0), (86, .goto 4, 90, 0, 0, 0)]
def v6_89 : List Ent := [(89, .iconst 0, 0, 0, 0, 0)]
def v6_90 : List Ent := [(90, .istore 8, 0, 0, 0, 0), (92, .iinc 9 1, 0, 0, 0, 0), (95, .goto (-32), 63, 0, 0, 0)]
def v6_98 : List Ent := [(98, .iload 4, 0, 0, 0, 0), (100, .iload 8, 0, 0, 0, 0), (102, .ifCond .eq 7, 109, 0, 0, 0), (105, .iconst 1, 0, 0, 0, 0), (106, .goto 4, 110, 0, 0, 0)]
def v6_109 : List Ent := [(109, .iconst 0, 0, 0, 0, 0)]
def v6_110 : List Ent := [(110, .iadd, 0, 0, 0, 0), (111, .istore 4, 0, 0, 0, 0), (113, .iinc 6 1, 0, 0, 0, 0), (116, .goto (-86), 30, 0, 0, 0)]
def v6_119 : List Ent := [(119, .iconst 0, 0, 0, 0, 0), (120, .istore 6, 0, 0, 0, 0)]
def v6_122 : List Ent := [(122, .iload 6, 0, 0, 0, 0), (124, .aload_n 0, 0, 0, 0, 0), (125, .iconst 0, 0, 0, 0, 0), (126, .invokevirtual 16, 54, 2, 0, 0)]
def v6_129 : List Ent := [(129, .if_icmp .ge 72, 201, 0, 0, 0), (132, .iconst 0, 0, 0, 0, 0), (133, .istore 7, 0, 0, 0, 0), (135, .iconst 0, 0, 0, 0, 0), (136, .istore 8, 0, 0, 0, 0)]
def v6_138 : List Ent := [(138, .iload 8, 0, 0, 0, 0), (140, .aload_n 0, 0, 0, 0, 0), (141, .iload 6, 0, 0, 0, 0), (143, .iconst 5, 0, 0, 0, 0), (144, .invokevirtual 29, 49, 3, 0, 0)]
def v6_147 : List Ent := [(147, .if_icmp .ge 33, 180, 0, 0, 0), (150, .iload 7, 0, 0, 0, 0), (152, .ifCond .ne 15, 167, 0, 0, 0), (155, .aload_n 0, 0, 0, 0, 0), (156, .iload 6, 0, 0, 0, 0), (158, .iload 8, 0, 0, 0, 0), (160, .invokevirtual 48, 51, 3, 0, 0)]
def v6_163 : List Ent := [(163, .iload_n 3, 0, 0, 0, 0), (164, .if_icmp .ne 7, 171, 0, 0, 0)]
def v6_167 : List Ent := [(167, .iconst 1, 0, 0, 0, 0), (168, .goto 4, 172, 0, 0, 0)]
def v6_171 : List Ent := [(171, .iconst 0, 0, 0, 0, 0)]
def v6_172 : List Ent := [(172, .istore 7, 0, 0, 0, 0), (174, .iinc 8 1, 0, 0, 0, 0), (177, .goto (-39), 138, 0, 0, 0)]
def v6_180 : List Ent := [(180, .iload 5, 0, 0, 0, 0), (182, .iload 7, 0, 0, 0, 0), (184, .ifCond .eq 7, 191, 0, 0, 0), (187, .iconst 1, 0, 0, 0, 0), (188, .goto 4, 192, 0, 0, 0)]
def v6_191 : List Ent := [(191, .iconst 0, 0, 0, 0, 0)]
def v6_192 : List Ent := [(192, .iadd, 0, 0, 0, 0), (193, .istore 5, 0, 0, 0, 0), (195, .iinc 6 1, 0, 0, 0, 0), (198, .goto (-76), 122, 0, 0, 0)]
def v6_201 : List Ent := [(201, .aload_n 0, 0, 0, 0, 0), (202, .iload_n 3, 0, 0, 0, 0), (203, .iconst 2, 0, 0, 0, 0), (204, .invokevirtual 42, 52, 3, 0, 0)]
def v6_207 : List Ent := [(207, .iload 5, 0, 0, 0, 0), (209, .if_icmp .ne 14, 223, 0, 0, 0), (212, .aload_n 0, 0, 0, 0, 0), (213, .iload_n 3, 0, 0, 0, 0), (214, .iconst 3, 0, 0, 0, 0), (215, .invokevirtual 42, 52, 3, 0, 0)]
def v6_218 : List Ent := [(218, .iload 4, 0, 0, 0, 0), (220, .if_icmp .eq 5, 225, 0, 0, 0)]
def v6_223 : List Ent := [(223, .iconst 0, 0, 0, 0, 0), (224, .ireturn, 1, 0, 0, 0)]
def v6_225 : List Ent := [(225, .iinc 3 1, 0, 0, 0, 0), (228, .goto (-216), 12, 0, 0, 0)]
def v6_231 : List Ent := [(231, .iconst 1, 0, 0, 0, 0), (232, .ireturn, 1, 0, 0, 0)]
def bv6 : List Blk := [(0, v6_0, 12), (12, v6_12, 18), (18, v6_18, 30), (30, v6_30, 37), (37, v6_37, 50), (50, v6_50, 55), (55, v6_55, 63), (63, v6_63, 85), (85, v6_85, 89), (89, v6_89, 90), (90, v6_90, 98), (98, v6_98, 109), (109, v6_109, 110), (110, v6_110, 119), (119, v6_119, 122), (122, v6_122, 129), (129, v6_129, 138), (138, v6_138, 147), (147, v6_147, 163), (163, v6_163, 167), (167, v6_167, 171), (171, v6_171, 172), (172, v6_172, 180), (180, v6_180, 191), (191, v6_191, 192), (192, v6_192, 201), (201, v6_201, 207), (207, v6_207, 218), (218, v6_218, 223), (223, v6_223, 225), (225, v6_225, 231), (231, v6_231, 233)]
-- tells
def v7_0 : List Ent := [(0, .bipush (-6), 0, 0, 0, 0), (2, .istore_n 2, 0, 0, 0, 0), (3, .iconst (-1), 0, 0, 0, 0), (4, .istore_n 3, 0, 0, 0, 0), (5, .iconst 0, 0, 0, 0, 0), (6, .istore 4, 0, 0, 0, 0), (8, .iconst 0, 0, 0, 0, 0), (9, .istore 5, 0, 0, 0, 0)]
def v7_11 : List Ent := [(11, .iload 5, 0, 0, 0, 0), (13, .aload_n 0, 0, 0, 0, 0), (14, .iconst 4, 0, 0, 0, 0), (15, .invokevirtual 16, 54, 2, 0, 0)]
def v7_18 : List Ent := [(18, .if_icmp .ge 96, 114, 0, 0, 0), (21, .aload_n 0, 0, 0, 0, 0), (22, .iload 5, 0, 0, 0, 0), (24, .iconst 2, 0, 0, 0, 0), (25, .invokevirtual 54, 53, 3, 0, 0)]
def v7_28 : List Ent := [(28, .ifCond .ne 13, 41, 0, 0, 0), (31, .aload_n 0, 0, 0, 0, 0), (32, .iload 5, 0, 0, 0, 0), (34, .iload_n 1, 0, 0, 0, 0), (35, .invokestatic 80, 4, 3, 0, 0)]
def v7_38 : List Ent := [(38, .ifCond .eq 12, 50, 0, 0, 0)]
def v7_41 : List Ent := [(41, .aload_n 0, 0, 0, 0, 0), (42, .iload 5, 0, 0, 0, 0), (44, .invokestatic 84, 5, 2, 0, 0)]
def v7_47 : List Ent := [(47, .ifCond .ne 5, 52, 0, 0, 0)]
def v7_50 : List Ent := [(50, .iconst 0, 0, 0, 0, 0), (51, .ireturn, 1, 0, 0, 0)]
def v7_52 : List Ent := [(52, .aload_n 0, 0, 0, 0, 0), (53, .iload 5, 0, 0, 0, 0), (55, .iconst 4, 0, 0, 0, 0), (56, .invokevirtual 54, 53, 3, 0, 0)]
def v7_59 : List Ent := [(59, .iload_n 3, 0, 0, 0, 0), (60, .if_icmp .le 8, 68, 0, 0, 0), (63, .iload 5, 0, 0, 0, 0), (65, .goto 4, 69, 0, 0, 0)]
def v7_68 : List Ent := [(68, .iload_n 2, 0, 0, 0, 0)]
def v7_69 : List Ent := [(69, .istore_n 2, 0, 0, 0, 0), (70, .aload_n 0, 0, 0, 0, 0), (71, .iload 5, 0, 0, 0, 0), (73, .iconst 4, 0, 0, 0, 0), (74, .invokevirtual 54, 53, 3, 0, 0)]
def v7_77 : List Ent := [(77, .iload_n 3, 0, 0, 0, 0), (78, .if_icmp .le 13, 91, 0, 0, 0), (81, .aload_n 0, 0, 0, 0, 0), (82, .iload 5, 0, 0, 0, 0), (84, .iconst 4, 0, 0, 0, 0), (85, .invokevirtual 54, 53, 3, 0, 0)]
def v7_88 : List Ent := [(88, .goto 4, 92, 0, 0, 0)]
def v7_91 : List Ent := [(91, .iload_n 3, 0, 0, 0, 0)]
def v7_92 : List Ent := [(92, .istore_n 3, 0, 0, 0, 0), (93, .iload 4, 0, 0, 0, 0), (95, .aload_n 0, 0, 0, 0, 0), (96, .iload 5, 0, 0, 0, 0), (98, .iconst 3, 0, 0, 0, 0), (99, .invokevirtual 54, 53, 3, 0, 0)]
def v7_102 : List Ent := [(102, .iload 5, 0, 0, 0, 0), (104, .ishl, 0, 0, 0, 0), (105, .ior, 0, 0, 0, 0), (106, .istore 4, 0, 0, 0, 0), (108, .iinc 5 1, 0, 0, 0, 0), (111, .goto (-100), 11, 0, 0, 0)]
def v7_114 : List Ent := [(114, .aload_n 0, 0, 0, 0, 0), (115, .bipush 6, 0, 0, 0, 0), (117, .invokevirtual 16, 54, 2, 0, 0)]
def v7_120 : List Ent := [(120, .iload_n 2, 0, 0, 0, 0), (121, .if_icmp .ne 24, 145, 0, 0, 0), (124, .aload_n 0, 0, 0, 0, 0), (125, .iconst 5, 0, 0, 0, 0), (126, .invokevirtual 16, 54, 2, 0, 0)]
def v7_129 : List Ent := [(129, .iload 4, 0, 0, 0, 0), (131, .if_icmp .ne 14, 145, 0, 0, 0), (134, .aload_n 0, 0, 0, 0, 0), (135, .invokestatic 87, 6, 1, 0, 0)]
def v7_138 : List Ent := [(138, .ifCond .eq 7, 145, 0, 0, 0), (141, .iconst 1, 0, 0, 0, 0), (142, .goto 4, 146, 0, 0, 0)]
def v7_145 : List Ent := [(145, .iconst 0, 0, 0, 0, 0)]
def v7_146 : List Ent := [(146, .ireturn, 1, 0, 0, 0)]
def bv7 : List Blk := [(0, v7_0, 11), (11, v7_11, 18), (18, v7_18, 28), (28, v7_28, 38), (38, v7_38, 41), (41, v7_41, 47), (47, v7_47, 50), (50, v7_50, 52), (52, v7_52, 59), (59, v7_59, 68), (68, v7_68, 69), (69, v7_69, 77), (77, v7_77, 88), (88, v7_88, 91), (91, v7_91, 92), (92, v7_92, 102), (102, v7_102, 114), (114, v7_114, 120), (120, v7_120, 129), (129, v7_129, 138), (138, v7_138, 145), (145, v7_145, 146), (146, v7_146, 147)]
-- law
def v8_8 : List Ent := [(8, .aload_n 1, 0, 0, 0, 0), (9, .iconst 0, 0, 0, 0, 0), (10, .invokevirtual 16, 54, 2, 0, 0)]
def v8_13 : List Ent := [(13, .iconst 1, 0, 0, 0, 0), (14, .if_icmp .ne 79, 93, 0, 0, 0), (17, .aload_n 1, 0, 0, 0, 0), (18, .iconst 1, 0, 0, 0, 0), (19, .invokevirtual 16, 54, 2, 0, 0)]
def v8_22 : List Ent := [(22, .bipush 10, 0, 0, 0, 0), (24, .if_icmp .ne 69, 93, 0, 0, 0), (27, .aload_n 1, 0, 0, 0, 0), (28, .iconst 2, 0, 0, 0, 0), (29, .invokevirtual 16, 54, 2, 0, 0)]
def v8_32 : List Ent := [(32, .iconst 1, 0, 0, 0, 0), (33, .if_icmp .ne 60, 93, 0, 0, 0), (36, .aload_n 1, 0, 0, 0, 0), (37, .bipush 6, 0, 0, 0, 0), (39, .invokevirtual 16, 54, 2, 0, 0)]
def v8_42 : List Ent := [(42, .bipush (-6), 0, 0, 0, 0), (44, .if_icmp .ne 49, 93, 0, 0, 0), (47, .aload_n 1, 0, 0, 0, 0), (48, .aload_n 0, 0, 0, 0, 0), (49, .iconst 0, 0, 0, 0, 0), (50, .aload_n 0, 0, 0, 0, 0), (51, .bipush 90, 0, 0, 0, 0), (53, .invokestatic 10, 0, 2, 0, 0)]
def v8_56 : List Ent := [(56, .bipush 24, 0, 0, 0, 0), (58, .invokestatic 22, 1, 2, 0, 0)]
def v8_61 : List Ent := [(61, .iconst 1, 0, 0, 0, 0), (62, .aload_n 0, 0, 0, 0, 0), (63, .bipush 91, 0, 0, 0, 0), (65, .invokestatic 10, 0, 2, 0, 0)]
def v8_68 : List Ent := [(68, .bipush 6, 0, 0, 0, 0), (70, .invokestatic 22, 1, 2, 0, 0)]
def v8_73 : List Ent := [(73, .iadd, 0, 0, 0, 0), (74, .invokestatic 92, 2, 5, 0, 0)]
def v8_77 : List Ent := [(77, .ifCond .eq 16, 93, 0, 0, 0), (80, .aload_n 1, 0, 0, 0, 0), (81, .aload_n 0, 0, 0, 0, 0), (82, .bipush 92, 0, 0, 0, 0), (84, .invokestatic 10, 0, 2, 0, 0)]
def v8_87 : List Ent := [(87, .invokestatic 96, 7, 2, 0, 0)]
def v8_90 : List Ent := [(90, .ifCond .ne 5, 95, 0, 0, 0)]
def v8_93 : List Ent := [(93, .iconst 0, 0, 0, 0, 0), (94, .ireturn, 1, 0, 0, 0)]
def v8_95 : List Ent := [(95, .bipush 6, 0, 0, 0, 0), (97, .newarray .int, 0, 0, 0, 0), (99, .astore_n 2, 0, 0, 0, 0), (100, .iconst 0, 0, 0, 0, 0), (101, .istore_n 3, 0, 0, 0, 0)]
def v8_102 : List Ent := [(102, .iload_n 3, 0, 0, 0, 0), (103, .bipush 14, 0, 0, 0, 0), (105, .if_icmp .ge 703, 808, 0, 0, 0), (108, .aload_n 0, 0, 0, 0, 0), (109, .bipush 93, 0, 0, 0, 0), (111, .iload_n 3, 0, 0, 0, 0), (112, .iadd, 0, 0, 0, 0), (113, .invokestatic 10, 0, 2, 0, 0)]
def v8_116 : List Ent := [(116, .istore 4, 0, 0, 0, 0), (118, .iload 4, 0, 0, 0, 0), (120, .iconst 5, 0, 0, 0, 0), (121, .ishr, 0, 0, 0, 0), (122, .istore 5, 0, 0, 0, 0), (124, .aload_n 1, 0, 0, 0, 0), (125, .iconst 0, 0, 0, 0, 0), (126, .invokevirtual 16, 54, 2, 0, 0)]
def v8_129 : List Ent := [(129, .istore 6, 0, 0, 0, 0), (131, .iload 5, 0, 0, 0, 0), (133, .iload 6, 0, 0, 0, 0), (135, .invokestatic 22, 1, 2, 0, 0)]
def v8_138 : List Ent := [(138, .istore 7, 0, 0, 0, 0), (140, .iload 5, 0, 0, 0, 0), (142, .aload_n 1, 0, 0, 0, 0), (143, .iconst 4, 0, 0, 0, 0), (144, .invokevirtual 16, 54, 2, 0, 0)]
def v8_147 : List Ent := [(147, .invokestatic 22, 1, 2, 0, 0)]
def v8_150 : List Ent := [(150, .istore 8, 0, 0, 0, 0), (152, .iload 4, 0, 0, 0, 0), (154, .bipush 9, 0, 0, 0, 0), (156, .invokestatic 22, 1, 2, 0, 0)]
def v8_159 : List Ent := [(159, .istore 9, 0, 0, 0, 0), (161, .iconst 1, 0, 0, 0, 0), (162, .istore 10, 0, 0, 0, 0), (164, .iconst 0, 0, 0, 0, 0), (165, .istore 11, 0, 0, 0, 0)]
def v8_167 : List Ent := [(167, .iload 11, 0, 0, 0, 0), (169, .aload_n 1, 0, 0, 0, 0), (170, .iconst 4, 0, 0, 0, 0), (171, .invokevirtual 16, 54, 2, 0, 0)]
def v8_174 : List Ent := [(174, .if_icmp .ge 43, 217, 0, 0, 0), (177, .aload_n 2, 0, 0, 0, 0), (178, .iload 11, 0, 0, 0, 0), (180, .aload_n 1, 0, 0, 0, 0), (181, .iload 11, 0, 0, 0, 0), (183, .iconst 4, 0, 0, 0, 0), (184, .invokevirtual 54, 53, 3, 0, 0)]
def v8_187 : List Ent := [(187, .bipush 7, 0, 0, 0, 0), (189, .aload_n 1, 0, 0, 0, 0), (190, .iload 11, 0, 0, 0, 0), (192, .iconst 5, 0, 0, 0, 0), (193, .invokevirtual 54, 53, 3, 0, 0)]
def v8_196 : List Ent := [(196, .imul, 0, 0, 0, 0), (197, .iadd, 0, 0, 0, 0), (198, .bipush 31, 0, 0, 0, 0), (200, .aload_n 1, 0, 0, 0, 0), (201, .iload 11, 0, 0, 0, 0), (203, .bipush 7, 0, 0, 0, 0), (205, .invokevirtual 54, 53, 3, 0, 0)]
def v8_208 : List Ent := [(208, .imul, 0, 0, 0, 0), (209, .iadd, 0, 0, 0, 0), (210, .iastore, 0, 0, 0, 0), (211, .iinc 11 1, 0, 0, 0, 0), (214, .goto (-47), 167, 0, 0, 0)]
def v8_217 : List Ent := [(217, .iload 9, 0, 0, 0, 0), (219, .ifCond .ne 75, 294, 0, 0, 0), (222, .iload 6, 0, 0, 0, 0), (224, .bipush 24, 0, 0, 0, 0), (226, .if_icmp .ge 68, 294, 0, 0, 0), (229, .aload_n 1, 0, 0, 0, 0), (230, .iload 7, 0, 0, 0, 0), (232, .iconst 1, 0, 0, 0, 0), (233, .iload 5, 0, 0, 0, 0), (235, .iconst 5, 0, 0, 0, 0), (236, .ishr, 0, 0, 0, 0), (237, .bipush 60, 0, 0, 0, 0), (239, .invokestatic 22, 1, 2, 0, 0)]
def v8_242 : List Ent := [(242, .iadd, 0, 0, 0, 0), (243, .invokevirtual 26, 40, 3, 0, 0)]
def v8_246 : List Ent := [(246, .ifCond .lt 42, 288, 0, 0, 0), (249, .aload_n 1, 0, 0, 0, 0), (250, .iload 7, 0, 0, 0, 0), (252, .iconst 4, 0, 0, 0, 0), (253, .invokevirtual 29, 49, 3, 0, 0)]
def v8_256 : List Ent := [(256, .iload 7, 0, 0, 0, 0), (258, .ifCond .ne 7, 265, 0, 0, 0), (261, .iconst 1, 0, 0, 0, 0), (262, .goto 4, 266, 0, 0, 0)]
def v8_265 : List Ent := [(265, .iconst 0, 0, 0, 0, 0)]
def v8_266 : List Ent := [(266, .if_icmp .ne 22, 288, 0, 0, 0), (269, .iload 7, 0, 0, 0, 0), (271, .ifCond .gt 13, 284, 0, 0, 0), (274, .aload_n 1, 0, 0, 0, 0), (275, .iconst 1, 0, 0, 0, 0), (276, .iconst 4, 0, 0, 0, 0), (277, .invokevirtual 29, 49, 3, 0, 0)]
def v8_280 : List Ent := [(280, .iconst 1, 0, 0, 0, 0), (281, .if_icmp .ne 7, 288, 0, 0, 0)]
def v8_284 : List Ent := [(284, .iconst 1, 0, 0, 0, 0), (285, .goto 4, 289, 0, 0, 0)]
def v8_288 : List Ent := [(288, .iconst 0, 0, 0, 0, 0)]
def v8_289 : List Ent := [(289, .istore 10, 0, 0, 0, 0), (291, .goto 404, 695, 0, 0, 0)]
def v8_294 : List Ent := [(294, .iload 9, 0, 0, 0, 0), (296, .iconst 1, 0, 0, 0, 0), (297, .if_icmp .ne 59, 356, 0, 0, 0), (300, .iload 6, 0, 0, 0, 0), (302, .iconst 1, 0, 0, 0, 0), (303, .if_icmp .le 53, 356, 0, 0, 0), (306, .aload_n 1, 0, 0, 0, 0), (307, .iload 7, 0, 0, 0, 0), (309, .iconst 0, 0, 0, 0, 0), (310, .invokevirtual 29, 49, 3, 0, 0)]
def v8_313 : List Ent := [(313, .istore 11, 0, 0, 0, 0), (315, .aload_n 1, 0, 0, 0, 0), (316, .iload 7, 0, 0, 0, 0), (318, .invokevirtual 99, 41, 2, 0, 0)]
def v8_321 : List Ent := [(321, .iload 11, 0, 0, 0, 0), (323, .if_icmp .ne 27, 350, 0, 0, 0), (326, .aload_n 1, 0, 0, 0, 0), (327, .iload 11, 0, 0, 0, 0), (329, .invokevirtual 32, 50, 2, 0, 0)]
def v8_332 : List Ent := [(332, .iconst (-1), 0, 0, 0, 0), (333, .if_icmp .ne 17, 350, 0, 0, 0), (336, .aload_n 1, 0, 0, 0, 0), (337, .iconst 0, 0, 0, 0, 0), (338, .iconst 4, 0, 0, 0, 0), (339, .invokevirtual 29, 49, 3, 0, 0)]
def v8_342 : List Ent := [(342, .iconst 1, 0, 0, 0, 0), (343, .if_icmp .ne 7, 350, 0, 0, 0), (346, .iconst 1, 0, 0, 0, 0), (347, .goto 4, 351, 0, 0, 0)]
def v8_350 : List Ent := [(350, .iconst 0, 0, 0, 0, 0)]
def v8_351 : List Ent := [(351, .istore 10, 0, 0, 0, 0), (353, .goto 342, 695, 0, 0, 0)]
def v8_356 : List Ent := [(356, .iload 9, 0, 0, 0, 0), (358, .iconst 2, 0, 0, 0, 0), (359, .if_icmp .ne 65, 424, 0, 0, 0), (362, .aload_n 1, 0, 0, 0, 0), (363, .iload 7, 0, 0, 0, 0), (365, .iconst 1, 0, 0, 0, 0), (366, .invokevirtual 29, 49, 3, 0, 0)]
def v8_369 : List Ent := [(369, .istore 11, 0, 0, 0, 0), (371, .aload_n 1, 0, 0, 0, 0), (372, .iload 7, 0, 0, 0, 0), (374, .iconst 1, 0, 0, 0, 0), (375, .iload 5, 0, 0, 0, 0), (377, .iconst 5, 0, 0, 0, 0), (378, .ishr, 0, 0, 0, 0), (379, .bipush 60, 0, 0, 0, 0), (381, .invokestatic 22, 1, 2, 0, 0)]
def v8_384 : List Ent := [(384, .iadd, 0, 0, 0, 0), (385, .invokevirtual 102, 42, 3, 0, 0)]
def v8_388 : List Ent := [(388, .iload 11, 0, 0, 0, 0), (390, .if_icmp .ne 28, 418, 0, 0, 0), (393, .aload_n 1, 0, 0, 0, 0), (394, .iload 7, 0, 0, 0, 0), (396, .iconst 1, 0, 0, 0, 0), (397, .invokevirtual 29, 49, 3, 0, 0)]
def v8_400 : List Ent := [(400, .iconst 1, 0, 0, 0, 0), (401, .iload 5, 0, 0, 0, 0), (403, .iconst 5, 0, 0, 0, 0), (404, .ishr, 0, 0, 0, 0), (405, .bipush 60, 0, 0, 0, 0), (407, .invokestatic 22, 1, 2, 0, 0)]
def v8_410 : List Ent := [(410, .iadd, 0, 0, 0, 0), (411, .if_icmp .ne 7, 418, 0, 0, 0), (414, .iconst 1, 0, 0, 0, 0), (415, .goto 4, 419, 0, 0, 0)]
def v8_418 : List Ent := [(418, .iconst 0, 0, 0, 0, 0)]
def v8_419 : List Ent := [(419, .istore 10, 0, 0, 0, 0), (421, .goto 274, 695, 0, 0, 0)]
def v8_424 : List Ent := [(424, .iload 9, 0, 0, 0, 0), (426, .iconst 3, 0, 0, 0, 0), (427, .if_icmp .ne 43, 470, 0, 0, 0), (430, .aload_n 1, 0, 0, 0, 0), (431, .iload 7, 0, 0, 0, 0), (433, .iconst 5, 0, 0, 0, 0), (434, .invokevirtual 29, 49, 3, 0, 0)]
def v8_437 : List Ent := [(437, .istore 11, 0, 0, 0, 0), (439, .aload_n 1, 0, 0, 0, 0), (440, .iload 7, 0, 0, 0, 0), (442, .invokevirtual 105, 46, 2, 0, 0)]
def v8_445 : List Ent := [(445, .iload 11, 0, 0, 0, 0), (447, .if_icmp .ne 17, 464, 0, 0, 0), (450, .aload_n 1, 0, 0, 0, 0), (451, .iload 7, 0, 0, 0, 0), (453, .iconst 5, 0, 0, 0, 0), (454, .invokevirtual 29, 49, 3, 0, 0)]
def v8_457 : List Ent := [(457, .ifCond .ne 7, 464, 0, 0, 0), (460, .iconst 1, 0, 0, 0, 0), (461, .goto 4, 465, 0, 0, 0)]
def v8_464 : List Ent := [(464, .iconst 0, 0, 0, 0, 0)]
def v8_465 : List Ent := [(465, .istore 10, 0, 0, 0, 0), (467, .goto 228, 695, 0, 0, 0)]
def v8_470 : List Ent := [(470, .iload 9, 0, 0, 0, 0), (472, .iconst 4, 0, 0, 0, 0), (473, .if_icmp .ne 93, 566, 0, 0, 0), (476, .iload 7, 0, 0, 0, 0), (478, .ifCond .le 88, 566, 0, 0, 0), (481, .aload_n 1, 0, 0, 0, 0), (482, .iload 7, 0, 0, 0, 0), (484, .iconst 4, 0, 0, 0, 0), (485, .invokevirtual 29, 49, 3, 0, 0)]
def v8_488 : List Ent := [(488, .iconst 1, 0, 0, 0, 0), (489, .if_icmp .ne 7, 496, 0, 0, 0), (492, .iconst 1, 0, 0, 0, 0), (493, .goto 4, 497, 0, 0, 0)]
def v8_496 : List Ent := [(496, .iconst 0, 0, 0, 0, 0)]
def v8_497 : List Ent := [(497, .istore 11, 0, 0, 0, 0), (499, .aload_n 1, 0, 0, 0, 0), (500, .iload 7, 0, 0, 0, 0), (502, .iload 11, 0, 0, 0, 0), (504, .invokevirtual 35, 43, 3, 0, 0)]
def v8_507 : List Ent := [(507, .bipush (-5), 0, 0, 0, 0), (509, .if_icmp .ne 51, 560, 0, 0, 0), (512, .aload_n 1, 0, 0, 0, 0), (513, .iload 7, 0, 0, 0, 0), (515, .iload 11, 0, 0, 0, 0), (517, .ifCond .ne 7, 524, 0, 0, 0), (520, .iconst 1, 0, 0, 0, 0), (521, .goto 4, 525, 0, 0, 0)]
def v8_524 : List Ent := [(524, .iconst 0, 0, 0, 0, 0)]
def v8_525 : List Ent := [(525, .invokevirtual 35, 43, 3, 0, 0)]
def v8_528 : List Ent := [(528, .aload_n 1, 0, 0, 0, 0), (529, .iconst 2, 0, 0, 0, 0), (530, .invokevirtual 16, 54, 2, 0, 0)]
def v8_533 : List Ent := [(533, .if_icmp .ne 27, 560, 0, 0, 0), (536, .aload_n 1, 0, 0, 0, 0), (537, .iload 7, 0, 0, 0, 0), (539, .iconst 4, 0, 0, 0, 0), (540, .invokevirtual 29, 49, 3, 0, 0)]
def v8_543 : List Ent := [(543, .iload 11, 0, 0, 0, 0), (545, .ifCond .eq 7, 552, 0, 0, 0), (548, .iconst 0, 0, 0, 0, 0), (549, .goto 4, 553, 0, 0, 0)]
def v8_552 : List Ent := [(552, .iconst 1, 0, 0, 0, 0)]
def v8_553 : List Ent := [(553, .if_icmp .ne 7, 560, 0, 0, 0), (556, .iconst 1, 0, 0, 0, 0), (557, .goto 4, 561, 0, 0, 0)]
def v8_560 : List Ent := [(560, .iconst 0, 0, 0, 0, 0)]
def v8_561 : List Ent := [(561, .istore 10, 0, 0, 0, 0), (563, .goto 132, 695, 0, 0, 0)]
def v8_566 : List Ent := [(566, .iload 9, 0, 0, 0, 0), (568, .bipush 8, 0, 0, 0, 0), (570, .if_icmp .ge 125, 695, 0, 0, 0), (573, .aload_n 1, 0, 0, 0, 0), (574, .iload 8, 0, 0, 0, 0), (576, .iconst 2, 0, 0, 0, 0), (577, .invokevirtual 54, 53, 3, 0, 0)]
def v8_580 : List Ent := [(580, .iconst 1, 0, 0, 0, 0), (581, .if_icmp .ne 18, 599, 0, 0, 0), (584, .iload 5, 0, 0, 0, 0), (586, .iconst 4, 0, 0, 0, 0), (587, .ishr, 0, 0, 0, 0), (588, .iconst 2, 0, 0, 0, 0), (589, .invokestatic 22, 1, 2, 0, 0)]
def v8_592 : List Ent := [(592, .ifCond .ne 7, 599, 0, 0, 0), (595, .iconst 1, 0, 0, 0, 0), (596, .goto 4, 600, 0, 0, 0)]
def v8_599 : List Ent := [(599, .iconst 0, 0, 0, 0, 0)]
def v8_600 : List Ent := [(600, .istore 11, 0, 0, 0, 0), (602, .aload_n 1, 0, 0, 0, 0), (603, .iload 8, 0, 0, 0, 0), (605, .iload 11, 0, 0, 0, 0), (607, .invokevirtual 108, 48, 3, 0, 0)]
def v8_610 : List Ent := [(610, .istore 12, 0, 0, 0, 0), (612, .iload 12, 0, 0, 0, 0), (614, .aload_n 1, 0, 0, 0, 0), (615, .iload 8, 0, 0, 0, 0), (617, .iconst 4, 0, 0, 0, 0), (618, .invokevirtual 54, 53, 3, 0, 0)]
def v8_621 : List Ent := [(621, .if_icmp .ne 37, 658, 0, 0, 0), (624, .aload_n 1, 0, 0, 0, 0), (625, .iload 8, 0, 0, 0, 0), (627, .iconst 2, 0, 0, 0, 0), (628, .invokevirtual 54, 53, 3, 0, 0)]
def v8_631 : List Ent := [(631, .iload 11, 0, 0, 0, 0), (633, .ifCond .eq 7, 640, 0, 0, 0), (636, .iconst 0, 0, 0, 0, 0), (637, .goto 4, 641, 0, 0, 0)]
def v8_640 : List Ent := [(640, .iconst 1, 0, 0, 0, 0)]
def v8_641 : List Ent := [(641, .if_icmp .ne 17, 658, 0, 0, 0), (644, .aload_n 1, 0, 0, 0, 0), (645, .iload 8, 0, 0, 0, 0), (647, .iconst 3, 0, 0, 0, 0), (648, .invokevirtual 54, 53, 3, 0, 0)]
def v8_651 : List Ent := [(651, .ifCond .ne 7, 658, 0, 0, 0), (654, .iconst 1, 0, 0, 0, 0), (655, .goto 4, 659, 0, 0, 0)]
def v8_658 : List Ent := [(658, .iconst 0, 0, 0, 0, 0)]
def v8_659 : List Ent := [(659, .istore 10, 0, 0, 0, 0), (661, .aload_n 2, 0, 0, 0, 0), (662, .iload 8, 0, 0, 0, 0), (664, .aload_n 1, 0, 0, 0, 0), (665, .iload 8, 0, 0, 0, 0), (667, .iconst 4, 0, 0, 0, 0), (668, .invokevirtual 54, 53, 3, 0, 0)]
def v8_671 : List Ent := [(671, .bipush 7, 0, 0, 0, 0), (673, .aload_n 1, 0, 0, 0, 0), (674, .iload 8, 0, 0, 0, 0), (676, .iconst 5, 0, 0, 0, 0), (677, .invokevirtual 54, 53, 3, 0, 0)]
def v8_680 : List Ent := [(680, .imul, 0, 0, 0, 0), (681, .iadd, 0, 0, 0, 0), (682, .bipush 31, 0, 0, 0, 0), (684, .aload_n 1, 0, 0, 0, 0), (685, .iload 8, 0, 0, 0, 0), (687, .bipush 7, 0, 0, 0, 0), (689, .invokevirtual 54, 53, 3, 0, 0)]
def v8_692 : List Ent := [(692, .imul, 0, 0, 0, 0), (693, .iadd, 0, 0, 0, 0), (694, .iastore, 0, 0, 0, 0)]
def v8_695 : List Ent := [(695, .iconst 0, 0, 0, 0, 0), (696, .istore 11, 0, 0, 0, 0)]
def v8_698 : List Ent := [(698, .iload 11, 0, 0, 0, 0), (700, .aload_n 1, 0, 0, 0, 0), (701, .iconst 4, 0, 0, 0, 0), (702, .invokevirtual 16, 54, 2, 0, 0)]
def v8_705 : List Ent := [(705, .if_icmp .ge 68, 773, 0, 0, 0), (708, .iload 10, 0, 0, 0, 0), (710, .ifCond .eq 54, 764, 0, 0, 0), (713, .aload_n 1, 0, 0, 0, 0), (714, .iload 11, 0, 0, 0, 0), (716, .iconst 2, 0, 0, 0, 0), (717, .invokevirtual 54, 53, 3, 0, 0)]
def v8_720 : List Ent := [(720, .ifCond .eq 40, 760, 0, 0, 0), (723, .aload_n 1, 0, 0, 0, 0), (724, .iload 11, 0, 0, 0, 0), (726, .iconst 4, 0, 0, 0, 0), (727, .invokevirtual 54, 53, 3, 0, 0)]
def v8_730 : List Ent := [(730, .bipush 7, 0, 0, 0, 0), (732, .aload_n 1, 0, 0, 0, 0), (733, .iload 11, 0, 0, 0, 0), (735, .iconst 5, 0, 0, 0, 0), (736, .invokevirtual 54, 53, 3, 0, 0)]
def v8_739 : List Ent := [(739, .imul, 0, 0, 0, 0), (740, .iadd, 0, 0, 0, 0), (741, .bipush 31, 0, 0, 0, 0), (743, .aload_n 1, 0, 0, 0, 0), (744, .iload 11, 0, 0, 0, 0), (746, .bipush 7, 0, 0, 0, 0), (748, .invokevirtual 54, 53, 3, 0, 0)]
def v8_751 : List Ent := [(751, .imul, 0, 0, 0, 0), (752, .iadd, 0, 0, 0, 0), (753, .aload_n 2, 0, 0, 0, 0), (754, .iload 11, 0, 0, 0, 0), (756, .iaload, 0, 0, 0, 0), (757, .if_icmp .ne 7, 764, 0, 0, 0)]
def v8_760 : List Ent := [(760, .iconst 1, 0, 0, 0, 0), (761, .goto 4, 765, 0, 0, 0)]
def v8_764 : List Ent := [(764, .iconst 0, 0, 0, 0, 0)]
def v8_765 : List Ent := [(765, .istore 10, 0, 0, 0, 0), (767, .iinc 11 1, 0, 0, 0, 0), (770, .goto (-72), 698, 0, 0, 0)]
def v8_773 : List Ent := [(773, .iload 10, 0, 0, 0, 0), (775, .ifCond .eq 25, 800, 0, 0, 0), (778, .iload_n 3, 0, 0, 0, 0), (779, .iconst 3, 0, 0, 0, 0), (780, .irem, 0, 0, 0, 0), (781, .iconst 2, 0, 0, 0, 0), (782, .if_icmp .ne 20, 802, 0, 0, 0), (785, .aload_n 1, 0, 0, 0, 0), (786, .aload_n 0, 0, 0, 0, 0), (787, .bipush 110, 0, 0, 0, 0), (789, .iload_n 3, 0, 0, 0, 0), (790, .iadd, 0, 0, 0, 0), (791, .invokestatic 10, 0, 2, 0, 0)]
def v8_794 : List Ent := [(794, .invokestatic 96, 7, 2, 0, 0)]
def v8_797 : List Ent := [(797, .ifCond .ne 5, 802, 0, 0, 0)]
def v8_800 : List Ent := [(800, .iconst 0, 0, 0, 0, 0), (801, .ireturn, 1, 0, 0, 0)]
def v8_802 : List Ent := [(802, .iinc 3 1, 0, 0, 0, 0), (805, .goto (-703), 102, 0, 0, 0)]
def v8_808 : List Ent := [(808, .aload_n 1, 0, 0, 0, 0), (809, .aload_n 0, 0, 0, 0, 0), (810, .sipush 130, 0, 0, 0, 0), (813, .invokestatic 10, 0, 2, 0, 0)]
def v8_816 : List Ent := [(816, .invokestatic 96, 7, 2, 0, 0)]
def v8_819 : List Ent := [(819, .ireturn, 1, 0, 0, 0)]
def bv8 : List Blk := [(8, v8_8, 13), (13, v8_13, 22), (22, v8_22, 32), (32, v8_32, 42), (42, v8_42, 56), (56, v8_56, 61), (61, v8_61, 68), (68, v8_68, 73), (73, v8_73, 77), (77, v8_77, 87), (87, v8_87, 90), (90, v8_90, 93), (93, v8_93, 95), (95, v8_95, 102), (102, v8_102, 116), (116, v8_116, 129), (129, v8_129, 138), (138, v8_138, 147), (147, v8_147, 150), (150, v8_150, 159), (159, v8_159, 167), (167, v8_167, 174), (174, v8_174, 187), (187, v8_187, 196), (196, v8_196, 208), (208, v8_208, 217), (217, v8_217, 242), (242, v8_242, 246), (246, v8_246, 256), (256, v8_256, 265), (265, v8_265, 266), (266, v8_266, 280), (280, v8_280, 284), (284, v8_284, 288), (288, v8_288, 289), (289, v8_289, 294), (294, v8_294, 313), (313, v8_313, 321), (321, v8_321, 332), (332, v8_332, 342), (342, v8_342, 350), (350, v8_350, 351), (351, v8_351, 356), (356, v8_356, 369), (369, v8_369, 384), (384, v8_384, 388), (388, v8_388, 400), (400, v8_400, 410), (410, v8_410, 418), (418, v8_418, 419), (419, v8_419, 424), (424, v8_424, 437), (437, v8_437, 445), (445, v8_445, 457), (457, v8_457, 464), (464, v8_464, 465), (465, v8_465, 470), (470, v8_470, 488), (488, v8_488, 496), (496, v8_496, 497), (497, v8_497, 507), (507, v8_507, 524), (524, v8_524, 525), (525, v8_525, 528), (528, v8_528, 533), (533, v8_533, 543), (543, v8_543, 552), (552, v8_552, 553), (553, v8_553, 560), (560, v8_560, 561), (561, v8_561, 566), (566, v8_566, 580), (580, v8_580, 592), (592, v8_592, 599), (599, v8_599, 600), (600, v8_600, 610), (610, v8_610, 621), (621, v8_621, 631), (631, v8_631, 640), (640, v8_640, 641), (641, v8_641, 651), (651, v8_651, 658), (658, v8_658, 659), (659, v8_659, 671), (671, v8_671, 680), (680, v8_680, 692), (692, v8_692, 695), (695, v8_695, 698), (698, v8_698, 705), (705, v8_705, 720), (720, v8_720, 730), (730, v8_730, 739), (739, v8_739, 751), (751, v8_751, 760), (760, v8_760, 764), (764, v8_764, 765), (765, v8_765, 773), (773, v8_773, 794), (794, v8_794, 797), (797, v8_797, 800), (800, v8_800, 802), (802, v8_802, 808), (808, v8_808, 816), (816, v8_816, 819), (819, v8_819, 820)]
def bvs : List (List Blk) := [bv0, bv1, bv2, bv3, bv4, bv5, bv6, bv7, bv8]
def bvOf (a : Nat) : List Blk := bvs.getD a []
def blkL (a pc : Nat) : Option (List Ent × Nat) := ((bvOf a).find? (fun b => b.1 == pc)).map (fun b => b.2)
theorem w0_0 : blkL 0 0 = some (v0_0, 12) := rfl
theorem w0_12 : blkL 0 12 = some (v0_12, 19) := rfl
theorem w0_19 : blkL 0 19 = some (v0_19, 20) := rfl
theorem w1_0 : blkL 1 0 = some (v1_0, 7) := rfl
theorem w2_0 : blkL 2 0 = some (v2_0, 6) := rfl
theorem w2_6 : blkL 2 6 = some (v2_6, 25) := rfl
theorem w2_25 : blkL 2 25 = some (v2_25, 32) := rfl
theorem w2_32 : blkL 2 32 = some (v2_32, 43) := rfl
theorem w2_43 : blkL 2 43 = some (v2_43, 59) := rfl
theorem w2_59 : blkL 2 59 = some (v2_59, 68) := rfl
theorem w2_68 : blkL 2 68 = some (v2_68, 70) := rfl
theorem w2_70 : blkL 2 70 = some (v2_70, 73) := rfl
theorem w2_73 : blkL 2 73 = some (v2_73, 84) := rfl
theorem w2_84 : blkL 2 84 = some (v2_84, 96) := rfl
theorem w2_96 : blkL 2 96 = some (v2_96, 110) := rfl
theorem w2_110 : blkL 2 110 = some (v2_110, 122) := rfl
theorem w2_122 : blkL 2 122 = some (v2_122, 134) := rfl
theorem w2_134 : blkL 2 134 = some (v2_134, 143) := rfl
theorem w2_143 : blkL 2 143 = some (v2_143, 152) := rfl
theorem w2_152 : blkL 2 152 = some (v2_152, 153) := rfl
theorem w2_153 : blkL 2 153 = some (v2_153, 174) := rfl
theorem w2_174 : blkL 2 174 = some (v2_174, 182) := rfl
theorem w2_182 : blkL 2 182 = some (v2_182, 191) := rfl
theorem w2_191 : blkL 2 191 = some (v2_191, 205) := rfl
theorem w2_205 : blkL 2 205 = some (v2_205, 213) := rfl
theorem w2_213 : blkL 2 213 = some (v2_213, 214) := rfl
theorem w2_214 : blkL 2 214 = some (v2_214, 216) := rfl
theorem w2_216 : blkL 2 216 = some (v2_216, 222) := rfl
theorem w2_222 : blkL 2 222 = some (v2_222, 231) := rfl
theorem w2_231 : blkL 2 231 = some (v2_231, 236) := rfl
theorem w2_236 : blkL 2 236 = some (v2_236, 242) := rfl
theorem w2_242 : blkL 2 242 = some (v2_242, 265) := rfl
theorem w2_265 : blkL 2 265 = some (v2_265, 279) := rfl
theorem w2_279 : blkL 2 279 = some (v2_279, 287) := rfl
theorem w2_287 : blkL 2 287 = some (v2_287, 289) := rfl
theorem w2_289 : blkL 2 289 = some (v2_289, 292) := rfl
theorem w2_292 : blkL 2 292 = some (v2_292, 306) := rfl
theorem w2_306 : blkL 2 306 = some (v2_306, 314) := rfl
theorem w2_314 : blkL 2 314 = some (v2_314, 327) := rfl
theorem w2_327 : blkL 2 327 = some (v2_327, 332) := rfl
theorem w2_332 : blkL 2 332 = some (v2_332, 343) := rfl
theorem w2_343 : blkL 2 343 = some (v2_343, 349) := rfl
theorem w2_349 : blkL 2 349 = some (v2_349, 360) := rfl
theorem w2_360 : blkL 2 360 = some (v2_360, 366) := rfl
theorem w2_366 : blkL 2 366 = some (v2_366, 371) := rfl
theorem w2_371 : blkL 2 371 = some (v2_371, 375) := rfl
theorem w2_375 : blkL 2 375 = some (v2_375, 376) := rfl
theorem w2_376 : blkL 2 376 = some (v2_376, 384) := rfl
theorem w2_384 : blkL 2 384 = some (v2_384, 387) := rfl
theorem w2_387 : blkL 2 387 = some (v2_387, 410) := rfl
theorem w2_410 : blkL 2 410 = some (v2_410, 419) := rfl
theorem w2_419 : blkL 2 419 = some (v2_419, 422) := rfl
theorem w2_422 : blkL 2 422 = some (v2_422, 431) := rfl
theorem w2_431 : blkL 2 431 = some (v2_431, 443) := rfl
theorem w2_443 : blkL 2 443 = some (v2_443, 446) := rfl
theorem w2_446 : blkL 2 446 = some (v2_446, 462) := rfl
theorem w2_462 : blkL 2 462 = some (v2_462, 471) := rfl
theorem w2_471 : blkL 2 471 = some (v2_471, 475) := rfl
theorem w2_475 : blkL 2 475 = some (v2_475, 483) := rfl
theorem w2_483 : blkL 2 483 = some (v2_483, 498) := rfl
theorem w2_498 : blkL 2 498 = some (v2_498, 507) := rfl
theorem w2_507 : blkL 2 507 = some (v2_507, 508) := rfl
theorem w2_508 : blkL 2 508 = some (v2_508, 516) := rfl
theorem w2_516 : blkL 2 516 = some (v2_516, 519) := rfl
theorem w2_519 : blkL 2 519 = some (v2_519, 542) := rfl
theorem w2_542 : blkL 2 542 = some (v2_542, 549) := rfl
theorem w2_549 : blkL 2 549 = some (v2_549, 562) := rfl
theorem w2_562 : blkL 2 562 = some (v2_562, 570) := rfl
theorem w2_570 : blkL 2 570 = some (v2_570, 571) := rfl
theorem w2_571 : blkL 2 571 = some (v2_571, 574) := rfl
theorem w2_574 : blkL 2 574 = some (v2_574, 589) := rfl
theorem w2_589 : blkL 2 589 = some (v2_589, 598) := rfl
theorem w2_598 : blkL 2 598 = some (v2_598, 600) := rfl
theorem w2_600 : blkL 2 600 = some (v2_600, 603) := rfl
theorem w2_603 : blkL 2 603 = some (v2_603, 620) := rfl
theorem w2_620 : blkL 2 620 = some (v2_620, 632) := rfl
theorem w2_632 : blkL 2 632 = some (v2_632, 644) := rfl
theorem w2_644 : blkL 2 644 = some (v2_644, 656) := rfl
theorem w2_656 : blkL 2 656 = some (v2_656, 659) := rfl
theorem w2_659 : blkL 2 659 = some (v2_659, 663) := rfl
theorem w2_663 : blkL 2 663 = some (v2_663, 664) := rfl
theorem w2_664 : blkL 2 664 = some (v2_664, 672) := rfl
theorem w2_672 : blkL 2 672 = some (v2_672, 675) := rfl
theorem w3_0 : blkL 3 0 = some (v3_0, 6) := rfl
theorem w3_6 : blkL 3 6 = some (v3_6, 19) := rfl
theorem w3_19 : blkL 3 19 = some (v3_19, 24) := rfl
theorem w3_24 : blkL 3 24 = some (v3_24, 38) := rfl
theorem w3_38 : blkL 3 38 = some (v3_38, 47) := rfl
theorem w3_47 : blkL 3 47 = some (v3_47, 63) := rfl
theorem w3_63 : blkL 3 63 = some (v3_63, 72) := rfl
theorem w3_72 : blkL 3 72 = some (v3_72, 100) := rfl
theorem w3_100 : blkL 3 100 = some (v3_100, 109) := rfl
theorem w3_109 : blkL 3 109 = some (v3_109, 110) := rfl
theorem w3_110 : blkL 3 110 = some (v3_110, 122) := rfl
theorem w3_122 : blkL 3 122 = some (v3_122, 124) := rfl
theorem w3_124 : blkL 3 124 = some (v3_124, 132) := rfl
theorem w3_132 : blkL 3 132 = some (v3_132, 143) := rfl
theorem w3_143 : blkL 3 143 = some (v3_143, 147) := rfl
theorem w3_147 : blkL 3 147 = some (v3_147, 172) := rfl
theorem w3_172 : blkL 3 172 = some (v3_172, 188) := rfl
theorem w3_188 : blkL 3 188 = some (v3_188, 195) := rfl
theorem w3_195 : blkL 3 195 = some (v3_195, 211) := rfl
theorem w3_211 : blkL 3 211 = some (v3_211, 230) := rfl
theorem w3_230 : blkL 3 230 = some (v3_230, 233) := rfl
theorem w4_0 : blkL 4 0 = some (v4_0, 19) := rfl
theorem w4_19 : blkL 4 19 = some (v4_19, 25) := rfl
theorem w4_25 : blkL 4 25 = some (v4_25, 45) := rfl
theorem w4_45 : blkL 4 45 = some (v4_45, 61) := rfl
theorem w4_61 : blkL 4 61 = some (v4_61, 71) := rfl
theorem w4_71 : blkL 4 71 = some (v4_71, 87) := rfl
theorem w4_87 : blkL 4 87 = some (v4_87, 97) := rfl
theorem w4_97 : blkL 4 97 = some (v4_97, 102) := rfl
theorem w4_102 : blkL 4 102 = some (v4_102, 109) := rfl
theorem w4_109 : blkL 4 109 = some (v4_109, 121) := rfl
theorem w4_121 : blkL 4 121 = some (v4_121, 130) := rfl
theorem w4_130 : blkL 4 130 = some (v4_130, 131) := rfl
theorem w4_131 : blkL 4 131 = some (v4_131, 152) := rfl
theorem w4_152 : blkL 4 152 = some (v4_152, 178) := rfl
theorem w4_178 : blkL 4 178 = some (v4_178, 193) := rfl
theorem w4_193 : blkL 4 193 = some (v4_193, 216) := rfl
theorem w4_216 : blkL 4 216 = some (v4_216, 261) := rfl
theorem w4_261 : blkL 4 261 = some (v4_261, 266) := rfl
theorem w4_266 : blkL 4 266 = some (v4_266, 270) := rfl
theorem w4_270 : blkL 4 270 = some (v4_270, 271) := rfl
theorem w4_271 : blkL 4 271 = some (v4_271, 289) := rfl
theorem w4_289 : blkL 4 289 = some (v4_289, 308) := rfl
theorem w4_308 : blkL 4 308 = some (v4_308, 324) := rfl
theorem w4_324 : blkL 4 324 = some (v4_324, 340) := rfl
theorem w4_340 : blkL 4 340 = some (v4_340, 349) := rfl
theorem w4_349 : blkL 4 349 = some (v4_349, 350) := rfl
theorem w4_350 : blkL 4 350 = some (v4_350, 375) := rfl
theorem w4_375 : blkL 4 375 = some (v4_375, 390) := rfl
theorem w4_390 : blkL 4 390 = some (v4_390, 407) := rfl
theorem w4_407 : blkL 4 407 = some (v4_407, 420) := rfl
theorem w4_420 : blkL 4 420 = some (v4_420, 425) := rfl
theorem w4_425 : blkL 4 425 = some (v4_425, 429) := rfl
theorem w4_429 : blkL 4 429 = some (v4_429, 430) := rfl
theorem w4_430 : blkL 4 430 = some (v4_430, 439) := rfl
theorem w4_439 : blkL 4 439 = some (v4_439, 482) := rfl
theorem w4_482 : blkL 4 482 = some (v4_482, 483) := rfl
theorem w4_483 : blkL 4 483 = some (v4_483, 504) := rfl
theorem w4_504 : blkL 4 504 = some (v4_504, 510) := rfl
theorem w4_510 : blkL 4 510 = some (v4_510, 521) := rfl
theorem w4_521 : blkL 4 521 = some (v4_521, 533) := rfl
theorem w4_533 : blkL 4 533 = some (v4_533, 545) := rfl
theorem w4_545 : blkL 4 545 = some (v4_545, 556) := rfl
theorem w4_556 : blkL 4 556 = some (v4_556, 567) := rfl
theorem w4_567 : blkL 4 567 = some (v4_567, 574) := rfl
theorem w4_574 : blkL 4 574 = some (v4_574, 575) := rfl
theorem w4_575 : blkL 4 575 = some (v4_575, 590) := rfl
theorem w4_590 : blkL 4 590 = some (v4_590, 610) := rfl
theorem w4_610 : blkL 4 610 = some (v4_610, 615) := rfl
theorem w4_615 : blkL 4 615 = some (v4_615, 622) := rfl
theorem w4_622 : blkL 4 622 = some (v4_622, 635) := rfl
theorem w4_635 : blkL 4 635 = some (v4_635, 645) := rfl
theorem w4_645 : blkL 4 645 = some (v4_645, 653) := rfl
theorem w4_653 : blkL 4 653 = some (v4_653, 654) := rfl
theorem w4_654 : blkL 4 654 = some (v4_654, 666) := rfl
theorem w4_666 : blkL 4 666 = some (v4_666, 676) := rfl
theorem w4_676 : blkL 4 676 = some (v4_676, 687) := rfl
theorem w4_687 : blkL 4 687 = some (v4_687, 688) := rfl
theorem w4_688 : blkL 4 688 = some (v4_688, 689) := rfl
theorem w5_0 : blkL 5 0 = some (v5_0, 15) := rfl
theorem w5_15 : blkL 5 15 = some (v5_15, 27) := rfl
theorem w5_27 : blkL 5 27 = some (v5_27, 35) := rfl
theorem w5_35 : blkL 5 35 = some (v5_35, 57) := rfl
theorem w5_57 : blkL 5 57 = some (v5_57, 58) := rfl
theorem w5_58 : blkL 5 58 = some (v5_58, 67) := rfl
theorem w5_67 : blkL 5 67 = some (v5_67, 70) := rfl
theorem w5_70 : blkL 5 70 = some (v5_70, 86) := rfl
theorem w5_86 : blkL 5 86 = some (v5_86, 99) := rfl
theorem w5_99 : blkL 5 99 = some (v5_99, 103) := rfl
theorem w5_103 : blkL 5 103 = some (v5_103, 117) := rfl
theorem w5_117 : blkL 5 117 = some (v5_117, 121) := rfl
theorem w5_121 : blkL 5 121 = some (v5_121, 143) := rfl
theorem w5_143 : blkL 5 143 = some (v5_143, 144) := rfl
theorem w5_144 : blkL 5 144 = some (v5_144, 153) := rfl
theorem w5_153 : blkL 5 153 = some (v5_153, 169) := rfl
theorem w5_169 : blkL 5 169 = some (v5_169, 170) := rfl
theorem w5_170 : blkL 5 170 = some (v5_170, 181) := rfl
theorem w5_181 : blkL 5 181 = some (v5_181, 182) := rfl
theorem w5_182 : blkL 5 182 = some (v5_182, 187) := rfl
theorem w5_187 : blkL 5 187 = some (v5_187, 193) := rfl
theorem w5_193 : blkL 5 193 = some (v5_193, 210) := rfl
theorem w5_210 : blkL 5 210 = some (v5_210, 211) := rfl
theorem w5_211 : blkL 5 211 = some (v5_211, 212) := rfl
theorem w6_0 : blkL 6 0 = some (v6_0, 12) := rfl
theorem w6_12 : blkL 6 12 = some (v6_12, 18) := rfl
theorem w6_18 : blkL 6 18 = some (v6_18, 30) := rfl
theorem w6_30 : blkL 6 30 = some (v6_30, 37) := rfl
theorem w6_37 : blkL 6 37 = some (v6_37, 50) := rfl
theorem w6_50 : blkL 6 50 = some (v6_50, 55) := rfl
theorem w6_55 : blkL 6 55 = some (v6_55, 63) := rfl
theorem w6_63 : blkL 6 63 = some (v6_63, 85) := rfl
theorem w6_85 : blkL 6 85 = some (v6_85, 89) := rfl
theorem w6_89 : blkL 6 89 = some (v6_89, 90) := rfl
theorem w6_90 : blkL 6 90 = some (v6_90, 98) := rfl
theorem w6_98 : blkL 6 98 = some (v6_98, 109) := rfl
theorem w6_109 : blkL 6 109 = some (v6_109, 110) := rfl
theorem w6_110 : blkL 6 110 = some (v6_110, 119) := rfl
theorem w6_119 : blkL 6 119 = some (v6_119, 122) := rfl
theorem w6_122 : blkL 6 122 = some (v6_122, 129) := rfl
theorem w6_129 : blkL 6 129 = some (v6_129, 138) := rfl
theorem w6_138 : blkL 6 138 = some (v6_138, 147) := rfl
theorem w6_147 : blkL 6 147 = some (v6_147, 163) := rfl
theorem w6_163 : blkL 6 163 = some (v6_163, 167) := rfl
theorem w6_167 : blkL 6 167 = some (v6_167, 171) := rfl
theorem w6_171 : blkL 6 171 = some (v6_171, 172) := rfl
theorem w6_172 : blkL 6 172 = some (v6_172, 180) := rfl
theorem w6_180 : blkL 6 180 = some (v6_180, 191) := rfl
theorem w6_191 : blkL 6 191 = some (v6_191, 192) := rfl
theorem w6_192 : blkL 6 192 = some (v6_192, 201) := rfl
theorem w6_201 : blkL 6 201 = some (v6_201, 207) := rfl
theorem w6_207 : blkL 6 207 = some (v6_207, 218) := rfl
theorem w6_218 : blkL 6 218 = some (v6_218, 223) := rfl
theorem w6_223 : blkL 6 223 = some (v6_223, 225) := rfl
theorem w6_225 : blkL 6 225 = some (v6_225, 231) := rfl
theorem w6_231 : blkL 6 231 = some (v6_231, 233) := rfl
theorem w7_0 : blkL 7 0 = some (v7_0, 11) := rfl
theorem w7_11 : blkL 7 11 = some (v7_11, 18) := rfl
theorem w7_18 : blkL 7 18 = some (v7_18, 28) := rfl
theorem w7_28 : blkL 7 28 = some (v7_28, 38) := rfl
theorem w7_38 : blkL 7 38 = some (v7_38, 41) := rfl
theorem w7_41 : blkL 7 41 = some (v7_41, 47) := rfl
theorem w7_47 : blkL 7 47 = some (v7_47, 50) := rfl
theorem w7_50 : blkL 7 50 = some (v7_50, 52) := rfl
theorem w7_52 : blkL 7 52 = some (v7_52, 59) := rfl
theorem w7_59 : blkL 7 59 = some (v7_59, 68) := rfl
theorem w7_68 : blkL 7 68 = some (v7_68, 69) := rfl
theorem w7_69 : blkL 7 69 = some (v7_69, 77) := rfl
theorem w7_77 : blkL 7 77 = some (v7_77, 88) := rfl
theorem w7_88 : blkL 7 88 = some (v7_88, 91) := rfl
theorem w7_91 : blkL 7 91 = some (v7_91, 92) := rfl
theorem w7_92 : blkL 7 92 = some (v7_92, 102) := rfl
theorem w7_102 : blkL 7 102 = some (v7_102, 114) := rfl
theorem w7_114 : blkL 7 114 = some (v7_114, 120) := rfl
theorem w7_120 : blkL 7 120 = some (v7_120, 129) := rfl
theorem w7_129 : blkL 7 129 = some (v7_129, 138) := rfl
theorem w7_138 : blkL 7 138 = some (v7_138, 145) := rfl
theorem w7_145 : blkL 7 145 = some (v7_145, 146) := rfl
theorem w7_146 : blkL 7 146 = some (v7_146, 147) := rfl
theorem w8_8 : blkL 8 8 = some (v8_8, 13) := rfl
theorem w8_13 : blkL 8 13 = some (v8_13, 22) := rfl
theorem w8_22 : blkL 8 22 = some (v8_22, 32) := rfl
theorem w8_32 : blkL 8 32 = some (v8_32, 42) := rfl
theorem w8_42 : blkL 8 42 = some (v8_42, 56) := rfl
theorem w8_56 : blkL 8 56 = some (v8_56, 61) := rfl
theorem w8_61 : blkL 8 61 = some (v8_61, 68) := rfl
theorem w8_68 : blkL 8 68 = some (v8_68, 73) := rfl
theorem w8_73 : blkL 8 73 = some (v8_73, 77) := rfl
theorem w8_77 : blkL 8 77 = some (v8_77, 87) := rfl
theorem w8_87 : blkL 8 87 = some (v8_87, 90) := rfl
theorem w8_90 : blkL 8 90 = some (v8_90, 93) := rfl
theorem w8_93 : blkL 8 93 = some (v8_93, 95) := rfl
theorem w8_95 : blkL 8 95 = some (v8_95, 102) := rfl
theorem w8_102 : blkL 8 102 = some (v8_102, 116) := rfl
theorem w8_116 : blkL 8 116 = some (v8_116, 129) := rfl
theorem w8_129 : blkL 8 129 = some (v8_129, 138) := rfl
theorem w8_138 : blkL 8 138 = some (v8_138, 147) := rfl
theorem w8_147 : blkL 8 147 = some (v8_147, 150) := rfl
theorem w8_150 : blkL 8 150 = some (v8_150, 159) := rfl
theorem w8_159 : blkL 8 159 = some (v8_159, 167) := rfl
theorem w8_167 : blkL 8 167 = some (v8_167, 174) := rfl
theorem w8_174 : blkL 8 174 = some (v8_174, 187) := rfl
theorem w8_187 : blkL 8 187 = some (v8_187, 196) := rfl
theorem w8_196 : blkL 8 196 = some (v8_196, 208) := rfl
theorem w8_208 : blkL 8 208 = some (v8_208, 217) := rfl
theorem w8_217 : blkL 8 217 = some (v8_217, 242) := rfl
theorem w8_242 : blkL 8 242 = some (v8_242, 246) := rfl
theorem w8_246 : blkL 8 246 = some (v8_246, 256) := rfl
theorem w8_256 : blkL 8 256 = some (v8_256, 265) := rfl
theorem w8_265 : blkL 8 265 = some (v8_265, 266) := rfl
theorem w8_266 : blkL 8 266 = some (v8_266, 280) := rfl
theorem w8_280 : blkL 8 280 = some (v8_280, 284) := rfl
theorem w8_284 : blkL 8 284 = some (v8_284, 288) := rfl
theorem w8_288 : blkL 8 288 = some (v8_288, 289) := rfl
theorem w8_289 : blkL 8 289 = some (v8_289, 294) := rfl
theorem w8_294 : blkL 8 294 = some (v8_294, 313) := rfl
theorem w8_313 : blkL 8 313 = some (v8_313, 321) := rfl
theorem w8_321 : blkL 8 321 = some (v8_321, 332) := rfl
theorem w8_332 : blkL 8 332 = some (v8_332, 342) := rfl
theorem w8_342 : blkL 8 342 = some (v8_342, 350) := rfl
theorem w8_350 : blkL 8 350 = some (v8_350, 351) := rfl
theorem w8_351 : blkL 8 351 = some (v8_351, 356) := rfl
theorem w8_356 : blkL 8 356 = some (v8_356, 369) := rfl
theorem w8_369 : blkL 8 369 = some (v8_369, 384) := rfl
theorem w8_384 : blkL 8 384 = some (v8_384, 388) := rfl
theorem w8_388 : blkL 8 388 = some (v8_388, 400) := rfl
theorem w8_400 : blkL 8 400 = some (v8_400, 410) := rfl
theorem w8_410 : blkL 8 410 = some (v8_410, 418) := rfl
theorem w8_418 : blkL 8 418 = some (v8_418, 419) := rfl
theorem w8_419 : blkL 8 419 = some (v8_419, 424) := rfl
theorem w8_424 : blkL 8 424 = some (v8_424, 437) := rfl
theorem w8_437 : blkL 8 437 = some (v8_437, 445) := rfl
theorem w8_445 : blkL 8 445 = some (v8_445, 457) := rfl
theorem w8_457 : blkL 8 457 = some (v8_457, 464) := rfl
theorem w8_464 : blkL 8 464 = some (v8_464, 465) := rfl
theorem w8_465 : blkL 8 465 = some (v8_465, 470) := rfl
theorem w8_470 : blkL 8 470 = some (v8_470, 488) := rfl
theorem w8_488 : blkL 8 488 = some (v8_488, 496) := rfl
theorem w8_496 : blkL 8 496 = some (v8_496, 497) := rfl
theorem w8_497 : blkL 8 497 = some (v8_497, 507) := rfl
theorem w8_507 : blkL 8 507 = some (v8_507, 524) := rfl
theorem w8_524 : blkL 8 524 = some (v8_524, 525) := rfl
theorem w8_525 : blkL 8 525 = some (v8_525, 528) := rfl
theorem w8_528 : blkL 8 528 = some (v8_528, 533) := rfl
theorem w8_533 : blkL 8 533 = some (v8_533, 543) := rfl
theorem w8_543 : blkL 8 543 = some (v8_543, 552) := rfl
theorem w8_552 : blkL 8 552 = some (v8_552, 553) := rfl
theorem w8_553 : blkL 8 553 = some (v8_553, 560) := rfl
theorem w8_560 : blkL 8 560 = some (v8_560, 561) := rfl
theorem w8_561 : blkL 8 561 = some (v8_561, 566) := rfl
theorem w8_566 : blkL 8 566 = some (v8_566, 580) := rfl
theorem w8_580 : blkL 8 580 = some (v8_580, 592) := rfl
theorem w8_592 : blkL 8 592 = some (v8_592, 599) := rfl
theorem w8_599 : blkL 8 599 = some (v8_599, 600) := rfl
theorem w8_600 : blkL 8 600 = some (v8_600, 610) := rfl
theorem w8_610 : blkL 8 610 = some (v8_610, 621) := rfl
theorem w8_621 : blkL 8 621 = some (v8_621, 631) := rfl
theorem w8_631 : blkL 8 631 = some (v8_631, 640) := rfl
theorem w8_640 : blkL 8 640 = some (v8_640, 641) := rfl
theorem w8_641 : blkL 8 641 = some (v8_641, 651) := rfl
theorem w8_651 : blkL 8 651 = some (v8_651, 658) := rfl
theorem w8_658 : blkL 8 658 = some (v8_658, 659) := rfl
theorem w8_659 : blkL 8 659 = some (v8_659, 671) := rfl
theorem w8_671 : blkL 8 671 = some (v8_671, 680) := rfl
theorem w8_680 : blkL 8 680 = some (v8_680, 692) := rfl
theorem w8_692 : blkL 8 692 = some (v8_692, 695) := rfl
theorem w8_695 : blkL 8 695 = some (v8_695, 698) := rfl
theorem w8_698 : blkL 8 698 = some (v8_698, 705) := rfl
theorem w8_705 : blkL 8 705 = some (v8_705, 720) := rfl
theorem w8_720 : blkL 8 720 = some (v8_720, 730) := rfl
theorem w8_730 : blkL 8 730 = some (v8_730, 739) := rfl
theorem w8_739 : blkL 8 739 = some (v8_739, 751) := rfl
theorem w8_751 : blkL 8 751 = some (v8_751, 760) := rfl
theorem w8_760 : blkL 8 760 = some (v8_760, 764) := rfl
theorem w8_764 : blkL 8 764 = some (v8_764, 765) := rfl
theorem w8_765 : blkL 8 765 = some (v8_765, 773) := rfl
theorem w8_773 : blkL 8 773 = some (v8_773, 794) := rfl
theorem w8_794 : blkL 8 794 = some (v8_794, 797) := rfl
theorem w8_797 : blkL 8 797 = some (v8_797, 800) := rfl
theorem w8_800 : blkL 8 800 = some (v8_800, 802) := rfl
theorem w8_802 : blkL 8 802 = some (v8_802, 808) := rfl
theorem w8_808 : blkL 8 808 = some (v8_808, 816) := rfl
theorem w8_816 : blkL 8 816 = some (v8_816, 819) := rfl
theorem w8_819 : blkL 8 819 = some (v8_819, 820) := rfl
def cltL : List (Nat × Nat) := [(16, 54), (26, 40), (29, 49), (32, 50), (35, 43), (39, 44), (42, 52), (45, 45), (48, 51), (51, 47), (54, 53), (61, 55), (64, 58), (67, 56), (70, 59), (74, 57), (77, 60), (99, 41), (102, 42), (105, 46), (108, 48)]
def cstL : List (Nat × Nat) := [(10, 0), (22, 1), (57, 3), (80, 4), (84, 5), (87, 6), (92, 2), (96, 7)]
def conL : List (Nat × Nat) := [(7, 32452867), (8, 15485863), (9, 2147483647)]
def gl1 : List Cond := cltL.map (fun q => Cond.methodLink RL q.1 (yM q.2))
def gl2 : List Cond := cstL.map (fun q => Cond.methodLink RL q.1 (yL q.2))
def gl3 : List Cond := [0, 1, 2, 3, 4, 5, 6, 7].map (fun a => Cond.static (yL a))
def gl4 : List Cond := [0, 1, 2, 3, 4, 5, 6, 7].map (fun a => Cond.code (yL a) (bL a) (lL a) (rL a))
def gl5 : List Cond := conL.map (fun q => Cond.constant RL q.1 (Int32.ofInt q.2))
def gl6 : List Cond := [.initialized RL, .arrayClass .int]
def gLa : List Cond := gl1 ++ (gl2 ++ (gl3 ++ (gl4 ++ (gl5 ++ gl6))))
def gLaPl : List Nat := [389, 235, 344, 350, 281, 414, 418, 443, 455, 460, 358, 473, 477, 486, 498, 502, 513, 264, 277, 294, 298, 402, 407, 470, 467, 510, 517, 411, 464, 403, 408, 412, 471, 468, 511, 518, 465, 404, 409, 413, 472, 469, 512, 519, 466, 405, 406, 410, 7, 60]
set_option maxRecDepth 100000 in
theorem gLa_pl : gLa = gLaPl.filterMap (fun i => lw_tbl[i]?) := rfl
theorem gLa_good : gLa.all goodWord = true := by decide +kernel
theorem gLa_in : ∀ w ∈ gLa, w ∈ lw_tbl := by
  intro w hw
  rw [gLa_pl] at hw
  obtain ⟨i, -, hi⟩ := List.mem_filterMap.mp hw
  exact List.mem_of_getElem? hi
theorem gLa_gd {w : Cond} (hw : w ∈ gLa) : (w.onTables && w.keeps) = true ∨ ∃ ty, w = .arrayClass ty := good_of_word (List.all_eq_true.mp gLa_good w hw)
theorem in_gl1 : ∀ w ∈ gl1, w ∈ gLa := fun _ h => List.mem_append_left _ h
theorem in_gl2 : ∀ w ∈ gl2, w ∈ gLa := fun _ h => List.mem_append_right _ (List.mem_append_left _ h)
theorem in_gl3 : ∀ w ∈ gl3, w ∈ gLa := fun _ h => List.mem_append_right _ (List.mem_append_right _ (List.mem_append_left _ h))
theorem in_gl4 : ∀ w ∈ gl4, w ∈ gLa := fun _ h => List.mem_append_right _ (List.mem_append_right _ (List.mem_append_right _ (List.mem_append_left _ h)))
theorem in_gl5 : ∀ w ∈ gl5, w ∈ gLa := fun _ h => List.mem_append_right _ (List.mem_append_right _ (List.mem_append_right _ (List.mem_append_right _ (List.mem_append_left _ h))))
theorem in_gl6 : ∀ w ∈ gl6, w ∈ gLa := fun _ h => List.mem_append_right _ (List.mem_append_right _ (List.mem_append_right _ (List.mem_append_right _ (List.mem_append_right _ h))))
def gWL : List Cond := gLa ++ gW
theorem la_gWL {w : Cond} (h : w ∈ gLa) : w ∈ gWL := List.mem_append_left _ h
theorem gw_gWL {w : Cond} (h : w ∈ gW) : w ∈ gWL := List.mem_append_right _ h
theorem gWL_gd {w : Cond} (h : w ∈ gWL) : (w.onTables && w.keeps) = true ∨ ∃ ty, w = .arrayClass ty := by
  rcases List.mem_append.mp h with h | h
  · exact gLa_gd h
  · exact gW_gd h
theorem gWL_in {w : Cond} (h : w ∈ gWL) : w ∈ lw_tbl := by
  rcases List.mem_append.mp h with h | h
  · exact gLa_in _ h
  · exact gW_in _ h
/-- the words of the law's method a -/
def wsL (a : Nat) : List Cond := Cond.code (yL a) (bL a) (lL a) (rL a) :: gWL
theorem lt8 {a : Nat} (h : a < 8) : a ∈ [0, 1, 2, 3, 4, 5, 6, 7] := by
  match a, h with
  | 0, _ | 1, _ | 2, _ | 3, _ | 4, _ | 5, _ | 6, _ | 7, _ => decide
  | n + 8, h => exact absurd h (by omega)
theorem codeL_in {a : Nat} (h : a < 8) : Cond.code (yL a) (bL a) (lL a) (rL a) ∈ gWL := la_gWL (in_gl4 _ (List.mem_map.mpr ⟨a, lt8 h, rfl⟩))
theorem wsL_good {a : Nat} (h : a < 8) : GoodIn gWL (wsL a) := by
  intro w hw
  rcases List.mem_cons.mp hw with rfl | hw
  · exact ⟨codeL_in h, gWL_gd (codeL_in h)⟩
  · exact ⟨hw, gWL_gd hw⟩
theorem wsM_gWL {a : Nat} (h : a < 70) : GoodIn gWL (wsM a) := by
  intro w hw
  rcases List.mem_cons.mp hw with rfl | hw
  · exact ⟨gw_gWL (code_in h), gW_gd (code_in h)⟩
  · exact ⟨gw_gWL hw, gW_gd hw⟩
def ilenL (i : Instr) : Nat := match i with
  | .ldc _ => 2
  | .newarray _ => 2
  | i => ilen i
def ckDL (a pc : Nat) (i : Instr) : Bool := match decode (bL a) pc with
  | .ok (j, n) => decide (j = i) && (n == ilenL i)
  | _ => false
def ckIL (a0 pc : Nat) (i : Instr) (a b np : Nat) : Bool := match i with
  | .bipush n => decide ((Int8.ofInt n).toInt32 = Int32.ofInt n) && np == pc + 2
  | .sipush n => decide ((Int16.ofInt n).toInt32 = Int32.ofInt n) && np == pc + 3
  | .goto o => decide ((pc : Int) + o = (a : Int))
  | .ifCond _ o => decide ((pc : Int) + o = (a : Int)) && np == pc + 3
  | .if_icmp _ o => decide ((pc : Int) + o = (a : Int)) && np == pc + 3
  | .ireturn => if a = 1 then decide (rL a0 = some .boolean) else decide (rL a0 = some .int)
  | .invokevirtual x => cltL.contains (x, a) && mVs.contains a && b == nM a && kM a == 1 && oM a == 6 && np == pc + 3
  | .invokestatic x => cstL.contains (x, a) && decide (a < 8) && b == nL2 a && np == pc + 3
  | .ldc x => conL.contains (x, a) && np == pc + 2
  | i => np == pc + ilenL i
def ckLL (a0 : Nat) : List Ent → Nat → Bool
  | [], _ => true
  | (pc, i, a, b, _, _) :: r, nx => ckDL a0 pc i && ckIL a0 pc i a b (hpc r nx) && ckLL a0 r nx
def ckML (a : Nat) : Bool := (bvOf a).all (fun q => ckLL a q.2.1 q.2.2 && hpc q.2.1 q.2.2 == q.1)
theorem ckl0 : ckML 0 = true := by decide +kernel
theorem ckl1 : ckML 1 = true := by decide +kernel
theorem ckl2 : ckML 2 = true := by decide +kernel
theorem ckl3 : ckML 3 = true := by decide +kernel
theorem ckl4 : ckML 4 = true := by decide +kernel
theorem ckl5 : ckML 5 = true := by decide +kernel
theorem ckl6 : ckML 6 = true := by decide +kernel
theorem ckl7 : ckML 7 = true := by decide +kernel
theorem ckl8 : ckML 8 = true := by decide +kernel
theorem ckl_all : ∀ a, a < 9 → ckML a = true
  | 0, _ => ckl0
  | 1, _ => ckl1
  | 2, _ => ckl2
  | 3, _ => ckl3
  | 4, _ => ckl4
  | 5, _ => ckl5
  | 6, _ => ckl6
  | 7, _ => ckl7
  | 8, _ => ckl8
  | n + 9, h => absurd h (by omega)
def ckMeL (k : Nat) : Bool := decide ((yL k).cls = RL) && decide (plainName (yL k).cls = true) && decide ((yL k).cls ≠ "java/lang/invoke/MethodHandle") && decide ((yL k).cls ≠ "java/lang/invoke/VarHandle") && decide ((parseMethodDescriptor (yL k).desc).map (fun d => d.parameters.length) = some (nL2 k)) && decide (lL k ≤ 17) && (decide (rL k = some .int) || decide (rL k = some .boolean))
theorem methL_ok : (List.range 8).all ckMeL = true := by decide +kernel
end
section
/-! THE LAW'S SMALL MACHINE: the object is the reference 0, the script 1, the arrays from 510 on -/
/-- cells that this frame has made, arrays that are known, their lengths -/
abbrev Dy : Type := Nat × Nat × (Nat → Nat)
abbrev CT2 : Type := Nat → List MV → Dy → Mem → QT → Prop
def upl (f : Nat → Nat) (k v : Nat) : Nat → Nat := fun j => if j = k then v else f j
def zr (μ : Mem) (k : Nat) : Mem := fun k' j => if k' = k then 0 else μ k' j
def lenC : Nat → List MV → Prop
  | _, [] => True
  | n + 1, .inl _ :: t => lenC n t
  | n + 1, .inr (.inr _) :: t => lenC n t
  | _, _ => False
def noR (n : Nat) : Ls → Prop
  | [] => True
  | some (.inr (.inr k)) :: t => k ≠ n ∧ noR n t
  | _ :: t => noR n t
def rcv0 : List MV → Prop
  | .inr (.inr k) :: _ => k = 0
  | _ => False
def tk5 (n : Nat) (st : List MV) (f : List MV → List MV → Prop) : Prop := match n, st with
  | 1, a :: r => f [a] r
  | 2, b :: a :: r => f [a, b] r
  | 3, c :: b :: a :: r => f [a, b, c] r
  | 5, e :: d :: c :: b :: a :: r => f [a, b, c, d, e] r
  | _, _ => False
def stp2 (y : Nat → Int) (L G : Nat) (P : Dy → PT) (call : CT2) (Q : QT) (pc : Nat) (i : Instr) (a b : Nat) (k : Dy → Ls → List MV → Mem → Prop) (δ : Dy) (ls : Ls) (st : List MV) (μ : Mem) : Prop := match i with
  | .iconst n => k δ ls (.inl n :: st) μ
  | .bipush n => k δ ls (.inl n :: st) μ
  | .sipush n => k δ ls (.inl n :: st) μ
  | .ldc _ => k δ ls (.inl (a : Int) :: st) μ
  | .iload n => ldI ls n fun x => k δ ls (.inl x :: st) μ
  | .iload_n n => ldI ls n.val fun x => k δ ls (.inl x :: st) μ
  | .aload n => ldR ls n fun x => k δ ls (.inr (.inr x) :: st) μ
  | .aload_n n => ldR ls n.val fun x => k δ ls (.inr (.inr x) :: st) μ
  | .istore n => p1 st fun x r => okS ls n ∧ k δ (stL ls n (some (.inl x))) r μ
  | .istore_n n => p1 st fun x r => okS ls n.val ∧ k δ (stL ls n.val (some (.inl x))) r μ
  | .astore n => pR st fun x r => okS ls n ∧ k δ (stL ls n (some (.inr (.inr x)))) r μ
  | .astore_n n => pR st fun x r => okS ls n.val ∧ k δ (stL ls n.val (some (.inr (.inr x)))) r μ
  | .iinc n d => ldI ls n fun x => okS ls n ∧ k δ (stL ls n (some (.inl (x + d)))) st μ
  | .iadd => p2 st fun x y r => k δ ls (.inl (x + y) :: r) μ
  | .isub => p2 st fun x y r => k δ ls (.inl (x - y) :: r) μ
  | .imul => p2 st fun x y r => k δ ls (.inl (x * y) :: r) μ
  | .idiv => p2 st fun x y r => (0 ≤ x ∧ inR x) ∧ (0 < y ∧ inR y) ∧ k δ ls (.inl (x / y) :: r) μ
  | .irem => p2 st fun x y r => (0 ≤ x ∧ inR x) ∧ (0 < y ∧ inR y) ∧ k δ ls (.inl (x % y) :: r) μ
  | .iand => p2 st fun x y r => k δ ls (.inl (iAnd x y) :: r) μ
  | .ior => p2 st fun x y r => k δ ls (.inl (iOr x y) :: r) μ
  | .ishl => p2 st fun x y r => k δ ls (.inl (iShl x y) :: r) μ
  | .ishr => p2 st fun x y r => k δ ls (.inl (iShr x y) :: r) μ
  | .pop => p1 st fun _ r => k δ ls r μ
  | .goto _ => P δ a ls st μ
  | .ifCond cc _ => p1 st fun x r => cnd cc x 0 (P δ a ls r μ) (k δ ls r μ)
  | .if_icmp cc _ => p2 st fun x y r => cnd cc x y (P δ a ls r μ) (k δ ls r μ)
  | .arraylength => pR st fun o r => o = 1 ∧ k δ ls (.inl (L : Int) :: r) μ
  | .iaload => pA st fun o i r => if a = 1 then o = 1 ∧ 0 ≤ i ∧ i < (L : Int) ∧ k δ ls (.inl (y i.toNat) :: r) μ else (510 ≤ o ∧ o < 510 + δ.2.1) ∧ 0 ≤ i ∧ i < (δ.2.2 o : Int) ∧ k δ ls (.inl (μ o i.toNat) :: r) μ
  | .iastore => pAS st fun o i v r => (510 ≤ o ∧ o < 510 + δ.2.1) ∧ 0 ≤ i ∧ i < (δ.2.2 o : Int) ∧ k δ ls r (ms μ o i.toNat v)
  | .newarray .int => p1 st fun x r => r = [] ∧ (0 ≤ x ∧ x ≤ 48 ∧ δ.1 < G) ∧ noR (510 + δ.2.1) ls ∧ k (δ.1 + 1, δ.2.1 + 1, upl δ.2.2 (510 + δ.2.1) x.toNat) ls [.inr (.inr (510 + δ.2.1))] (zr μ (510 + δ.2.1))
  | .ireturn => p1 st fun x r => r = [] ∧ δ.1 ≤ G ∧ (a = 1 → x = 0 ∨ x = 1) ∧ Q (.inl x) μ
  | .invokevirtual _ => tk b st fun vs r => lenC 6 r ∧ rcv0 vs ∧ Call σ1 6 a vs μ fun v μ' => (∀ k, 510 ≤ k → μ' k = μ k) ∧ P δ (pc + 3) ls (v :: r) μ'
  | .invokestatic _ => tk5 b st fun vs r => lenC 6 r ∧ δ.1 + mcL a ≤ G ∧ call a vs δ μ fun v μ' => P (δ.1 + mcL a, δ.2) (pc + 3) ls (v :: r) μ'
  | _ => False
def seg2 (y : Nat → Int) (L G : Nat) (P : Dy → PT) (call : CT2) (Q : QT) : List Ent → Nat → Dy → Ls → List MV → Mem → Prop
  | [], nx, δ, ls, st, μ => P δ nx ls st μ
  | (pc, i, a, b, _, _) :: r, nx, δ, ls, st, μ => stp2 y L G P call Q pc i a b (fun δ ls st μ => seg2 y L G P call Q r nx δ ls st μ) δ ls st μ
def wp2 (y : Nat → Int) (L G : Nat) (call : CT2) (mi : Nat) (Q : QT) (δ : Dy) (pc : Nat) (ls : Ls) (st : List MV) (μ : Mem) : Prop :=
  True ∧ ∀ P : Dy → PT, (∀ pc l nx δ ls st μ, blkL mi pc = some (l, nx) → seg2 y L G P call Q l nx δ ls st μ → P δ pc ls st μ) → P δ pc ls st μ
def iniL2 (mi : Nat) (vs : List MV) : Ls := argL vs ++ List.replicate (lL mi - (argL vs).length) none
def Call2 (y : Nat → Int) (L : Nat) : Nat → CT2
  | 0 => fun _ _ _ _ _ => False
  | d + 1 => fun mi vs δ μ Q => vs.length = nL2 mi ∧ (argL vs).length ≤ lL mi ∧ wp2 y L (mcL mi) (Call2 y L d) mi Q (0, δ.2) 0 (iniL2 mi vs) [] μ
theorem tg_iconst {y : Nat → Int} {L G : Nat} {P : Dy → PT} {call : CT2} {Q : QT} {pc a b c x1 nx : Nat} {r : List Ent} {δ : Dy} {ls : Ls} {st : List MV} {μ : Mem} {n : Int} : seg2 y L G P call Q ((pc, .iconst n, a, b, c, x1) :: r) nx δ ls st μ = (seg2 y L G P call Q r nx δ ls (Sum.inl n :: st) μ) := rfl
theorem tg_bipush {y : Nat → Int} {L G : Nat} {P : Dy → PT} {call : CT2} {Q : QT} {pc a b c x1 nx : Nat} {r : List Ent} {δ : Dy} {ls : Ls} {st : List MV} {μ : Mem} {n : Int} : seg2 y L G P call Q ((pc, .bipush n, a, b, c, x1) :: r) nx δ ls st μ = (seg2 y L G P call Q r nx δ ls (Sum.inl n :: st) μ) := rfl
theorem tg_sipush {y : Nat → Int} {L G : Nat} {P : Dy → PT} {call : CT2} {Q : QT} {pc a b c x1 nx : Nat} {r : List Ent} {δ : Dy} {ls : Ls} {st : List MV} {μ : Mem} {n : Int} : seg2 y L G P call Q ((pc, .sipush n, a, b, c, x1) :: r) nx δ ls st μ = (seg2 y L G P call Q r nx δ ls (Sum.inl n :: st) μ) := rfl
theorem tg_ldc {y : Nat → Int} {L G : Nat} {P : Dy → PT} {call : CT2} {Q : QT} {pc a b c x1 nx : Nat} {r : List Ent} {δ : Dy} {ls : Ls} {st : List MV} {μ : Mem} {n : Nat} : seg2 y L G P call Q ((pc, .ldc n, a, b, c, x1) :: r) nx δ ls st μ = (seg2 y L G P call Q r nx δ ls (Sum.inl (a : Int) :: st) μ) := rfl
theorem tg_iload_0 {y : Nat → Int} {L G : Nat} {P : Dy → PT} {call : CT2} {Q : QT} {pc a b c x1 nx : Nat} {r : List Ent} {δ : Dy} {ls : Ls} {st : List MV} {μ : Mem} {t : Ls} {x : Int} : seg2 y L G P call Q ((pc, .iload_n 0, a, b, c, x1) :: r) nx δ (some (Sum.inl x) :: t) st μ = (seg2 y L G P call Q r nx δ (some (Sum.inl x) :: t) (Sum.inl x :: st) μ) := rfl
theorem tg_iload_1 {y : Nat → Int} {L G : Nat} {P : Dy → PT} {call : CT2} {Q : QT} {pc a b c x1 nx : Nat} {r : List Ent} {δ : Dy} {ls : Ls} {st : List MV} {μ : Mem} {t : Ls} {x : Int} {h0 : Option MV} : seg2 y L G P call Q ((pc, .iload_n 1, a, b, c, x1) :: r) nx δ (h0 :: some (Sum.inl x) :: t) st μ = (seg2 y L G P call Q r nx δ (h0 :: some (Sum.inl x) :: t) (Sum.inl x :: st) μ) := rfl
theorem tg_iload_2 {y : Nat → Int} {L G : Nat} {P : Dy → PT} {call : CT2} {Q : QT} {pc a b c x1 nx : Nat} {r : List Ent} {δ : Dy} {ls : Ls} {st : List MV} {μ : Mem} {t : Ls} {x : Int} {h0 : Option MV} {h1 : Option MV} : seg2 y L G P call Q ((pc, .iload_n 2, a, b, c, x1) :: r) nx δ (h0 :: h1 :: some (Sum.inl x) :: t) st μ = (seg2 y L G P call Q r nx δ (h0 :: h1 :: some (Sum.inl x) :: t) (Sum.inl x :: st) μ) := rfl
theorem tg_iload_3 {y : Nat → Int} {L G : Nat} {P : Dy → PT} {call : CT2} {Q : QT} {pc a b c x1 nx : Nat} {r : List Ent} {δ : Dy} {ls : Ls} {st : List MV} {μ : Mem} {t : Ls} {x : Int} {h0 : Option MV} {h1 : Option MV} {h2 : Option MV} : seg2 y L G P call Q ((pc, .iload_n 3, a, b, c, x1) :: r) nx δ (h0 :: h1 :: h2 :: some (Sum.inl x) :: t) st μ = (seg2 y L G P call Q r nx δ (h0 :: h1 :: h2 :: some (Sum.inl x) :: t) (Sum.inl x :: st) μ) := rfl
theorem tg_aload_0 {y : Nat → Int} {L G : Nat} {P : Dy → PT} {call : CT2} {Q : QT} {pc a b c x1 nx : Nat} {r : List Ent} {δ : Dy} {ls : Ls} {st : List MV} {μ : Mem} {t : Ls} {x : Nat} : seg2 y L G P call Q ((pc, .aload_n 0, a, b, c, x1) :: r) nx δ (some (Sum.inr (Sum.inr x)) :: t) st μ = (seg2 y L G P call Q r nx δ (some (Sum.inr (Sum.inr x)) :: t) (Sum.inr (Sum.inr x) :: st) μ) := rfl
theorem tg_aload_1 {y : Nat → Int} {L G : Nat} {P : Dy → PT} {call : CT2} {Q : QT} {pc a b c x1 nx : Nat} {r : List Ent} {δ : Dy} {ls : Ls} {st : List MV} {μ : Mem} {t : Ls} {x : Nat} {h0 : Option MV} : seg2 y L G P call Q ((pc, .aload_n 1, a, b, c, x1) :: r) nx δ (h0 :: some (Sum.inr (Sum.inr x)) :: t) st μ = (seg2 y L G P call Q r nx δ (h0 :: some (Sum.inr (Sum.inr x)) :: t) (Sum.inr (Sum.inr x) :: st) μ) := rfl
theorem tg_aload_2 {y : Nat → Int} {L G : Nat} {P : Dy → PT} {call : CT2} {Q : QT} {pc a b c x1 nx : Nat} {r : List Ent} {δ : Dy} {ls : Ls} {st : List MV} {μ : Mem} {t : Ls} {x : Nat} {h0 : Option MV} {h1 : Option MV} : seg2 y L G P call Q ((pc, .aload_n 2, a, b, c, x1) :: r) nx δ (h0 :: h1 :: some (Sum.inr (Sum.inr x)) :: t) st μ = (seg2 y L G P call Q r nx δ (h0 :: h1 :: some (Sum.inr (Sum.inr x)) :: t) (Sum.inr (Sum.inr x) :: st) μ) := rfl
theorem tg_aload_3 {y : Nat → Int} {L G : Nat} {P : Dy → PT} {call : CT2} {Q : QT} {pc a b c x1 nx : Nat} {r : List Ent} {δ : Dy} {ls : Ls} {st : List MV} {μ : Mem} {t : Ls} {x : Nat} {h0 : Option MV} {h1 : Option MV} {h2 : Option MV} : seg2 y L G P call Q ((pc, .aload_n 3, a, b, c, x1) :: r) nx δ (h0 :: h1 :: h2 :: some (Sum.inr (Sum.inr x)) :: t) st μ = (seg2 y L G P call Q r nx δ (h0 :: h1 :: h2 :: some (Sum.inr (Sum.inr x)) :: t) (Sum.inr (Sum.inr x) :: st) μ) := rfl
theorem tg_iload {y : Nat → Int} {L G : Nat} {P : Dy → PT} {call : CT2} {Q : QT} {pc a b c x1 nx : Nat} {r : List Ent} {δ : Dy} {ls : Ls} {st : List MV} {μ : Mem} {n : Nat} : seg2 y L G P call Q ((pc, .iload n, a, b, c, x1) :: r) nx δ ls st μ = (ldI ls n fun x => seg2 y L G P call Q r nx δ ls (Sum.inl x :: st) μ) := rfl
theorem tg_aload {y : Nat → Int} {L G : Nat} {P : Dy → PT} {call : CT2} {Q : QT} {pc a b c x1 nx : Nat} {r : List Ent} {δ : Dy} {ls : Ls} {st : List MV} {μ : Mem} {n : Nat} : seg2 y L G P call Q ((pc, .aload n, a, b, c, x1) :: r) nx δ ls st μ = (ldR ls n fun x => seg2 y L G P call Q r nx δ ls (Sum.inr (Sum.inr x) :: st) μ) := rfl
theorem tg_istore_0 {y : Nat → Int} {L G : Nat} {P : Dy → PT} {call : CT2} {Q : QT} {pc a b c x1 nx : Nat} {r : List Ent} {δ : Dy} {ls : Ls} {st : List MV} {μ : Mem} {t : Ls} {x : Int} {h : Option MV} : seg2 y L G P call Q ((pc, .istore_n 0, a, b, c, x1) :: r) nx δ (h :: t) (Sum.inl x :: st) μ = (True ∧ seg2 y L G P call Q r nx δ (some (Sum.inl x) :: t) st μ) := rfl
theorem tg_istore_1 {y : Nat → Int} {L G : Nat} {P : Dy → PT} {call : CT2} {Q : QT} {pc a b c x1 nx : Nat} {r : List Ent} {δ : Dy} {ls : Ls} {st : List MV} {μ : Mem} {t : Ls} {x : Int} {h : Option MV} {h0 : Option MV} : seg2 y L G P call Q ((pc, .istore_n 1, a, b, c, x1) :: r) nx δ (h0 :: h :: t) (Sum.inl x :: st) μ = (nLg h0 ∧ seg2 y L G P call Q r nx δ (h0 :: some (Sum.inl x) :: t) st μ) := rfl
theorem tg_istore_2 {y : Nat → Int} {L G : Nat} {P : Dy → PT} {call : CT2} {Q : QT} {pc a b c x1 nx : Nat} {r : List Ent} {δ : Dy} {ls : Ls} {st : List MV} {μ : Mem} {t : Ls} {x : Int} {h : Option MV} {h0 : Option MV} {h1 : Option MV} : seg2 y L G P call Q ((pc, .istore_n 2, a, b, c, x1) :: r) nx δ (h0 :: h1 :: h :: t) (Sum.inl x :: st) μ = (nLg h1 ∧ seg2 y L G P call Q r nx δ (h0 :: h1 :: some (Sum.inl x) :: t) st μ) := rfl
theorem tg_istore_3 {y : Nat → Int} {L G : Nat} {P : Dy → PT} {call : CT2} {Q : QT} {pc a b c x1 nx : Nat} {r : List Ent} {δ : Dy} {ls : Ls} {st : List MV} {μ : Mem} {t : Ls} {x : Int} {h : Option MV} {h0 : Option MV} {h1 : Option MV} {h2 : Option MV} : seg2 y L G P call Q ((pc, .istore_n 3, a, b, c, x1) :: r) nx δ (h0 :: h1 :: h2 :: h :: t) (Sum.inl x :: st) μ = (nLg h2 ∧ seg2 y L G P call Q r nx δ (h0 :: h1 :: h2 :: some (Sum.inl x) :: t) st μ) := rfl
theorem tg_istore {y : Nat → Int} {L G : Nat} {P : Dy → PT} {call : CT2} {Q : QT} {pc a b c x1 nx : Nat} {r : List Ent} {δ : Dy} {ls : Ls} {st : List MV} {μ : Mem} {n : Nat} {x : Int} : seg2 y L G P call Q ((pc, .istore n, a, b, c, x1) :: r) nx δ ls (Sum.inl x :: st) μ = (okS ls n ∧ seg2 y L G P call Q r nx δ (stL ls n (some (Sum.inl x))) st μ) := rfl
theorem tg_astore_0 {y : Nat → Int} {L G : Nat} {P : Dy → PT} {call : CT2} {Q : QT} {pc a b c x1 nx : Nat} {r : List Ent} {δ : Dy} {ls : Ls} {st : List MV} {μ : Mem} {t : Ls} {x : Nat} {h : Option MV} : seg2 y L G P call Q ((pc, .astore_n 0, a, b, c, x1) :: r) nx δ (h :: t) (Sum.inr (Sum.inr x) :: st) μ = (True ∧ seg2 y L G P call Q r nx δ (some (Sum.inr (Sum.inr x)) :: t) st μ) := rfl
theorem tg_astore_1 {y : Nat → Int} {L G : Nat} {P : Dy → PT} {call : CT2} {Q : QT} {pc a b c x1 nx : Nat} {r : List Ent} {δ : Dy} {ls : Ls} {st : List MV} {μ : Mem} {t : Ls} {x : Nat} {h : Option MV} {h0 : Option MV} : seg2 y L G P call Q ((pc, .astore_n 1, a, b, c, x1) :: r) nx δ (h0 :: h :: t) (Sum.inr (Sum.inr x) :: st) μ = (nLg h0 ∧ seg2 y L G P call Q r nx δ (h0 :: some (Sum.inr (Sum.inr x)) :: t) st μ) := rfl
theorem tg_astore_2 {y : Nat → Int} {L G : Nat} {P : Dy → PT} {call : CT2} {Q : QT} {pc a b c x1 nx : Nat} {r : List Ent} {δ : Dy} {ls : Ls} {st : List MV} {μ : Mem} {t : Ls} {x : Nat} {h : Option MV} {h0 : Option MV} {h1 : Option MV} : seg2 y L G P call Q ((pc, .astore_n 2, a, b, c, x1) :: r) nx δ (h0 :: h1 :: h :: t) (Sum.inr (Sum.inr x) :: st) μ = (nLg h1 ∧ seg2 y L G P call Q r nx δ (h0 :: h1 :: some (Sum.inr (Sum.inr x)) :: t) st μ) := rfl
theorem tg_astore_3 {y : Nat → Int} {L G : Nat} {P : Dy → PT} {call : CT2} {Q : QT} {pc a b c x1 nx : Nat} {r : List Ent} {δ : Dy} {ls : Ls} {st : List MV} {μ : Mem} {t : Ls} {x : Nat} {h : Option MV} {h0 : Option MV} {h1 : Option MV} {h2 : Option MV} : seg2 y L G P call Q ((pc, .astore_n 3, a, b, c, x1) :: r) nx δ (h0 :: h1 :: h2 :: h :: t) (Sum.inr (Sum.inr x) :: st) μ = (nLg h2 ∧ seg2 y L G P call Q r nx δ (h0 :: h1 :: h2 :: some (Sum.inr (Sum.inr x)) :: t) st μ) := rfl
theorem tg_astore {y : Nat → Int} {L G : Nat} {P : Dy → PT} {call : CT2} {Q : QT} {pc a b c x1 nx : Nat} {r : List Ent} {δ : Dy} {ls : Ls} {st : List MV} {μ : Mem} {n : Nat} {x : Nat} : seg2 y L G P call Q ((pc, .astore n, a, b, c, x1) :: r) nx δ ls (Sum.inr (Sum.inr x) :: st) μ = (okS ls n ∧ seg2 y L G P call Q r nx δ (stL ls n (some (Sum.inr (Sum.inr x)))) st μ) := rfl
theorem tg_iinc {y : Nat → Int} {L G : Nat} {P : Dy → PT} {call : CT2} {Q : QT} {pc a b c x1 nx : Nat} {r : List Ent} {δ : Dy} {ls : Ls} {st : List MV} {μ : Mem} {n : Nat} {d : Int} : seg2 y L G P call Q ((pc, .iinc n d, a, b, c, x1) :: r) nx δ ls st μ = (ldI ls n fun x => okS ls n ∧ seg2 y L G P call Q r nx δ (stL ls n (some (Sum.inl (x + d)))) st μ) := rfl
theorem tg_iadd {y : Nat → Int} {L G : Nat} {P : Dy → PT} {call : CT2} {Q : QT} {pc a b c x1 nx : Nat} {r : List Ent} {δ : Dy} {ls : Ls} {st : List MV} {μ : Mem} {x z : Int} : seg2 y L G P call Q ((pc, .iadd, a, b, c, x1) :: r) nx δ ls (Sum.inl z :: Sum.inl x :: st) μ = (seg2 y L G P call Q r nx δ ls (Sum.inl (x + z) :: st) μ) := rfl
theorem tg_isub {y : Nat → Int} {L G : Nat} {P : Dy → PT} {call : CT2} {Q : QT} {pc a b c x1 nx : Nat} {r : List Ent} {δ : Dy} {ls : Ls} {st : List MV} {μ : Mem} {x z : Int} : seg2 y L G P call Q ((pc, .isub, a, b, c, x1) :: r) nx δ ls (Sum.inl z :: Sum.inl x :: st) μ = (seg2 y L G P call Q r nx δ ls (Sum.inl (x - z) :: st) μ) := rfl
theorem tg_imul {y : Nat → Int} {L G : Nat} {P : Dy → PT} {call : CT2} {Q : QT} {pc a b c x1 nx : Nat} {r : List Ent} {δ : Dy} {ls : Ls} {st : List MV} {μ : Mem} {x z : Int} : seg2 y L G P call Q ((pc, .imul, a, b, c, x1) :: r) nx δ ls (Sum.inl z :: Sum.inl x :: st) μ = (seg2 y L G P call Q r nx δ ls (Sum.inl (x * z) :: st) μ) := rfl
theorem tg_iand {y : Nat → Int} {L G : Nat} {P : Dy → PT} {call : CT2} {Q : QT} {pc a b c x1 nx : Nat} {r : List Ent} {δ : Dy} {ls : Ls} {st : List MV} {μ : Mem} {x z : Int} : seg2 y L G P call Q ((pc, .iand, a, b, c, x1) :: r) nx δ ls (Sum.inl z :: Sum.inl x :: st) μ = (seg2 y L G P call Q r nx δ ls (Sum.inl (iAnd x z) :: st) μ) := rfl
theorem tg_ior {y : Nat → Int} {L G : Nat} {P : Dy → PT} {call : CT2} {Q : QT} {pc a b c x1 nx : Nat} {r : List Ent} {δ : Dy} {ls : Ls} {st : List MV} {μ : Mem} {x z : Int} : seg2 y L G P call Q ((pc, .ior, a, b, c, x1) :: r) nx δ ls (Sum.inl z :: Sum.inl x :: st) μ = (seg2 y L G P call Q r nx δ ls (Sum.inl (iOr x z) :: st) μ) := rfl
theorem tg_ishl {y : Nat → Int} {L G : Nat} {P : Dy → PT} {call : CT2} {Q : QT} {pc a b c x1 nx : Nat} {r : List Ent} {δ : Dy} {ls : Ls} {st : List MV} {μ : Mem} {x z : Int} : seg2 y L G P call Q ((pc, .ishl, a, b, c, x1) :: r) nx δ ls (Sum.inl z :: Sum.inl x :: st) μ = (seg2 y L G P call Q r nx δ ls (Sum.inl (iShl x z) :: st) μ) := rfl
theorem tg_ishr {y : Nat → Int} {L G : Nat} {P : Dy → PT} {call : CT2} {Q : QT} {pc a b c x1 nx : Nat} {r : List Ent} {δ : Dy} {ls : Ls} {st : List MV} {μ : Mem} {x z : Int} : seg2 y L G P call Q ((pc, .ishr, a, b, c, x1) :: r) nx δ ls (Sum.inl z :: Sum.inl x :: st) μ = (seg2 y L G P call Q r nx δ ls (Sum.inl (iShr x z) :: st) μ) := rfl
theorem tg_idiv {y : Nat → Int} {L G : Nat} {P : Dy → PT} {call : CT2} {Q : QT} {pc a b c x1 nx : Nat} {r : List Ent} {δ : Dy} {ls : Ls} {st : List MV} {μ : Mem} {x z : Int} : seg2 y L G P call Q ((pc, .idiv, a, b, c, x1) :: r) nx δ ls (Sum.inl z :: Sum.inl x :: st) μ = ((0 ≤ x ∧ inR x) ∧ (0 < z ∧ inR z) ∧ seg2 y L G P call Q r nx δ ls (Sum.inl (x / z) :: st) μ) := rfl
theorem tg_irem {y : Nat → Int} {L G : Nat} {P : Dy → PT} {call : CT2} {Q : QT} {pc a b c x1 nx : Nat} {r : List Ent} {δ : Dy} {ls : Ls} {st : List MV} {μ : Mem} {x z : Int} : seg2 y L G P call Q ((pc, .irem, a, b, c, x1) :: r) nx δ ls (Sum.inl z :: Sum.inl x :: st) μ = ((0 ≤ x ∧ inR x) ∧ (0 < z ∧ inR z) ∧ seg2 y L G P call Q r nx δ ls (Sum.inl (x % z) :: st) μ) := rfl
theorem tg_pop {y : Nat → Int} {L G : Nat} {P : Dy → PT} {call : CT2} {Q : QT} {pc a b c x1 nx : Nat} {r : List Ent} {δ : Dy} {ls : Ls} {st : List MV} {μ : Mem} {x : Int} : seg2 y L G P call Q ((pc, .pop, a, b, c, x1) :: r) nx δ ls (Sum.inl x :: st) μ = (seg2 y L G P call Q r nx δ ls st μ) := rfl
theorem tg_goto {y : Nat → Int} {L G : Nat} {P : Dy → PT} {call : CT2} {Q : QT} {pc a b c x1 nx : Nat} {r : List Ent} {δ : Dy} {ls : Ls} {st : List MV} {μ : Mem} {n : Int} : seg2 y L G P call Q ((pc, .goto n, a, b, c, x1) :: r) nx δ ls st μ = (P δ a ls st μ) := rfl
theorem tg_if_eq {y : Nat → Int} {L G : Nat} {P : Dy → PT} {call : CT2} {Q : QT} {pc a b c x1 nx : Nat} {r : List Ent} {δ : Dy} {ls : Ls} {st : List MV} {μ : Mem} {n x : Int} : seg2 y L G P call Q ((pc, .ifCond .eq n, a, b, c, x1) :: r) nx δ ls (Sum.inl x :: st) μ = ((x = 0 → P δ a ls st μ) ∧ (x ≠ 0 → inR x ∧ inR 0 ∧ seg2 y L G P call Q r nx δ ls st μ)) := rfl
theorem tg_ic_eq {y : Nat → Int} {L G : Nat} {P : Dy → PT} {call : CT2} {Q : QT} {pc a b c x1 nx : Nat} {r : List Ent} {δ : Dy} {ls : Ls} {st : List MV} {μ : Mem} {n x z : Int} : seg2 y L G P call Q ((pc, .if_icmp .eq n, a, b, c, x1) :: r) nx δ ls (Sum.inl z :: Sum.inl x :: st) μ = ((x = z → P δ a ls st μ) ∧ (x ≠ z → inR x ∧ inR z ∧ seg2 y L G P call Q r nx δ ls st μ)) := rfl
theorem tg_if_ne {y : Nat → Int} {L G : Nat} {P : Dy → PT} {call : CT2} {Q : QT} {pc a b c x1 nx : Nat} {r : List Ent} {δ : Dy} {ls : Ls} {st : List MV} {μ : Mem} {n x : Int} : seg2 y L G P call Q ((pc, .ifCond .ne n, a, b, c, x1) :: r) nx δ ls (Sum.inl x :: st) μ = ((x = 0 → seg2 y L G P call Q r nx δ ls st μ) ∧ (x ≠ 0 → inR x ∧ inR 0 ∧ P δ a ls st μ)) := rfl
theorem tg_ic_ne {y : Nat → Int} {L G : Nat} {P : Dy → PT} {call : CT2} {Q : QT} {pc a b c x1 nx : Nat} {r : List Ent} {δ : Dy} {ls : Ls} {st : List MV} {μ : Mem} {n x z : Int} : seg2 y L G P call Q ((pc, .if_icmp .ne n, a, b, c, x1) :: r) nx δ ls (Sum.inl z :: Sum.inl x :: st) μ = ((x = z → seg2 y L G P call Q r nx δ ls st μ) ∧ (x ≠ z → inR x ∧ inR z ∧ P δ a ls st μ)) := rfl
theorem tg_if_lt {y : Nat → Int} {L G : Nat} {P : Dy → PT} {call : CT2} {Q : QT} {pc a b c x1 nx : Nat} {r : List Ent} {δ : Dy} {ls : Ls} {st : List MV} {μ : Mem} {n x : Int} : seg2 y L G P call Q ((pc, .ifCond .lt n, a, b, c, x1) :: r) nx δ ls (Sum.inl x :: st) μ = (inR x ∧ inR 0 ∧ (x < 0 → P δ a ls st μ) ∧ (0 ≤ x → seg2 y L G P call Q r nx δ ls st μ)) := rfl
theorem tg_ic_lt {y : Nat → Int} {L G : Nat} {P : Dy → PT} {call : CT2} {Q : QT} {pc a b c x1 nx : Nat} {r : List Ent} {δ : Dy} {ls : Ls} {st : List MV} {μ : Mem} {n x z : Int} : seg2 y L G P call Q ((pc, .if_icmp .lt n, a, b, c, x1) :: r) nx δ ls (Sum.inl z :: Sum.inl x :: st) μ = (inR x ∧ inR z ∧ (x < z → P δ a ls st μ) ∧ (z ≤ x → seg2 y L G P call Q r nx δ ls st μ)) := rfl
theorem tg_if_ge {y : Nat → Int} {L G : Nat} {P : Dy → PT} {call : CT2} {Q : QT} {pc a b c x1 nx : Nat} {r : List Ent} {δ : Dy} {ls : Ls} {st : List MV} {μ : Mem} {n x : Int} : seg2 y L G P call Q ((pc, .ifCond .ge n, a, b, c, x1) :: r) nx δ ls (Sum.inl x :: st) μ = (inR x ∧ inR 0 ∧ (x < 0 → seg2 y L G P call Q r nx δ ls st μ) ∧ (0 ≤ x → P δ a ls st μ)) := rfl
theorem tg_ic_ge {y : Nat → Int} {L G : Nat} {P : Dy → PT} {call : CT2} {Q : QT} {pc a b c x1 nx : Nat} {r : List Ent} {δ : Dy} {ls : Ls} {st : List MV} {μ : Mem} {n x z : Int} : seg2 y L G P call Q ((pc, .if_icmp .ge n, a, b, c, x1) :: r) nx δ ls (Sum.inl z :: Sum.inl x :: st) μ = (inR x ∧ inR z ∧ (x < z → seg2 y L G P call Q r nx δ ls st μ) ∧ (z ≤ x → P δ a ls st μ)) := rfl
theorem tg_if_gt {y : Nat → Int} {L G : Nat} {P : Dy → PT} {call : CT2} {Q : QT} {pc a b c x1 nx : Nat} {r : List Ent} {δ : Dy} {ls : Ls} {st : List MV} {μ : Mem} {n x : Int} : seg2 y L G P call Q ((pc, .ifCond .gt n, a, b, c, x1) :: r) nx δ ls (Sum.inl x :: st) μ = (inR 0 ∧ inR x ∧ (0 < x → P δ a ls st μ) ∧ (x ≤ 0 → seg2 y L G P call Q r nx δ ls st μ)) := rfl
theorem tg_ic_gt {y : Nat → Int} {L G : Nat} {P : Dy → PT} {call : CT2} {Q : QT} {pc a b c x1 nx : Nat} {r : List Ent} {δ : Dy} {ls : Ls} {st : List MV} {μ : Mem} {n x z : Int} : seg2 y L G P call Q ((pc, .if_icmp .gt n, a, b, c, x1) :: r) nx δ ls (Sum.inl z :: Sum.inl x :: st) μ = (inR z ∧ inR x ∧ (z < x → P δ a ls st μ) ∧ (x ≤ z → seg2 y L G P call Q r nx δ ls st μ)) := rfl
theorem tg_if_le {y : Nat → Int} {L G : Nat} {P : Dy → PT} {call : CT2} {Q : QT} {pc a b c x1 nx : Nat} {r : List Ent} {δ : Dy} {ls : Ls} {st : List MV} {μ : Mem} {n x : Int} : seg2 y L G P call Q ((pc, .ifCond .le n, a, b, c, x1) :: r) nx δ ls (Sum.inl x :: st) μ = (inR 0 ∧ inR x ∧ (0 < x → seg2 y L G P call Q r nx δ ls st μ) ∧ (x ≤ 0 → P δ a ls st μ)) := rfl
theorem tg_ic_le {y : Nat → Int} {L G : Nat} {P : Dy → PT} {call : CT2} {Q : QT} {pc a b c x1 nx : Nat} {r : List Ent} {δ : Dy} {ls : Ls} {st : List MV} {μ : Mem} {n x z : Int} : seg2 y L G P call Q ((pc, .if_icmp .le n, a, b, c, x1) :: r) nx δ ls (Sum.inl z :: Sum.inl x :: st) μ = (inR z ∧ inR x ∧ (z < x → seg2 y L G P call Q r nx δ ls st μ) ∧ (x ≤ z → P δ a ls st μ)) := rfl
theorem tg_alen {y : Nat → Int} {L G : Nat} {P : Dy → PT} {call : CT2} {Q : QT} {pc a b c x1 nx : Nat} {r : List Ent} {δ : Dy} {ls : Ls} {st : List MV} {μ : Mem} {o : Nat} : seg2 y L G P call Q ((pc, .arraylength, a, b, c, x1) :: r) nx δ ls (Sum.inr (Sum.inr o) :: st) μ = (o = 1 ∧ seg2 y L G P call Q r nx δ ls (Sum.inl (L : Int) :: st) μ) := rfl
theorem tg_sld {y : Nat → Int} {L G : Nat} {P : Dy → PT} {call : CT2} {Q : QT} {pc b c x1 nx : Nat} {r : List Ent} {δ : Dy} {ls : Ls} {st : List MV} {μ : Mem} {i : Int} {o : Nat} : seg2 y L G P call Q ((pc, .iaload, 1, b, c, x1) :: r) nx δ ls (Sum.inl i :: Sum.inr (Sum.inr o) :: st) μ = (o = 1 ∧ 0 ≤ i ∧ i < (L : Int) ∧ seg2 y L G P call Q r nx δ ls (Sum.inl (y i.toNat) :: st) μ) := rfl
theorem tg_iaload {y : Nat → Int} {L G : Nat} {P : Dy → PT} {call : CT2} {Q : QT} {pc b c x1 nx : Nat} {r : List Ent} {δ : Dy} {ls : Ls} {st : List MV} {μ : Mem} {i : Int} {o : Nat} : seg2 y L G P call Q ((pc, .iaload, 0, b, c, x1) :: r) nx δ ls (Sum.inl i :: Sum.inr (Sum.inr o) :: st) μ = ((510 ≤ o ∧ o < 510 + δ.2.1) ∧ 0 ≤ i ∧ i < (δ.2.2 o : Int) ∧ seg2 y L G P call Q r nx δ ls (Sum.inl (μ o i.toNat) :: st) μ) := rfl
theorem tg_iastore {y : Nat → Int} {L G : Nat} {P : Dy → PT} {call : CT2} {Q : QT} {pc a b c x1 nx : Nat} {r : List Ent} {δ : Dy} {ls : Ls} {st : List MV} {μ : Mem} {v i : Int} {o : Nat} : seg2 y L G P call Q ((pc, .iastore, a, b, c, x1) :: r) nx δ ls (Sum.inl v :: Sum.inl i :: Sum.inr (Sum.inr o) :: st) μ = ((510 ≤ o ∧ o < 510 + δ.2.1) ∧ 0 ≤ i ∧ i < (δ.2.2 o : Int) ∧ seg2 y L G P call Q r nx δ ls st (ms μ o i.toNat v)) := rfl
theorem tg_newa {y : Nat → Int} {L G : Nat} {P : Dy → PT} {call : CT2} {Q : QT} {pc a b c x1 nx : Nat} {r : List Ent} {δ : Dy} {ls : Ls} {st : List MV} {μ : Mem} {x : Int} : seg2 y L G P call Q ((pc, .newarray .int, a, b, c, x1) :: r) nx δ ls [Sum.inl x] μ = (([] : List MV) = [] ∧ (0 ≤ x ∧ x ≤ 48 ∧ δ.1 < G) ∧ noR (510 + δ.2.1) ls ∧ seg2 y L G P call Q r nx (δ.1 + 1, δ.2.1 + 1, upl δ.2.2 (510 + δ.2.1) x.toNat) ls [Sum.inr (Sum.inr (510 + δ.2.1))] (zr μ (510 + δ.2.1))) := rfl
theorem tg_iret0 {y : Nat → Int} {L G : Nat} {P : Dy → PT} {call : CT2} {Q : QT} {pc b c x1 nx : Nat} {r : List Ent} {δ : Dy} {ls : Ls} {μ : Mem} {x : Int} : seg2 y L G P call Q ((pc, .ireturn, 0, b, c, x1) :: r) nx δ ls [Sum.inl x] μ = (δ.1 ≤ G ∧ Q (Sum.inl x) μ) := by
  show (([] : List MV) = [] ∧ δ.1 ≤ G ∧ ((0 : Nat) = 1 → x = 0 ∨ x = 1) ∧ Q (.inl x) μ) = _
  simp
theorem tg_iret1 {y : Nat → Int} {L G : Nat} {P : Dy → PT} {call : CT2} {Q : QT} {pc b c x1 nx : Nat} {r : List Ent} {δ : Dy} {ls : Ls} {μ : Mem} {x : Int} : seg2 y L G P call Q ((pc, .ireturn, 1, b, c, x1) :: r) nx δ ls [Sum.inl x] μ = (δ.1 ≤ G ∧ (x = 0 ∨ x = 1) ∧ Q (Sum.inl x) μ) := by
  show (([] : List MV) = [] ∧ δ.1 ≤ G ∧ ((1 : Nat) = 1 → x = 0 ∨ x = 1) ∧ Q (.inl x) μ) = _
  simp
theorem tg_iv1 {y : Nat → Int} {L G : Nat} {P : Dy → PT} {call : CT2} {Q : QT} {pc a c x1 nx : Nat} {r : List Ent} {δ : Dy} {ls : Ls} {st : List MV} {μ : Mem} {n o : Nat} : seg2 y L G P call Q ((pc, .invokevirtual n, a, 1, c, x1) :: r) nx δ ls (Sum.inr (Sum.inr o) :: st) μ = (lenC 6 st ∧ o = 0 ∧ Call σ1 6 a [Sum.inr (Sum.inr o)] μ fun v μ' => (∀ k, 510 ≤ k → μ' k = μ k) ∧ P δ (pc + 3) ls (v :: st) μ') := rfl
theorem tg_iv2 {y : Nat → Int} {L G : Nat} {P : Dy → PT} {call : CT2} {Q : QT} {pc a c x1 nx : Nat} {r : List Ent} {δ : Dy} {ls : Ls} {st : List MV} {μ : Mem} {n o : Nat} {v1 : MV} : seg2 y L G P call Q ((pc, .invokevirtual n, a, 2, c, x1) :: r) nx δ ls (v1 :: Sum.inr (Sum.inr o) :: st) μ = (lenC 6 st ∧ o = 0 ∧ Call σ1 6 a [Sum.inr (Sum.inr o), v1] μ fun v μ' => (∀ k, 510 ≤ k → μ' k = μ k) ∧ P δ (pc + 3) ls (v :: st) μ') := rfl
theorem tg_iv3 {y : Nat → Int} {L G : Nat} {P : Dy → PT} {call : CT2} {Q : QT} {pc a c x1 nx : Nat} {r : List Ent} {δ : Dy} {ls : Ls} {st : List MV} {μ : Mem} {n o : Nat} {v1 v2 : MV} : seg2 y L G P call Q ((pc, .invokevirtual n, a, 3, c, x1) :: r) nx δ ls (v2 :: v1 :: Sum.inr (Sum.inr o) :: st) μ = (lenC 6 st ∧ o = 0 ∧ Call σ1 6 a [Sum.inr (Sum.inr o), v1, v2] μ fun v μ' => (∀ k, 510 ≤ k → μ' k = μ k) ∧ P δ (pc + 3) ls (v :: st) μ') := rfl
theorem tg_iv4 {y : Nat → Int} {L G : Nat} {P : Dy → PT} {call : CT2} {Q : QT} {pc a c x1 nx : Nat} {r : List Ent} {δ : Dy} {ls : Ls} {st : List MV} {μ : Mem} {n o : Nat} {v1 v2 v3 : MV} : seg2 y L G P call Q ((pc, .invokevirtual n, a, 4, c, x1) :: r) nx δ ls (v3 :: v2 :: v1 :: Sum.inr (Sum.inr o) :: st) μ = (lenC 6 st ∧ o = 0 ∧ Call σ1 6 a [Sum.inr (Sum.inr o), v1, v2, v3] μ fun v μ' => (∀ k, 510 ≤ k → μ' k = μ k) ∧ P δ (pc + 3) ls (v :: st) μ') := rfl
theorem tg_is1 {y : Nat → Int} {L G : Nat} {P : Dy → PT} {call : CT2} {Q : QT} {pc a c x1 nx : Nat} {r : List Ent} {δ : Dy} {ls : Ls} {st : List MV} {μ : Mem} {n : Nat} {v0 : MV} : seg2 y L G P call Q ((pc, .invokestatic n, a, 1, c, x1) :: r) nx δ ls (v0 :: st) μ = (lenC 6 st ∧ δ.1 + mcL a ≤ G ∧ call a [v0] δ μ fun v μ' => P (δ.1 + mcL a, δ.2) (pc + 3) ls (v :: st) μ') := rfl
theorem tg_is2 {y : Nat → Int} {L G : Nat} {P : Dy → PT} {call : CT2} {Q : QT} {pc a c x1 nx : Nat} {r : List Ent} {δ : Dy} {ls : Ls} {st : List MV} {μ : Mem} {n : Nat} {v0 v1 : MV} : seg2 y L G P call Q ((pc, .invokestatic n, a, 2, c, x1) :: r) nx δ ls (v1 :: v0 :: st) μ = (lenC 6 st ∧ δ.1 + mcL a ≤ G ∧ call a [v0, v1] δ μ fun v μ' => P (δ.1 + mcL a, δ.2) (pc + 3) ls (v :: st) μ') := rfl
theorem tg_is3 {y : Nat → Int} {L G : Nat} {P : Dy → PT} {call : CT2} {Q : QT} {pc a c x1 nx : Nat} {r : List Ent} {δ : Dy} {ls : Ls} {st : List MV} {μ : Mem} {n : Nat} {v0 v1 v2 : MV} : seg2 y L G P call Q ((pc, .invokestatic n, a, 3, c, x1) :: r) nx δ ls (v2 :: v1 :: v0 :: st) μ = (lenC 6 st ∧ δ.1 + mcL a ≤ G ∧ call a [v0, v1, v2] δ μ fun v μ' => P (δ.1 + mcL a, δ.2) (pc + 3) ls (v :: st) μ') := rfl
theorem tg_is5 {y : Nat → Int} {L G : Nat} {P : Dy → PT} {call : CT2} {Q : QT} {pc a c x1 nx : Nat} {r : List Ent} {δ : Dy} {ls : Ls} {st : List MV} {μ : Mem} {n : Nat} {v0 v1 v2 v3 v4 : MV} : seg2 y L G P call Q ((pc, .invokestatic n, a, 5, c, x1) :: r) nx δ ls (v4 :: v3 :: v2 :: v1 :: v0 :: st) μ = (lenC 6 st ∧ δ.1 + mcL a ≤ G ∧ call a [v0, v1, v2, v3, v4] δ μ fun v μ' => P (δ.1 + mcL a, δ.2) (pc + 3) ls (v :: st) μ') := rfl
theorem tg_nil {y : Nat → Int} {L G : Nat} {P : Dy → PT} {call : CT2} {Q : QT} {nx : Nat} {δ : Dy} {ls : Ls} {st : List MV} {μ : Mem} : seg2 y L G P call Q [] nx δ ls st μ = P δ nx ls st μ := rfl
theorem lc0n : lenC 0 [] = True := rfl
theorem lc1n : lenC 1 [] = True := rfl
theorem lc1i {x : Int} {t : List MV} : lenC 1 (Sum.inl x :: t) = lenC 0 t := rfl
theorem lc1r {x : Nat} {t : List MV} : lenC 1 (Sum.inr (Sum.inr x) :: t) = lenC 0 t := rfl
theorem lc2n : lenC 2 [] = True := rfl
theorem lc2i {x : Int} {t : List MV} : lenC 2 (Sum.inl x :: t) = lenC 1 t := rfl
theorem lc2r {x : Nat} {t : List MV} : lenC 2 (Sum.inr (Sum.inr x) :: t) = lenC 1 t := rfl
theorem lc3n : lenC 3 [] = True := rfl
theorem lc3i {x : Int} {t : List MV} : lenC 3 (Sum.inl x :: t) = lenC 2 t := rfl
theorem lc3r {x : Nat} {t : List MV} : lenC 3 (Sum.inr (Sum.inr x) :: t) = lenC 2 t := rfl
theorem lc4n : lenC 4 [] = True := rfl
theorem lc4i {x : Int} {t : List MV} : lenC 4 (Sum.inl x :: t) = lenC 3 t := rfl
theorem lc4r {x : Nat} {t : List MV} : lenC 4 (Sum.inr (Sum.inr x) :: t) = lenC 3 t := rfl
theorem lc5n : lenC 5 [] = True := rfl
theorem lc5i {x : Int} {t : List MV} : lenC 5 (Sum.inl x :: t) = lenC 4 t := rfl
theorem lc5r {x : Nat} {t : List MV} : lenC 5 (Sum.inr (Sum.inr x) :: t) = lenC 4 t := rfl
theorem lc6n : lenC 6 [] = True := rfl
theorem lc6i {x : Int} {t : List MV} : lenC 6 (Sum.inl x :: t) = lenC 5 t := rfl
theorem lc6r {x : Nat} {t : List MV} : lenC 6 (Sum.inr (Sum.inr x) :: t) = lenC 5 t := rfl
theorem mc_0 : mcL 0 = 0 := rfl
theorem mc_1 : mcL 1 = 0 := rfl
theorem mc_2 : mcL 2 = 0 := rfl
theorem mc_3 : mcL 3 = 0 := rfl
theorem mc_4 : mcL 4 = 2 := rfl
theorem mc_5 : mcL 5 = 2 := rfl
theorem mc_6 : mcL 6 = 2 := rfl
theorem mc_7 : mcL 7 = 26 := rfl
theorem noR_0 {n : Nat} : noR n [] = True := rfl
theorem noR_r {n k : Nat} {t : Ls} : noR n (some (Sum.inr (Sum.inr k)) :: t) = (k ≠ n ∧ noR n t) := rfl
theorem noR_i {n : Nat} {x : Int} {t : Ls} : noR n (some (Sum.inl x) :: t) = noR n t := rfl
theorem noR_n {n : Nat} {t : Ls} : noR n (none :: t) = noR n t := rfl
theorem zr_o {μ : Mem} {k k' : Nat} (h : k' ≠ k) : zr μ k k' = μ k' := by funext j; unfold zr; rw [if_neg h]
theorem zr_s {μ : Mem} {k j : Nat} : zr μ k k j = 0 := by unfold zr; rw [if_pos rfl]
theorem upl_s {f : Nat → Nat} {k v : Nat} : upl f k v k = v := by unfold upl; rw [if_pos rfl]
theorem upl_o {f : Nat → Nat} {k v j : Nat} (h : j ≠ k) : upl f k v j = f j := by unfold upl; rw [if_neg h]
theorem tk5_m {n : Nat} {st : List MV} {f g : List MV → List MV → Prop} (h : ∀ x r, f x r → g x r) : tk5 n st f → tk5 n st g := by
  unfold tk5; split <;> first | exact h _ _ | exact id
def CM2 (call : CT2) : Prop := ∀ mi vs δ μ (Q Q' : QT), (∀ v μ, Q v μ → Q' v μ) → call mi vs δ μ Q → call mi vs δ μ Q'
theorem stp2_m {y : Nat → Int} {L G : Nat} {P P' : Dy → PT} {call : CT2} {Q Q' : QT} {pc a b : Nat} {k k' : Dy → Ls → List MV → Mem → Prop} (hP : ∀ δ pc ls st μ, P δ pc ls st μ → P' δ pc ls st μ) (hQ : ∀ v μ, Q v μ → Q' v μ) (hk : ∀ δ ls st μ, k δ ls st μ → k' δ ls st μ) (hc : CM2 call) {i : Instr} {δ : Dy} {ls : Ls} {st : List MV} {μ : Mem} :
    stp2 y L G P call Q pc i a b k δ ls st μ → stp2 y L G P' call Q' pc i a b k' δ ls st μ := by
  intro h
  cases i with
  | iconst n => exact hk _ _ _ _ h
  | bipush n => exact hk _ _ _ _ h
  | sipush n => exact hk _ _ _ _ h
  | ldc n => exact hk _ _ _ _ h
  | iload n => exact ldI_m (fun x h => hk _ _ _ _ h) h
  | iload_n n => exact ldI_m (fun x h => hk _ _ _ _ h) h
  | aload n => exact ldR_m (fun x h => hk _ _ _ _ h) h
  | aload_n n => exact ldR_m (fun x h => hk _ _ _ _ h) h
  | istore n => exact p1_m (fun x r h => ⟨h.1, hk _ _ _ _ h.2⟩) h
  | istore_n n => exact p1_m (fun x r h => ⟨h.1, hk _ _ _ _ h.2⟩) h
  | astore n => exact pR_m (fun x r h => ⟨h.1, hk _ _ _ _ h.2⟩) h
  | astore_n n => exact pR_m (fun x r h => ⟨h.1, hk _ _ _ _ h.2⟩) h
  | iinc n d => exact ldI_m (fun x h => ⟨h.1, hk _ _ _ _ h.2⟩) h
  | iadd => exact p2_m (fun x y r h => hk _ _ _ _ h) h
  | isub => exact p2_m (fun x y r h => hk _ _ _ _ h) h
  | imul => exact p2_m (fun x y r h => hk _ _ _ _ h) h
  | idiv => exact p2_m (fun x y r h => ⟨h.1, h.2.1, hk _ _ _ _ h.2.2⟩) h
  | irem => exact p2_m (fun x y r h => ⟨h.1, h.2.1, hk _ _ _ _ h.2.2⟩) h
  | iand => exact p2_m (fun x y r h => hk _ _ _ _ h) h
  | ior => exact p2_m (fun x y r h => hk _ _ _ _ h) h
  | ishl => exact p2_m (fun x y r h => hk _ _ _ _ h) h
  | ishr => exact p2_m (fun x y r h => hk _ _ _ _ h) h
  | pop => exact p1_m (fun x r h => hk _ _ _ _ h) h
  | goto o => exact hP _ _ _ _ _ h
  | ifCond cc o => exact p1_m (fun x r h => cnd_m (hP _ _ _ _ _) (hk _ _ _ _) h) h
  | if_icmp cc o => exact p2_m (fun x y r h => cnd_m (hP _ _ _ _ _) (hk _ _ _ _) h) h
  | arraylength => exact pR_m (fun x r h => ⟨h.1, hk _ _ _ _ h.2⟩) h
  | iaload =>
    revert h
    simp only [stp2]
    refine pA_m (fun o i r => ?_)
    split
    · exact fun h => ⟨h.1, h.2.1, h.2.2.1, hk _ _ _ _ h.2.2.2⟩
    · exact fun h => ⟨h.1, h.2.1, h.2.2.1, hk _ _ _ _ h.2.2.2⟩
  | iastore => exact pAS_m (fun x y z r h => ⟨h.1, h.2.1, h.2.2.1, hk _ _ _ _ h.2.2.2⟩) h
  | newarray t =>
    cases t with
    | int => exact p1_m (fun x r h => ⟨h.1, h.2.1, h.2.2.1, hk _ _ _ _ h.2.2.2⟩) h
    | _ => exact (h : False).elim
  | ireturn => exact p1_m (fun x r h => ⟨h.1, h.2.1, h.2.2.1, hQ _ _ h.2.2.2⟩) h
  | invokevirtual n => revert h; simp only [stp2]; exact tk_m (fun vs r h => ⟨h.1, h.2.1, Call_m σ1 6 _ _ _ _ _ (fun v μ h => ⟨h.1, hP _ _ _ _ _ h.2⟩) h.2.2⟩)
  | invokestatic n => revert h; simp only [stp2]; exact tk5_m (fun vs r h => ⟨h.1, h.2.1, hc _ _ _ _ _ _ (fun v μ h => hP _ _ _ _ _ h) h.2.2⟩)
  | _ => exact (h : False).elim
theorem seg2_m {y : Nat → Int} {L G : Nat} {P P' : Dy → PT} {call : CT2} {Q Q' : QT} (hP : ∀ δ pc ls st μ, P δ pc ls st μ → P' δ pc ls st μ) (hQ : ∀ v μ, Q v μ → Q' v μ) (hc : CM2 call) : ∀ {l : List Ent} {nx : Nat} {δ : Dy} {ls : Ls} {st : List MV} {μ : Mem},
    seg2 y L G P call Q l nx δ ls st μ → seg2 y L G P' call Q' l nx δ ls st μ
  | [], _, _, _, _, _, h => hP _ _ _ _ _ h
  | (_, _, _, _, _, _) :: _, _, _, _, _, _, h => stp2_m hP hQ (fun _ _ _ _ h => seg2_m hP hQ hc h) hc h
theorem wp2_m {y : Nat → Int} {L G : Nat} {call : CT2} {mi : Nat} {Q Q' : QT} (hQ : ∀ v μ, Q v μ → Q' v μ) (hc : CM2 call) {δ : Dy} {pc : Nat} {ls : Ls} {st : List MV} {μ : Mem} (h : wp2 y L G call mi Q δ pc ls st μ) : wp2 y L G call mi Q' δ pc ls st μ :=
  ⟨trivial, fun P hP => h.2 P fun pc l nx δ ls st μ hb hs => hP pc l nx δ ls st μ hb (seg2_m (fun _ _ _ _ _ h => h) hQ hc hs)⟩
theorem Call2_m (y : Nat → Int) (L : Nat) : ∀ d : Nat, CM2 (Call2 y L d)
  | 0, _, _, _, _, _, _, _, h => h
  | d + 1, _, _, _, _, _, _, hQ, h => ⟨h.1, h.2.1, wp2_m hQ (Call2_m y L d) h.2.2⟩
theorem wp2_go {y : Nat → Int} {L G d mi : Nat} {Q : QT} {pc : Nat} {l : List Ent} {nx : Nat} {δ : Dy} {ls : Ls} {st : List MV} {μ : Mem} (hb : blkL mi pc = some (l, nx)) (h : seg2 y L G (wp2 y L G (Call2 y L d) mi Q) (Call2 y L d) Q l nx δ ls st μ) : wp2 y L G (Call2 y L d) mi Q δ pc ls st μ :=
  ⟨trivial, fun P hP => hP pc l nx δ ls st μ hb (seg2_m (fun _ _ _ _ _ h => h.2 P hP) (fun _ _ h => h) (Call2_m y L d) h)⟩
theorem Call2_go {y : Nat → Int} {L d mi : Nat} {vs : List MV} {Q : QT} {ls : Ls} {δ : Dy} {μ : Mem} (h1 : vs.length = nL2 mi) (h2 : (argL vs).length ≤ lL mi) (h3 : iniL2 mi vs = ls) (h : wp2 y L (mcL mi) (Call2 y L d) mi Q (0, δ.2) 0 ls [] μ) : Call2 y L (d + 1) mi vs δ μ Q := ⟨h1, h2, by rw [h3]; exact h⟩
end
