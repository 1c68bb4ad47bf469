-- ===== PART A: goes FIRST, ahead of the names: the tables' words, and 'selects' of the private methods out of them =====
/-- a private method of a class that the tables say can be made, by its rows of tables_1 -/
def lw_okq (q : MethodName × Nat) : Prop := (q.1.cls ≠ "java/lang/invoke/MethodHandle" ∧ q.1.cls ≠ "java/lang/invoke/VarHandle") ∧ Cond.instantiable q.1.cls q.2 ∈ tables_1 ∧ Cond.privateMethod q.1 ∈ tables_1 ∧ Cond.instanceMethod q.1 ∈ tables_1
theorem lw_p0 : lw_okq (⟨"NoticeShifts", "hearNow", "(ILNoticeShifts$Hearing;)V"⟩, 7) := ⟨⟨by decide +kernel, by decide +kernel⟩, List.mem_of_getElem? (i := 11) (by decide +kernel), List.mem_of_getElem? (i := 300) (by decide +kernel), List.mem_of_getElem? (i := 301) (by decide +kernel)⟩
theorem lw_p1 : lw_okq (⟨"NoticeShifts", "hearingOf", "(I)LNoticeShifts$Hearing;"⟩, 7) := ⟨⟨by decide +kernel, by decide +kernel⟩, List.mem_of_getElem? (i := 11) (by decide +kernel), List.mem_of_getElem? (i := 322) (by decide +kernel), List.mem_of_getElem? (i := 323) (by decide +kernel)⟩
theorem lw_p2 : lw_okq (⟨"NoticeShifts", "isOutOfDate", "(I)Z"⟩, 7) := ⟨⟨by decide +kernel, by decide +kernel⟩, List.mem_of_getElem? (i := 11) (by decide +kernel), List.mem_of_getElem? (i := 356) (by decide +kernel), List.mem_of_getElem? (i := 357) (by decide +kernel)⟩
theorem lw_p3 : lw_okq (⟨"NoticeShifts", "outOfDateListeners", "()I"⟩, 7) := ⟨⟨by decide +kernel, by decide +kernel⟩, List.mem_of_getElem? (i := 11) (by decide +kernel), List.mem_of_getElem? (i := 388) (by decide +kernel), List.mem_of_getElem? (i := 389) (by decide +kernel)⟩
theorem lw_p4 : lw_okq (⟨"NoticeShifts", "longestListener", "()I"⟩, 7) := ⟨⟨by decide +kernel, by decide +kernel⟩, List.mem_of_getElem? (i := 11) (by decide +kernel), List.mem_of_getElem? (i := 392) (by decide +kernel), List.mem_of_getElem? (i := 393) (by decide +kernel)⟩
theorem lw_p5 : lw_okq (⟨"NoticeShifts", "countHearers", "(I)I"⟩, 7) := ⟨⟨by decide +kernel, by decide +kernel⟩, List.mem_of_getElem? (i := 11) (by decide +kernel), List.mem_of_getElem? (i := 429) (by decide +kernel), List.mem_of_getElem? (i := 430) (by decide +kernel)⟩
theorem lw_p6 : lw_okq (⟨"NoticeShifts", "chooseAll", "(II)V"⟩, 7) := ⟨⟨by decide +kernel, by decide +kernel⟩, List.mem_of_getElem? (i := 11) (by decide +kernel), List.mem_of_getElem? (i := 433) (by decide +kernel), List.mem_of_getElem? (i := 434) (by decide +kernel)⟩
def lw_privs_1 : List (MethodName × Nat) := [(⟨"NoticeShifts", "hearNow", "(ILNoticeShifts$Hearing;)V"⟩, 7), (⟨"NoticeShifts", "hearingOf", "(I)LNoticeShifts$Hearing;"⟩, 7), (⟨"NoticeShifts", "isOutOfDate", "(I)Z"⟩, 7), (⟨"NoticeShifts", "outOfDateListeners", "()I"⟩, 7), (⟨"NoticeShifts", "longestListener", "()I"⟩, 7), (⟨"NoticeShifts", "countHearers", "(I)I"⟩, 7), (⟨"NoticeShifts", "chooseAll", "(II)V"⟩, 7)]
theorem lw_r1 : ∀ q ∈ lw_privs_1, lw_okq q := List.forall_mem_cons.mpr ⟨lw_p0, List.forall_mem_cons.mpr ⟨lw_p1, List.forall_mem_cons.mpr ⟨lw_p2, List.forall_mem_cons.mpr ⟨lw_p3, List.forall_mem_cons.mpr ⟨lw_p4, List.forall_mem_cons.mpr ⟨lw_p5, List.forall_mem_cons.mpr ⟨lw_p6, fun _ h => absurd h List.not_mem_nil⟩⟩⟩⟩⟩⟩⟩
def lw_privs : List (MethodName × Nat) := lw_privs_1
def lw_tbl : List Cond := k2_sels lw_privs ++ tables_1
theorem lw_privs_ok : ∀ q ∈ lw_privs, lw_okq q := lw_r1
-- ===== end of PART A
def RX0 : String := "NoticeShifts$Chooser"
def TX0 : u_T := fun k => match k with
  | 0 => ("NoticeShifts$Chooser", "group", "I", false)
  | 1 => ("NoticeShifts$Chooser", "bound", "I", false)
  | 2 => ("NoticeShifts$Chooser", "chosen", "I", false)
  | 3 => ("NoticeShifts$Chooser", "chosenSet", "I", false)
  | 4 => ("NoticeShifts$Chooser", "seconds", "I", false)
  | _ => ("NoticeShifts$Chooser", "nextBound", "I", false)
def tyX0 : Nat → FieldType := fun k => match k with
  | 0 => .int
  | 1 => .int
  | 2 => .int
  | 3 => .int
  | 4 => .int
  | _ => .int
abbrev wsX00 : List Cond := u_ws RX0 TX0 6
theorem nmX0 : ∀ a, a < 6 → ∀ b, b < 6 → a ≠ b → (TX0 a).2.1 ≠ (TX0 b).2.1 := by decide +kernel
theorem tyX0_ok : ∀ k, k < 6 → parseFieldDescriptor (TX0 k).2.2.1 = some (tyX0 k) := by decide +kernel
abbrev cX0_init : ByteArray := prog_2_method_1_code
def yX0_init : MethodName := ⟨RX0, "<init>", "()V"⟩
abbrev cX0_begin : ByteArray := prog_2_method_2_code
def yX0_begin : MethodName := ⟨RX0, "begin", "(II)V"⟩
abbrev cX0_choose : ByteArray := prog_2_method_3_code
def yX0_choose : MethodName := ⟨RX0, "choose", "(LNoticeShifts$State;I)I"⟩
abbrev cX0_isFor : ByteArray := prog_2_method_4_code
def yX0_isFor : MethodName := ⟨RX0, "isFor", "(LNoticeShifts$State;I)Z"⟩
def RX1 : String := "NoticeShifts$Hearing"
def TX1 : u_T := fun k => match k with
  | 0 => ("NoticeShifts$Hearing", "sentences", "LNoticeShifts$Sentences;", true)
  | 1 => ("NoticeShifts$Hearing", "notices", "[I", true)
  | _ => ("NoticeShifts$Hearing", "noticeLengths", "[I", true)
def tyX1 : Nat → FieldType := fun k => match k with
  | 0 => .object "NoticeShifts$Sentences"
  | 1 => .array .int
  | _ => .array .int
abbrev wsX10 : List Cond := u_ws RX1 TX1 3
theorem nmX1 : ∀ a, a < 3 → ∀ b, b < 3 → a ≠ b → (TX1 a).2.1 ≠ (TX1 b).2.1 := by decide +kernel
theorem tyX1_ok : ∀ k, k < 3 → parseFieldDescriptor (TX1 k).2.2.1 = some (tyX1 k) := by decide +kernel
abbrev cX1_init : ByteArray := prog_3_method_1_code
def yX1_init : MethodName := ⟨RX1, "<init>", "()V"⟩
abbrev cX1_breakTime : ByteArray := prog_3_method_2_code
def yX1_breakTime : MethodName := ⟨RX1, "breakTime", "(I)I"⟩
abbrev cX1_sentenceTime : ByteArray := prog_3_method_3_code
def yX1_sentenceTime : MethodName := ⟨RX1, "sentenceTime", "(I)I"⟩
abbrev cX1_total : ByteArray := prog_3_method_4_code
def yX1_total : MethodName := ⟨RX1, "total", "()I"⟩
abbrev cX1_noticeSeconds : ByteArray := prog_3_method_5_code
def yX1_noticeSeconds : MethodName := ⟨RX1, "noticeSeconds", "()I"⟩
abbrev cX1_countNotices : ByteArray := prog_3_method_6_code
def yX1_countNotices : MethodName := ⟨RX1, "countNotices", "()I"⟩
abbrev cX1_placeHeardAt : ByteArray := prog_3_method_7_code
def yX1_placeHeardAt : MethodName := ⟨RX1, "placeHeardAt", "(I)I"⟩
abbrev cX1_copyFrom : ByteArray := prog_3_method_8_code
def yX1_copyFrom : MethodName := ⟨RX1, "copyFrom", "(LNoticeShifts$Hearing;)V"⟩
abbrev cX1_isLike : ByteArray := prog_3_method_9_code
def yX1_isLike : MethodName := ⟨RX1, "isLike", "(LNoticeShifts$Hearing;)Z"⟩
def RX2 : String := "NoticeShifts$History"
def TX2 : u_T := fun k => match k with
  | 0 => ("NoticeShifts$History", "states", "[LNoticeShifts$State;", true)
  | 1 => ("NoticeShifts$History", "next", "I", false)
  | _ => ("NoticeShifts$History", "size", "I", false)
def tyX2 : Nat → FieldType := fun k => match k with
  | 0 => .array (.object "NoticeShifts$State")
  | 1 => .int
  | _ => .int
abbrev wsX20 : List Cond := u_ws RX2 TX2 3
theorem nmX2 : ∀ a, a < 3 → ∀ b, b < 3 → a ≠ b → (TX2 a).2.1 ≠ (TX2 b).2.1 := by decide +kernel
theorem tyX2_ok : ∀ k, k < 3 → parseFieldDescriptor (TX2 k).2.2.1 = some (tyX2 k) := by decide +kernel
abbrev cX2_init : ByteArray := prog_4_method_1_code
def yX2_init : MethodName := ⟨RX2, "<init>", "()V"⟩
abbrev cX2_keep : ByteArray := prog_4_method_2_code
def yX2_keep : MethodName := ⟨RX2, "keep", "(LNoticeShifts$State;)V"⟩
def RX3 : String := "NoticeShifts$Pad"
def TX3 : u_T := fun k => match k with
  | 0 => ("NoticeShifts$Pad", "characters", "[C", true)
  | _ => ("NoticeShifts$Pad", "length", "I", false)
def tyX3 : Nat → FieldType := fun k => match k with
  | 0 => .array .char
  | _ => .int
abbrev wsX30 : List Cond := u_ws RX3 TX3 2
theorem nmX3 : ∀ a, a < 2 → ∀ b, b < 2 → a ≠ b → (TX3 a).2.1 ≠ (TX3 b).2.1 := by decide +kernel
theorem tyX3_ok : ∀ k, k < 2 → parseFieldDescriptor (TX3 k).2.2.1 = some (tyX3 k) := by decide +kernel
abbrev cX3_init : ByteArray := prog_5_method_1_code
def yX3_init : MethodName := ⟨RX3, "<init>", "()V"⟩
def RX4 : String := "NoticeShifts$Sentences"
def TX4 : u_T := fun k => match k with
  | 0 => ("NoticeShifts$Sentences", "marks", "[I", true)
  | 1 => ("NoticeShifts$Sentences", "lengths", "[I", true)
  | 2 => ("NoticeShifts$Sentences", "begins", "[I", true)
  | _ => ("NoticeShifts$Sentences", "size", "I", false)
def tyX4 : Nat → FieldType := fun k => match k with
  | 0 => .array .int
  | 1 => .array .int
  | 2 => .array .int
  | _ => .int
abbrev wsX40 : List Cond := u_ws RX4 TX4 4
theorem nmX4 : ∀ a, a < 4 → ∀ b, b < 4 → a ≠ b → (TX4 a).2.1 ≠ (TX4 b).2.1 := by decide +kernel
theorem tyX4_ok : ∀ k, k < 4 → parseFieldDescriptor (TX4 k).2.2.1 = some (tyX4 k) := by decide +kernel
abbrev cX4_init : ByteArray := prog_6_method_1_code
def yX4_init : MethodName := ⟨RX4, "<init>", "()V"⟩
abbrev cX4_timeOf : ByteArray := prog_6_method_2_code
def yX4_timeOf : MethodName := ⟨RX4, "timeOf", "(I)I"⟩
abbrev cX4_total : ByteArray := prog_6_method_3_code
def yX4_total : MethodName := ⟨RX4, "total", "()I"⟩
abbrev cX4_placeAtTime : ByteArray := prog_6_method_4_code
def yX4_placeAtTime : MethodName := ⟨RX4, "placeAtTime", "(I)I"⟩
abbrev cX4_placeOf : ByteArray := prog_6_method_5_code
def yX4_placeOf : MethodName := ⟨RX4, "placeOf", "(I)I"⟩
abbrev cX4_chapterOf : ByteArray := prog_6_method_6_code
def yX4_chapterOf : MethodName := ⟨RX4, "chapterOf", "(I)I"⟩
abbrev cX4_chapters : ByteArray := prog_6_method_7_code
def yX4_chapters : MethodName := ⟨RX4, "chapters", "()I"⟩
abbrev cX4_firstOfChapter : ByteArray := prog_6_method_8_code
def yX4_firstOfChapter : MethodName := ⟨RX4, "firstOfChapter", "(I)I"⟩
abbrev cX4_copyFrom : ByteArray := prog_6_method_9_code
def yX4_copyFrom : MethodName := ⟨RX4, "copyFrom", "(LNoticeShifts$Sentences;)V"⟩
abbrev cX4_isLike : ByteArray := prog_6_method_10_code
def yX4_isLike : MethodName := ⟨RX4, "isLike", "(LNoticeShifts$Sentences;)Z"⟩
def RX5 : String := "NoticeShifts$State"
def TX5 : u_T := fun k => match k with
  | 0 => ("NoticeShifts$State", "sentences", "LNoticeShifts$Sentences;", true)
  | 1 => ("NoticeShifts$State", "rowSizes", "[I", true)
  | 2 => ("NoticeShifts$State", "rows", "[I", true)
  | 3 => ("NoticeShifts$State", "noticeLengths", "[I", true)
  | 4 => ("NoticeShifts$State", "noticeGroups", "[I", true)
  | 5 => ("NoticeShifts$State", "groups", "[I", true)
  | 6 => ("NoticeShifts$State", "bounds", "[I", true)
  | 7 => ("NoticeShifts$State", "hasFile", "[Z", true)
  | 8 => ("NoticeShifts$State", "files", "[LNoticeShifts$Hearing;", true)
  | 9 => ("NoticeShifts$State", "nextMark", "I", false)
  | 10 => ("NoticeShifts$State", "notices", "I", false)
  | _ => ("NoticeShifts$State", "listeners", "I", false)
def tyX5 : Nat → FieldType := fun k => match k with
  | 0 => .object "NoticeShifts$Sentences"
  | 1 => .array .int
  | 2 => .array .int
  | 3 => .array .int
  | 4 => .array .int
  | 5 => .array .int
  | 6 => .array .int
  | 7 => .array .boolean
  | 8 => .array (.object "NoticeShifts$Hearing")
  | 9 => .int
  | 10 => .int
  | _ => .int
abbrev wsX50 : List Cond := u_ws RX5 TX5 12
theorem nmX5 : ∀ a, a < 12 → ∀ b, b < 12 → a ≠ b → (TX5 a).2.1 ≠ (TX5 b).2.1 := by decide +kernel
theorem tyX5_ok : ∀ k, k < 12 → parseFieldDescriptor (TX5 k).2.2.1 = some (tyX5 k) := by decide +kernel
abbrev cX5_init : ByteArray := prog_7_method_1_code
def yX5_init : MethodName := ⟨RX5, "<init>", "()V"⟩
abbrev cX5_hasSentence : ByteArray := prog_7_method_2_code
def yX5_hasSentence : MethodName := ⟨RX5, "hasSentence", "(I)Z"⟩
abbrev cX5_hasNotice : ByteArray := prog_7_method_3_code
def yX5_hasNotice : MethodName := ⟨RX5, "hasNotice", "(I)Z"⟩
abbrev cX5_hasListener : ByteArray := prog_7_method_4_code
def yX5_hasListener : MethodName := ⟨RX5, "hasListener", "(I)Z"⟩
abbrev cX5_isRowFull : ByteArray := prog_7_method_5_code
def yX5_isRowFull : MethodName := ⟨RX5, "isRowFull", "(I)Z"⟩
abbrev cX5_inRow : ByteArray := prog_7_method_6_code
def yX5_inRow : MethodName := ⟨RX5, "inRow", "(II)I"⟩
abbrev cX5_appendToRow : ByteArray := prog_7_method_7_code
def yX5_appendToRow : MethodName := ⟨RX5, "appendToRow", "(II)V"⟩
abbrev cX5_isInRow : ByteArray := prog_7_method_9_code
def yX5_isInRow : MethodName := ⟨RX5, "isInRow", "(II)Z"⟩
abbrev cX5_countBreaksWith : ByteArray := prog_7_method_10_code
def yX5_countBreaksWith : MethodName := ⟨RX5, "countBreaksWith", "(I)I"⟩
abbrev cX5_insertSentence : ByteArray := prog_7_method_11_code
def yX5_insertSentence : MethodName := ⟨RX5, "insertSentence", "(II)V"⟩
abbrev cX5_removeSentence : ByteArray := prog_7_method_12_code
def yX5_removeSentence : MethodName := ⟨RX5, "removeSentence", "(I)V"⟩
abbrev cX5_moveSentence : ByteArray := prog_7_method_13_code
def yX5_moveSentence : MethodName := ⟨RX5, "moveSentence", "(II)V"⟩
abbrev cX5_copyFrom : ByteArray := prog_7_method_14_code
def yX5_copyFrom : MethodName := ⟨RX5, "copyFrom", "(LNoticeShifts$State;)V"⟩
def RX6 : String := "NoticeShifts"
def TX6 : u_T := fun k => match k with
  | 0 => ("NoticeShifts", "now", "LNoticeShifts$State;", true)
  | 1 => ("NoticeShifts", "history", "LNoticeShifts$History;", true)
  | 2 => ("NoticeShifts", "slots", "[LNoticeShifts$State;", true)
  | 3 => ("NoticeShifts", "isSaved", "[Z", true)
  | 4 => ("NoticeShifts", "pad", "LNoticeShifts$Pad;", true)
  | 5 => ("NoticeShifts", "chooser", "LNoticeShifts$Chooser;", true)
  | _ => ("NoticeShifts", "hearingNow", "LNoticeShifts$Hearing;", true)
def tyX6 : Nat → FieldType := fun k => match k with
  | 0 => .object "NoticeShifts$State"
  | 1 => .object "NoticeShifts$History"
  | 2 => .array (.object "NoticeShifts$State")
  | 3 => .array .boolean
  | 4 => .object "NoticeShifts$Pad"
  | 5 => .object "NoticeShifts$Chooser"
  | _ => .object "NoticeShifts$Hearing"
abbrev wsX60 : List Cond := u_ws RX6 TX6 7
theorem nmX6 : ∀ a, a < 7 → ∀ b, b < 7 → a ≠ b → (TX6 a).2.1 ≠ (TX6 b).2.1 := by decide +kernel
theorem tyX6_ok : ∀ k, k < 7 → parseFieldDescriptor (TX6 k).2.2.1 = some (tyX6 k) := by decide +kernel
abbrev cX6_init : ByteArray := prog_1_method_1_code
def yX6_init : MethodName := ⟨RX6, "<init>", "()V"⟩
abbrev cX6_putIn : ByteArray := prog_1_method_2_code
def yX6_putIn : MethodName := ⟨RX6, "putIn", "(II)I"⟩
abbrev cX6_cutOut : ByteArray := prog_1_method_3_code
def yX6_cutOut : MethodName := ⟨RX6, "cutOut", "(I)I"⟩
abbrev cX6_change : ByteArray := prog_1_method_4_code
def yX6_change : MethodName := ⟨RX6, "change", "(II)I"⟩
abbrev cX6_chapter : ByteArray := prog_1_method_5_code
def yX6_chapter : MethodName := ⟨RX6, "chapter", "(IZ)I"⟩
abbrev cX6_notice : ByteArray := prog_1_method_6_code
def yX6_notice : MethodName := ⟨RX6, "notice", "(II)I"⟩
abbrev cX6_book : ByteArray := prog_1_method_7_code
def yX6_book : MethodName := ⟨RX6, "book", "(II)I"⟩
abbrev cX6_empty : ByteArray := prog_1_method_8_code
def yX6_empty : MethodName := ⟨RX6, "empty", "(I)I"⟩
abbrev cX6_listener : ByteArray := prog_1_method_10_code
def yX6_listener : MethodName := ⟨RX6, "listener", "(II)I"⟩
abbrev cX6_load : ByteArray := prog_1_method_11_code
def yX6_load : MethodName := ⟨RX6, "load", "(IZ)I"⟩
abbrev cX6_sentence : ByteArray := prog_1_method_12_code
def yX6_sentence : MethodName := ⟨RX6, "sentence", "(II)I"⟩
abbrev cX6_marked : ByteArray := prog_1_method_13_code
def yX6_marked : MethodName := ⟨RX6, "marked", "(I)I"⟩
abbrev cX6_booked : ByteArray := prog_1_method_14_code
def yX6_booked : MethodName := ⟨RX6, "booked", "(II)I"⟩
abbrev cX6_ofNotice : ByteArray := prog_1_method_15_code
def yX6_ofNotice : MethodName := ⟨RX6, "ofNotice", "(II)I"⟩
abbrev cX6_of : ByteArray := prog_1_method_16_code
def yX6_of : MethodName := ⟨RX6, "of", "(II)I"⟩
abbrev cX6_count : ByteArray := prog_1_method_17_code
def yX6_count : MethodName := ⟨RX6, "count", "(I)I"⟩
abbrev cX6_heard : ByteArray := prog_1_method_18_code
def yX6_heard : MethodName := ⟨RX6, "heard", "(II)I"⟩
abbrev cX6_whenHeard : ByteArray := prog_1_method_19_code
def yX6_whenHeard : MethodName := ⟨RX6, "whenHeard", "(II)I"⟩
abbrev cX6_heardAt : ByteArray := prog_1_method_20_code
def yX6_heardAt : MethodName := ⟨RX6, "heardAt", "(III)I"⟩
abbrev cX6_chapterAt : ByteArray := prog_1_method_21_code
def yX6_chapterAt : MethodName := ⟨RX6, "chapterAt", "(II)I"⟩
abbrev cX6_open : ByteArray := prog_1_method_22_code
def yX6_open : MethodName := ⟨RX6, "open", "(III)I"⟩
abbrev cX6_enough : ByteArray := prog_1_method_26_code
def yX6_enough : MethodName := ⟨RX6, "enough", "(I)I"⟩
abbrev cX6_isWithin : ByteArray := prog_1_method_33_code
def yX6_isWithin : MethodName := ⟨RX6, "isWithin", "(III)Z"⟩
abbrev cX6_asNumber : ByteArray := prog_1_method_34_code
def yX6_asNumber : MethodName := ⟨RX6, "asNumber", "(Z)I"⟩
abbrev cX6_hearingOf : ByteArray := prog_1_method_36_code
def yX6_hearingOf : MethodName := ⟨RX6, "hearingOf", "(I)LNoticeShifts$Hearing;"⟩
abbrev cX6_hearNow : ByteArray := prog_1_method_37_code
def yX6_hearNow : MethodName := ⟨RX6, "hearNow", "(ILNoticeShifts$Hearing;)V"⟩
abbrev cX6_isOutOfDate : ByteArray := prog_1_method_38_code
def yX6_isOutOfDate : MethodName := ⟨RX6, "isOutOfDate", "(I)Z"⟩
abbrev cX6_outOfDateListeners : ByteArray := prog_1_method_39_code
def yX6_outOfDateListeners : MethodName := ⟨RX6, "outOfDateListeners", "()I"⟩
abbrev cX6_longestListener : ByteArray := prog_1_method_40_code
def yX6_longestListener : MethodName := ⟨RX6, "longestListener", "()I"⟩
abbrev cX6_chooseAll : ByteArray := prog_1_method_42_code
def yX6_chooseAll : MethodName := ⟨RX6, "chooseAll", "(II)V"⟩
abbrev cX6_countHearers : ByteArray := prog_1_method_44_code
def yX6_countHearers : MethodName := ⟨RX6, "countHearers", "(I)I"⟩
def RX7 : String := "NoticeShiftsModel"
def TX7 : u_T := fun k => match k with
  | _ => ("", "", "", false)
def tyX7 : Nat → FieldType := fun k => match k with
  | _ => .int
abbrev wsX70 : List Cond := u_ws RX7 TX7 0
theorem nmX7 : ∀ a, a < 0 → ∀ b, b < 0 → a ≠ b → (TX7 a).2.1 ≠ (TX7 b).2.1 := by decide +kernel
theorem tyX7_ok : ∀ k, k < 0 → parseFieldDescriptor (TX7 k).2.2.1 = some (tyX7 k) := by decide +kernel
def RL : String := "NoticeShiftsLaw"
abbrev cL_cell : ByteArray := method_2_code
def yL_cell : MethodName := ⟨RL, "cell", "([II)I"⟩
abbrev cL_low : ByteArray := method_3_code
def yL_low : MethodName := ⟨RL, "low", "(II)I"⟩
abbrev cL_build : ByteArray := method_4_code
def yL_build : MethodName := ⟨RL, "build", "(LNoticeShifts;[IIII)Z"⟩
abbrev cL_now : ByteArray := method_5_code
def yL_now : MethodName := ⟨RL, "now", "(LNoticeShifts;II[I[I)I"⟩
abbrev cL_isHeard : ByteArray := method_6_code
def yL_isHeard : MethodName := ⟨RL, "isHeard", "(LNoticeShifts;II)Z"⟩
abbrev cL_enough : ByteArray := method_7_code
def yL_enough : MethodName := ⟨RL, "enough", "(LNoticeShifts;I)Z"⟩
abbrev cL_notices : ByteArray := method_8_code
def yL_notices : MethodName := ⟨RL, "notices", "(LNoticeShifts;)Z"⟩
abbrev cL_tells : ByteArray := method_9_code
def yL_tells : MethodName := ⟨RL, "tells", "(LNoticeShifts;I)Z"⟩
abbrev cL_law : ByteArray := code
def yL_law : MethodName := ⟨RL, "law", "([I)Z"⟩
abbrev vwCl : List vw_C := [(RX0, TX0, 6), (RX1, TX1, 3), (RX2, TX2, 3), (RX3, TX3, 2), (RX4, TX4, 4), (RX5, TX5, 12), (RX6, TX6, 7)]
/-- the methods: name, bytes, locals, return type, arguments (with this), kind of answer (0 void, 1 int, 2 reference), class -/
abbrev Mrow : Type := MethodName × ByteArray × Nat × Option FieldType × Nat × Nat × Nat
def mt : List Mrow := [
(yX0_init, cX0_init, 1, none, 1, 0, 0),
(yX0_begin, cX0_begin, 3, none, 3, 0, 0),
(yX0_choose, cX0_choose, 6, (some FieldType.int), 3, 1, 0),
(yX0_isFor, cX0_isFor, 5, (some FieldType.boolean), 3, 1, 0),
(yX1_init, cX1_init, 1, none, 1, 0, 1),
(yX1_breakTime, cX1_breakTime, 4, (some FieldType.int), 2, 1, 1),
(yX1_sentenceTime, cX1_sentenceTime, 2, (some FieldType.int), 2, 1, 1),
(yX1_total, cX1_total, 1, (some FieldType.int), 1, 1, 1),
(yX1_noticeSeconds, cX1_noticeSeconds, 1, (some FieldType.int), 1, 1, 1),
(yX1_countNotices, cX1_countNotices, 3, (some FieldType.int), 1, 1, 1),
(yX1_placeHeardAt, cX1_placeHeardAt, 4, (some FieldType.int), 2, 1, 1),
(yX1_copyFrom, cX1_copyFrom, 2, none, 2, 0, 1),
(yX1_isLike, cX1_isLike, 3, (some FieldType.boolean), 2, 1, 1),
(yX2_init, cX2_init, 2, none, 1, 0, 2),
(yX2_keep, cX2_keep, 2, none, 2, 0, 2),
(yX3_init, cX3_init, 1, none, 1, 0, 3),
(yX4_init, cX4_init, 1, none, 1, 0, 4),
(yX4_timeOf, cX4_timeOf, 4, (some FieldType.int), 2, 1, 4),
(yX4_total, cX4_total, 1, (some FieldType.int), 1, 1, 4),
(yX4_placeAtTime, cX4_placeAtTime, 4, (some FieldType.int), 2, 1, 4),
(yX4_placeOf, cX4_placeOf, 3, (some FieldType.int), 2, 1, 4),
(yX4_chapterOf, cX4_chapterOf, 4, (some FieldType.int), 2, 1, 4),
(yX4_chapters, cX4_chapters, 1, (some FieldType.int), 1, 1, 4),
(yX4_firstOfChapter, cX4_firstOfChapter, 4, (some FieldType.int), 2, 1, 4),
(yX4_copyFrom, cX4_copyFrom, 2, none, 2, 0, 4),
(yX4_isLike, cX4_isLike, 3, (some FieldType.boolean), 2, 1, 4),
(yX5_init, cX5_init, 2, none, 1, 0, 5),
(yX5_hasSentence, cX5_hasSentence, 2, (some FieldType.boolean), 2, 1, 5),
(yX5_hasNotice, cX5_hasNotice, 2, (some FieldType.boolean), 2, 1, 5),
(yX5_hasListener, cX5_hasListener, 2, (some FieldType.boolean), 2, 1, 5),
(yX5_isRowFull, cX5_isRowFull, 2, (some FieldType.boolean), 2, 1, 5),
(yX5_inRow, cX5_inRow, 3, (some FieldType.int), 3, 1, 5),
(yX5_appendToRow, cX5_appendToRow, 3, none, 3, 0, 5),
(yX5_isInRow, cX5_isInRow, 4, (some FieldType.boolean), 3, 1, 5),
(yX5_countBreaksWith, cX5_countBreaksWith, 4, (some FieldType.int), 2, 1, 5),
(yX5_insertSentence, cX5_insertSentence, 4, none, 3, 0, 5),
(yX5_removeSentence, cX5_removeSentence, 3, none, 2, 0, 5),
(yX5_moveSentence, cX5_moveSentence, 3, none, 3, 0, 5),
(yX5_copyFrom, cX5_copyFrom, 3, none, 2, 0, 5),
(yX6_init, cX6_init, 2, none, 1, 0, 6),
(yX6_putIn, cX6_putIn, 3, (some FieldType.int), 3, 1, 6),
(yX6_cutOut, cX6_cutOut, 3, (some FieldType.int), 2, 1, 6),
(yX6_change, cX6_change, 4, (some FieldType.int), 3, 1, 6),
(yX6_chapter, cX6_chapter, 4, (some FieldType.int), 3, 1, 6),
(yX6_notice, cX6_notice, 4, (some FieldType.int), 3, 1, 6),
(yX6_book, cX6_book, 3, (some FieldType.int), 3, 1, 6),
(yX6_empty, cX6_empty, 3, (some FieldType.int), 2, 1, 6),
(yX6_listener, cX6_listener, 4, (some FieldType.int), 3, 1, 6),
(yX6_load, cX6_load, 3, (some FieldType.int), 3, 1, 6),
(yX6_sentence, cX6_sentence, 3, (some FieldType.int), 3, 1, 6),
(yX6_marked, cX6_marked, 2, (some FieldType.int), 2, 1, 6),
(yX6_booked, cX6_booked, 3, (some FieldType.int), 3, 1, 6),
(yX6_ofNotice, cX6_ofNotice, 3, (some FieldType.int), 3, 1, 6),
(yX6_of, cX6_of, 3, (some FieldType.int), 3, 1, 6),
(yX6_count, cX6_count, 2, (some FieldType.int), 2, 1, 6),
(yX6_heard, cX6_heard, 4, (some FieldType.int), 3, 1, 6),
(yX6_whenHeard, cX6_whenHeard, 5, (some FieldType.int), 3, 1, 6),
(yX6_heardAt, cX6_heardAt, 8, (some FieldType.int), 4, 1, 6),
(yX6_chapterAt, cX6_chapterAt, 4, (some FieldType.int), 3, 1, 6),
(yX6_open, cX6_open, 6, (some FieldType.int), 4, 1, 6),
(yX6_enough, cX6_enough, 5, (some FieldType.int), 2, 1, 6),
(yX6_isWithin, cX6_isWithin, 3, (some FieldType.boolean), 3, 1, 6),
(yX6_asNumber, cX6_asNumber, 1, (some FieldType.int), 1, 1, 6),
(yX6_hearingOf, cX6_hearingOf, 2, (some (FieldType.object "NoticeShifts$Hearing")), 2, 2, 6),
(yX6_hearNow, cX6_hearNow, 5, none, 3, 0, 6),
(yX6_isOutOfDate, cX6_isOutOfDate, 2, (some FieldType.boolean), 2, 1, 6),
(yX6_outOfDateListeners, cX6_outOfDateListeners, 3, (some FieldType.int), 1, 1, 6),
(yX6_longestListener, cX6_longestListener, 5, (some FieldType.int), 1, 1, 6),
(yX6_chooseAll, cX6_chooseAll, 4, none, 3, 0, 6),
(yX6_countHearers, cX6_countHearers, 4, (some FieldType.int), 2, 1, 6)]
def mrow (mi : Nat) : Mrow := mt.getD mi (yX0_init, cX0_init, 0, none, 0, 0, 0)
def yM (mi : Nat) : MethodName := (mrow mi).1
def bM (mi : Nat) : ByteArray := (mrow mi).2.1
def lM (mi : Nat) : Nat := (mrow mi).2.2.1
def rM (mi : Nat) : Option FieldType := (mrow mi).2.2.2.1
def nM (mi : Nat) : Nat := (mrow mi).2.2.2.2.1
def kM (mi : Nat) : Nat := (mrow mi).2.2.2.2.2.1
def oM (mi : Nat) : Nat := (mrow mi).2.2.2.2.2.2
abbrev Ent : Type := Nat × Instr × Nat × Nat × Nat × Nat
abbrev Blk : Type := Nat × List Ent × Nat
def gCode : List Cond := mt.map (fun r => Cond.code r.1 r.2.1 r.2.2.1 r.2.2.2.1)
def RX : Nat → String := fun c => match c with
  | 0 => RX0
  | 1 => RX1
  | 2 => RX2
  | 3 => RX3
  | 4 => RX4
  | 5 => RX5
  | 6 => RX6
  | _ => RL
def TX : Nat → u_T := fun c => match c with
  | 0 => TX0
  | 1 => TX1
  | 2 => TX2
  | 3 => TX3
  | 4 => TX4
  | 5 => TX5
  | 6 => TX6
  | _ => TX6
def NX : Nat → Nat := fun c => match c with
  | 0 => 6
  | 1 => 3
  | 2 => 3
  | 3 => 2
  | 4 => 4
  | 5 => 12
  | 6 => 7
  | _ => 0
/-- field links: class, pool number, class of the field, its place -/
def flt : List (Nat × Nat × Nat × Nat) := [(6, 10, 6, 0), (6, 19, 6, 1), (6, 23, 6, 2), (6, 27, 6, 3), (6, 34, 6, 4), (6, 41, 6, 5), (6, 48, 6, 6), (6, 56, 5, 0), (6, 60, 4, 3), (6, 70, 5, 9), (6, 77, 4, 0), (6, 89, 4, 1), (6, 96, 4, 2), (6, 103, 5, 10), (6, 106, 5, 3), (6, 109, 5, 4), (6, 121, 5, 1), (6, 136, 3, 1), (6, 139, 5, 11), (6, 142, 5, 5), (6, 145, 5, 6), (6, 148, 5, 7), (6, 154, 5, 8), (6, 198, 1, 0), (6, 206, 2, 2), (6, 207, 1, 1), (6, 244, 0, 2), (6, 247, 0, 5), (6, 282, 1, 2), (6, 293, 0, 3), (0, 9, 0, 0), (0, 15, 0, 1), (0, 18, 0, 2), (0, 21, 0, 3), (0, 24, 0, 4), (0, 27, 0, 5), (0, 30, 5, 1), (0, 44, 5, 3), (0, 52, 5, 4), (1, 12, 1, 0), (1, 18, 1, 1), (1, 22, 1, 2), (1, 32, 4, 3), (1, 45, 4, 1), (2, 11, 2, 0), (2, 18, 2, 1), (2, 26, 2, 2), (3, 9, 3, 0), (4, 9, 4, 0), (4, 15, 4, 1), (4, 18, 4, 2), (4, 21, 4, 3), (5, 12, 5, 0), (5, 18, 5, 1), (5, 22, 5, 2), (5, 25, 5, 3), (5, 28, 5, 4), (5, 31, 5, 5), (5, 34, 5, 6), (5, 37, 5, 7), (5, 43, 5, 8), (5, 48, 4, 3), (5, 56, 5, 10), (5, 59, 5, 11), (5, 78, 4, 0), (5, 81, 5, 9), (5, 84, 4, 1), (5, 87, 4, 2)]
def gFld : List Cond := flt.map (fun q => Cond.fieldLink (RX q.1) q.2.1 ((TX q.2.2.1) q.2.2.2).1 ((TX q.2.2.1) q.2.2.2).2.1 ((TX q.2.2.1) q.2.2.2).2.2.1)
/-- calls: class, pool number, the method called -/
def cltV : List (Nat × Nat × Nat) := [(0, 36, 31), (0, 40, 3), (1, 25, 17), (1, 29, 5), (1, 36, 7), (1, 40, 18), (1, 48, 24), (1, 58, 25), (2, 22, 38), (4, 25, 17), (4, 29, 21), (5, 62, 31), (5, 66, 33), (5, 74, 37), (5, 96, 24), (5, 100, 11), (6, 52, 35), (6, 73, 14), (6, 81, 27), (6, 85, 36), (6, 99, 22), (6, 112, 28), (6, 115, 30), (6, 118, 32), (6, 151, 29), (6, 158, 64), (6, 162, 63), (6, 166, 7), (6, 169, 17), (6, 173, 21), (6, 176, 20), (6, 179, 31), (6, 183, 34), (6, 186, 69), (6, 189, 65), (6, 192, 9), (6, 195, 8), (6, 199, 18), (6, 200, 66), (6, 203, 67), (6, 209, 19), (6, 212, 6), (6, 215, 10), (6, 218, 23), (6, 221, 5), (6, 241, 68), (6, 272, 24), (6, 275, 1), (6, 278, 2), (6, 283, 12)]
def cltS : List (Nat × Nat × Nat) := [(6, 66, 61), (6, 92, 62)]
def cltN : List (Nat × Nat × Nat) := [(1, 41, 62), (5, 52, 61), (5, 70, 62)]
def clt4 : List (Nat × Nat × Nat) := [(0, 47, 10), (1, 52, 13), (2, 29, 10), (4, 32, 13), (5, 90, 13)]
def gCv1 : List Cond := cltV.map (fun q => Cond.methodLink (RX q.1) q.2.1 (yM q.2.2))
def gCs1 : List Cond := cltS.map (fun q => Cond.methodLink (RX q.1) q.2.1 (yM q.2.2))
def mVs : List Nat := [1, 2, 3, 5, 6, 7, 8, 9, 10, 11, 12, 14, 17, 18, 19, 20, 21, 22, 23, 24, 25, 27, 28, 29, 30, 31, 32, 33, 34, 35, 36, 37, 38, 40, 41, 42, 43, 44, 45, 46, 47, 48, 49, 50, 51, 52, 53, 54, 55, 56, 57, 58, 59, 60, 63, 64, 65, 66, 67, 68, 69]
def mSs : List Nat := [61, 62]
def gCv2 : List Cond := mVs.map (fun k => Cond.instanceMethod (yM k))
def gCv3 : List Cond := mVs.map (fun k => Cond.selects (yM k).cls (yM k) (yM k))
def gCs2 : List Cond := mSs.map (fun k => Cond.static (yM k))
def gIni : List Cond := [0, 1, 2, 3, 4, 5, 6].map (fun c => Cond.initialized (RX c))
def gLay0 : List Cond := u_ws RX0 TX0 6
def gLay1 : List Cond := u_ws RX1 TX1 3
def gLay2 : List Cond := u_ws RX2 TX2 3
def gLay3 : List Cond := u_ws RX3 TX3 2
def gLay4 : List Cond := u_ws RX4 TX4 4
def gLay5 : List Cond := u_ws RX5 TX5 12
def gLay6 : List Cond := u_ws RX6 TX6 7
def yN (c : Nat) : MethodName := if c = 10 then Lib.Math.min.name else arraycopyName
def gNat : List Cond := clt4.map (fun q => Cond.methodLink (RX q.1) q.2.1 (yN q.2.2))
def gNa2 : List Cond := [.static Lib.Math.min.name, .initialized "java/lang/Math", .code Lib.Math.min.name Lib.Math.min.code 2 (some .int), .native arraycopyName, .static arraycopyName, .initialized "java/lang/System"]
def cklt : List (Nat × Nat × Nat) := []
def gCk : List Cond := cklt.map (fun q => Cond.constantLong (RX q.1) q.2.1 (Int64.ofNat q.2.2))
def gW : List Cond := gCode ++ (gFld ++ (gCv1 ++ (gCs1 ++ (gCv2 ++ (gCv3 ++ (gCs2 ++ (gIni ++ (gLay0 ++ (gLay1 ++ (gLay2 ++ (gLay3 ++ (gLay4 ++ (gLay5 ++ (gLay6 ++ (gNat ++ (gNa2 ++ (gCk
)))))))))))))))))
def gPl : List Nat := [173, 314, 318, 326, 66, 339, 497, 335, 382, 377, 509, 258, 369, 139, 245, 159, 35, 343, 387, 493, 357, 293, 289, 484, 253, 373, 29, 271, 425, 305, 450, 322, 454, 433, 429, 202, 276, 206, 249, 21, 238, 267, 280, 284, 417, 446, 297, 463, 301, 347, 353, 458, 421, 361, 392, 476, 489, 505, 480, 501, 516, 241, 212, 331, 309, 365, 397, 401, 442, 438, 213, 214, 215, 216, 217, 218, 219, 85, 48, 104, 38, 41, 45, 107, 92, 95, 88, 162, 109, 97, 99, 101, 103, 71, 147, 73, 178, 183, 75, 180, 175, 176, 177, 179, 181, 182, 87, 91, 94, 70, 72, 74, 50, 42, 144, 145, 146, 161, 37, 40, 44, 49, 84, 86, 89, 90, 93, 96, 98, 100, 102, 47, 106, 108, 39, 105, 43, 46, 319, 323, 340, 336, 383, 384, 259, 370, 246, 388, 290, 434, 430, 203, 250, 255, 199, 242, 268, 273, 286, 422, 447, 451, 302, 306, 328, 332, 348, 349, 354, 459, 426, 435, 362, 374, 379, 393, 394, 398, 490, 494, 506, 481, 485, 439, 310, 311, 315, 366, 239, 285, 312, 316, 324, 337, 495, 333, 380, 375, 507, 256, 367, 243, 341, 385, 491, 355, 291, 287, 482, 251, 371, 269, 423, 303, 448, 320, 452, 431, 427, 200, 274, 204, 247, 236, 265, 278, 282, 415, 444, 295, 461, 299, 345, 351, 456, 419, 359, 390, 474, 487, 503, 478, 499, 514, 330, 308, 364, 396, 400, 441, 437, 313, 317, 325, 338, 496, 334, 381, 376, 508, 257, 368, 244, 342, 386, 492, 356, 292, 288, 483, 252, 372, 270, 424, 304, 449, 321, 453, 432, 428, 201, 275, 205, 248, 237, 266, 279, 283, 416, 445, 296, 462, 300, 346, 352, 457, 420, 360, 391, 475, 488, 504, 479, 500, 515, 1, 0, 2, 3, 4, 6, 5, 240, 211, 14, 11, 12, 13, 10, 9, 8, 184, 186, 188, 190, 192, 194, 76, 78, 80, 148, 150, 152, 163, 165, 51, 53, 55, 57, 110, 112, 114, 116, 118, 120, 122, 124, 126, 128, 130, 132, 220, 222, 224, 226, 228, 230, 232, 327, 260, 261, 254, 207, 262, 16, 263, 209, 208, 15]
theorem in_gCode : ∀ w ∈ gCode, w ∈ gW := fun _ h => (List.mem_append_left _ h)
theorem in_gFld : ∀ w ∈ gFld, w ∈ gW := fun _ h => (List.mem_append_right _ (List.mem_append_left _ h))
theorem in_gCv1 : ∀ w ∈ gCv1, w ∈ gW := fun _ h => (List.mem_append_right _ (List.mem_append_right _ (List.mem_append_left _ h)))
theorem in_gCs1 : ∀ w ∈ gCs1, w ∈ gW := fun _ h => (List.mem_append_right _ (List.mem_append_right _ (List.mem_append_right _ (List.mem_append_left _ h))))
theorem in_gCv2 : ∀ w ∈ gCv2, w ∈ gW := fun _ h => (List.mem_append_right _ (List.mem_append_right _ (List.mem_append_right _ (List.mem_append_right _ (List.mem_append_left _ h)))))
theorem in_gCv3 : ∀ w ∈ gCv3, w ∈ gW := fun _ h => (List.mem_append_right _ (List.mem_append_right _ (List.mem_append_right _ (List.mem_append_right _ (List.mem_append_right _ (List.mem_append_left _ h))))))
theorem in_gCs2 : ∀ w ∈ gCs2, w ∈ gW := fun _ h => (List.mem_append_right _ (List.mem_append_right _ (List.mem_append_right _ (List.mem_append_right _ (List.mem_append_right _ (List.mem_append_right _ (List.mem_append_left _ h)))))))
theorem in_gIni : ∀ w ∈ gIni, w ∈ gW := fun _ h => (List.mem_append_right _ (List.mem_append_right _ (List.mem_append_right _ (List.mem_append_right _ (List.mem_append_right _ (List.mem_append_right _ (List.mem_append_right _ (List.mem_append_left _ h))))))))
theorem in_gLay0 : ∀ w ∈ gLay0, w ∈ gW := fun _ h => (List.mem_append_right _ (List.mem_append_right _ (List.mem_append_right _ (List.mem_append_right _ (List.mem_append_right _ (List.mem_append_right _ (List.mem_append_right _ (List.mem_append_right _ (List.mem_append_left _ h)))))))))
theorem in_gLay1 : ∀ w ∈ gLay1, w ∈ gW := fun _ h => (List.mem_append_right _ (List.mem_append_right _ (List.mem_append_right _ (List.mem_append_right _ (List.mem_append_right _ (List.mem_append_right _ (List.mem_append_right _ (List.mem_append_right _ (List.mem_append_right _ (List.mem_append_left _ h))))))))))
theorem in_gLay2 : ∀ w ∈ gLay2, w ∈ gW := fun _ h => (List.mem_append_right _ (List.mem_append_right _ (List.mem_append_right _ (List.mem_append_right _ (List.mem_append_right _ (List.mem_append_right _ (List.mem_append_right _ (List.mem_append_right _ (List.mem_append_right _ (List.mem_append_right _ (List.mem_append_left _ h)))))))))))
theorem in_gLay3 : ∀ w ∈ gLay3, w ∈ gW := fun _ h => (List.mem_append_right _ (List.mem_append_right _ (List.mem_append_right _ (List.mem_append_right _ (List.mem_append_right _ (List.mem_append_right _ (List.mem_append_right _ (List.mem_append_right _ (List.mem_append_right _ (List.mem_append_right _ (List.mem_append_right _ (List.mem_append_left _ h))))))))))))
theorem in_gLay4 : ∀ w ∈ gLay4, w ∈ gW := fun _ h => (List.mem_append_right _ (List.mem_append_right _ (List.mem_append_right _ (List.mem_append_right _ (List.mem_append_right _ (List.mem_append_right _ (List.mem_append_right _ (List.mem_append_right _ (List.mem_append_right _ (List.mem_append_right _ (List.mem_append_right _ (List.mem_append_right _ (List.mem_append_left _ h)))))))))))))
theorem in_gLay5 : ∀ w ∈ gLay5, w ∈ gW := fun _ h => (List.mem_append_right _ (List.mem_append_right _ (List.mem_append_right _ (List.mem_append_right _ (List.mem_append_right _ (List.mem_append_right _ (List.mem_append_right _ (List.mem_append_right _ (List.mem_append_right _ (List.mem_append_right _ (List.mem_append_right _ (List.mem_append_right _ (List.mem_append_right _ (List.mem_append_left _ h))))))))))))))
theorem in_gLay6 : ∀ w ∈ gLay6, w ∈ gW := fun _ h => (List.mem_append_right _ (List.mem_append_right _ (List.mem_append_right _ (List.mem_append_right _ (List.mem_append_right _ (List.mem_append_right _ (List.mem_append_right _ (List.mem_append_right _ (List.mem_append_right _ (List.mem_append_right _ (List.mem_append_right _ (List.mem_append_right _ (List.mem_append_right _ (List.mem_append_right _ (List.mem_append_left _ h)))))))))))))))
theorem in_gNat : ∀ w ∈ gNat, w ∈ gW := fun _ h => (List.mem_append_right _ (List.mem_append_right _ (List.mem_append_right _ (List.mem_append_right _ (List.mem_append_right _ (List.mem_append_right _ (List.mem_append_right _ (List.mem_append_right _ (List.mem_append_right _ (List.mem_append_right _ (List.mem_append_right _ (List.mem_append_right _ (List.mem_append_right _ (List.mem_append_right _ (List.mem_append_right _ (List.mem_append_left _ h))))))))))))))))
theorem in_gNa2 : ∀ w ∈ gNa2, w ∈ gW := fun _ h => (List.mem_append_right _ (List.mem_append_right _ (List.mem_append_right _ (List.mem_append_right _ (List.mem_append_right _ (List.mem_append_right _ (List.mem_append_right _ (List.mem_append_right _ (List.mem_append_right _ (List.mem_append_right _ (List.mem_append_right _ (List.mem_append_right _ (List.mem_append_right _ (List.mem_append_right _ (List.mem_append_right _ (List.mem_append_right _ (List.mem_append_left _ h)))))))))))))))))
theorem in_gCk : ∀ w ∈ gCk, w ∈ gW := fun _ h => (List.mem_append_right _ (List.mem_append_right _ (List.mem_append_right _ (List.mem_append_right _ (List.mem_append_right _ (List.mem_append_right _ (List.mem_append_right _ (List.mem_append_right _ (List.mem_append_right _ (List.mem_append_right _ (List.mem_append_right _ (List.mem_append_right _ (List.mem_append_right _ (List.mem_append_right _ (List.mem_append_right _ (List.mem_append_right _ (List.mem_append_right _ h)))))))))))))))))
set_option maxRecDepth 100000 in
theorem gW_pl : gW = gPl.filterMap (fun i => lw_tbl[i]?) := rfl
theorem gW_good : gW.all goodWord = true := by decide +kernel
theorem gW_in : ∀ w ∈ gW, w ∈ lw_tbl := by
  intro w hw
  rw [gW_pl] at hw
  obtain ⟨i, -, hi⟩ := List.mem_filterMap.mp hw
  exact List.mem_of_getElem? hi
theorem gW_gd {w : Cond} (hw : w ∈ gW) : (w.onTables && w.keeps) = true ∨ ∃ ty, w = .arrayClass ty := good_of_word (List.all_eq_true.mp gW_good w hw)
theorem gW_self : GoodIn gW gW := fun w hw => ⟨hw, gW_gd hw⟩
/-- the words of method mi -/
def wsM (mi : Nat) : List Cond := Cond.code (yM mi) (bM mi) (lM mi) (rM mi) :: gW
def nestW : List Cond := cltN.map (fun q => Cond.methodLinkNest (RX q.1) q.2.1 (yM q.2.2) RX6)
def nestPl : List Nat := [378, 272, 210]
set_option maxRecDepth 100000 in
theorem nest_pl : nestW = nestPl.filterMap (fun i => lw_tbl[i]?) := rfl
