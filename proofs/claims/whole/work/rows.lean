section
-- ===== PART A: goes FIRST, ahead of the names: the tables' words, and 'selects' of the private methods out of them =====
/-- a private method of a class that the tables say can be made, by its rows of tables_1 -/
def lw_okq (q : MethodName × Nat) : Prop := (q.1.cls ≠ "java/lang/invoke/MethodHandle" ∧ q.1.cls ≠ "java/lang/invoke/VarHandle") ∧ Cond.instantiable q.1.cls q.2 ∈ tables_1 ∧ Cond.privateMethod q.1 ∈ tables_1 ∧ Cond.instanceMethod q.1 ∈ tables_1
theorem lw_p0 : lw_okq (⟨"NoticeShifts", "takeRows", "()V"⟩, 7) := ⟨⟨by decide +kernel, by decide +kernel⟩, List.mem_of_getElem? (i := 12) (by decide +kernel), List.mem_of_getElem? (i := 339) (by decide +kernel), List.mem_of_getElem? (i := 340) (by decide +kernel)⟩
theorem lw_p1 : lw_okq (⟨"NoticeShifts", "hearNow", "(ILNoticeShifts$Hearing;)V"⟩, 7) := ⟨⟨by decide +kernel, by decide +kernel⟩, List.mem_of_getElem? (i := 12) (by decide +kernel), List.mem_of_getElem? (i := 356) (by decide +kernel), List.mem_of_getElem? (i := 357) (by decide +kernel)⟩
theorem lw_p2 : lw_okq (⟨"NoticeShifts", "hearingOf", "(I)LNoticeShifts$Hearing;"⟩, 7) := ⟨⟨by decide +kernel, by decide +kernel⟩, List.mem_of_getElem? (i := 12) (by decide +kernel), List.mem_of_getElem? (i := 378) (by decide +kernel), List.mem_of_getElem? (i := 379) (by decide +kernel)⟩
theorem lw_p3 : lw_okq (⟨"NoticeShifts", "countHearers", "(I)I"⟩, 7) := ⟨⟨by decide +kernel, by decide +kernel⟩, List.mem_of_getElem? (i := 12) (by decide +kernel), List.mem_of_getElem? (i := 426) (by decide +kernel), List.mem_of_getElem? (i := 427) (by decide +kernel)⟩
theorem lw_p4 : lw_okq (⟨"NoticeShifts", "chooseAll", "(II)V"⟩, 7) := ⟨⟨by decide +kernel, by decide +kernel⟩, List.mem_of_getElem? (i := 12) (by decide +kernel), List.mem_of_getElem? (i := 430) (by decide +kernel), List.mem_of_getElem? (i := 431) (by decide +kernel)⟩
theorem lw_p5 : lw_okq (⟨"NoticeShifts", "isOutOfDate", "(I)Z"⟩, 7) := ⟨⟨by decide +kernel, by decide +kernel⟩, List.mem_of_getElem? (i := 12) (by decide +kernel), List.mem_of_getElem? (i := 438) (by decide +kernel), List.mem_of_getElem? (i := 439) (by decide +kernel)⟩
theorem lw_p6 : lw_okq (⟨"NoticeShifts", "outOfDateListeners", "()I"⟩, 7) := ⟨⟨by decide +kernel, by decide +kernel⟩, List.mem_of_getElem? (i := 12) (by decide +kernel), List.mem_of_getElem? (i := 470) (by decide +kernel), List.mem_of_getElem? (i := 471) (by decide +kernel)⟩
theorem lw_p7 : lw_okq (⟨"NoticeShifts", "longestListener", "()I"⟩, 7) := ⟨⟨by decide +kernel, by decide +kernel⟩, List.mem_of_getElem? (i := 12) (by decide +kernel), List.mem_of_getElem? (i := 474) (by decide +kernel), List.mem_of_getElem? (i := 475) (by decide +kernel)⟩
theorem lw_p8 : lw_okq (⟨"NoticeShifts", "momentNow", "(II)I"⟩, 7) := ⟨⟨by decide +kernel, by decide +kernel⟩, List.mem_of_getElem? (i := 12) (by decide +kernel), List.mem_of_getElem? (i := 519) (by decide +kernel), List.mem_of_getElem? (i := 520) (by decide +kernel)⟩
theorem lw_p9 : lw_okq (⟨"NoticeShifts", "secondsOfAll", "()I"⟩, 7) := ⟨⟨by decide +kernel, by decide +kernel⟩, List.mem_of_getElem? (i := 12) (by decide +kernel), List.mem_of_getElem? (i := 531) (by decide +kernel), List.mem_of_getElem? (i := 532) (by decide +kernel)⟩
theorem lw_p10 : lw_okq (⟨"NoticeShifts", "hearersIfBooked", "(II)I"⟩, 7) := ⟨⟨by decide +kernel, by decide +kernel⟩, List.mem_of_getElem? (i := 12) (by decide +kernel), List.mem_of_getElem? (i := 543) (by decide +kernel), List.mem_of_getElem? (i := 544) (by decide +kernel)⟩
theorem lw_p11 : lw_okq (⟨"NoticeShiftsModel", "record", "()V"⟩, 14) := ⟨⟨by decide +kernel, by decide +kernel⟩, List.mem_of_getElem? (i := 592) (by decide +kernel), List.mem_of_getElem? (i := 656) (by decide +kernel), List.mem_of_getElem? (i := 657) (by decide +kernel)⟩
theorem lw_p12 : lw_okq (⟨"NoticeShiftsModel", "clearSentence", "(I)V"⟩, 14) := ⟨⟨by decide +kernel, by decide +kernel⟩, List.mem_of_getElem? (i := 592) (by decide +kernel), List.mem_of_getElem? (i := 664) (by decide +kernel), List.mem_of_getElem? (i := 665) (by decide +kernel)⟩
theorem lw_p13 : lw_okq (⟨"NoticeShiftsModel", "exchangeSentences", "(I)V"⟩, 14) := ⟨⟨by decide +kernel, by decide +kernel⟩, List.mem_of_getElem? (i := 592) (by decide +kernel), List.mem_of_getElem? (i := 668) (by decide +kernel), List.mem_of_getElem? (i := 669) (by decide +kernel)⟩
theorem lw_p14 : lw_okq (⟨"NoticeShiftsModel", "exchange", "(II)V"⟩, 14) := ⟨⟨by decide +kernel, by decide +kernel⟩, List.mem_of_getElem? (i := 592) (by decide +kernel), List.mem_of_getElem? (i := 672) (by decide +kernel), List.mem_of_getElem? (i := 673) (by decide +kernel)⟩
theorem lw_p15 : lw_okq (⟨"NoticeShiftsModel", "its", "(II)I"⟩, 14) := ⟨⟨by decide +kernel, by decide +kernel⟩, List.mem_of_getElem? (i := 592) (by decide +kernel), List.mem_of_getElem? (i := 676) (by decide +kernel), List.mem_of_getElem? (i := 677) (by decide +kernel)⟩
def lw_privs_1 : List (MethodName × Nat) := [(⟨"NoticeShifts", "takeRows", "()V"⟩, 7), (⟨"NoticeShifts", "hearNow", "(ILNoticeShifts$Hearing;)V"⟩, 7), (⟨"NoticeShifts", "hearingOf", "(I)LNoticeShifts$Hearing;"⟩, 7), (⟨"NoticeShifts", "countHearers", "(I)I"⟩, 7), (⟨"NoticeShifts", "chooseAll", "(II)V"⟩, 7), (⟨"NoticeShifts", "isOutOfDate", "(I)Z"⟩, 7), (⟨"NoticeShifts", "outOfDateListeners", "()I"⟩, 7), (⟨"NoticeShifts", "longestListener", "()I"⟩, 7), (⟨"NoticeShifts", "momentNow", "(II)I"⟩, 7), (⟨"NoticeShifts", "secondsOfAll", "()I"⟩, 7), (⟨"NoticeShifts", "hearersIfBooked", "(II)I"⟩, 7), (⟨"NoticeShiftsModel", "record", "()V"⟩, 14), (⟨"NoticeShiftsModel", "clearSentence", "(I)V"⟩, 14), (⟨"NoticeShiftsModel", "exchangeSentences", "(I)V"⟩, 14), (⟨"NoticeShiftsModel", "exchange", "(II)V"⟩, 14), (⟨"NoticeShiftsModel", "its", "(II)I"⟩, 14)]
theorem lw_r1 : ∀ q ∈ lw_privs_1, lw_okq q := List.forall_mem_cons.mpr ⟨lw_p0, List.forall_mem_cons.mpr ⟨lw_p1, List.forall_mem_cons.mpr ⟨lw_p2, List.forall_mem_cons.mpr ⟨lw_p3, List.forall_mem_cons.mpr ⟨lw_p4, List.forall_mem_cons.mpr ⟨lw_p5, List.forall_mem_cons.mpr ⟨lw_p6, List.forall_mem_cons.mpr ⟨lw_p7, List.forall_mem_cons.mpr ⟨lw_p8, List.forall_mem_cons.mpr ⟨lw_p9, List.forall_mem_cons.mpr ⟨lw_p10, List.forall_mem_cons.mpr ⟨lw_p11, List.forall_mem_cons.mpr ⟨lw_p12, List.forall_mem_cons.mpr ⟨lw_p13, List.forall_mem_cons.mpr ⟨lw_p14, List.forall_mem_cons.mpr ⟨lw_p15, fun _ h => absurd h List.not_mem_nil⟩⟩⟩⟩⟩⟩⟩⟩⟩⟩⟩⟩⟩⟩⟩⟩
theorem lw_p16 : lw_okq (⟨"NoticeShiftsModel", "isSentence", "(I)Z"⟩, 14) := ⟨⟨by decide +kernel, by decide +kernel⟩, List.mem_of_getElem? (i := 592) (by decide +kernel), List.mem_of_getElem? (i := 684) (by decide +kernel), List.mem_of_getElem? (i := 685) (by decide +kernel)⟩
theorem lw_p17 : lw_okq (⟨"NoticeShiftsModel", "chapters", "()I"⟩, 14) := ⟨⟨by decide +kernel, by decide +kernel⟩, List.mem_of_getElem? (i := 592) (by decide +kernel), List.mem_of_getElem? (i := 696) (by decide +kernel), List.mem_of_getElem? (i := 697) (by decide +kernel)⟩
theorem lw_p18 : lw_okq (⟨"NoticeShiftsModel", "whyNotBook", "(II)I"⟩, 14) := ⟨⟨by decide +kernel, by decide +kernel⟩, List.mem_of_getElem? (i := 592) (by decide +kernel), List.mem_of_getElem? (i := 708) (by decide +kernel), List.mem_of_getElem? (i := 709) (by decide +kernel)⟩
theorem lw_p19 : lw_okq (⟨"NoticeShiftsModel", "isNotice", "(I)Z"⟩, 14) := ⟨⟨by decide +kernel, by decide +kernel⟩, List.mem_of_getElem? (i := 592) (by decide +kernel), List.mem_of_getElem? (i := 712) (by decide +kernel), List.mem_of_getElem? (i := 713) (by decide +kernel)⟩
theorem lw_p20 : lw_okq (⟨"NoticeShiftsModel", "inBreak", "(I)I"⟩, 14) := ⟨⟨by decide +kernel, by decide +kernel⟩, List.mem_of_getElem? (i := 592) (by decide +kernel), List.mem_of_getElem? (i := 716) (by decide +kernel), List.mem_of_getElem? (i := 717) (by decide +kernel)⟩
theorem lw_p21 : lw_okq (⟨"NoticeShiftsModel", "bookIt", "(II)V"⟩, 14) := ⟨⟨by decide +kernel, by decide +kernel⟩, List.mem_of_getElem? (i := 592) (by decide +kernel), List.mem_of_getElem? (i := 720) (by decide +kernel), List.mem_of_getElem? (i := 721) (by decide +kernel)⟩
theorem lw_p22 : lw_okq (⟨"NoticeShiftsModel", "emptyIt", "(I)I"⟩, 14) := ⟨⟨by decide +kernel, by decide +kernel⟩, List.mem_of_getElem? (i := 592) (by decide +kernel), List.mem_of_getElem? (i := 728) (by decide +kernel), List.mem_of_getElem? (i := 729) (by decide +kernel)⟩
theorem lw_p23 : lw_okq (⟨"NoticeShiftsModel", "isListener", "(I)Z"⟩, 14) := ⟨⟨by decide +kernel, by decide +kernel⟩, List.mem_of_getElem? (i := 592) (by decide +kernel), List.mem_of_getElem? (i := 740) (by decide +kernel), List.mem_of_getElem? (i := 741) (by decide +kernel)⟩
theorem lw_p24 : lw_okq (⟨"NoticeShiftsModel", "hasFile", "(I)Z"⟩, 14) := ⟨⟨by decide +kernel, by decide +kernel⟩, List.mem_of_getElem? (i := 592) (by decide +kernel), List.mem_of_getElem? (i := 744) (by decide +kernel), List.mem_of_getElem? (i := 745) (by decide +kernel)⟩
theorem lw_p25 : lw_okq (⟨"NoticeShiftsModel", "layNow", "(I)V"⟩, 14) := ⟨⟨by decide +kernel, by decide +kernel⟩, List.mem_of_getElem? (i := 592) (by decide +kernel), List.mem_of_getElem? (i := 748) (by decide +kernel), List.mem_of_getElem? (i := 749) (by decide +kernel)⟩
theorem lw_p26 : lw_okq (⟨"NoticeShiftsModel", "boundOf", "(I)I"⟩, 14) := ⟨⟨by decide +kernel, by decide +kernel⟩, List.mem_of_getElem? (i := 592) (by decide +kernel), List.mem_of_getElem? (i := 752) (by decide +kernel), List.mem_of_getElem? (i := 753) (by decide +kernel)⟩
theorem lw_p27 : lw_okq (⟨"NoticeShiftsModel", "layWith", "(II)V"⟩, 14) := ⟨⟨by decide +kernel, by decide +kernel⟩, List.mem_of_getElem? (i := 592) (by decide +kernel), List.mem_of_getElem? (i := 756) (by decide +kernel), List.mem_of_getElem? (i := 757) (by decide +kernel)⟩
theorem lw_p28 : lw_okq (⟨"NoticeShiftsModel", "inRow", "(II)I"⟩, 14) := ⟨⟨by decide +kernel, by decide +kernel⟩, List.mem_of_getElem? (i := 592) (by decide +kernel), List.mem_of_getElem? (i := 760) (by decide +kernel), List.mem_of_getElem? (i := 761) (by decide +kernel)⟩
theorem lw_p29 : lw_okq (⟨"NoticeShiftsModel", "groupsOf", "(I)I"⟩, 14) := ⟨⟨by decide +kernel, by decide +kernel⟩, List.mem_of_getElem? (i := 592) (by decide +kernel), List.mem_of_getElem? (i := 764) (by decide +kernel), List.mem_of_getElem? (i := 765) (by decide +kernel)⟩
theorem lw_p30 : lw_okq (⟨"NoticeShiftsModel", "groupOf", "(I)I"⟩, 14) := ⟨⟨by decide +kernel, by decide +kernel⟩, List.mem_of_getElem? (i := 592) (by decide +kernel), List.mem_of_getElem? (i := 768) (by decide +kernel), List.mem_of_getElem? (i := 769) (by decide +kernel)⟩
theorem lw_p31 : lw_okq (⟨"NoticeShiftsModel", "lengthOf", "(I)I"⟩, 14) := ⟨⟨by decide +kernel, by decide +kernel⟩, List.mem_of_getElem? (i := 592) (by decide +kernel), List.mem_of_getElem? (i := 772) (by decide +kernel), List.mem_of_getElem? (i := 773) (by decide +kernel)⟩
def lw_privs_2 : List (MethodName × Nat) := [(⟨"NoticeShiftsModel", "isSentence", "(I)Z"⟩, 14), (⟨"NoticeShiftsModel", "chapters", "()I"⟩, 14), (⟨"NoticeShiftsModel", "whyNotBook", "(II)I"⟩, 14), (⟨"NoticeShiftsModel", "isNotice", "(I)Z"⟩, 14), (⟨"NoticeShiftsModel", "inBreak", "(I)I"⟩, 14), (⟨"NoticeShiftsModel", "bookIt", "(II)V"⟩, 14), (⟨"NoticeShiftsModel", "emptyIt", "(I)I"⟩, 14), (⟨"NoticeShiftsModel", "isListener", "(I)Z"⟩, 14), (⟨"NoticeShiftsModel", "hasFile", "(I)Z"⟩, 14), (⟨"NoticeShiftsModel", "layNow", "(I)V"⟩, 14), (⟨"NoticeShiftsModel", "boundOf", "(I)I"⟩, 14), (⟨"NoticeShiftsModel", "layWith", "(II)V"⟩, 14), (⟨"NoticeShiftsModel", "inRow", "(II)I"⟩, 14), (⟨"NoticeShiftsModel", "groupsOf", "(I)I"⟩, 14), (⟨"NoticeShiftsModel", "groupOf", "(I)I"⟩, 14), (⟨"NoticeShiftsModel", "lengthOf", "(I)I"⟩, 14)]
theorem lw_r2 : ∀ q ∈ lw_privs_2, lw_okq q := List.forall_mem_cons.mpr ⟨lw_p16, List.forall_mem_cons.mpr ⟨lw_p17, List.forall_mem_cons.mpr ⟨lw_p18, List.forall_mem_cons.mpr ⟨lw_p19, List.forall_mem_cons.mpr ⟨lw_p20, List.forall_mem_cons.mpr ⟨lw_p21, List.forall_mem_cons.mpr ⟨lw_p22, List.forall_mem_cons.mpr ⟨lw_p23, List.forall_mem_cons.mpr ⟨lw_p24, List.forall_mem_cons.mpr ⟨lw_p25, List.forall_mem_cons.mpr ⟨lw_p26, List.forall_mem_cons.mpr ⟨lw_p27, List.forall_mem_cons.mpr ⟨lw_p28, List.forall_mem_cons.mpr ⟨lw_p29, List.forall_mem_cons.mpr ⟨lw_p30, List.forall_mem_cons.mpr ⟨lw_p31, fun _ h => absurd h List.not_mem_nil⟩⟩⟩⟩⟩⟩⟩⟩⟩⟩⟩⟩⟩⟩⟩⟩
theorem lw_p32 : lw_okq (⟨"NoticeShiftsModel", "seconds", "(Z)I"⟩, 14) := ⟨⟨by decide +kernel, by decide +kernel⟩, List.mem_of_getElem? (i := 592) (by decide +kernel), List.mem_of_getElem? (i := 776) (by decide +kernel), List.mem_of_getElem? (i := 777) (by decide +kernel)⟩
theorem lw_p33 : lw_okq (⟨"NoticeShiftsModel", "timeOf", "(I)I"⟩, 14) := ⟨⟨by decide +kernel, by decide +kernel⟩, List.mem_of_getElem? (i := 592) (by decide +kernel), List.mem_of_getElem? (i := 784) (by decide +kernel), List.mem_of_getElem? (i := 785) (by decide +kernel)⟩
theorem lw_p34 : lw_okq (⟨"NoticeShiftsModel", "chapterOf", "(I)I"⟩, 14) := ⟨⟨by decide +kernel, by decide +kernel⟩, List.mem_of_getElem? (i := 592) (by decide +kernel), List.mem_of_getElem? (i := 788) (by decide +kernel), List.mem_of_getElem? (i := 789) (by decide +kernel)⟩
theorem lw_p35 : lw_okq (⟨"NoticeShiftsModel", "breaksWith", "(I)I"⟩, 14) := ⟨⟨by decide +kernel, by decide +kernel⟩, List.mem_of_getElem? (i := 592) (by decide +kernel), List.mem_of_getElem? (i := 804) (by decide +kernel), List.mem_of_getElem? (i := 805) (by decide +kernel)⟩
theorem lw_p36 : lw_okq (⟨"NoticeShiftsModel", "hearers", "(I)I"⟩, 14) := ⟨⟨by decide +kernel, by decide +kernel⟩, List.mem_of_getElem? (i := 592) (by decide +kernel), List.mem_of_getElem? (i := 808) (by decide +kernel), List.mem_of_getElem? (i := 809) (by decide +kernel)⟩
theorem lw_p37 : lw_okq (⟨"NoticeShiftsModel", "hasHeard", "(I)Z"⟩, 14) := ⟨⟨by decide +kernel, by decide +kernel⟩, List.mem_of_getElem? (i := 592) (by decide +kernel), List.mem_of_getElem? (i := 812) (by decide +kernel), List.mem_of_getElem? (i := 813) (by decide +kernel)⟩
theorem lw_p38 : lw_okq (⟨"NoticeShiftsModel", "isOld", "(I)Z"⟩, 14) := ⟨⟨by decide +kernel, by decide +kernel⟩, List.mem_of_getElem? (i := 592) (by decide +kernel), List.mem_of_getElem? (i := 820) (by decide +kernel), List.mem_of_getElem? (i := 821) (by decide +kernel)⟩
theorem lw_p39 : lw_okq (⟨"NoticeShiftsModel", "lay", "(I)V"⟩, 14) := ⟨⟨by decide +kernel, by decide +kernel⟩, List.mem_of_getElem? (i := 592) (by decide +kernel), List.mem_of_getElem? (i := 824) (by decide +kernel), List.mem_of_getElem? (i := 825) (by decide +kernel)⟩
theorem lw_p40 : lw_okq (⟨"NoticeShiftsModel", "notices", "()I"⟩, 14) := ⟨⟨by decide +kernel, by decide +kernel⟩, List.mem_of_getElem? (i := 592) (by decide +kernel), List.mem_of_getElem? (i := 828) (by decide +kernel), List.mem_of_getElem? (i := 829) (by decide +kernel)⟩
theorem lw_p41 : lw_okq (⟨"NoticeShiftsModel", "oldOnes", "()I"⟩, 14) := ⟨⟨by decide +kernel, by decide +kernel⟩, List.mem_of_getElem? (i := 592) (by decide +kernel), List.mem_of_getElem? (i := 836) (by decide +kernel), List.mem_of_getElem? (i := 837) (by decide +kernel)⟩
theorem lw_p42 : lw_okq (⟨"NoticeShiftsModel", "longest", "()I"⟩, 14) := ⟨⟨by decide +kernel, by decide +kernel⟩, List.mem_of_getElem? (i := 592) (by decide +kernel), List.mem_of_getElem? (i := 840) (by decide +kernel), List.mem_of_getElem? (i := 841) (by decide +kernel)⟩
theorem lw_p43 : lw_okq (⟨"NoticeShiftsModel", "find", "(I)Z"⟩, 14) := ⟨⟨by decide +kernel, by decide +kernel⟩, List.mem_of_getElem? (i := 592) (by decide +kernel), List.mem_of_getElem? (i := 856) (by decide +kernel), List.mem_of_getElem? (i := 857) (by decide +kernel)⟩
theorem lw_p44 : lw_okq (⟨"NoticeShiftsModel", "heardChapter", "(I)I"⟩, 14) := ⟨⟨by decide +kernel, by decide +kernel⟩, List.mem_of_getElem? (i := 592) (by decide +kernel), List.mem_of_getElem? (i := 860) (by decide +kernel), List.mem_of_getElem? (i := 861) (by decide +kernel)⟩
theorem lw_p45 : lw_okq (⟨"NoticeShiftsModel", "momentAt", "(II)I"⟩, 14) := ⟨⟨by decide +kernel, by decide +kernel⟩, List.mem_of_getElem? (i := 592) (by decide +kernel), List.mem_of_getElem? (i := 876) (by decide +kernel), List.mem_of_getElem? (i := 877) (by decide +kernel)⟩
theorem lw_p46 : lw_okq (⟨"NoticeShiftsModel", "allSeconds", "()I"⟩, 14) := ⟨⟨by decide +kernel, by decide +kernel⟩, List.mem_of_getElem? (i := 592) (by decide +kernel), List.mem_of_getElem? (i := 885) (by decide +kernel), List.mem_of_getElem? (i := 886) (by decide +kernel)⟩
theorem lw_p47 : lw_okq (⟨"NoticeShiftsModel", "unbookLast", "(I)V"⟩, 14) := ⟨⟨by decide +kernel, by decide +kernel⟩, List.mem_of_getElem? (i := 592) (by decide +kernel), List.mem_of_getElem? (i := 889) (by decide +kernel), List.mem_of_getElem? (i := 890) (by decide +kernel)⟩
def lw_privs_3 : List (MethodName × Nat) := [(⟨"NoticeShiftsModel", "seconds", "(Z)I"⟩, 14), (⟨"NoticeShiftsModel", "timeOf", "(I)I"⟩, 14), (⟨"NoticeShiftsModel", "chapterOf", "(I)I"⟩, 14), (⟨"NoticeShiftsModel", "breaksWith", "(I)I"⟩, 14), (⟨"NoticeShiftsModel", "hearers", "(I)I"⟩, 14), (⟨"NoticeShiftsModel", "hasHeard", "(I)Z"⟩, 14), (⟨"NoticeShiftsModel", "isOld", "(I)Z"⟩, 14), (⟨"NoticeShiftsModel", "lay", "(I)V"⟩, 14), (⟨"NoticeShiftsModel", "notices", "()I"⟩, 14), (⟨"NoticeShiftsModel", "oldOnes", "()I"⟩, 14), (⟨"NoticeShiftsModel", "longest", "()I"⟩, 14), (⟨"NoticeShiftsModel", "find", "(I)Z"⟩, 14), (⟨"NoticeShiftsModel", "heardChapter", "(I)I"⟩, 14), (⟨"NoticeShiftsModel", "momentAt", "(II)I"⟩, 14), (⟨"NoticeShiftsModel", "allSeconds", "()I"⟩, 14), (⟨"NoticeShiftsModel", "unbookLast", "(I)V"⟩, 14)]
theorem lw_r3 : ∀ q ∈ lw_privs_3, lw_okq q := List.forall_mem_cons.mpr ⟨lw_p32, List.forall_mem_cons.mpr ⟨lw_p33, List.forall_mem_cons.mpr ⟨lw_p34, List.forall_mem_cons.mpr ⟨lw_p35, List.forall_mem_cons.mpr ⟨lw_p36, List.forall_mem_cons.mpr ⟨lw_p37, List.forall_mem_cons.mpr ⟨lw_p38, List.forall_mem_cons.mpr ⟨lw_p39, List.forall_mem_cons.mpr ⟨lw_p40, List.forall_mem_cons.mpr ⟨lw_p41, List.forall_mem_cons.mpr ⟨lw_p42, List.forall_mem_cons.mpr ⟨lw_p43, List.forall_mem_cons.mpr ⟨lw_p44, List.forall_mem_cons.mpr ⟨lw_p45, List.forall_mem_cons.mpr ⟨lw_p46, List.forall_mem_cons.mpr ⟨lw_p47, fun _ h => absurd h List.not_mem_nil⟩⟩⟩⟩⟩⟩⟩⟩⟩⟩⟩⟩⟩⟩⟩⟩
theorem lw_p48 : lw_okq (⟨"NoticeShiftsModel", "readPad", "()I"⟩, 14) := ⟨⟨by decide +kernel, by decide +kernel⟩, List.mem_of_getElem? (i := 592) (by decide +kernel), List.mem_of_getElem? (i := 914) (by decide +kernel), List.mem_of_getElem? (i := 915) (by decide +kernel)⟩
theorem lw_p49 : lw_okq (⟨"NoticeShiftsModel", "stands", "(I)Z"⟩, 14) := ⟨⟨by decide +kernel, by decide +kernel⟩, List.mem_of_getElem? (i := 592) (by decide +kernel), List.mem_of_getElem? (i := 918) (by decide +kernel), List.mem_of_getElem? (i := 919) (by decide +kernel)⟩
theorem lw_p50 : lw_okq (⟨"NoticeShiftsModel", "areRows", "()Z"⟩, 14) := ⟨⟨by decide +kernel, by decide +kernel⟩, List.mem_of_getElem? (i := 592) (by decide +kernel), List.mem_of_getElem? (i := 926) (by decide +kernel), List.mem_of_getElem? (i := 927) (by decide +kernel)⟩
def lw_privs_4 : List (MethodName × Nat) := [(⟨"NoticeShiftsModel", "readPad", "()I"⟩, 14), (⟨"NoticeShiftsModel", "stands", "(I)Z"⟩, 14), (⟨"NoticeShiftsModel", "areRows", "()Z"⟩, 14)]
theorem lw_r4 : ∀ q ∈ lw_privs_4, lw_okq q := List.forall_mem_cons.mpr ⟨lw_p48, List.forall_mem_cons.mpr ⟨lw_p49, List.forall_mem_cons.mpr ⟨lw_p50, fun _ h => absurd h List.not_mem_nil⟩⟩⟩
def lw_privs : List (MethodName × Nat) := lw_privs_1 ++ (lw_privs_2 ++ (lw_privs_3 ++ (lw_privs_4)))
def lw_tbl : List Cond := k2_sels lw_privs ++ tables_1
theorem lw_privs_ok : ∀ q ∈ lw_privs, lw_okq q := by
  show ∀ q ∈ lw_privs_1 ++ (lw_privs_2 ++ (lw_privs_3 ++ (lw_privs_4))), lw_okq q
  exact List.forall_mem_append.mpr ⟨lw_r1, List.forall_mem_append.mpr ⟨lw_r2, List.forall_mem_append.mpr ⟨lw_r3, lw_r4⟩⟩⟩
-- ===== end of PART A
def RX0 : String := "NoticeShifts$Chooser"
def TX0 : u_T := fun k => match k with
  | 0 => ("NoticeShifts$Chooser", "group", "I", false)
  | 1 => ("NoticeShifts$Chooser", "bound", "I", false)
  | 2 => ("NoticeShifts$Chooser", "chosen", "I", false)
  | 3 => ("NoticeShifts$Chooser", "chosenSet", "I", false)
  | 4 => ("NoticeShifts$Chooser", "seconds", "I", false)
  | _ => ("NoticeShifts$Chooser", "nextBound", "I", false)
def tyX0 : Nat → FieldType := fun k => match k with
  | 0 => .int
  | 1 => .int
  | 2 => .int
  | 3 => .int
  | 4 => .int
  | _ => .int
abbrev wsX00 : List Cond := u_ws RX0 TX0 6
theorem nmX0 : ∀ a, a < 6 → ∀ b, b < 6 → a ≠ b → (TX0 a).2.1 ≠ (TX0 b).2.1 := by decide +kernel
theorem tyX0_ok : ∀ k, k < 6 → parseFieldDescriptor (TX0 k).2.2.1 = some (tyX0 k) := by decide +kernel
abbrev cX0_init : ByteArray := prog_2_method_1_code
def yX0_init : MethodName := ⟨RX0, "<init>", "()V"⟩
abbrev cX0_begin : ByteArray := prog_2_method_2_code
def yX0_begin : MethodName := ⟨RX0, "begin", "(II)V"⟩
abbrev cX0_choose : ByteArray := prog_2_method_3_code
def yX0_choose : MethodName := ⟨RX0, "choose", "(LNoticeShifts$State;I)I"⟩
abbrev cX0_isFor : ByteArray := prog_2_method_4_code
def yX0_isFor : MethodName := ⟨RX0, "isFor", "(LNoticeShifts$State;I)Z"⟩
def RX1 : String := "NoticeShifts$Hearing"
def TX1 : u_T := fun k => match k with
  | 0 => ("NoticeShifts$Hearing", "sentences", "LNoticeShifts$Sentences;", true)
  | 1 => ("NoticeShifts$Hearing", "notices", "[I", true)
  | _ => ("NoticeShifts$Hearing", "noticeLengths", "[I", true)
def tyX1 : Nat → FieldType := fun k => match k with
  | 0 => .object "NoticeShifts$Sentences"
  | 1 => .array .int
  | _ => .array .int
abbrev wsX10 : List Cond := u_ws RX1 TX1 3
theorem nmX1 : ∀ a, a < 3 → ∀ b, b < 3 → a ≠ b → (TX1 a).2.1 ≠ (TX1 b).2.1 := by decide +kernel
theorem tyX1_ok : ∀ k, k < 3 → parseFieldDescriptor (TX1 k).2.2.1 = some (tyX1 k) := by decide +kernel
abbrev cX1_init : ByteArray := prog_3_method_1_code
def yX1_init : MethodName := ⟨RX1, "<init>", "()V"⟩
abbrev cX1_breakTime : ByteArray := prog_3_method_2_code
def yX1_breakTime : MethodName := ⟨RX1, "breakTime", "(I)I"⟩
abbrev cX1_sentenceTime : ByteArray := prog_3_method_3_code
def yX1_sentenceTime : MethodName := ⟨RX1, "sentenceTime", "(I)I"⟩
abbrev cX1_total : ByteArray := prog_3_method_4_code
def yX1_total : MethodName := ⟨RX1, "total", "()I"⟩
abbrev cX1_noticeSeconds : ByteArray := prog_3_method_5_code
def yX1_noticeSeconds : MethodName := ⟨RX1, "noticeSeconds", "()I"⟩
abbrev cX1_countNotices : ByteArray := prog_3_method_6_code
def yX1_countNotices : MethodName := ⟨RX1, "countNotices", "()I"⟩
abbrev cX1_placeHeardAt : ByteArray := prog_3_method_7_code
def yX1_placeHeardAt : MethodName := ⟨RX1, "placeHeardAt", "(I)I"⟩
abbrev cX1_copyFrom : ByteArray := prog_3_method_8_code
def yX1_copyFrom : MethodName := ⟨RX1, "copyFrom", "(LNoticeShifts$Hearing;)V"⟩
abbrev cX1_isLike : ByteArray := prog_3_method_9_code
def yX1_isLike : MethodName := ⟨RX1, "isLike", "(LNoticeShifts$Hearing;)Z"⟩
def RX2 : String := "NoticeShifts$History"
def TX2 : u_T := fun k => match k with
  | 0 => ("NoticeShifts$History", "states", "[LNoticeShifts$State;", true)
  | 1 => ("NoticeShifts$History", "next", "I", false)
  | _ => ("NoticeShifts$History", "size", "I", false)
def tyX2 : Nat → FieldType := fun k => match k with
  | 0 => .array (.object "NoticeShifts$State")
  | 1 => .int
  | _ => .int
abbrev wsX20 : List Cond := u_ws RX2 TX2 3
theorem nmX2 : ∀ a, a < 3 → ∀ b, b < 3 → a ≠ b → (TX2 a).2.1 ≠ (TX2 b).2.1 := by decide +kernel
theorem tyX2_ok : ∀ k, k < 3 → parseFieldDescriptor (TX2 k).2.2.1 = some (tyX2 k) := by decide +kernel
abbrev cX2_init : ByteArray := prog_4_method_1_code
def yX2_init : MethodName := ⟨RX2, "<init>", "()V"⟩
abbrev cX2_keep : ByteArray := prog_4_method_2_code
def yX2_keep : MethodName := ⟨RX2, "keep", "(LNoticeShifts$State;)V"⟩
abbrev cX2_takeBack : ByteArray := prog_4_method_3_code
def yX2_takeBack : MethodName := ⟨RX2, "takeBack", "(LNoticeShifts$State;)V"⟩
def RX3 : String := "NoticeShifts$Pad"
def TX3 : u_T := fun k => match k with
  | 0 => ("NoticeShifts$Pad", "characters", "[C", true)
  | _ => ("NoticeShifts$Pad", "length", "I", false)
def tyX3 : Nat → FieldType := fun k => match k with
  | 0 => .array .char
  | _ => .int
abbrev wsX30 : List Cond := u_ws RX3 TX3 2
theorem nmX3 : ∀ a, a < 2 → ∀ b, b < 2 → a ≠ b → (TX3 a).2.1 ≠ (TX3 b).2.1 := by decide +kernel
theorem tyX3_ok : ∀ k, k < 2 → parseFieldDescriptor (TX3 k).2.2.1 = some (tyX3 k) := by decide +kernel
abbrev cX3_init : ByteArray := prog_5_method_1_code
def yX3_init : MethodName := ⟨RX3, "<init>", "()V"⟩
abbrev cX3_isNotice : ByteArray := prog_5_method_2_code
def yX3_isNotice : MethodName := ⟨RX3, "isNotice", "(C)Z"⟩
abbrev cX3_countCharacters : ByteArray := prog_5_method_3_code
def yX3_countCharacters : MethodName := ⟨RX3, "countCharacters", "(J)I"⟩
abbrev cX3_characterAt : ByteArray := prog_5_method_4_code
def yX3_characterAt : MethodName := ⟨RX3, "characterAt", "(JI)C"⟩
abbrev cX3_append : ByteArray := prog_5_method_5_code
def yX3_append : MethodName := ⟨RX3, "append", "(JI)V"⟩
abbrev cX3_findFault : ByteArray := prog_5_method_6_code
def yX3_findFault : MethodName := ⟨RX3, "findFault", "()I"⟩
abbrev cX3_countRows : ByteArray := prog_5_method_7_code
def yX3_countRows : MethodName := ⟨RX3, "countRows", "()I"⟩
abbrev cX3_highestNotice : ByteArray := prog_5_method_8_code
def yX3_highestNotice : MethodName := ⟨RX3, "highestNotice", "()I"⟩
def RX4 : String := "NoticeShifts$Sentences"
def TX4 : u_T := fun k => match k with
  | 0 => ("NoticeShifts$Sentences", "marks", "[I", true)
  | 1 => ("NoticeShifts$Sentences", "lengths", "[I", true)
  | 2 => ("NoticeShifts$Sentences", "begins", "[I", true)
  | _ => ("NoticeShifts$Sentences", "size", "I", false)
def tyX4 : Nat → FieldType := fun k => match k with
  | 0 => .array .int
  | 1 => .array .int
  | 2 => .array .int
  | _ => .int
abbrev wsX40 : List Cond := u_ws RX4 TX4 4
theorem nmX4 : ∀ a, a < 4 → ∀ b, b < 4 → a ≠ b → (TX4 a).2.1 ≠ (TX4 b).2.1 := by decide +kernel
theorem tyX4_ok : ∀ k, k < 4 → parseFieldDescriptor (TX4 k).2.2.1 = some (tyX4 k) := by decide +kernel
abbrev cX4_init : ByteArray := prog_6_method_1_code
def yX4_init : MethodName := ⟨RX4, "<init>", "()V"⟩
abbrev cX4_timeOf : ByteArray := prog_6_method_2_code
def yX4_timeOf : MethodName := ⟨RX4, "timeOf", "(I)I"⟩
abbrev cX4_total : ByteArray := prog_6_method_3_code
def yX4_total : MethodName := ⟨RX4, "total", "()I"⟩
abbrev cX4_placeAtTime : ByteArray := prog_6_method_4_code
def yX4_placeAtTime : MethodName := ⟨RX4, "placeAtTime", "(I)I"⟩
abbrev cX4_placeOf : ByteArray := prog_6_method_5_code
def yX4_placeOf : MethodName := ⟨RX4, "placeOf", "(I)I"⟩
abbrev cX4_chapterOf : ByteArray := prog_6_method_6_code
def yX4_chapterOf : MethodName := ⟨RX4, "chapterOf", "(I)I"⟩
abbrev cX4_chapters : ByteArray := prog_6_method_7_code
def yX4_chapters : MethodName := ⟨RX4, "chapters", "()I"⟩
abbrev cX4_firstOfChapter : ByteArray := prog_6_method_8_code
def yX4_firstOfChapter : MethodName := ⟨RX4, "firstOfChapter", "(I)I"⟩
abbrev cX4_copyFrom : ByteArray := prog_6_method_9_code
def yX4_copyFrom : MethodName := ⟨RX4, "copyFrom", "(LNoticeShifts$Sentences;)V"⟩
abbrev cX4_isLike : ByteArray := prog_6_method_10_code
def yX4_isLike : MethodName := ⟨RX4, "isLike", "(LNoticeShifts$Sentences;)Z"⟩
def RX5 : String := "NoticeShifts$State"
def TX5 : u_T := fun k => match k with
  | 0 => ("NoticeShifts$State", "sentences", "LNoticeShifts$Sentences;", true)
  | 1 => ("NoticeShifts$State", "rowSizes", "[I", true)
  | 2 => ("NoticeShifts$State", "rows", "[I", true)
  | 3 => ("NoticeShifts$State", "noticeLengths", "[I", true)
  | 4 => ("NoticeShifts$State", "noticeGroups", "[I", true)
  | 5 => ("NoticeShifts$State", "groups", "[I", true)
  | 6 => ("NoticeShifts$State", "bounds", "[I", true)
  | 7 => ("NoticeShifts$State", "hasFile", "[Z", true)
  | 8 => ("NoticeShifts$State", "files", "[LNoticeShifts$Hearing;", true)
  | 9 => ("NoticeShifts$State", "nextMark", "I", false)
  | 10 => ("NoticeShifts$State", "notices", "I", false)
  | _ => ("NoticeShifts$State", "listeners", "I", false)
def tyX5 : Nat → FieldType := fun k => match k with
  | 0 => .object "NoticeShifts$Sentences"
  | 1 => .array .int
  | 2 => .array .int
  | 3 => .array .int
  | 4 => .array .int
  | 5 => .array .int
  | 6 => .array .int
  | 7 => .array .boolean
  | 8 => .array (.object "NoticeShifts$Hearing")
  | 9 => .int
  | 10 => .int
  | _ => .int
abbrev wsX50 : List Cond := u_ws RX5 TX5 12
theorem nmX5 : ∀ a, a < 12 → ∀ b, b < 12 → a ≠ b → (TX5 a).2.1 ≠ (TX5 b).2.1 := by decide +kernel
theorem tyX5_ok : ∀ k, k < 12 → parseFieldDescriptor (TX5 k).2.2.1 = some (tyX5 k) := by decide +kernel
abbrev cX5_init : ByteArray := prog_7_method_1_code
def yX5_init : MethodName := ⟨RX5, "<init>", "()V"⟩
abbrev cX5_hasSentence : ByteArray := prog_7_method_2_code
def yX5_hasSentence : MethodName := ⟨RX5, "hasSentence", "(I)Z"⟩
abbrev cX5_hasNotice : ByteArray := prog_7_method_3_code
def yX5_hasNotice : MethodName := ⟨RX5, "hasNotice", "(I)Z"⟩
abbrev cX5_hasListener : ByteArray := prog_7_method_4_code
def yX5_hasListener : MethodName := ⟨RX5, "hasListener", "(I)Z"⟩
abbrev cX5_isRowFull : ByteArray := prog_7_method_5_code
def yX5_isRowFull : MethodName := ⟨RX5, "isRowFull", "(I)Z"⟩
abbrev cX5_inRow : ByteArray := prog_7_method_6_code
def yX5_inRow : MethodName := ⟨RX5, "inRow", "(II)I"⟩
abbrev cX5_appendToRow : ByteArray := prog_7_method_7_code
def yX5_appendToRow : MethodName := ⟨RX5, "appendToRow", "(II)V"⟩
abbrev cX5_dropFromRow : ByteArray := prog_7_method_8_code
def yX5_dropFromRow : MethodName := ⟨RX5, "dropFromRow", "(I)V"⟩
abbrev cX5_isInRow : ByteArray := prog_7_method_9_code
def yX5_isInRow : MethodName := ⟨RX5, "isInRow", "(II)Z"⟩
abbrev cX5_countBreaksWith : ByteArray := prog_7_method_10_code
def yX5_countBreaksWith : MethodName := ⟨RX5, "countBreaksWith", "(I)I"⟩
abbrev cX5_insertSentence : ByteArray := prog_7_method_11_code
def yX5_insertSentence : MethodName := ⟨RX5, "insertSentence", "(II)V"⟩
abbrev cX5_removeSentence : ByteArray := prog_7_method_12_code
def yX5_removeSentence : MethodName := ⟨RX5, "removeSentence", "(I)V"⟩
abbrev cX5_moveSentence : ByteArray := prog_7_method_13_code
def yX5_moveSentence : MethodName := ⟨RX5, "moveSentence", "(II)V"⟩
abbrev cX5_copyFrom : ByteArray := prog_7_method_14_code
def yX5_copyFrom : MethodName := ⟨RX5, "copyFrom", "(LNoticeShifts$State;)V"⟩
def RX6 : String := "NoticeShifts"
def TX6 : u_T := fun k => match k with
  | 0 => ("NoticeShifts", "now", "LNoticeShifts$State;", true)
  | 1 => ("NoticeShifts", "history", "LNoticeShifts$History;", true)
  | 2 => ("NoticeShifts", "slots", "[LNoticeShifts$State;", true)
  | 3 => ("NoticeShifts", "isSaved", "[Z", true)
  | 4 => ("NoticeShifts", "pad", "LNoticeShifts$Pad;", true)
  | 5 => ("NoticeShifts", "chooser", "LNoticeShifts$Chooser;", true)
  | _ => ("NoticeShifts", "hearingNow", "LNoticeShifts$Hearing;", true)
def tyX6 : Nat → FieldType := fun k => match k with
  | 0 => .object "NoticeShifts$State"
  | 1 => .object "NoticeShifts$History"
  | 2 => .array (.object "NoticeShifts$State")
  | 3 => .array .boolean
  | 4 => .object "NoticeShifts$Pad"
  | 5 => .object "NoticeShifts$Chooser"
  | _ => .object "NoticeShifts$Hearing"
abbrev wsX60 : List Cond := u_ws RX6 TX6 7
theorem nmX6 : ∀ a, a < 7 → ∀ b, b < 7 → a ≠ b → (TX6 a).2.1 ≠ (TX6 b).2.1 := by decide +kernel
theorem tyX6_ok : ∀ k, k < 7 → parseFieldDescriptor (TX6 k).2.2.1 = some (tyX6 k) := by decide +kernel
abbrev cX6_init : ByteArray := prog_1_method_1_code
def yX6_init : MethodName := ⟨RX6, "<init>", "()V"⟩
abbrev cX6_putIn : ByteArray := prog_1_method_2_code
def yX6_putIn : MethodName := ⟨RX6, "putIn", "(II)I"⟩
abbrev cX6_cutOut : ByteArray := prog_1_method_3_code
def yX6_cutOut : MethodName := ⟨RX6, "cutOut", "(I)I"⟩
abbrev cX6_change : ByteArray := prog_1_method_4_code
def yX6_change : MethodName := ⟨RX6, "change", "(II)I"⟩
abbrev cX6_chapter : ByteArray := prog_1_method_5_code
def yX6_chapter : MethodName := ⟨RX6, "chapter", "(IZ)I"⟩
abbrev cX6_notice : ByteArray := prog_1_method_6_code
def yX6_notice : MethodName := ⟨RX6, "notice", "(II)I"⟩
abbrev cX6_book : ByteArray := prog_1_method_7_code
def yX6_book : MethodName := ⟨RX6, "book", "(II)I"⟩
abbrev cX6_empty : ByteArray := prog_1_method_8_code
def yX6_empty : MethodName := ⟨RX6, "empty", "(I)I"⟩
abbrev cX6_read : ByteArray := prog_1_method_9_code
def yX6_read : MethodName := ⟨RX6, "read", "()I"⟩
abbrev cX6_listener : ByteArray := prog_1_method_10_code
def yX6_listener : MethodName := ⟨RX6, "listener", "(II)I"⟩
abbrev cX6_load : ByteArray := prog_1_method_11_code
def yX6_load : MethodName := ⟨RX6, "load", "(IZ)I"⟩
abbrev cX6_sentence : ByteArray := prog_1_method_12_code
def yX6_sentence : MethodName := ⟨RX6, "sentence", "(II)I"⟩
abbrev cX6_marked : ByteArray := prog_1_method_13_code
def yX6_marked : MethodName := ⟨RX6, "marked", "(I)I"⟩
abbrev cX6_booked : ByteArray := prog_1_method_14_code
def yX6_booked : MethodName := ⟨RX6, "booked", "(II)I"⟩
abbrev cX6_ofNotice : ByteArray := prog_1_method_15_code
def yX6_ofNotice : MethodName := ⟨RX6, "ofNotice", "(II)I"⟩
abbrev cX6_of : ByteArray := prog_1_method_16_code
def yX6_of : MethodName := ⟨RX6, "of", "(II)I"⟩
abbrev cX6_count : ByteArray := prog_1_method_17_code
def yX6_count : MethodName := ⟨RX6, "count", "(I)I"⟩
abbrev cX6_heard : ByteArray := prog_1_method_18_code
def yX6_heard : MethodName := ⟨RX6, "heard", "(II)I"⟩
abbrev cX6_whenHeard : ByteArray := prog_1_method_19_code
def yX6_whenHeard : MethodName := ⟨RX6, "whenHeard", "(II)I"⟩
abbrev cX6_heardAt : ByteArray := prog_1_method_20_code
def yX6_heardAt : MethodName := ⟨RX6, "heardAt", "(III)I"⟩
abbrev cX6_chapterAt : ByteArray := prog_1_method_21_code
def yX6_chapterAt : MethodName := ⟨RX6, "chapterAt", "(II)I"⟩
abbrev cX6_open : ByteArray := prog_1_method_22_code
def yX6_open : MethodName := ⟨RX6, "open", "(III)I"⟩
abbrev cX6_wrongAt : ByteArray := prog_1_method_23_code
def yX6_wrongAt : MethodName := ⟨RX6, "wrongAt", "(III)I"⟩
abbrev cX6_ifBooked : ByteArray := prog_1_method_24_code
def yX6_ifBooked : MethodName := ⟨RX6, "ifBooked", "(II)I"⟩
abbrev cX6_bestBreak : ByteArray := prog_1_method_25_code
def yX6_bestBreak : MethodName := ⟨RX6, "bestBreak", "(II)I"⟩
abbrev cX6_enough : ByteArray := prog_1_method_26_code
def yX6_enough : MethodName := ⟨RX6, "enough", "(I)I"⟩
abbrev cX6_put : ByteArray := prog_1_method_27_code
def yX6_put : MethodName := ⟨RX6, "put", "(J)I"⟩
abbrev cX6_wipe : ByteArray := prog_1_method_28_code
def yX6_wipe : MethodName := ⟨RX6, "wipe", "()I"⟩
abbrev cX6_fault : ByteArray := prog_1_method_29_code
def yX6_fault : MethodName := ⟨RX6, "fault", "()I"⟩
abbrev cX6_undo : ByteArray := prog_1_method_30_code
def yX6_undo : MethodName := ⟨RX6, "undo", "()I"⟩
abbrev cX6_save : ByteArray := prog_1_method_31_code
def yX6_save : MethodName := ⟨RX6, "save", "(I)I"⟩
abbrev cX6_restore : ByteArray := prog_1_method_32_code
def yX6_restore : MethodName := ⟨RX6, "restore", "(I)I"⟩
abbrev cX6_isWithin : ByteArray := prog_1_method_33_code
def yX6_isWithin : MethodName := ⟨RX6, "isWithin", "(III)Z"⟩
abbrev cX6_asNumber : ByteArray := prog_1_method_34_code
def yX6_asNumber : MethodName := ⟨RX6, "asNumber", "(Z)I"⟩
abbrev cX6_takeRows : ByteArray := prog_1_method_35_code
def yX6_takeRows : MethodName := ⟨RX6, "takeRows", "()V"⟩
abbrev cX6_hearingOf : ByteArray := prog_1_method_36_code
def yX6_hearingOf : MethodName := ⟨RX6, "hearingOf", "(I)LNoticeShifts$Hearing;"⟩
abbrev cX6_hearNow : ByteArray := prog_1_method_37_code
def yX6_hearNow : MethodName := ⟨RX6, "hearNow", "(ILNoticeShifts$Hearing;)V"⟩
abbrev cX6_isOutOfDate : ByteArray := prog_1_method_38_code
def yX6_isOutOfDate : MethodName := ⟨RX6, "isOutOfDate", "(I)Z"⟩
abbrev cX6_outOfDateListeners : ByteArray := prog_1_method_39_code
def yX6_outOfDateListeners : MethodName := ⟨RX6, "outOfDateListeners", "()I"⟩
abbrev cX6_longestListener : ByteArray := prog_1_method_40_code
def yX6_longestListener : MethodName := ⟨RX6, "longestListener", "()I"⟩
abbrev cX6_momentNow : ByteArray := prog_1_method_41_code
def yX6_momentNow : MethodName := ⟨RX6, "momentNow", "(II)I"⟩
abbrev cX6_chooseAll : ByteArray := prog_1_method_42_code
def yX6_chooseAll : MethodName := ⟨RX6, "chooseAll", "(II)V"⟩
abbrev cX6_secondsOfAll : ByteArray := prog_1_method_43_code
def yX6_secondsOfAll : MethodName := ⟨RX6, "secondsOfAll", "()I"⟩
abbrev cX6_countHearers : ByteArray := prog_1_method_44_code
def yX6_countHearers : MethodName := ⟨RX6, "countHearers", "(I)I"⟩
abbrev cX6_hearersIfBooked : ByteArray := prog_1_method_45_code
def yX6_hearersIfBooked : MethodName := ⟨RX6, "hearersIfBooked", "(II)I"⟩
def RX7 : String := "NoticeShiftsModel"
def TX7 : u_T := fun k => match k with
  | 0 => ("NoticeShiftsModel", "z", "[I", true)
  | 1 => ("NoticeShiftsModel", "past", "[I", true)
  | 2 => ("NoticeShiftsModel", "slots", "[I", true)
  | 3 => ("NoticeShiftsModel", "isSaved", "[Z", true)
  | 4 => ("NoticeShiftsModel", "pastMany", "I", false)
  | 5 => ("NoticeShiftsModel", "pad", "[C", true)
  | 6 => ("NoticeShiftsModel", "typed", "I", false)
  | 7 => ("NoticeShiftsModel", "h", "[I", true)
  | 8 => ("NoticeShiftsModel", "sentenceNow", "I", false)
  | 9 => ("NoticeShiftsModel", "secondsNow", "I", false)
  | 10 => ("NoticeShiftsModel", "timeNow", "I", false)
  | 11 => ("NoticeShiftsModel", "rows", "[I", true)
  | 12 => ("NoticeShiftsModel", "rowMany", "I", false)
  | _ => ("NoticeShiftsModel", "isOver", "Z", false)
def tyX7 : Nat → FieldType := fun k => match k with
  | 0 => .array .int
  | 1 => .array .int
  | 2 => .array .int
  | 3 => .array .boolean
  | 4 => .int
  | 5 => .array .char
  | 6 => .int
  | 7 => .array .int
  | 8 => .int
  | 9 => .int
  | 10 => .int
  | 11 => .array .int
  | 12 => .int
  | _ => .boolean
abbrev wsX70 : List Cond := u_ws RX7 TX7 14
theorem nmX7 : ∀ a, a < 14 → ∀ b, b < 14 → a ≠ b → (TX7 a).2.1 ≠ (TX7 b).2.1 := by decide +kernel
theorem tyX7_ok : ∀ k, k < 14 → parseFieldDescriptor (TX7 k).2.2.1 = some (tyX7 k) := by decide +kernel
abbrev cX7_init : ByteArray := prog_9_method_1_code
def yX7_init : MethodName := ⟨RX7, "<init>", "()V"⟩
abbrev cX7_in : ByteArray := prog_9_method_2_code
def yX7_in : MethodName := ⟨RX7, "in", "(III)Z"⟩
abbrev cX7_isSentence : ByteArray := prog_9_method_3_code
def yX7_isSentence : MethodName := ⟨RX7, "isSentence", "(I)Z"⟩
abbrev cX7_isNotice : ByteArray := prog_9_method_4_code
def yX7_isNotice : MethodName := ⟨RX7, "isNotice", "(I)Z"⟩
abbrev cX7_isListener : ByteArray := prog_9_method_5_code
def yX7_isListener : MethodName := ⟨RX7, "isListener", "(I)Z"⟩
abbrev cX7_its : ByteArray := prog_9_method_6_code
def yX7_its : MethodName := ⟨RX7, "its", "(II)I"⟩
abbrev cX7_inBreak : ByteArray := prog_9_method_7_code
def yX7_inBreak : MethodName := ⟨RX7, "inBreak", "(I)I"⟩
abbrev cX7_inRow : ByteArray := prog_9_method_8_code
def yX7_inRow : MethodName := ⟨RX7, "inRow", "(II)I"⟩
abbrev cX7_lengthOf : ByteArray := prog_9_method_9_code
def yX7_lengthOf : MethodName := ⟨RX7, "lengthOf", "(I)I"⟩
abbrev cX7_groupsOf : ByteArray := prog_9_method_10_code
def yX7_groupsOf : MethodName := ⟨RX7, "groupsOf", "(I)I"⟩
abbrev cX7_groupOf : ByteArray := prog_9_method_11_code
def yX7_groupOf : MethodName := ⟨RX7, "groupOf", "(I)I"⟩
abbrev cX7_boundOf : ByteArray := prog_9_method_12_code
def yX7_boundOf : MethodName := ⟨RX7, "boundOf", "(I)I"⟩
abbrev cX7_hasFile : ByteArray := prog_9_method_13_code
def yX7_hasFile : MethodName := ⟨RX7, "hasFile", "(I)Z"⟩
abbrev cX7_record : ByteArray := prog_9_method_14_code
def yX7_record : MethodName := ⟨RX7, "record", "()V"⟩
abbrev cX7_undo : ByteArray := prog_9_method_15_code
def yX7_undo : MethodName := ⟨RX7, "undo", "()I"⟩
abbrev cX7_save : ByteArray := prog_9_method_16_code
def yX7_save : MethodName := ⟨RX7, "save", "(I)I"⟩
abbrev cX7_restore : ByteArray := prog_9_method_17_code
def yX7_restore : MethodName := ⟨RX7, "restore", "(I)I"⟩
abbrev cX7_layWith : ByteArray := prog_9_method_18_code
def yX7_layWith : MethodName := ⟨RX7, "layWith", "(II)V"⟩
abbrev cX7_layNow : ByteArray := prog_9_method_19_code
def yX7_layNow : MethodName := ⟨RX7, "layNow", "(I)V"⟩
abbrev cX7_lay : ByteArray := prog_9_method_20_code
def yX7_lay : MethodName := ⟨RX7, "lay", "(I)V"⟩
abbrev cX7_isOld : ByteArray := prog_9_method_21_code
def yX7_isOld : MethodName := ⟨RX7, "isOld", "(I)Z"⟩
abbrev cX7_seconds : ByteArray := prog_9_method_22_code
def yX7_seconds : MethodName := ⟨RX7, "seconds", "(Z)I"⟩
abbrev cX7_notices : ByteArray := prog_9_method_23_code
def yX7_notices : MethodName := ⟨RX7, "notices", "()I"⟩
abbrev cX7_hasHeard : ByteArray := prog_9_method_24_code
def yX7_hasHeard : MethodName := ⟨RX7, "hasHeard", "(I)Z"⟩
abbrev cX7_exchange : ByteArray := prog_9_method_25_code
def yX7_exchange : MethodName := ⟨RX7, "exchange", "(II)V"⟩
abbrev cX7_exchangeSentences : ByteArray := prog_9_method_26_code
def yX7_exchangeSentences : MethodName := ⟨RX7, "exchangeSentences", "(I)V"⟩
abbrev cX7_clearSentence : ByteArray := prog_9_method_27_code
def yX7_clearSentence : MethodName := ⟨RX7, "clearSentence", "(I)V"⟩
abbrev cX7_putIn : ByteArray := prog_9_method_28_code
def yX7_putIn : MethodName := ⟨RX7, "putIn", "(II)I"⟩
abbrev cX7_cutOut : ByteArray := prog_9_method_29_code
def yX7_cutOut : MethodName := ⟨RX7, "cutOut", "(I)I"⟩
abbrev cX7_change : ByteArray := prog_9_method_30_code
def yX7_change : MethodName := ⟨RX7, "change", "(II)I"⟩
abbrev cX7_chapters : ByteArray := prog_9_method_31_code
def yX7_chapters : MethodName := ⟨RX7, "chapters", "()I"⟩
abbrev cX7_chapter : ByteArray := prog_9_method_32_code
def yX7_chapter : MethodName := ⟨RX7, "chapter", "(IZ)I"⟩
abbrev cX7_notice : ByteArray := prog_9_method_33_code
def yX7_notice : MethodName := ⟨RX7, "notice", "(II)I"⟩
abbrev cX7_bookIt : ByteArray := prog_9_method_34_code
def yX7_bookIt : MethodName := ⟨RX7, "bookIt", "(II)V"⟩
abbrev cX7_unbookLast : ByteArray := prog_9_method_35_code
def yX7_unbookLast : MethodName := ⟨RX7, "unbookLast", "(I)V"⟩
abbrev cX7_whyNotBook : ByteArray := prog_9_method_36_code
def yX7_whyNotBook : MethodName := ⟨RX7, "whyNotBook", "(II)I"⟩
abbrev cX7_book : ByteArray := prog_9_method_37_code
def yX7_book : MethodName := ⟨RX7, "book", "(II)I"⟩
abbrev cX7_emptyIt : ByteArray := prog_9_method_38_code
def yX7_emptyIt : MethodName := ⟨RX7, "emptyIt", "(I)I"⟩
abbrev cX7_empty : ByteArray := prog_9_method_39_code
def yX7_empty : MethodName := ⟨RX7, "empty", "(I)I"⟩
abbrev cX7_listener : ByteArray := prog_9_method_40_code
def yX7_listener : MethodName := ⟨RX7, "listener", "(II)I"⟩
abbrev cX7_load : ByteArray := prog_9_method_41_code
def yX7_load : MethodName := ⟨RX7, "load", "(IZ)I"⟩
abbrev cX7_timeOf : ByteArray := prog_9_method_42_code
def yX7_timeOf : MethodName := ⟨RX7, "timeOf", "(I)I"⟩
abbrev cX7_chapterOf : ByteArray := prog_9_method_43_code
def yX7_chapterOf : MethodName := ⟨RX7, "chapterOf", "(I)I"⟩
abbrev cX7_sentence : ByteArray := prog_9_method_44_code
def yX7_sentence : MethodName := ⟨RX7, "sentence", "(II)I"⟩
abbrev cX7_marked : ByteArray := prog_9_method_45_code
def yX7_marked : MethodName := ⟨RX7, "marked", "(I)I"⟩
abbrev cX7_booked : ByteArray := prog_9_method_46_code
def yX7_booked : MethodName := ⟨RX7, "booked", "(II)I"⟩
abbrev cX7_breaksWith : ByteArray := prog_9_method_47_code
def yX7_breaksWith : MethodName := ⟨RX7, "breaksWith", "(I)I"⟩
abbrev cX7_hearers : ByteArray := prog_9_method_48_code
def yX7_hearers : MethodName := ⟨RX7, "hearers", "(I)I"⟩
abbrev cX7_ofNotice : ByteArray := prog_9_method_49_code
def yX7_ofNotice : MethodName := ⟨RX7, "ofNotice", "(II)I"⟩
abbrev cX7_of : ByteArray := prog_9_method_50_code
def yX7_of : MethodName := ⟨RX7, "of", "(II)I"⟩
abbrev cX7_oldOnes : ByteArray := prog_9_method_51_code
def yX7_oldOnes : MethodName := ⟨RX7, "oldOnes", "()I"⟩
abbrev cX7_longest : ByteArray := prog_9_method_52_code
def yX7_longest : MethodName := ⟨RX7, "longest", "()I"⟩
abbrev cX7_count : ByteArray := prog_9_method_53_code
def yX7_count : MethodName := ⟨RX7, "count", "(I)I"⟩
abbrev cX7_heard : ByteArray := prog_9_method_54_code
def yX7_heard : MethodName := ⟨RX7, "heard", "(II)I"⟩
abbrev cX7_whenHeard : ByteArray := prog_9_method_55_code
def yX7_whenHeard : MethodName := ⟨RX7, "whenHeard", "(II)I"⟩
abbrev cX7_find : ByteArray := prog_9_method_56_code
def yX7_find : MethodName := ⟨RX7, "find", "(I)Z"⟩
abbrev cX7_heardChapter : ByteArray := prog_9_method_57_code
def yX7_heardChapter : MethodName := ⟨RX7, "heardChapter", "(I)I"⟩
abbrev cX7_heardAt : ByteArray := prog_9_method_58_code
def yX7_heardAt : MethodName := ⟨RX7, "heardAt", "(III)I"⟩
abbrev cX7_chapterAt : ByteArray := prog_9_method_59_code
def yX7_chapterAt : MethodName := ⟨RX7, "chapterAt", "(II)I"⟩
abbrev cX7_open : ByteArray := prog_9_method_60_code
def yX7_open : MethodName := ⟨RX7, "open", "(III)I"⟩
abbrev cX7_momentAt : ByteArray := prog_9_method_61_code
def yX7_momentAt : MethodName := ⟨RX7, "momentAt", "(II)I"⟩
abbrev cX7_wrongAt : ByteArray := prog_9_method_62_code
def yX7_wrongAt : MethodName := ⟨RX7, "wrongAt", "(III)I"⟩
abbrev cX7_allSeconds : ByteArray := prog_9_method_63_code
def yX7_allSeconds : MethodName := ⟨RX7, "allSeconds", "()I"⟩
abbrev cX7_ifBooked : ByteArray := prog_9_method_64_code
def yX7_ifBooked : MethodName := ⟨RX7, "ifBooked", "(II)I"⟩
abbrev cX7_bestBreak : ByteArray := prog_9_method_65_code
def yX7_bestBreak : MethodName := ⟨RX7, "bestBreak", "(II)I"⟩
abbrev cX7_enough : ByteArray := prog_9_method_66_code
def yX7_enough : MethodName := ⟨RX7, "enough", "(I)I"⟩
abbrev cX7_put : ByteArray := prog_9_method_67_code
def yX7_put : MethodName := ⟨RX7, "put", "(J)I"⟩
abbrev cX7_wipe : ByteArray := prog_9_method_68_code
def yX7_wipe : MethodName := ⟨RX7, "wipe", "()I"⟩
abbrev cX7_stands : ByteArray := prog_9_method_69_code
def yX7_stands : MethodName := ⟨RX7, "stands", "(I)Z"⟩
abbrev cX7_readPad : ByteArray := prog_9_method_70_code
def yX7_readPad : MethodName := ⟨RX7, "readPad", "()I"⟩
abbrev cX7_fault : ByteArray := prog_9_method_71_code
def yX7_fault : MethodName := ⟨RX7, "fault", "()I"⟩
abbrev cX7_areRows : ByteArray := prog_9_method_72_code
def yX7_areRows : MethodName := ⟨RX7, "areRows", "()Z"⟩
abbrev cX7_read : ByteArray := prog_9_method_73_code
def yX7_read : MethodName := ⟨RX7, "read", "()I"⟩
def RL : String := "NoticeShiftsLaw"
abbrev cL_law : ByteArray := code
def yL_law : MethodName := ⟨RL, "law", "([I)Z"⟩
abbrev vwCl : List vw_C := [(RX0, TX0, 6), (RX1, TX1, 3), (RX2, TX2, 3), (RX3, TX3, 2), (RX4, TX4, 4), (RX5, TX5, 12), (RX6, TX6, 7), (RX7, TX7, 14)]
/-- the methods: name, bytes, locals, return type, arguments (with this), kind of answer (0 void, 1 int, 2 reference), class -/
abbrev Mrow : Type := MethodName × ByteArray × Nat × Option FieldType × Nat × Nat × Nat
def mt : List Mrow := [
(yX0_init, cX0_init, 1, none, 1, 0, 0),
(yX0_begin, cX0_begin, 3, none, 3, 0, 0),
(yX0_choose, cX0_choose, 6, (some FieldType.int), 3, 1, 0),
(yX0_isFor, cX0_isFor, 5, (some FieldType.boolean), 3, 1, 0),
(yX1_init, cX1_init, 1, none, 1, 0, 1),
(yX1_breakTime, cX1_breakTime, 4, (some FieldType.int), 2, 1, 1),
(yX1_sentenceTime, cX1_sentenceTime, 2, (some FieldType.int), 2, 1, 1),
(yX1_total, cX1_total, 1, (some FieldType.int), 1, 1, 1),
(yX1_noticeSeconds, cX1_noticeSeconds, 1, (some FieldType.int), 1, 1, 1),
(yX1_countNotices, cX1_countNotices, 3, (some FieldType.int), 1, 1, 1),
(yX1_placeHeardAt, cX1_placeHeardAt, 4, (some FieldType.int), 2, 1, 1),
(yX1_copyFrom, cX1_copyFrom, 2, none, 2, 0, 1),
(yX1_isLike, cX1_isLike, 3, (some FieldType.boolean), 2, 1, 1),
(yX2_init, cX2_init, 2, none, 1, 0, 2),
(yX2_keep, cX2_keep, 2, none, 2, 0, 2),
(yX2_takeBack, cX2_takeBack, 2, none, 2, 0, 2),
(yX3_init, cX3_init, 1, none, 1, 0, 3),
(yX3_isNotice, cX3_isNotice, 1, (some FieldType.boolean), 1, 1, 3),
(yX3_countCharacters, cX3_countCharacters, 4, (some FieldType.int), 1, 1, 3),
(yX3_characterAt, cX3_characterAt, 3, (some FieldType.char), 2, 1, 3),
(yX3_append, cX3_append, 5, none, 3, 0, 3),
(yX3_findFault, cX3_findFault, 6, (some FieldType.int), 1, 1, 3),
(yX3_countRows, cX3_countRows, 3, (some FieldType.int), 1, 1, 3),
(yX3_highestNotice, cX3_highestNotice, 3, (some FieldType.int), 1, 1, 3),
(yX4_init, cX4_init, 1, none, 1, 0, 4),
(yX4_timeOf, cX4_timeOf, 4, (some FieldType.int), 2, 1, 4),
(yX4_total, cX4_total, 1, (some FieldType.int), 1, 1, 4),
(yX4_placeAtTime, cX4_placeAtTime, 4, (some FieldType.int), 2, 1, 4),
(yX4_placeOf, cX4_placeOf, 3, (some FieldType.int), 2, 1, 4),
(yX4_chapterOf, cX4_chapterOf, 4, (some FieldType.int), 2, 1, 4),
(yX4_chapters, cX4_chapters, 1, (some FieldType.int), 1, 1, 4),
(yX4_firstOfChapter, cX4_firstOfChapter, 4, (some FieldType.int), 2, 1, 4),
(yX4_copyFrom, cX4_copyFrom, 2, none, 2, 0, 4),
(yX4_isLike, cX4_isLike, 3, (some FieldType.boolean), 2, 1, 4),
(yX5_init, cX5_init, 2, none, 1, 0, 5),
(yX5_hasSentence, cX5_hasSentence, 2, (some FieldType.boolean), 2, 1, 5),
(yX5_hasNotice, cX5_hasNotice, 2, (some FieldType.boolean), 2, 1, 5),
(yX5_hasListener, cX5_hasListener, 2, (some FieldType.boolean), 2, 1, 5),
(yX5_isRowFull, cX5_isRowFull, 2, (some FieldType.boolean), 2, 1, 5),
(yX5_inRow, cX5_inRow, 3, (some FieldType.int), 3, 1, 5),
(yX5_appendToRow, cX5_appendToRow, 3, none, 3, 0, 5),
(yX5_dropFromRow, cX5_dropFromRow, 2, none, 2, 0, 5),
(yX5_isInRow, cX5_isInRow, 4, (some FieldType.boolean), 3, 1, 5),
(yX5_countBreaksWith, cX5_countBreaksWith, 4, (some FieldType.int), 2, 1, 5),
(yX5_insertSentence, cX5_insertSentence, 4, none, 3, 0, 5),
(yX5_removeSentence, cX5_removeSentence, 3, none, 2, 0, 5),
(yX5_moveSentence, cX5_moveSentence, 3, none, 3, 0, 5),
(yX5_copyFrom, cX5_copyFrom, 3, none, 2, 0, 5),
(yX6_init, cX6_init, 2, none, 1, 0, 6),
(yX6_putIn, cX6_putIn, 3, (some FieldType.int), 3, 1, 6),
(yX6_cutOut, cX6_cutOut, 3, (some FieldType.int), 2, 1, 6),
(yX6_change, cX6_change, 4, (some FieldType.int), 3, 1, 6),
(yX6_chapter, cX6_chapter, 4, (some FieldType.int), 3, 1, 6),
(yX6_notice, cX6_notice, 4, (some FieldType.int), 3, 1, 6),
(yX6_book, cX6_book, 3, (some FieldType.int), 3, 1, 6),
(yX6_empty, cX6_empty, 3, (some FieldType.int), 2, 1, 6),
(yX6_read, cX6_read, 2, (some FieldType.int), 1, 1, 6),
(yX6_listener, cX6_listener, 4, (some FieldType.int), 3, 1, 6),
(yX6_load, cX6_load, 3, (some FieldType.int), 3, 1, 6),
(yX6_sentence, cX6_sentence, 3, (some FieldType.int), 3, 1, 6),
(yX6_marked, cX6_marked, 2, (some FieldType.int), 2, 1, 6),
(yX6_booked, cX6_booked, 3, (some FieldType.int), 3, 1, 6),
(yX6_ofNotice, cX6_ofNotice, 3, (some FieldType.int), 3, 1, 6),
(yX6_of, cX6_of, 3, (some FieldType.int), 3, 1, 6),
(yX6_count, cX6_count, 2, (some FieldType.int), 2, 1, 6),
(yX6_heard, cX6_heard, 4, (some FieldType.int), 3, 1, 6),
(yX6_whenHeard, cX6_whenHeard, 5, (some FieldType.int), 3, 1, 6),
(yX6_heardAt, cX6_heardAt, 8, (some FieldType.int), 4, 1, 6),
(yX6_chapterAt, cX6_chapterAt, 4, (some FieldType.int), 3, 1, 6),
(yX6_open, cX6_open, 6, (some FieldType.int), 4, 1, 6),
(yX6_wrongAt, cX6_wrongAt, 6, (some FieldType.int), 4, 1, 6),
(yX6_ifBooked, cX6_ifBooked, 5, (some FieldType.int), 3, 1, 6),
(yX6_bestBreak, cX6_bestBreak, 7, (some FieldType.int), 3, 1, 6),
(yX6_enough, cX6_enough, 5, (some FieldType.int), 2, 1, 6),
(yX6_put, cX6_put, 4, (some FieldType.int), 2, 1, 6),
(yX6_wipe, cX6_wipe, 2, (some FieldType.int), 1, 1, 6),
(yX6_fault, cX6_fault, 1, (some FieldType.int), 1, 1, 6),
(yX6_undo, cX6_undo, 1, (some FieldType.int), 1, 1, 6),
(yX6_save, cX6_save, 2, (some FieldType.int), 2, 1, 6),
(yX6_restore, cX6_restore, 2, (some FieldType.int), 2, 1, 6),
(yX6_isWithin, cX6_isWithin, 3, (some FieldType.boolean), 3, 1, 6),
(yX6_asNumber, cX6_asNumber, 1, (some FieldType.int), 1, 1, 6),
(yX6_takeRows, cX6_takeRows, 4, none, 1, 0, 6),
(yX6_hearingOf, cX6_hearingOf, 2, (some (FieldType.object "NoticeShifts$Hearing")), 2, 2, 6),
(yX6_hearNow, cX6_hearNow, 5, none, 3, 0, 6),
(yX6_isOutOfDate, cX6_isOutOfDate, 2, (some FieldType.boolean), 2, 1, 6),
(yX6_outOfDateListeners, cX6_outOfDateListeners, 3, (some FieldType.int), 1, 1, 6),
(yX6_longestListener, cX6_longestListener, 5, (some FieldType.int), 1, 1, 6),
(yX6_momentNow, cX6_momentNow, 6, (some FieldType.int), 3, 1, 6),
(yX6_chooseAll, cX6_chooseAll, 4, none, 3, 0, 6),
(yX6_secondsOfAll, cX6_secondsOfAll, 3, (some FieldType.int), 1, 1, 6),
(yX6_countHearers, cX6_countHearers, 4, (some FieldType.int), 2, 1, 6),
(yX6_hearersIfBooked, cX6_hearersIfBooked, 4, (some FieldType.int), 3, 1, 6),
(yX7_init, cX7_init, 1, none, 1, 0, 7),
(yX7_in, cX7_in, 3, (some FieldType.boolean), 3, 1, 7),
(yX7_isSentence, cX7_isSentence, 2, (some FieldType.boolean), 2, 1, 7),
(yX7_isNotice, cX7_isNotice, 2, (some FieldType.boolean), 2, 1, 7),
(yX7_isListener, cX7_isListener, 2, (some FieldType.boolean), 2, 1, 7),
(yX7_its, cX7_its, 3, (some FieldType.int), 3, 1, 7),
(yX7_inBreak, cX7_inBreak, 2, (some FieldType.int), 2, 1, 7),
(yX7_inRow, cX7_inRow, 3, (some FieldType.int), 3, 1, 7),
(yX7_lengthOf, cX7_lengthOf, 2, (some FieldType.int), 2, 1, 7),
(yX7_groupsOf, cX7_groupsOf, 2, (some FieldType.int), 2, 1, 7),
(yX7_groupOf, cX7_groupOf, 2, (some FieldType.int), 2, 1, 7),
(yX7_boundOf, cX7_boundOf, 2, (some FieldType.int), 2, 1, 7),
(yX7_hasFile, cX7_hasFile, 2, (some FieldType.boolean), 2, 1, 7),
(yX7_record, cX7_record, 2, none, 1, 0, 7),
(yX7_undo, cX7_undo, 2, (some FieldType.int), 1, 1, 7),
(yX7_save, cX7_save, 3, (some FieldType.int), 2, 1, 7),
(yX7_restore, cX7_restore, 3, (some FieldType.int), 2, 1, 7),
(yX7_layWith, cX7_layWith, 10, none, 3, 0, 7),
(yX7_layNow, cX7_layNow, 2, none, 2, 0, 7),
(yX7_lay, cX7_lay, 3, none, 2, 0, 7),
(yX7_isOld, cX7_isOld, 4, (some FieldType.boolean), 2, 1, 7),
(yX7_seconds, cX7_seconds, 4, (some FieldType.int), 2, 1, 7),
(yX7_notices, cX7_notices, 3, (some FieldType.int), 1, 1, 7),
(yX7_hasHeard, cX7_hasHeard, 4, (some FieldType.boolean), 2, 1, 7),
(yX7_exchange, cX7_exchange, 5, none, 3, 0, 7),
(yX7_exchangeSentences, cX7_exchangeSentences, 2, none, 2, 0, 7),
(yX7_clearSentence, cX7_clearSentence, 3, none, 2, 0, 7),
(yX7_putIn, cX7_putIn, 5, (some FieldType.int), 3, 1, 7),
(yX7_cutOut, cX7_cutOut, 4, (some FieldType.int), 2, 1, 7),
(yX7_change, cX7_change, 4, (some FieldType.int), 3, 1, 7),
(yX7_chapters, cX7_chapters, 3, (some FieldType.int), 1, 1, 7),
(yX7_chapter, cX7_chapter, 3, (some FieldType.int), 3, 1, 7),
(yX7_notice, cX7_notice, 3, (some FieldType.int), 3, 1, 7),
(yX7_bookIt, cX7_bookIt, 3, none, 3, 0, 7),
(yX7_unbookLast, cX7_unbookLast, 2, none, 2, 0, 7),
(yX7_whyNotBook, cX7_whyNotBook, 3, (some FieldType.int), 3, 1, 7),
(yX7_book, cX7_book, 4, (some FieldType.int), 3, 1, 7),
(yX7_emptyIt, cX7_emptyIt, 4, (some FieldType.int), 2, 1, 7),
(yX7_empty, cX7_empty, 2, (some FieldType.int), 2, 1, 7),
(yX7_listener, cX7_listener, 4, (some FieldType.int), 3, 1, 7),
(yX7_load, cX7_load, 4, (some FieldType.int), 3, 1, 7),
(yX7_timeOf, cX7_timeOf, 4, (some FieldType.int), 2, 1, 7),
(yX7_chapterOf, cX7_chapterOf, 4, (some FieldType.int), 2, 1, 7),
(yX7_sentence, cX7_sentence, 3, (some FieldType.int), 3, 1, 7),
(yX7_marked, cX7_marked, 3, (some FieldType.int), 2, 1, 7),
(yX7_booked, cX7_booked, 3, (some FieldType.int), 3, 1, 7),
(yX7_breaksWith, cX7_breaksWith, 6, (some FieldType.int), 2, 1, 7),
(yX7_hearers, cX7_hearers, 4, (some FieldType.int), 2, 1, 7),
(yX7_ofNotice, cX7_ofNotice, 3, (some FieldType.int), 3, 1, 7),
(yX7_of, cX7_of, 3, (some FieldType.int), 3, 1, 7),
(yX7_oldOnes, cX7_oldOnes, 3, (some FieldType.int), 1, 1, 7),
(yX7_longest, cX7_longest, 5, (some FieldType.int), 1, 1, 7),
(yX7_count, cX7_count, 2, (some FieldType.int), 2, 1, 7),
(yX7_heard, cX7_heard, 3, (some FieldType.int), 3, 1, 7),
(yX7_whenHeard, cX7_whenHeard, 6, (some FieldType.int), 3, 1, 7),
(yX7_find, cX7_find, 4, (some FieldType.boolean), 2, 1, 7),
(yX7_heardChapter, cX7_heardChapter, 4, (some FieldType.int), 2, 1, 7),
(yX7_heardAt, cX7_heardAt, 4, (some FieldType.int), 4, 1, 7),
(yX7_chapterAt, cX7_chapterAt, 6, (some FieldType.int), 3, 1, 7),
(yX7_open, cX7_open, 6, (some FieldType.int), 4, 1, 7),
(yX7_momentAt, cX7_momentAt, 4, (some FieldType.int), 3, 1, 7),
(yX7_wrongAt, cX7_wrongAt, 6, (some FieldType.int), 4, 1, 7),
(yX7_allSeconds, cX7_allSeconds, 3, (some FieldType.int), 1, 1, 7),
(yX7_ifBooked, cX7_ifBooked, 6, (some FieldType.int), 3, 1, 7),
(yX7_bestBreak, cX7_bestBreak, 7, (some FieldType.int), 3, 1, 7),
(yX7_enough, cX7_enough, 4, (some FieldType.int), 2, 1, 7),
(yX7_put, cX7_put, 8, (some FieldType.int), 2, 1, 7),
(yX7_wipe, cX7_wipe, 2, (some FieldType.int), 1, 1, 7),
(yX7_stands, cX7_stands, 5, (some FieldType.boolean), 2, 1, 7),
(yX7_readPad, cX7_readPad, 2, (some FieldType.int), 1, 1, 7),
(yX7_fault, cX7_fault, 1, (some FieldType.int), 1, 1, 7),
(yX7_areRows, cX7_areRows, 4, (some FieldType.boolean), 1, 1, 7),
(yX7_read, cX7_read, 3, (some FieldType.int), 1, 1, 7)]
def mrow (mi : Nat) : Mrow := mt.getD mi (yX0_init, cX0_init, 0, none, 0, 0, 0)
def yM (mi : Nat) : MethodName := (mrow mi).1
def bM (mi : Nat) : ByteArray := (mrow mi).2.1
def lM (mi : Nat) : Nat := (mrow mi).2.2.1
def rM (mi : Nat) : Option FieldType := (mrow mi).2.2.2.1
def nM (mi : Nat) : Nat := (mrow mi).2.2.2.2.1
def kM (mi : Nat) : Nat := (mrow mi).2.2.2.2.2.1
def oM (mi : Nat) : Nat := (mrow mi).2.2.2.2.2.2
abbrev Ent : Type := Nat × Instr × Nat × Nat × Nat × Nat
abbrev Blk : Type := Nat × List Ent × Nat
def gCode : List Cond := mt.map (fun r => Cond.code r.1 r.2.1 r.2.2.1 r.2.2.2.1)
def RX : Nat → String := fun c => match c with
  | 0 => RX0
  | 1 => RX1
  | 2 => RX2
  | 3 => RX3
  | 4 => RX4
  | 5 => RX5
  | 6 => RX6
  | _ => RX7
def TX : Nat → u_T := fun c => match c with
  | 0 => TX0
  | 1 => TX1
  | 2 => TX2
  | 3 => TX3
  | 4 => TX4
  | 5 => TX5
  | 6 => TX6
  | _ => TX7
def NX : Nat → Nat := fun c => match c with
  | 0 => 6
  | 1 => 3
  | 2 => 3
  | 3 => 2
  | 4 => 4
  | 5 => 12
  | 6 => 7
  | _ => 14
/-- field links: class, pool number, class of the field, its place -/
def flt : List (Nat × Nat × Nat × Nat) := [(6, 10, 6, 0), (6, 19, 6, 1), (6, 23, 6, 2), (6, 27, 6, 3), (6, 34, 6, 4), (6, 41, 6, 5), (6, 48, 6, 6), (6, 56, 5, 0), (6, 60, 4, 3), (6, 70, 5, 9), (6, 77, 4, 0), (6, 89, 4, 1), (6, 96, 4, 2), (6, 103, 5, 10), (6, 106, 5, 3), (6, 109, 5, 4), (6, 121, 5, 1), (6, 136, 3, 1), (6, 139, 5, 11), (6, 142, 5, 5), (6, 145, 5, 6), (6, 148, 5, 7), (6, 154, 5, 8), (6, 198, 1, 0), (6, 206, 2, 2), (6, 207, 1, 1), (6, 244, 0, 2), (6, 247, 0, 5), (6, 264, 3, 0), (6, 282, 1, 2), (6, 290, 0, 4), (6, 293, 0, 3), (0, 9, 0, 0), (0, 15, 0, 1), (0, 18, 0, 2), (0, 21, 0, 3), (0, 24, 0, 4), (0, 27, 0, 5), (0, 30, 5, 1), (0, 44, 5, 3), (0, 52, 5, 4), (1, 12, 1, 0), (1, 18, 1, 1), (1, 22, 1, 2), (1, 32, 4, 3), (1, 45, 4, 1), (2, 11, 2, 0), (2, 18, 2, 1), (2, 26, 2, 2), (3, 9, 3, 0), (3, 25, 3, 1), (4, 9, 4, 0), (4, 15, 4, 1), (4, 18, 4, 2), (4, 21, 4, 3), (5, 12, 5, 0), (5, 18, 5, 1), (5, 22, 5, 2), (5, 25, 5, 3), (5, 28, 5, 4), (5, 31, 5, 5), (5, 34, 5, 6), (5, 37, 5, 7), (5, 43, 5, 8), (5, 48, 4, 3), (5, 56, 5, 10), (5, 59, 5, 11), (5, 78, 4, 0), (5, 81, 5, 9), (5, 84, 4, 1), (5, 87, 4, 2), (7, 7, 7, 0), (7, 13, 7, 1), (7, 16, 7, 2), (7, 19, 7, 3), (7, 23, 7, 5), (7, 27, 7, 7), (7, 30, 7, 11), (7, 33, 7, 4), (7, 144, 7, 6), (7, 147, 7, 10), (7, 150, 7, 8), (7, 153, 7, 9), (7, 176, 7, 12), (7, 179, 7, 13)]
def gFld : List Cond := flt.map (fun q => Cond.fieldLink (RX q.1) q.2.1 ((TX q.2.2.1) q.2.2.2).1 ((TX q.2.2.1) q.2.2.2).2.1 ((TX q.2.2.1) q.2.2.2).2.2.1)
/-- calls: class, pool number, the method called -/
def cltV : List (Nat × Nat × Nat) := [(0, 36, 39), (0, 40, 3), (1, 25, 25), (1, 29, 5), (1, 36, 7), (1, 40, 26), (1, 48, 32), (1, 58, 33), (2, 22, 47), (4, 25, 25), (4, 29, 29), (5, 62, 39), (5, 66, 42), (5, 74, 46), (5, 96, 32), (5, 100, 11), (6, 52, 44), (6, 73, 14), (6, 81, 35), (6, 85, 45), (6, 99, 30), (6, 112, 36), (6, 115, 38), (6, 118, 40), (6, 124, 21), (6, 127, 22), (6, 130, 23), (6, 133, 82), (6, 151, 37), (6, 158, 84), (6, 162, 83), (6, 166, 7), (6, 169, 25), (6, 173, 29), (6, 176, 28), (6, 179, 39), (6, 183, 43), (6, 186, 91), (6, 189, 85), (6, 192, 9), (6, 195, 8), (6, 199, 26), (6, 200, 86), (6, 203, 87), (6, 209, 27), (6, 212, 6), (6, 215, 10), (6, 218, 31), (6, 221, 5), (6, 224, 88), (6, 232, 90), (6, 235, 41), (6, 238, 92), (6, 241, 89), (6, 254, 20), (6, 258, 15), (6, 261, 47), (6, 272, 32), (6, 275, 1), (6, 278, 2), (6, 283, 12), (7, 41, 106), (7, 44, 99), (7, 48, 100), (7, 52, 102), (7, 55, 103), (7, 58, 101), (7, 61, 98), (7, 64, 104), (7, 67, 110), (7, 71, 105), (7, 75, 111), (7, 79, 117), (7, 82, 119), (7, 85, 118), (7, 88, 95), (7, 91, 123), (7, 95, 96), (7, 98, 128), (7, 101, 126), (7, 104, 130), (7, 107, 97), (7, 110, 114), (7, 114, 134), (7, 117, 135), (7, 120, 116), (7, 123, 139), (7, 126, 140), (7, 129, 113), (7, 132, 112), (7, 135, 115), (7, 138, 143), (7, 141, 144), (7, 156, 148), (7, 159, 149), (7, 162, 137), (7, 165, 153), (7, 168, 155), (7, 171, 127), (7, 183, 161), (7, 186, 162), (7, 189, 164)]
def cltS : List (Nat × Nat × Nat) := [(3, 15, 19), (3, 29, 17), (6, 66, 80), (6, 92, 81), (6, 250, 18), (6, 268, 17), (7, 37, 94)]
def cltN : List (Nat × Nat × Nat) := [(1, 41, 81), (3, 19, 80), (3, 33, 81), (5, 52, 80), (5, 70, 81)]
def clt4 : List (Nat × Nat × Nat) := [(0, 47, 10), (1, 52, 13), (2, 29, 10), (3, 37, 11), (4, 32, 13), (5, 90, 13), (6, 227, 12), (6, 287, 11)]
def gCv1 : List Cond := cltV.map (fun q => Cond.methodLink (RX q.1) q.2.1 (yM q.2.2))
def gCs1 : List Cond := cltS.map (fun q => Cond.methodLink (RX q.1) q.2.1 (yM q.2.2))
def mVs : List Nat := [1, 2, 3, 5, 6, 7, 8, 9, 10, 11, 12, 14, 15, 20, 21, 22, 23, 25, 26, 27, 28, 29, 30, 31, 32, 33, 35, 36, 37, 38, 39, 40, 41, 42, 43, 44, 45, 46, 47, 49, 50, 51, 52, 53, 54, 55, 56, 57, 58, 59, 60, 61, 62, 63, 64, 65, 66, 67, 68, 69, 70, 71, 72, 73, 74, 75, 76, 77, 78, 79, 82, 83, 84, 85, 86, 87, 88, 89, 90, 91, 92, 95, 96, 97, 98, 99, 100, 101, 102, 103, 104, 105, 106, 107, 108, 109, 110, 111, 112, 113, 114, 115, 116, 117, 118, 119, 120, 121, 122, 123, 124, 125, 126, 127, 128, 129, 130, 131, 132, 133, 134, 135, 136, 137, 138, 139, 140, 141, 142, 143, 144, 145, 146, 147, 148, 149, 150, 151, 152, 153, 154, 155, 156, 157, 158, 159, 160, 161, 162, 163, 164, 165]
def mSs : List Nat := [17, 18, 19, 80, 81, 94]
def gCv2 : List Cond := mVs.map (fun k => Cond.instanceMethod (yM k))
def gCv3 : List Cond := mVs.map (fun k => Cond.selects (yM k).cls (yM k) (yM k))
def gCs2 : List Cond := mSs.map (fun k => Cond.static (yM k))
def gIni : List Cond := [0, 1, 2, 3, 4, 5, 6, 7].map (fun c => Cond.initialized (RX c))
def gLay0 : List Cond := u_ws RX0 TX0 6
def gLay1 : List Cond := u_ws RX1 TX1 3
def gLay2 : List Cond := u_ws RX2 TX2 3
def gLay3 : List Cond := u_ws RX3 TX3 2
def gLay4 : List Cond := u_ws RX4 TX4 4
def gLay5 : List Cond := u_ws RX5 TX5 12
def gLay6 : List Cond := u_ws RX6 TX6 7
def gLay7 : List Cond := u_ws RX7 TX7 14
def yN (c : Nat) : MethodName := if c = 10 then Lib.Math.min.name else if c = 11 then Lib.Math.max.name else if c = 12 then Lib.Math.abs.name else arraycopyName
def gNat : List Cond := clt4.map (fun q => Cond.methodLink (RX q.1) q.2.1 (yN q.2.2))
def gNa2 : List Cond := [.static Lib.Math.min.name, .static Lib.Math.max.name, .static Lib.Math.abs.name, .initialized "java/lang/Math", .code Lib.Math.min.name Lib.Math.min.code 2 (some .int), .code Lib.Math.max.name Lib.Math.max.code 2 (some .int), .code Lib.Math.abs.name Lib.Math.abs.code 1 (some .int), .native arraycopyName, .static arraycopyName, .initialized "java/lang/System"]
def cklt : List (Nat × Nat × Nat) := [(3, 23, 255), (7, 174, 255)]
def gCk : List Cond := cklt.map (fun q => Cond.constantLong (RX q.1) q.2.1 (Int64.ofNat q.2.2))
def gW : List Cond := gCode ++ (gFld ++ (gCv1 ++ (gCs1 ++ (gCv2 ++ (gCv3 ++ (gCs2 ++ (gIni ++ (gLay0 ++ (gLay1 ++ (gLay2 ++ (gLay3 ++ (gLay4 ++ (gLay5 ++ (gLay6 ++ (gLay7 ++ (gNat ++ (gNa2 ++ (gCk
))))))))))))))))))
def gPl : List Nat := [220, 414, 418, 426, 111, 439, 543, 435, 508, 503, 551, 306, 495, 184, 293, 632, 204, 376, 607, 610, 616, 373, 380, 385, 80, 443, 513, 539, 457, 341, 337, 559, 301, 499, 74, 319, 353, 405, 357, 422, 361, 588, 474, 470, 250, 324, 254, 297, 66, 286, 315, 328, 332, 345, 349, 365, 369, 397, 401, 447, 453, 461, 466, 487, 518, 531, 535, 547, 555, 564, 568, 580, 592, 600, 604, 620, 624, 628, 636, 641, 289, 260, 392, 431, 409, 491, 523, 527, 572, 483, 584, 479, 596, 646, 701, 737, 765, 793, 729, 769, 813, 825, 817, 821, 805, 797, 709, 694, 698, 705, 809, 801, 877, 873, 829, 881, 865, 725, 721, 717, 713, 733, 741, 749, 745, 753, 773, 942, 761, 757, 781, 777, 785, 789, 837, 841, 833, 845, 849, 857, 861, 853, 869, 889, 893, 885, 897, 901, 909, 913, 905, 917, 921, 929, 925, 938, 934, 946, 950, 954, 959, 971, 967, 963, 979, 975, 261, 262, 263, 264, 265, 266, 267, 130, 93, 149, 83, 86, 90, 152, 137, 140, 133, 209, 154, 142, 144, 146, 148, 116, 192, 118, 225, 231, 207, 120, 229, 227, 222, 223, 224, 226, 228, 230, 132, 136, 139, 115, 117, 119, 95, 87, 189, 190, 191, 206, 208, 82, 85, 89, 94, 129, 131, 134, 135, 138, 141, 143, 145, 147, 92, 151, 153, 84, 150, 88, 91, 648, 649, 650, 651, 653, 655, 659, 652, 654, 658, 656, 657, 660, 661, 419, 423, 440, 436, 509, 510, 307, 496, 294, 514, 338, 475, 471, 251, 298, 303, 247, 290, 316, 321, 334, 350, 354, 358, 370, 377, 382, 389, 402, 406, 428, 432, 448, 449, 454, 462, 467, 476, 488, 500, 505, 519, 520, 524, 536, 540, 548, 556, 560, 569, 581, 585, 593, 480, 613, 629, 637, 410, 411, 415, 492, 706, 766, 810, 814, 818, 822, 726, 802, 806, 794, 798, 722, 714, 718, 734, 746, 762, 758, 770, 778, 790, 826, 834, 838, 862, 854, 858, 870, 874, 878, 886, 890, 906, 910, 930, 926, 935, 939, 968, 964, 976, 608, 374, 287, 333, 605, 393, 699, 412, 416, 424, 437, 541, 433, 506, 501, 549, 304, 493, 291, 630, 614, 371, 378, 383, 441, 511, 537, 455, 339, 335, 557, 299, 497, 317, 351, 403, 355, 420, 359, 586, 472, 468, 248, 322, 252, 295, 284, 313, 326, 330, 343, 347, 363, 367, 395, 399, 445, 451, 459, 464, 485, 516, 529, 533, 545, 553, 562, 566, 578, 590, 598, 602, 618, 622, 626, 634, 639, 391, 430, 408, 490, 522, 526, 571, 482, 583, 478, 595, 736, 764, 792, 728, 768, 812, 824, 816, 820, 804, 796, 708, 692, 696, 703, 808, 800, 876, 872, 828, 880, 864, 724, 720, 716, 711, 731, 739, 748, 743, 751, 772, 941, 760, 755, 780, 775, 783, 787, 836, 840, 831, 843, 847, 856, 860, 851, 867, 888, 892, 883, 895, 899, 908, 912, 903, 915, 919, 928, 923, 937, 932, 944, 948, 952, 957, 970, 966, 961, 978, 973, 413, 417, 425, 438, 542, 434, 507, 502, 550, 305, 494, 292, 631, 615, 372, 379, 384, 442, 512, 538, 456, 340, 336, 558, 300, 498, 318, 352, 404, 356, 421, 360, 587, 473, 469, 249, 323, 253, 296, 285, 314, 327, 331, 344, 348, 364, 368, 396, 400, 446, 452, 460, 465, 486, 517, 530, 534, 546, 554, 563, 567, 579, 591, 599, 603, 619, 623, 627, 635, 640, 0, 2, 1, 5, 6, 7, 8, 4, 9, 3, 10, 16, 19, 23, 15, 20, 28, 31, 29, 30, 26, 24, 11, 693, 697, 704, 27, 25, 39, 38, 32, 40, 37, 14, 13, 12, 712, 732, 740, 17, 744, 752, 21, 47, 18, 756, 22, 776, 784, 788, 33, 34, 832, 844, 848, 35, 36, 852, 868, 41, 42, 884, 896, 900, 43, 44, 904, 916, 920, 45, 924, 46, 933, 945, 949, 953, 958, 49, 48, 962, 50, 974, 375, 606, 609, 288, 259, 700, 58, 55, 56, 57, 54, 53, 52, 60, 232, 234, 236, 238, 240, 242, 121, 123, 125, 193, 195, 197, 210, 212, 96, 98, 100, 102, 155, 157, 159, 161, 163, 165, 167, 169, 171, 173, 175, 177, 268, 270, 272, 274, 276, 278, 280, 662, 664, 666, 668, 670, 672, 674, 676, 678, 680, 682, 684, 686, 688, 427, 308, 309, 386, 302, 255, 574, 573, 310, 387, 575, 61, 311, 388, 576, 257, 256, 59, 611, 955]
theorem in_gCode : ∀ w ∈ gCode, w ∈ gW := fun _ h => (List.mem_append_left _ h)
theorem in_gFld : ∀ w ∈ gFld, w ∈ gW := fun _ h => (List.mem_append_right _ (List.mem_append_left _ h))
theorem in_gCv1 : ∀ w ∈ gCv1, w ∈ gW := fun _ h => (List.mem_append_right _ (List.mem_append_right _ (List.mem_append_left _ h)))
theorem in_gCs1 : ∀ w ∈ gCs1, w ∈ gW := fun _ h => (List.mem_append_right _ (List.mem_append_right _ (List.mem_append_right _ (List.mem_append_left _ h))))
theorem in_gCv2 : ∀ w ∈ gCv2, w ∈ gW := fun _ h => (List.mem_append_right _ (List.mem_append_right _ (List.mem_append_right _ (List.mem_append_right _ (List.mem_append_left _ h)))))
theorem in_gCv3 : ∀ w ∈ gCv3, w ∈ gW := fun _ h => (List.mem_append_right _ (List.mem_append_right _ (List.mem_append_right _ (List.mem_append_right _ (List.mem_append_right _ (List.mem_append_left _ h))))))
theorem in_gCs2 : ∀ w ∈ gCs2, w ∈ gW := fun _ h => (List.mem_append_right _ (List.mem_append_right _ (List.mem_append_right _ (List.mem_append_right _ (List.mem_append_right _ (List.mem_append_right _ (List.mem_append_left _ h)))))))
theorem in_gIni : ∀ w ∈ gIni, w ∈ gW := fun _ h => (List.mem_append_right _ (List.mem_append_right _ (List.mem_append_right _ (List.mem_append_right _ (List.mem_append_right _ (List.mem_append_right _ (List.mem_append_right _ (List.mem_append_left _ h))))))))
theorem in_gLay0 : ∀ w ∈ gLay0, w ∈ gW := fun _ h => (List.mem_append_right _ (List.mem_append_right _ (List.mem_append_right _ (List.mem_append_right _ (List.mem_append_right _ (List.mem_append_right _ (List.mem_append_right _ (List.mem_append_right _ (List.mem_append_left _ h)))))))))
theorem in_gLay1 : ∀ w ∈ gLay1, w ∈ gW := fun _ h => (List.mem_append_right _ (List.mem_append_right _ (List.mem_append_right _ (List.mem_append_right _ (List.mem_append_right _ (List.mem_append_right _ (List.mem_append_right _ (List.mem_append_right _ (List.mem_append_right _ (List.mem_append_left _ h))))))))))
theorem in_gLay2 : ∀ w ∈ gLay2, w ∈ gW := fun _ h => (List.mem_append_right _ (List.mem_append_right _ (List.mem_append_right _ (List.mem_append_right _ (List.mem_append_right _ (List.mem_append_right _ (List.mem_append_right _ (List.mem_append_right _ (List.mem_append_right _ (List.mem_append_right _ (List.mem_append_left _ h)))))))))))
theorem in_gLay3 : ∀ w ∈ gLay3, w ∈ gW := fun _ h => (List.mem_append_right _ (List.mem_append_right _ (List.mem_append_right _ (List.mem_append_right _ (List.mem_append_right _ (List.mem_append_right _ (List.mem_append_right _ (List.mem_append_right _ (List.mem_append_right _ (List.mem_append_right _ (List.mem_append_right _ (List.mem_append_left _ h))))))))))))
theorem in_gLay4 : ∀ w ∈ gLay4, w ∈ gW := fun _ h => (List.mem_append_right _ (List.mem_append_right _ (List.mem_append_right _ (List.mem_append_right _ (List.mem_append_right _ (List.mem_append_right _ (List.mem_append_right _ (List.mem_append_right _ (List.mem_append_right _ (List.mem_append_right _ (List.mem_append_right _ (List.mem_append_right _ (List.mem_append_left _ h)))))))))))))
theorem in_gLay5 : ∀ w ∈ gLay5, w ∈ gW := fun _ h => (List.mem_append_right _ (List.mem_append_right _ (List.mem_append_right _ (List.mem_append_right _ (List.mem_append_right _ (List.mem_append_right _ (List.mem_append_right _ (List.mem_append_right _ (List.mem_append_right _ (List.mem_append_right _ (List.mem_append_right _ (List.mem_append_right _ (List.mem_append_right _ (List.mem_append_left _ h))))))))))))))
theorem in_gLay6 : ∀ w ∈ gLay6, w ∈ gW := fun _ h => (List.mem_append_right _ (List.mem_append_right _ (List.mem_append_right _ (List.mem_append_right _ (List.mem_append_right _ (List.mem_append_right _ (List.mem_append_right _ (List.mem_append_right _ (List.mem_append_right _ (List.mem_append_right _ (List.mem_append_right _ (List.mem_append_right _ (List.mem_append_right _ (List.mem_append_right _ (List.mem_append_left _ h)))))))))))))))
theorem in_gLay7 : ∀ w ∈ gLay7, w ∈ gW := fun _ h => (List.mem_append_right _ (List.mem_append_right _ (List.mem_append_right _ (List.mem_append_right _ (List.mem_append_right _ (List.mem_append_right _ (List.mem_append_right _ (List.mem_append_right _ (List.mem_append_right _ (List.mem_append_right _ (List.mem_append_right _ (List.mem_append_right _ (List.mem_append_right _ (List.mem_append_right _ (List.mem_append_right _ (List.mem_append_left _ h))))))))))))))))
theorem in_gNat : ∀ w ∈ gNat, w ∈ gW := fun _ h => (List.mem_append_right _ (List.mem_append_right _ (List.mem_append_right _ (List.mem_append_right _ (List.mem_append_right _ (List.mem_append_right _ (List.mem_append_right _ (List.mem_append_right _ (List.mem_append_right _ (List.mem_append_right _ (List.mem_append_right _ (List.mem_append_right _ (List.mem_append_right _ (List.mem_append_right _ (List.mem_append_right _ (List.mem_append_right _ (List.mem_append_left _ h)))))))))))))))))
theorem in_gNa2 : ∀ w ∈ gNa2, w ∈ gW := fun _ h => (List.mem_append_right _ (List.mem_append_right _ (List.mem_append_right _ (List.mem_append_right _ (List.mem_append_right _ (List.mem_append_right _ (List.mem_append_right _ (List.mem_append_right _ (List.mem_append_right _ (List.mem_append_right _ (List.mem_append_right _ (List.mem_append_right _ (List.mem_append_right _ (List.mem_append_right _ (List.mem_append_right _ (List.mem_append_right _ (List.mem_append_right _ (List.mem_append_left _ h))))))))))))))))))
theorem in_gCk : ∀ w ∈ gCk, w ∈ gW := fun _ h => (List.mem_append_right _ (List.mem_append_right _ (List.mem_append_right _ (List.mem_append_right _ (List.mem_append_right _ (List.mem_append_right _ (List.mem_append_right _ (List.mem_append_right _ (List.mem_append_right _ (List.mem_append_right _ (List.mem_append_right _ (List.mem_append_right _ (List.mem_append_right _ (List.mem_append_right _ (List.mem_append_right _ (List.mem_append_right _ (List.mem_append_right _ (List.mem_append_right _ h))))))))))))))))))
set_option maxRecDepth 100000 in
theorem gW_pl : gW = gPl.filterMap (fun i => lw_tbl[i]?) := rfl
theorem gW_good : gW.all goodWord = true := by decide +kernel
theorem gW_in : ∀ w ∈ gW, w ∈ lw_tbl := by
  intro w hw
  rw [gW_pl] at hw
  obtain ⟨i, -, hi⟩ := List.mem_filterMap.mp hw
  exact List.mem_of_getElem? hi
theorem gW_gd {w : Cond} (hw : w ∈ gW) : (w.onTables && w.keeps) = true ∨ ∃ ty, w = .arrayClass ty := good_of_word (List.all_eq_true.mp gW_good w hw)
theorem gW_self : GoodIn gW gW := fun w hw => ⟨hw, gW_gd hw⟩
/-- the words of method mi -/
def wsM (mi : Nat) : List Cond := Cond.code (yM mi) (bM mi) (lM mi) (rM mi) :: gW
def nestW : List Cond := cltN.map (fun q => Cond.methodLinkNest (RX q.1) q.2.1 (yM q.2.2) RX6)
def nestPl : List Nat := [504, 612, 381, 320, 258]
set_option maxRecDepth 100000 in
theorem nest_pl : nestW = nestPl.filterMap (fun i => lw_tbl[i]?) := rfl
end
section
-- NoticeShifts$Chooser.begin
def l1_0 : List Ent := [(0, .aload_n 0, 0, 0, 0, 0), (1, .iload_n 1, 0, 0, 0, 0), (2, .putfield 9, 0, 0, 0, 0), (5, .aload_n 0, 0, 0, 0, 0), (6, .iload_n 2, 0, 0, 0, 0), (7, .putfield 15, 0, 1, 0, 0), (10, .aload_n 0, 0, 0, 0, 0), (11, .iconst 0, 0, 0, 0, 0), (12, .putfield 18, 0, 2, 0, 0), (15, .aload_n 0, 0, 0, 0, 0), (16, .iconst 0, 0, 0, 0, 0), (17, .putfield 21, 0, 3, 0, 0), (20, .aload_n 0, 0, 0, 0, 0), (21, .iconst 0, 0, 0, 0, 0), (22, .putfield 24, 0, 4, 0, 0), (25, .aload_n 0, 0, 0, 0, 0), (26, .sipush 600, 0, 0, 0, 0), (29, .putfield 27, 0, 5, 0, 0), (32, .return_, 0, 0, 0, 0)]
def bk1 : List Blk := [(0, l1_0, 33)]
-- NoticeShifts$Chooser.choose
def l2_0 : List Ent := [(0, .iconst 0, 0, 0, 0, 0), (1, .istore_n 3, 0, 0, 0, 0)]
def l2_2 : List Ent := [(2, .iload_n 3, 0, 0, 0, 0), (3, .aload_n 1, 0, 0, 0, 0), (4, .getfield 30, 5, 1, 7, 0), (7, .iload_n 2, 0, 0, 0, 0), (8, .iaload, 0, 0, 0, 0), (9, .if_icmp .ge 98, 107, 0, 0, 0), (12, .aload_n 1, 0, 0, 0, 0), (13, .iload_n 2, 0, 0, 0, 0), (14, .iload_n 3, 0, 0, 0, 0), (15, .invokevirtual 36, 39, 3, 1, 5)]
def l2_18 : List Ent := [(18, .istore 4, 0, 0, 0, 0), (20, .aload_n 0, 0, 0, 0, 0), (21, .aload_n 1, 0, 0, 0, 0), (22, .iload 4, 0, 0, 0, 0), (24, .invokevirtual 40, 3, 3, 1, 0)]
def l2_27 : List Ent := [(27, .ifCond .ne 6, 33, 0, 0, 0), (30, .goto 71, 101, 0, 0, 0)]
def l2_33 : List Ent := [(33, .aload_n 0, 0, 0, 0, 0), (34, .getfield 24, 0, 4, 0, 0), (37, .aload_n 1, 0, 0, 0, 0), (38, .getfield 44, 5, 3, 9, 0), (41, .iload 4, 0, 0, 0, 0), (43, .iaload, 0, 0, 0, 0), (44, .iadd, 0, 0, 0, 0), (45, .istore 5, 0, 0, 0, 0), (47, .iload 5, 0, 0, 0, 0), (49, .aload_n 0, 0, 0, 0, 0), (50, .getfield 15, 0, 1, 0, 0), (53, .if_icmp .gt 35, 88, 0, 0, 0), (56, .aload_n 0, 0, 0, 0, 0), (57, .dup, 0, 0, 0, 0), (58, .getfield 18, 0, 2, 0, 0), (61, .iconst 1, 0, 0, 0, 0), (62, .iadd, 0, 0, 0, 0), (63, .putfield 18, 0, 2, 0, 0), (66, .aload_n 0, 0, 0, 0, 0), (67, .dup, 0, 0, 0, 0), (68, .getfield 21, 0, 3, 0, 0), (71, .iconst 1, 0, 0, 0, 0), (72, .iload 4, 0, 0, 0, 0), (74, .ishl, 0, 0, 0, 0), (75, .ior, 0, 0, 0, 0), (76, .putfield 21, 0, 3, 0, 0), (79, .aload_n 0, 0, 0, 0, 0), (80, .iload 5, 0, 0, 0, 0), (82, .putfield 24, 0, 4, 0, 0), (85, .iload 4, 0, 0, 0, 0), (87, .ireturn, 0, 0, 0, 0)]
def l2_88 : List Ent := [(88, .aload_n 0, 0, 0, 0, 0), (89, .aload_n 0, 0, 0, 0, 0), (90, .getfield 27, 0, 5, 0, 0), (93, .iload 5, 0, 0, 0, 0), (95, .invokestatic 47, 0, 0, 10, 0), (98, .putfield 27, 0, 5, 0, 0)]
def l2_101 : List Ent := [(101, .iinc 3 1, 0, 0, 0, 0), (104, .goto (-102), 2, 0, 0, 0)]
def l2_107 : List Ent := [(107, .bipush (-6), 0, 0, 0, 0), (109, .ireturn, 0, 0, 0, 0)]
def bk2 : List Blk := [(0, l2_0, 2), (2, l2_2, 18), (18, l2_18, 27), (27, l2_27, 33), (33, l2_33, 88), (88, l2_88, 101), (101, l2_101, 107), (107, l2_107, 110)]
-- NoticeShifts$Chooser.isFor
def l3_0 : List Ent := [(0, .aload_n 1, 0, 0, 0, 0), (1, .getfield 52, 5, 4, 10, 0), (4, .iload_n 2, 0, 0, 0, 0), (5, .iaload, 0, 0, 0, 0), (6, .aload_n 0, 0, 0, 0, 0), (7, .getfield 9, 0, 0, 0, 0), (10, .ishr, 0, 0, 0, 0), (11, .iconst 1, 0, 0, 0, 0), (12, .iand, 0, 0, 0, 0), (13, .iconst 1, 0, 0, 0, 0), (14, .if_icmp .ne 7, 21, 0, 0, 0), (17, .iconst 1, 0, 0, 0, 0), (18, .goto 4, 22, 0, 0, 0)]
def l3_21 : List Ent := [(21, .iconst 0, 0, 0, 0, 0)]
def l3_22 : List Ent := [(22, .istore_n 3, 0, 0, 0, 0), (23, .aload_n 0, 0, 0, 0, 0), (24, .getfield 21, 0, 3, 0, 0), (27, .iload_n 2, 0, 0, 0, 0), (28, .ishr, 0, 0, 0, 0), (29, .iconst 1, 0, 0, 0, 0), (30, .iand, 0, 0, 0, 0), (31, .iconst 1, 0, 0, 0, 0), (32, .if_icmp .ne 7, 39, 0, 0, 0), (35, .iconst 1, 0, 0, 0, 0), (36, .goto 4, 40, 0, 0, 0)]
def l3_39 : List Ent := [(39, .iconst 0, 0, 0, 0, 0)]
def l3_40 : List Ent := [(40, .istore 4, 0, 0, 0, 0), (42, .iload_n 3, 0, 0, 0, 0), (43, .ifCond .eq 12, 55, 0, 0, 0), (46, .iload 4, 0, 0, 0, 0), (48, .ifCond .ne 7, 55, 0, 0, 0), (51, .iconst 1, 0, 0, 0, 0), (52, .goto 4, 56, 0, 0, 0)]
def l3_55 : List Ent := [(55, .iconst 0, 0, 0, 0, 0)]
def l3_56 : List Ent := [(56, .ireturn, 1, 0, 0, 0)]
def bk3 : List Blk := [(0, l3_0, 21), (21, l3_21, 22), (22, l3_22, 39), (39, l3_39, 40), (40, l3_40, 55), (55, l3_55, 56), (56, l3_56, 57)]
-- NoticeShifts$Hearing.breakTime
def l5_0 : List Ent := [(0, .aload_n 0, 0, 0, 0, 0), (1, .getfield 12, 1, 0, 3, 0), (4, .iload_n 1, 0, 0, 0, 0), (5, .invokevirtual 25, 25, 2, 1, 4)]
def l5_8 : List Ent := [(8, .istore_n 2, 0, 0, 0, 0), (9, .iconst 0, 0, 0, 0, 0), (10, .istore_n 3, 0, 0, 0, 0)]
def l5_11 : List Ent := [(11, .iload_n 3, 0, 0, 0, 0), (12, .iload_n 1, 0, 0, 0, 0), (13, .if_icmp .ge 18, 31, 0, 0, 0), (16, .iload_n 2, 0, 0, 0, 0), (17, .aload_n 0, 0, 0, 0, 0), (18, .getfield 22, 1, 2, 8, 0), (21, .iload_n 3, 0, 0, 0, 0), (22, .iaload, 0, 0, 0, 0), (23, .iadd, 0, 0, 0, 0), (24, .istore_n 2, 0, 0, 0, 0), (25, .iinc 3 1, 0, 0, 0, 0), (28, .goto (-17), 11, 0, 0, 0)]
def l5_31 : List Ent := [(31, .iload_n 2, 0, 0, 0, 0), (32, .ireturn, 0, 0, 0, 0)]
def bk5 : List Blk := [(0, l5_0, 8), (8, l5_8, 11), (11, l5_11, 31), (31, l5_31, 33)]
-- NoticeShifts$Hearing.sentenceTime
def l6_0 : List Ent := [(0, .aload_n 0, 0, 0, 0, 0), (1, .iload_n 1, 0, 0, 0, 0), (2, .invokevirtual 29, 5, 2, 1, 1)]
def l6_5 : List Ent := [(5, .aload_n 0, 0, 0, 0, 0), (6, .getfield 22, 1, 2, 8, 0), (9, .iload_n 1, 0, 0, 0, 0), (10, .iaload, 0, 0, 0, 0), (11, .iadd, 0, 0, 0, 0), (12, .ireturn, 0, 0, 0, 0)]
def bk6 : List Blk := [(0, l6_0, 5), (5, l6_5, 13)]
-- NoticeShifts$Hearing.total
def l7_0 : List Ent := [(0, .aload_n 0, 0, 0, 0, 0), (1, .aload_n 0, 0, 0, 0, 0), (2, .getfield 12, 1, 0, 3, 0), (5, .getfield 32, 4, 3, 0, 0), (8, .invokevirtual 29, 5, 2, 1, 1)]
def l7_11 : List Ent := [(11, .ireturn, 0, 0, 0, 0)]
def bk7 : List Blk := [(0, l7_0, 11), (11, l7_11, 12)]
-- NoticeShifts$Hearing.noticeSeconds
def l8_0 : List Ent := [(0, .aload_n 0, 0, 0, 0, 0), (1, .invokevirtual 36, 7, 1, 1, 1)]
def l8_4 : List Ent := [(4, .aload_n 0, 0, 0, 0, 0), (5, .getfield 12, 1, 0, 3, 0), (8, .invokevirtual 40, 26, 1, 1, 4)]
def l8_11 : List Ent := [(11, .isub, 0, 0, 0, 0), (12, .ireturn, 0, 0, 0, 0)]
def bk8 : List Blk := [(0, l8_0, 4), (4, l8_4, 11), (11, l8_11, 13)]
-- NoticeShifts$Hearing.countNotices
def l9_0 : List Ent := [(0, .iconst 0, 0, 0, 0, 0), (1, .istore_n 1, 0, 0, 0, 0), (2, .iconst 0, 0, 0, 0, 0), (3, .istore_n 2, 0, 0, 0, 0)]
def l9_4 : List Ent := [(4, .iload_n 2, 0, 0, 0, 0), (5, .aload_n 0, 0, 0, 0, 0), (6, .getfield 12, 1, 0, 3, 0), (9, .getfield 32, 4, 3, 0, 0), (12, .if_icmp .ge 31, 43, 0, 0, 0), (15, .iload_n 1, 0, 0, 0, 0), (16, .aload_n 0, 0, 0, 0, 0), (17, .getfield 18, 1, 1, 7, 0), (20, .iload_n 2, 0, 0, 0, 0), (21, .iaload, 0, 0, 0, 0), (22, .bipush (-6), 0, 0, 0, 0), (24, .if_icmp .eq 7, 31, 0, 0, 0), (27, .iconst 1, 0, 0, 0, 0), (28, .goto 4, 32, 0, 0, 0)]
def l9_31 : List Ent := [(31, .iconst 0, 0, 0, 0, 0)]
def l9_32 : List Ent := [(32, .invokestatic 41, 81, 1, 2, 0)]
def l9_35 : List Ent := [(35, .iadd, 0, 0, 0, 0), (36, .istore_n 1, 0, 0, 0, 0), (37, .iinc 2 1, 0, 0, 0, 0), (40, .goto (-36), 4, 0, 0, 0)]
def l9_43 : List Ent := [(43, .iload_n 1, 0, 0, 0, 0), (44, .ireturn, 0, 0, 0, 0)]
def bk9 : List Blk := [(0, l9_0, 4), (4, l9_4, 31), (31, l9_31, 32), (32, l9_32, 35), (35, l9_35, 43), (43, l9_43, 45)]
-- NoticeShifts$Hearing.placeHeardAt
def l10_0 : List Ent := [(0, .iconst 0, 0, 0, 0, 0), (1, .istore_n 2, 0, 0, 0, 0), (2, .iconst 0, 0, 0, 0, 0), (3, .istore_n 3, 0, 0, 0, 0)]
def l10_4 : List Ent := [(4, .iload_n 3, 0, 0, 0, 0), (5, .aload_n 0, 0, 0, 0, 0), (6, .getfield 12, 1, 0, 3, 0), (9, .getfield 32, 4, 3, 0, 0), (12, .if_icmp .ge 35, 47, 0, 0, 0), (15, .iload_n 2, 0, 0, 0, 0), (16, .aload_n 0, 0, 0, 0, 0), (17, .getfield 22, 1, 2, 8, 0), (20, .iload_n 3, 0, 0, 0, 0), (21, .iaload, 0, 0, 0, 0), (22, .aload_n 0, 0, 0, 0, 0), (23, .getfield 12, 1, 0, 3, 0), (26, .getfield 45, 4, 1, 4, 0), (29, .iload_n 3, 0, 0, 0, 0), (30, .iaload, 0, 0, 0, 0), (31, .iadd, 0, 0, 0, 0), (32, .iadd, 0, 0, 0, 0), (33, .istore_n 2, 0, 0, 0, 0), (34, .iload_n 1, 0, 0, 0, 0), (35, .iload_n 2, 0, 0, 0, 0), (36, .if_icmp .ge 5, 41, 0, 0, 0), (39, .iload_n 3, 0, 0, 0, 0), (40, .ireturn, 0, 0, 0, 0)]
def l10_41 : List Ent := [(41, .iinc 3 1, 0, 0, 0, 0), (44, .goto (-40), 4, 0, 0, 0)]
def l10_47 : List Ent := [(47, .bipush (-6), 0, 0, 0, 0), (49, .ireturn, 0, 0, 0, 0)]
def bk10 : List Blk := [(0, l10_0, 4), (4, l10_4, 41), (41, l10_41, 47), (47, l10_47, 50)]
-- NoticeShifts$Hearing.copyFrom
def l11_0 : List Ent := [(0, .aload_n 0, 0, 0, 0, 0), (1, .getfield 12, 1, 0, 3, 0), (4, .aload_n 1, 0, 0, 0, 0), (5, .getfield 12, 1, 0, 3, 0), (8, .invokevirtual 48, 32, 2, 0, 4)]
def l11_11 : List Ent := [(11, .aload_n 1, 0, 0, 0, 0), (12, .getfield 18, 1, 1, 7, 0), (15, .iconst 0, 0, 0, 0, 0), (16, .aload_n 0, 0, 0, 0, 0), (17, .getfield 18, 1, 1, 7, 0), (20, .iconst 0, 0, 0, 0, 0), (21, .aload_n 0, 0, 0, 0, 0), (22, .getfield 12, 1, 0, 3, 0), (25, .getfield 32, 4, 3, 0, 0), (28, .invokestatic 52, 0, 0, 13, 0), (31, .aload_n 1, 0, 0, 0, 0), (32, .getfield 22, 1, 2, 8, 0), (35, .iconst 0, 0, 0, 0, 0), (36, .aload_n 0, 0, 0, 0, 0), (37, .getfield 22, 1, 2, 8, 0), (40, .iconst 0, 0, 0, 0, 0), (41, .aload_n 0, 0, 0, 0, 0), (42, .getfield 12, 1, 0, 3, 0), (45, .getfield 32, 4, 3, 0, 0), (48, .invokestatic 52, 0, 0, 13, 0), (51, .return_, 0, 0, 0, 0)]
def bk11 : List Blk := [(0, l11_0, 11), (11, l11_11, 52)]
-- NoticeShifts$Hearing.isLike
def l12_0 : List Ent := [(0, .aload_n 0, 0, 0, 0, 0), (1, .getfield 12, 1, 0, 3, 0), (4, .aload_n 1, 0, 0, 0, 0), (5, .getfield 12, 1, 0, 3, 0), (8, .invokevirtual 58, 33, 2, 1, 4)]
def l12_11 : List Ent := [(11, .ifCond .ne 5, 16, 0, 0, 0), (14, .iconst 0, 0, 0, 0, 0), (15, .ireturn, 1, 0, 0, 0)]
def l12_16 : List Ent := [(16, .iconst 0, 0, 0, 0, 0), (17, .istore_n 2, 0, 0, 0, 0)]
def l12_18 : List Ent := [(18, .iload_n 2, 0, 0, 0, 0), (19, .aload_n 0, 0, 0, 0, 0), (20, .getfield 12, 1, 0, 3, 0), (23, .getfield 32, 4, 3, 0, 0), (26, .if_icmp .ge 41, 67, 0, 0, 0), (29, .aload_n 0, 0, 0, 0, 0), (30, .getfield 18, 1, 1, 7, 0), (33, .iload_n 2, 0, 0, 0, 0), (34, .iaload, 0, 0, 0, 0), (35, .aload_n 1, 0, 0, 0, 0), (36, .getfield 18, 1, 1, 7, 0), (39, .iload_n 2, 0, 0, 0, 0), (40, .iaload, 0, 0, 0, 0), (41, .if_icmp .ne 18, 59, 0, 0, 0), (44, .aload_n 0, 0, 0, 0, 0), (45, .getfield 22, 1, 2, 8, 0), (48, .iload_n 2, 0, 0, 0, 0), (49, .iaload, 0, 0, 0, 0), (50, .aload_n 1, 0, 0, 0, 0), (51, .getfield 22, 1, 2, 8, 0), (54, .iload_n 2, 0, 0, 0, 0), (55, .iaload, 0, 0, 0, 0), (56, .if_icmp .eq 5, 61, 0, 0, 0)]
def l12_59 : List Ent := [(59, .iconst 0, 0, 0, 0, 0), (60, .ireturn, 1, 0, 0, 0)]
def l12_61 : List Ent := [(61, .iinc 2 1, 0, 0, 0, 0), (64, .goto (-46), 18, 0, 0, 0)]
def l12_67 : List Ent := [(67, .iconst 1, 0, 0, 0, 0), (68, .ireturn, 1, 0, 0, 0)]
def bk12 : List Blk := [(0, l12_0, 11), (11, l12_11, 16), (16, l12_16, 18), (18, l12_18, 59), (59, l12_59, 61), (61, l12_61, 67), (67, l12_67, 69)]
-- NoticeShifts$History.keep
def l14_0 : List Ent := [(0, .aload_n 0, 0, 0, 0, 0), (1, .getfield 11, 2, 0, 3, 0), (4, .aload_n 0, 0, 0, 0, 0), (5, .getfield 18, 2, 1, 0, 0), (8, .aaload, 104, 1, 55, 0), (9, .aload_n 1, 0, 0, 0, 0), (10, .invokevirtual 22, 47, 2, 0, 5)]
def l14_13 : List Ent := [(13, .aload_n 0, 0, 0, 0, 0), (14, .aload_n 0, 0, 0, 0, 0), (15, .getfield 18, 2, 1, 0, 0), (18, .iconst 5, 0, 0, 0, 0), (19, .if_icmp .ne 7, 26, 0, 0, 0), (22, .iconst 0, 0, 0, 0, 0), (23, .goto 9, 32, 0, 0, 0)]
def l14_26 : List Ent := [(26, .aload_n 0, 0, 0, 0, 0), (27, .getfield 18, 2, 1, 0, 0), (30, .iconst 1, 0, 0, 0, 0), (31, .iadd, 0, 0, 0, 0)]
def l14_32 : List Ent := [(32, .putfield 18, 2, 1, 0, 0), (35, .aload_n 0, 0, 0, 0, 0), (36, .aload_n 0, 0, 0, 0, 0), (37, .getfield 26, 2, 2, 0, 0), (40, .iconst 1, 0, 0, 0, 0), (41, .iadd, 0, 0, 0, 0), (42, .bipush 6, 0, 0, 0, 0), (44, .invokestatic 29, 0, 0, 10, 0), (47, .putfield 26, 2, 2, 0, 0), (50, .return_, 0, 0, 0, 0)]
def bk14 : List Blk := [(0, l14_0, 13), (13, l14_13, 26), (26, l14_26, 32), (32, l14_32, 51)]
-- NoticeShifts$History.takeBack
def l15_0 : List Ent := [(0, .aload_n 0, 0, 0, 0, 0), (1, .aload_n 0, 0, 0, 0, 0), (2, .getfield 18, 2, 1, 0, 0), (5, .ifCond .ne 7, 12, 0, 0, 0), (8, .iconst 5, 0, 0, 0, 0), (9, .goto 9, 18, 0, 0, 0)]
def l15_12 : List Ent := [(12, .aload_n 0, 0, 0, 0, 0), (13, .getfield 18, 2, 1, 0, 0), (16, .iconst 1, 0, 0, 0, 0), (17, .isub, 0, 0, 0, 0)]
def l15_18 : List Ent := [(18, .putfield 18, 2, 1, 0, 0), (21, .aload_n 0, 0, 0, 0, 0), (22, .dup, 0, 0, 0, 0), (23, .getfield 26, 2, 2, 0, 0), (26, .iconst 1, 0, 0, 0, 0), (27, .isub, 0, 0, 0, 0), (28, .putfield 26, 2, 2, 0, 0), (31, .aload_n 1, 0, 0, 0, 0), (32, .aload_n 0, 0, 0, 0, 0), (33, .getfield 11, 2, 0, 3, 0), (36, .aload_n 0, 0, 0, 0, 0), (37, .getfield 18, 2, 1, 0, 0), (40, .aaload, 104, 1, 55, 0), (41, .invokevirtual 22, 47, 2, 0, 5)]
def l15_44 : List Ent := [(44, .return_, 0, 0, 0, 0)]
def bk15 : List Blk := [(0, l15_0, 12), (12, l15_12, 18), (18, l15_18, 44), (44, l15_44, 45)]
-- NoticeShifts$Pad.isNotice
def l17_0 : List Ent := [(0, .iload_n 0, 0, 0, 0, 0), (1, .bipush 48, 0, 0, 0, 0), (3, .if_icmp .lt 13, 16, 0, 0, 0), (6, .iload_n 0, 0, 0, 0, 0), (7, .bipush 55, 0, 0, 0, 0), (9, .if_icmp .gt 7, 16, 0, 0, 0), (12, .iconst 1, 0, 0, 0, 0), (13, .goto 4, 17, 0, 0, 0)]
def l17_16 : List Ent := [(16, .iconst 0, 0, 0, 0, 0)]
def l17_17 : List Ent := [(17, .ireturn, 1, 0, 0, 0)]
def bk17 : List Blk := [(0, l17_0, 16), (16, l17_16, 17), (17, l17_17, 18)]
-- NoticeShifts$Pad.countCharacters
def l18_0 : List Ent := [(0, .iconst 0, 0, 0, 0, 0), (1, .istore_n 2, 0, 0, 0, 0), (2, .iconst 0, 0, 0, 0, 0), (3, .istore_n 3, 0, 0, 0, 0)]
def l18_4 : List Ent := [(4, .iload_n 3, 0, 0, 0, 0), (5, .bipush 8, 0, 0, 0, 0), (7, .if_icmp .ge 41, 48, 0, 0, 0), (10, .lload_n 0, 0, 0, 0, 0), (11, .bipush 8, 0, 0, 0, 0), (13, .iload_n 3, 0, 0, 0, 0), (14, .imul, 0, 0, 0, 0), (15, .lushr, 0, 0, 0, 0), (16, .lconst 0, 0, 0, 0, 0), (17, .lcmp, 0, 0, 0, 0), (18, .ifCond .eq 30, 48, 0, 0, 0), (21, .lload_n 0, 0, 0, 0, 0), (22, .iload_n 3, 0, 0, 0, 0), (23, .invokestatic 15, 19, 2, 1, 0)]
def l18_26 : List Ent := [(26, .bipush 33, 0, 0, 0, 0), (28, .bipush 126, 0, 0, 0, 0), (30, .invokestatic 19, 80, 3, 2, 0)]
def l18_33 : List Ent := [(33, .ifCond .ne 6, 39, 0, 0, 0), (36, .bipush (-2), 0, 0, 0, 0), (38, .ireturn, 0, 0, 0, 0)]
def l18_39 : List Ent := [(39, .iinc 2 1, 0, 0, 0, 0), (42, .iinc 3 1, 0, 0, 0, 0), (45, .goto (-41), 4, 0, 0, 0)]
def l18_48 : List Ent := [(48, .iload_n 2, 0, 0, 0, 0), (49, .ifCond .ne 8, 57, 0, 0, 0), (52, .bipush (-2), 0, 0, 0, 0), (54, .goto 4, 58, 0, 0, 0)]
def l18_57 : List Ent := [(57, .iload_n 2, 0, 0, 0, 0)]
def l18_58 : List Ent := [(58, .ireturn, 0, 0, 0, 0)]
def bk18 : List Blk := [(0, l18_0, 4), (4, l18_4, 26), (26, l18_26, 33), (33, l18_33, 39), (39, l18_39, 48), (48, l18_48, 57), (57, l18_57, 58), (58, l18_58, 59)]
-- NoticeShifts$Pad.characterAt
def l19_0 : List Ent := [(0, .lload_n 0, 0, 0, 0, 0), (1, .bipush 8, 0, 0, 0, 0), (3, .iload_n 2, 0, 0, 0, 0), (4, .imul, 0, 0, 0, 0), (5, .lushr, 0, 0, 0, 0), (6, .ldc2_w 23, 255, 0, 0, 0), (9, .land, 0, 0, 0, 0), (10, .l2i, 0, 0, 0, 0), (11, .i2c, 0, 0, 0, 0), (12, .ireturn, 2, 0, 0, 0)]
def bk19 : List Blk := [(0, l19_0, 13)]
-- NoticeShifts$Pad.append
def l20_0 : List Ent := [(0, .iload_n 3, 0, 0, 0, 0), (1, .iconst 1, 0, 0, 0, 0), (2, .isub, 0, 0, 0, 0), (3, .istore 4, 0, 0, 0, 0)]
def l20_5 : List Ent := [(5, .iload 4, 0, 0, 0, 0), (7, .ifCond .lt 34, 41, 0, 0, 0), (10, .aload_n 0, 0, 0, 0, 0), (11, .getfield 9, 3, 0, 3, 0), (14, .aload_n 0, 0, 0, 0, 0), (15, .getfield 25, 3, 1, 0, 0), (18, .lload_n 1, 0, 0, 0, 0), (19, .iload 4, 0, 0, 0, 0), (21, .invokestatic 15, 19, 2, 1, 0)]
def l20_24 : List Ent := [(24, .castore, 0, 0, 0, 0), (25, .aload_n 0, 0, 0, 0, 0), (26, .dup, 0, 0, 0, 0), (27, .getfield 25, 3, 1, 0, 0), (30, .iconst 1, 0, 0, 0, 0), (31, .iadd, 0, 0, 0, 0), (32, .putfield 25, 3, 1, 0, 0), (35, .iinc 4 (-1), 0, 0, 0, 0), (38, .goto (-33), 5, 0, 0, 0)]
def l20_41 : List Ent := [(41, .return_, 0, 0, 0, 0)]
def bk20 : List Blk := [(0, l20_0, 5), (5, l20_5, 24), (24, l20_24, 41), (41, l20_41, 42)]
-- NoticeShifts$Pad.findFault
def l21_0 : List Ent := [(0, .iconst 0, 0, 0, 0, 0), (1, .istore_n 1, 0, 0, 0, 0), (2, .iconst 4, 0, 0, 0, 0), (3, .istore_n 2, 0, 0, 0, 0), (4, .iconst 0, 0, 0, 0, 0), (5, .istore_n 3, 0, 0, 0, 0), (6, .iconst 0, 0, 0, 0, 0), (7, .istore 4, 0, 0, 0, 0)]
def l21_9 : List Ent := [(9, .iload 4, 0, 0, 0, 0), (11, .aload_n 0, 0, 0, 0, 0), (12, .getfield 25, 3, 1, 0, 0), (15, .if_icmp .ge 89, 104, 0, 0, 0), (18, .aload_n 0, 0, 0, 0, 0), (19, .getfield 9, 3, 0, 3, 0), (22, .iload 4, 0, 0, 0, 0), (24, .caload, 0, 0, 0, 0), (25, .istore 5, 0, 0, 0, 0), (27, .iload 5, 0, 0, 0, 0), (29, .bipush 47, 0, 0, 0, 0), (31, .if_icmp .ne 26, 57, 0, 0, 0), (34, .iinc 1 1, 0, 0, 0, 0), (37, .iload_n 3, 0, 0, 0, 0), (38, .ifCond .eq 9, 47, 0, 0, 0), (41, .iload_n 1, 0, 0, 0, 0), (42, .bipush 24, 0, 0, 0, 0), (44, .if_icmp .ne 6, 50, 0, 0, 0)]
def l21_47 : List Ent := [(47, .iload 4, 0, 0, 0, 0), (49, .ireturn, 0, 0, 0, 0)]
def l21_50 : List Ent := [(50, .iconst 4, 0, 0, 0, 0), (51, .istore_n 2, 0, 0, 0, 0), (52, .iconst 0, 0, 0, 0, 0), (53, .istore_n 3, 0, 0, 0, 0), (54, .goto 44, 98, 0, 0, 0)]
def l21_57 : List Ent := [(57, .iload 5, 0, 0, 0, 0), (59, .bipush 46, 0, 0, 0, 0), (61, .if_icmp .ne 14, 75, 0, 0, 0), (64, .iload_n 3, 0, 0, 0, 0), (65, .ifCond .ne 10, 75, 0, 0, 0), (68, .iconst 0, 0, 0, 0, 0), (69, .istore_n 2, 0, 0, 0, 0), (70, .iconst 1, 0, 0, 0, 0), (71, .istore_n 3, 0, 0, 0, 0), (72, .goto 26, 98, 0, 0, 0)]
def l21_75 : List Ent := [(75, .iload 5, 0, 0, 0, 0), (77, .invokestatic 29, 17, 1, 1, 0)]
def l21_80 : List Ent := [(80, .ifCond .eq 15, 95, 0, 0, 0), (83, .iload_n 2, 0, 0, 0, 0), (84, .ifCond .le 11, 95, 0, 0, 0), (87, .iinc 2 (-1), 0, 0, 0, 0), (90, .iconst 1, 0, 0, 0, 0), (91, .istore_n 3, 0, 0, 0, 0), (92, .goto 6, 98, 0, 0, 0)]
def l21_95 : List Ent := [(95, .iload 4, 0, 0, 0, 0), (97, .ireturn, 0, 0, 0, 0)]
def l21_98 : List Ent := [(98, .iinc 4 1, 0, 0, 0, 0), (101, .goto (-92), 9, 0, 0, 0)]
def l21_104 : List Ent := [(104, .iload_n 3, 0, 0, 0, 0), (105, .ifCond .eq 8, 113, 0, 0, 0), (108, .bipush (-6), 0, 0, 0, 0), (110, .goto 7, 117, 0, 0, 0)]
def l21_113 : List Ent := [(113, .aload_n 0, 0, 0, 0, 0), (114, .getfield 25, 3, 1, 0, 0)]
def l21_117 : List Ent := [(117, .ireturn, 0, 0, 0, 0)]
def bk21 : List Blk := [(0, l21_0, 9), (9, l21_9, 47), (47, l21_47, 50), (50, l21_50, 57), (57, l21_57, 75), (75, l21_75, 80), (80, l21_80, 95), (95, l21_95, 98), (98, l21_98, 104), (104, l21_104, 113), (113, l21_113, 117), (117, l21_117, 118)]
-- NoticeShifts$Pad.countRows
def l22_0 : List Ent := [(0, .iconst 1, 0, 0, 0, 0), (1, .istore_n 1, 0, 0, 0, 0), (2, .iconst 0, 0, 0, 0, 0), (3, .istore_n 2, 0, 0, 0, 0)]
def l22_4 : List Ent := [(4, .iload_n 2, 0, 0, 0, 0), (5, .aload_n 0, 0, 0, 0, 0), (6, .getfield 25, 3, 1, 0, 0), (9, .if_icmp .ge 31, 40, 0, 0, 0), (12, .iload_n 1, 0, 0, 0, 0), (13, .aload_n 0, 0, 0, 0, 0), (14, .getfield 9, 3, 0, 3, 0), (17, .iload_n 2, 0, 0, 0, 0), (18, .caload, 0, 0, 0, 0), (19, .bipush 47, 0, 0, 0, 0), (21, .if_icmp .ne 7, 28, 0, 0, 0), (24, .iconst 1, 0, 0, 0, 0), (25, .goto 4, 29, 0, 0, 0)]
def l22_28 : List Ent := [(28, .iconst 0, 0, 0, 0, 0)]
def l22_29 : List Ent := [(29, .invokestatic 33, 81, 1, 2, 0)]
def l22_32 : List Ent := [(32, .iadd, 0, 0, 0, 0), (33, .istore_n 1, 0, 0, 0, 0), (34, .iinc 2 1, 0, 0, 0, 0), (37, .goto (-33), 4, 0, 0, 0)]
def l22_40 : List Ent := [(40, .iload_n 1, 0, 0, 0, 0), (41, .ireturn, 0, 0, 0, 0)]
def bk22 : List Blk := [(0, l22_0, 4), (4, l22_4, 28), (28, l22_28, 29), (29, l22_29, 32), (32, l22_32, 40), (40, l22_40, 42)]
-- NoticeShifts$Pad.highestNotice
def l23_0 : List Ent := [(0, .iconst (-1), 0, 0, 0, 0), (1, .istore_n 1, 0, 0, 0, 0), (2, .iconst 0, 0, 0, 0, 0), (3, .istore_n 2, 0, 0, 0, 0)]
def l23_4 : List Ent := [(4, .iload_n 2, 0, 0, 0, 0), (5, .aload_n 0, 0, 0, 0, 0), (6, .getfield 25, 3, 1, 0, 0), (9, .if_icmp .ge 35, 44, 0, 0, 0), (12, .aload_n 0, 0, 0, 0, 0), (13, .getfield 9, 3, 0, 3, 0), (16, .iload_n 2, 0, 0, 0, 0), (17, .caload, 0, 0, 0, 0), (18, .invokestatic 29, 17, 1, 1, 0)]
def l23_21 : List Ent := [(21, .ifCond .eq 17, 38, 0, 0, 0), (24, .iload_n 1, 0, 0, 0, 0), (25, .aload_n 0, 0, 0, 0, 0), (26, .getfield 9, 3, 0, 3, 0), (29, .iload_n 2, 0, 0, 0, 0), (30, .caload, 0, 0, 0, 0), (31, .bipush 48, 0, 0, 0, 0), (33, .isub, 0, 0, 0, 0), (34, .invokestatic 37, 0, 0, 11, 0), (37, .istore_n 1, 0, 0, 0, 0)]
def l23_38 : List Ent := [(38, .iinc 2 1, 0, 0, 0, 0), (41, .goto (-37), 4, 0, 0, 0)]
def l23_44 : List Ent := [(44, .iload_n 1, 0, 0, 0, 0), (45, .ireturn, 0, 0, 0, 0)]
def bk23 : List Blk := [(0, l23_0, 4), (4, l23_4, 21), (21, l23_21, 38), (38, l23_38, 44), (44, l23_44, 46)]
-- NoticeShifts$Sentences.timeOf
def l25_0 : List Ent := [(0, .iconst 0, 0, 0, 0, 0), (1, .istore_n 2, 0, 0, 0, 0), (2, .iconst 0, 0, 0, 0, 0), (3, .istore_n 3, 0, 0, 0, 0)]
def l25_4 : List Ent := [(4, .iload_n 3, 0, 0, 0, 0), (5, .iload_n 1, 0, 0, 0, 0), (6, .if_icmp .ge 18, 24, 0, 0, 0), (9, .iload_n 2, 0, 0, 0, 0), (10, .aload_n 0, 0, 0, 0, 0), (11, .getfield 15, 4, 1, 4, 0), (14, .iload_n 3, 0, 0, 0, 0), (15, .iaload, 0, 0, 0, 0), (16, .iadd, 0, 0, 0, 0), (17, .istore_n 2, 0, 0, 0, 0), (18, .iinc 3 1, 0, 0, 0, 0), (21, .goto (-17), 4, 0, 0, 0)]
def l25_24 : List Ent := [(24, .iload_n 2, 0, 0, 0, 0), (25, .ireturn, 0, 0, 0, 0)]
def bk25 : List Blk := [(0, l25_0, 4), (4, l25_4, 24), (24, l25_24, 26)]
-- NoticeShifts$Sentences.total
def l26_0 : List Ent := [(0, .aload_n 0, 0, 0, 0, 0), (1, .aload_n 0, 0, 0, 0, 0), (2, .getfield 21, 4, 3, 0, 0), (5, .invokevirtual 25, 25, 2, 1, 4)]
def l26_8 : List Ent := [(8, .ireturn, 0, 0, 0, 0)]
def bk26 : List Blk := [(0, l26_0, 8), (8, l26_8, 9)]
-- NoticeShifts$Sentences.placeAtTime
def l27_0 : List Ent := [(0, .iconst 0, 0, 0, 0, 0), (1, .istore_n 2, 0, 0, 0, 0), (2, .iconst 0, 0, 0, 0, 0), (3, .istore_n 3, 0, 0, 0, 0)]
def l27_4 : List Ent := [(4, .iload_n 3, 0, 0, 0, 0), (5, .aload_n 0, 0, 0, 0, 0), (6, .getfield 21, 4, 3, 0, 0), (9, .if_icmp .ge 25, 34, 0, 0, 0), (12, .iload_n 2, 0, 0, 0, 0), (13, .aload_n 0, 0, 0, 0, 0), (14, .getfield 15, 4, 1, 4, 0), (17, .iload_n 3, 0, 0, 0, 0), (18, .iaload, 0, 0, 0, 0), (19, .iadd, 0, 0, 0, 0), (20, .istore_n 2, 0, 0, 0, 0), (21, .iload_n 1, 0, 0, 0, 0), (22, .iload_n 2, 0, 0, 0, 0), (23, .if_icmp .ge 5, 28, 0, 0, 0), (26, .iload_n 3, 0, 0, 0, 0), (27, .ireturn, 0, 0, 0, 0)]
def l27_28 : List Ent := [(28, .iinc 3 1, 0, 0, 0, 0), (31, .goto (-27), 4, 0, 0, 0)]
def l27_34 : List Ent := [(34, .bipush (-6), 0, 0, 0, 0), (36, .ireturn, 0, 0, 0, 0)]
def bk27 : List Blk := [(0, l27_0, 4), (4, l27_4, 28), (28, l27_28, 34), (34, l27_34, 37)]
-- NoticeShifts$Sentences.placeOf
def l28_0 : List Ent := [(0, .iconst 0, 0, 0, 0, 0), (1, .istore_n 2, 0, 0, 0, 0)]
def l28_2 : List Ent := [(2, .iload_n 2, 0, 0, 0, 0), (3, .aload_n 0, 0, 0, 0, 0), (4, .getfield 21, 4, 3, 0, 0), (7, .if_icmp .ge 21, 28, 0, 0, 0), (10, .aload_n 0, 0, 0, 0, 0), (11, .getfield 9, 4, 0, 3, 0), (14, .iload_n 2, 0, 0, 0, 0), (15, .iaload, 0, 0, 0, 0), (16, .iload_n 1, 0, 0, 0, 0), (17, .if_icmp .ne 5, 22, 0, 0, 0), (20, .iload_n 2, 0, 0, 0, 0), (21, .ireturn, 0, 0, 0, 0)]
def l28_22 : List Ent := [(22, .iinc 2 1, 0, 0, 0, 0), (25, .goto (-23), 2, 0, 0, 0)]
def l28_28 : List Ent := [(28, .iconst (-1), 0, 0, 0, 0), (29, .ireturn, 0, 0, 0, 0)]
def bk28 : List Blk := [(0, l28_0, 2), (2, l28_2, 22), (22, l28_22, 28), (28, l28_28, 30)]
-- NoticeShifts$Sentences.chapterOf
def l29_0 : List Ent := [(0, .iconst 0, 0, 0, 0, 0), (1, .istore_n 2, 0, 0, 0, 0), (2, .iconst 1, 0, 0, 0, 0), (3, .istore_n 3, 0, 0, 0, 0)]
def l29_4 : List Ent := [(4, .iload_n 3, 0, 0, 0, 0), (5, .iload_n 1, 0, 0, 0, 0), (6, .if_icmp .gt 18, 24, 0, 0, 0), (9, .iload_n 2, 0, 0, 0, 0), (10, .aload_n 0, 0, 0, 0, 0), (11, .getfield 18, 4, 2, 5, 0), (14, .iload_n 3, 0, 0, 0, 0), (15, .iaload, 0, 0, 0, 0), (16, .iadd, 0, 0, 0, 0), (17, .istore_n 2, 0, 0, 0, 0), (18, .iinc 3 1, 0, 0, 0, 0), (21, .goto (-17), 4, 0, 0, 0)]
def l29_24 : List Ent := [(24, .iload_n 2, 0, 0, 0, 0), (25, .ireturn, 0, 0, 0, 0)]
def bk29 : List Blk := [(0, l29_0, 4), (4, l29_4, 24), (24, l29_24, 26)]
-- NoticeShifts$Sentences.chapters
def l30_0 : List Ent := [(0, .aload_n 0, 0, 0, 0, 0), (1, .aload_n 0, 0, 0, 0, 0), (2, .getfield 21, 4, 3, 0, 0), (5, .iconst 1, 0, 0, 0, 0), (6, .isub, 0, 0, 0, 0), (7, .invokevirtual 29, 29, 2, 1, 4)]
def l30_10 : List Ent := [(10, .iconst 1, 0, 0, 0, 0), (11, .iadd, 0, 0, 0, 0), (12, .ireturn, 0, 0, 0, 0)]
def bk30 : List Blk := [(0, l30_0, 10), (10, l30_10, 13)]
-- NoticeShifts$Sentences.firstOfChapter
def l31_0 : List Ent := [(0, .iconst 0, 0, 0, 0, 0), (1, .istore_n 2, 0, 0, 0, 0), (2, .iconst 0, 0, 0, 0, 0), (3, .istore_n 3, 0, 0, 0, 0)]
def l31_4 : List Ent := [(4, .iload_n 3, 0, 0, 0, 0), (5, .aload_n 0, 0, 0, 0, 0), (6, .getfield 21, 4, 3, 0, 0), (9, .if_icmp .ge 25, 34, 0, 0, 0), (12, .iload_n 2, 0, 0, 0, 0), (13, .aload_n 0, 0, 0, 0, 0), (14, .getfield 18, 4, 2, 5, 0), (17, .iload_n 3, 0, 0, 0, 0), (18, .iaload, 0, 0, 0, 0), (19, .iadd, 0, 0, 0, 0), (20, .istore_n 2, 0, 0, 0, 0), (21, .iload_n 2, 0, 0, 0, 0), (22, .iload_n 1, 0, 0, 0, 0), (23, .if_icmp .le 5, 28, 0, 0, 0), (26, .iload_n 3, 0, 0, 0, 0), (27, .ireturn, 0, 0, 0, 0)]
def l31_28 : List Ent := [(28, .iinc 3 1, 0, 0, 0, 0), (31, .goto (-27), 4, 0, 0, 0)]
def l31_34 : List Ent := [(34, .iconst 0, 0, 0, 0, 0), (35, .ireturn, 0, 0, 0, 0)]
def bk31 : List Blk := [(0, l31_0, 4), (4, l31_4, 28), (28, l31_28, 34), (34, l31_34, 36)]
-- NoticeShifts$Sentences.copyFrom
def l32_0 : List Ent := [(0, .aload_n 0, 0, 0, 0, 0), (1, .aload_n 1, 0, 0, 0, 0), (2, .getfield 21, 4, 3, 0, 0), (5, .putfield 21, 4, 3, 0, 0), (8, .aload_n 1, 0, 0, 0, 0), (9, .getfield 9, 4, 0, 3, 0), (12, .iconst 0, 0, 0, 0, 0), (13, .aload_n 0, 0, 0, 0, 0), (14, .getfield 9, 4, 0, 3, 0), (17, .iconst 0, 0, 0, 0, 0), (18, .aload_n 0, 0, 0, 0, 0), (19, .getfield 21, 4, 3, 0, 0), (22, .invokestatic 32, 0, 0, 13, 0), (25, .aload_n 1, 0, 0, 0, 0), (26, .getfield 15, 4, 1, 4, 0), (29, .iconst 0, 0, 0, 0, 0), (30, .aload_n 0, 0, 0, 0, 0), (31, .getfield 15, 4, 1, 4, 0), (34, .iconst 0, 0, 0, 0, 0), (35, .aload_n 0, 0, 0, 0, 0), (36, .getfield 21, 4, 3, 0, 0), (39, .invokestatic 32, 0, 0, 13, 0), (42, .aload_n 1, 0, 0, 0, 0), (43, .getfield 18, 4, 2, 5, 0), (46, .iconst 0, 0, 0, 0, 0), (47, .aload_n 0, 0, 0, 0, 0), (48, .getfield 18, 4, 2, 5, 0), (51, .iconst 0, 0, 0, 0, 0), (52, .aload_n 0, 0, 0, 0, 0), (53, .getfield 21, 4, 3, 0, 0), (56, .invokestatic 32, 0, 0, 13, 0), (59, .return_, 0, 0, 0, 0)]
def bk32 : List Blk := [(0, l32_0, 60)]
-- NoticeShifts$Sentences.isLike
def l33_0 : List Ent := [(0, .aload_n 0, 0, 0, 0, 0), (1, .getfield 21, 4, 3, 0, 0), (4, .aload_n 1, 0, 0, 0, 0), (5, .getfield 21, 4, 3, 0, 0), (8, .if_icmp .eq 5, 13, 0, 0, 0), (11, .iconst 0, 0, 0, 0, 0), (12, .ireturn, 1, 0, 0, 0)]
def l33_13 : List Ent := [(13, .iconst 0, 0, 0, 0, 0), (14, .istore_n 2, 0, 0, 0, 0)]
def l33_15 : List Ent := [(15, .iload_n 2, 0, 0, 0, 0), (16, .aload_n 0, 0, 0, 0, 0), (17, .getfield 21, 4, 3, 0, 0), (20, .if_icmp .ge 56, 76, 0, 0, 0), (23, .aload_n 0, 0, 0, 0, 0), (24, .getfield 9, 4, 0, 3, 0), (27, .iload_n 2, 0, 0, 0, 0), (28, .iaload, 0, 0, 0, 0), (29, .aload_n 1, 0, 0, 0, 0), (30, .getfield 9, 4, 0, 3, 0), (33, .iload_n 2, 0, 0, 0, 0), (34, .iaload, 0, 0, 0, 0), (35, .if_icmp .ne 33, 68, 0, 0, 0), (38, .aload_n 0, 0, 0, 0, 0), (39, .getfield 15, 4, 1, 4, 0), (42, .iload_n 2, 0, 0, 0, 0), (43, .iaload, 0, 0, 0, 0), (44, .aload_n 1, 0, 0, 0, 0), (45, .getfield 15, 4, 1, 4, 0), (48, .iload_n 2, 0, 0, 0, 0), (49, .iaload, 0, 0, 0, 0), (50, .if_icmp .ne 18, 68, 0, 0, 0), (53, .aload_n 0, 0, 0, 0, 0), (54, .getfield 18, 4, 2, 5, 0), (57, .iload_n 2, 0, 0, 0, 0), (58, .iaload, 0, 0, 0, 0), (59, .aload_n 1, 0, 0, 0, 0), (60, .getfield 18, 4, 2, 5, 0), (63, .iload_n 2, 0, 0, 0, 0), (64, .iaload, 0, 0, 0, 0), (65, .if_icmp .eq 5, 70, 0, 0, 0)]
def l33_68 : List Ent := [(68, .iconst 0, 0, 0, 0, 0), (69, .ireturn, 1, 0, 0, 0)]
def l33_70 : List Ent := [(70, .iinc 2 1, 0, 0, 0, 0), (73, .goto (-58), 15, 0, 0, 0)]
def l33_76 : List Ent := [(76, .iconst 1, 0, 0, 0, 0), (77, .ireturn, 1, 0, 0, 0)]
def bk33 : List Blk := [(0, l33_0, 13), (13, l33_13, 15), (15, l33_15, 68), (68, l33_68, 70), (70, l33_70, 76), (76, l33_76, 78)]
-- NoticeShifts$State.hasSentence
def l35_0 : List Ent := [(0, .iload_n 1, 0, 0, 0, 0), (1, .iconst 0, 0, 0, 0, 0), (2, .aload_n 0, 0, 0, 0, 0), (3, .getfield 12, 5, 0, 3, 0), (6, .getfield 48, 4, 3, 0, 0), (9, .iconst 1, 0, 0, 0, 0), (10, .isub, 0, 0, 0, 0), (11, .invokestatic 52, 80, 3, 2, 0)]
def l35_14 : List Ent := [(14, .ireturn, 1, 0, 0, 0)]
def bk35 : List Blk := [(0, l35_0, 14), (14, l35_14, 15)]
-- NoticeShifts$State.hasNotice
def l36_0 : List Ent := [(0, .iload_n 1, 0, 0, 0, 0), (1, .iconst 0, 0, 0, 0, 0), (2, .aload_n 0, 0, 0, 0, 0), (3, .getfield 56, 5, 10, 0, 0), (6, .iconst 1, 0, 0, 0, 0), (7, .isub, 0, 0, 0, 0), (8, .invokestatic 52, 80, 3, 2, 0)]
def l36_11 : List Ent := [(11, .ireturn, 1, 0, 0, 0)]
def bk36 : List Blk := [(0, l36_0, 11), (11, l36_11, 12)]
-- NoticeShifts$State.hasListener
def l37_0 : List Ent := [(0, .iload_n 1, 0, 0, 0, 0), (1, .iconst 0, 0, 0, 0, 0), (2, .aload_n 0, 0, 0, 0, 0), (3, .getfield 59, 5, 11, 0, 0), (6, .iconst 1, 0, 0, 0, 0), (7, .isub, 0, 0, 0, 0), (8, .invokestatic 52, 80, 3, 2, 0)]
def l37_11 : List Ent := [(11, .ireturn, 1, 0, 0, 0)]
def bk37 : List Blk := [(0, l37_0, 11), (11, l37_11, 12)]
-- NoticeShifts$State.isRowFull
def l38_0 : List Ent := [(0, .aload_n 0, 0, 0, 0, 0), (1, .getfield 18, 5, 1, 7, 0), (4, .iload_n 1, 0, 0, 0, 0), (5, .iaload, 0, 0, 0, 0), (6, .iconst 4, 0, 0, 0, 0), (7, .if_icmp .lt 7, 14, 0, 0, 0), (10, .iconst 1, 0, 0, 0, 0), (11, .goto 4, 15, 0, 0, 0)]
def l38_14 : List Ent := [(14, .iconst 0, 0, 0, 0, 0)]
def l38_15 : List Ent := [(15, .ireturn, 1, 0, 0, 0)]
def bk38 : List Blk := [(0, l38_0, 14), (14, l38_14, 15), (15, l38_15, 16)]
-- NoticeShifts$State.inRow
def l39_0 : List Ent := [(0, .aload_n 0, 0, 0, 0, 0), (1, .getfield 22, 5, 2, 8, 0), (4, .iload_n 1, 0, 0, 0, 0), (5, .iconst 4, 0, 0, 0, 0), (6, .imul, 0, 0, 0, 0), (7, .iload_n 2, 0, 0, 0, 0), (8, .iadd, 0, 0, 0, 0), (9, .iaload, 0, 0, 0, 0), (10, .ireturn, 0, 0, 0, 0)]
def bk39 : List Blk := [(0, l39_0, 11)]
-- NoticeShifts$State.appendToRow
def l40_0 : List Ent := [(0, .aload_n 0, 0, 0, 0, 0), (1, .getfield 22, 5, 2, 8, 0), (4, .iload_n 1, 0, 0, 0, 0), (5, .iconst 4, 0, 0, 0, 0), (6, .imul, 0, 0, 0, 0), (7, .aload_n 0, 0, 0, 0, 0), (8, .getfield 18, 5, 1, 7, 0), (11, .iload_n 1, 0, 0, 0, 0), (12, .iaload, 0, 0, 0, 0), (13, .iadd, 0, 0, 0, 0), (14, .iload_n 2, 0, 0, 0, 0), (15, .iastore, 0, 0, 0, 0), (16, .aload_n 0, 0, 0, 0, 0), (17, .getfield 18, 5, 1, 7, 0), (20, .iload_n 1, 0, 0, 0, 0), (21, .dup2, 0, 0, 0, 0), (22, .iaload, 0, 0, 0, 0), (23, .iconst 1, 0, 0, 0, 0), (24, .iadd, 0, 0, 0, 0), (25, .iastore, 0, 0, 0, 0), (26, .return_, 0, 0, 0, 0)]
def bk40 : List Blk := [(0, l40_0, 27)]
-- NoticeShifts$State.dropFromRow
def l41_0 : List Ent := [(0, .aload_n 0, 0, 0, 0, 0), (1, .getfield 18, 5, 1, 7, 0), (4, .iload_n 1, 0, 0, 0, 0), (5, .dup2, 0, 0, 0, 0), (6, .iaload, 0, 0, 0, 0), (7, .iconst 1, 0, 0, 0, 0), (8, .isub, 0, 0, 0, 0), (9, .iastore, 0, 0, 0, 0), (10, .return_, 0, 0, 0, 0)]
def bk41 : List Blk := [(0, l41_0, 11)]
-- NoticeShifts$State.isInRow
def l42_0 : List Ent := [(0, .iconst 0, 0, 0, 0, 0), (1, .istore_n 3, 0, 0, 0, 0)]
def l42_2 : List Ent := [(2, .iload_n 3, 0, 0, 0, 0), (3, .aload_n 0, 0, 0, 0, 0), (4, .getfield 18, 5, 1, 7, 0), (7, .iload_n 1, 0, 0, 0, 0), (8, .iaload, 0, 0, 0, 0), (9, .if_icmp .ge 21, 30, 0, 0, 0), (12, .aload_n 0, 0, 0, 0, 0), (13, .iload_n 1, 0, 0, 0, 0), (14, .iload_n 3, 0, 0, 0, 0), (15, .invokevirtual 62, 39, 3, 1, 5)]
def l42_18 : List Ent := [(18, .iload_n 2, 0, 0, 0, 0), (19, .if_icmp .ne 5, 24, 0, 0, 0), (22, .iconst 1, 0, 0, 0, 0), (23, .ireturn, 1, 0, 0, 0)]
def l42_24 : List Ent := [(24, .iinc 3 1, 0, 0, 0, 0), (27, .goto (-25), 2, 0, 0, 0)]
def l42_30 : List Ent := [(30, .iconst 0, 0, 0, 0, 0), (31, .ireturn, 1, 0, 0, 0)]
def bk42 : List Blk := [(0, l42_0, 2), (2, l42_2, 18), (18, l42_18, 24), (24, l42_24, 30), (30, l42_30, 32)]
-- NoticeShifts$State.countBreaksWith
def l43_0 : List Ent := [(0, .iconst 0, 0, 0, 0, 0), (1, .istore_n 2, 0, 0, 0, 0), (2, .iconst 0, 0, 0, 0, 0), (3, .istore_n 3, 0, 0, 0, 0)]
def l43_4 : List Ent := [(4, .iload_n 3, 0, 0, 0, 0), (5, .aload_n 0, 0, 0, 0, 0), (6, .getfield 12, 5, 0, 3, 0), (9, .getfield 48, 4, 3, 0, 0), (12, .if_icmp .ge 21, 33, 0, 0, 0), (15, .iload_n 2, 0, 0, 0, 0), (16, .aload_n 0, 0, 0, 0, 0), (17, .iload_n 3, 0, 0, 0, 0), (18, .iload_n 1, 0, 0, 0, 0), (19, .invokevirtual 66, 42, 3, 1, 5)]
def l43_22 : List Ent := [(22, .invokestatic 70, 81, 1, 2, 0)]
def l43_25 : List Ent := [(25, .iadd, 0, 0, 0, 0), (26, .istore_n 2, 0, 0, 0, 0), (27, .iinc 3 1, 0, 0, 0, 0), (30, .goto (-26), 4, 0, 0, 0)]
def l43_33 : List Ent := [(33, .iload_n 2, 0, 0, 0, 0), (34, .ireturn, 0, 0, 0, 0)]
def bk43 : List Blk := [(0, l43_0, 4), (4, l43_4, 22), (22, l43_22, 25), (25, l43_25, 33), (33, l43_33, 35)]
-- NoticeShifts$State.insertSentence
def l44_0 : List Ent := [(0, .aload_n 0, 0, 0, 0, 0), (1, .getfield 12, 5, 0, 3, 0), (4, .getfield 48, 4, 3, 0, 0), (7, .istore_n 3, 0, 0, 0, 0)]
def l44_8 : List Ent := [(8, .iload_n 3, 0, 0, 0, 0), (9, .iload_n 1, 0, 0, 0, 0), (10, .if_icmp .le 17, 27, 0, 0, 0), (13, .aload_n 0, 0, 0, 0, 0), (14, .iload_n 3, 0, 0, 0, 0), (15, .iconst 1, 0, 0, 0, 0), (16, .isub, 0, 0, 0, 0), (17, .iload_n 3, 0, 0, 0, 0), (18, .invokevirtual 74, 46, 3, 0, 5)]
def l44_21 : List Ent := [(21, .iinc 3 (-1), 0, 0, 0, 0), (24, .goto (-16), 8, 0, 0, 0)]
def l44_27 : List Ent := [(27, .aload_n 0, 0, 0, 0, 0), (28, .getfield 12, 5, 0, 3, 0), (31, .dup, 0, 0, 0, 0), (32, .getfield 48, 4, 3, 0, 0), (35, .iconst 1, 0, 0, 0, 0), (36, .iadd, 0, 0, 0, 0), (37, .putfield 48, 4, 3, 0, 0), (40, .aload_n 0, 0, 0, 0, 0), (41, .getfield 12, 5, 0, 3, 0), (44, .getfield 78, 4, 0, 3, 0), (47, .iload_n 1, 0, 0, 0, 0), (48, .aload_n 0, 0, 0, 0, 0), (49, .getfield 81, 5, 9, 0, 0), (52, .iastore, 0, 0, 0, 0), (53, .aload_n 0, 0, 0, 0, 0), (54, .getfield 12, 5, 0, 3, 0), (57, .getfield 84, 4, 1, 4, 0), (60, .iload_n 1, 0, 0, 0, 0), (61, .iload_n 2, 0, 0, 0, 0), (62, .iastore, 0, 0, 0, 0), (63, .aload_n 0, 0, 0, 0, 0), (64, .getfield 12, 5, 0, 3, 0), (67, .getfield 87, 4, 2, 5, 0), (70, .iload_n 1, 0, 0, 0, 0), (71, .iload_n 1, 0, 0, 0, 0), (72, .ifCond .ne 7, 79, 0, 0, 0), (75, .iconst 1, 0, 0, 0, 0), (76, .goto 4, 80, 0, 0, 0)]
def l44_79 : List Ent := [(79, .iconst 0, 0, 0, 0, 0)]
def l44_80 : List Ent := [(80, .invokestatic 70, 81, 1, 2, 0)]
def l44_83 : List Ent := [(83, .iastore, 0, 0, 0, 0), (84, .aload_n 0, 0, 0, 0, 0), (85, .getfield 18, 5, 1, 7, 0), (88, .iload_n 1, 0, 0, 0, 0), (89, .iconst 0, 0, 0, 0, 0), (90, .iastore, 0, 0, 0, 0), (91, .aload_n 0, 0, 0, 0, 0), (92, .dup, 0, 0, 0, 0), (93, .getfield 81, 5, 9, 0, 0), (96, .iconst 1, 0, 0, 0, 0), (97, .iadd, 0, 0, 0, 0), (98, .putfield 81, 5, 9, 0, 0), (101, .return_, 0, 0, 0, 0)]
def bk44 : List Blk := [(0, l44_0, 8), (8, l44_8, 21), (21, l44_21, 27), (27, l44_27, 79), (79, l44_79, 80), (80, l44_80, 83), (83, l44_83, 102)]
-- NoticeShifts$State.removeSentence
def l45_0 : List Ent := [(0, .aload_n 0, 0, 0, 0, 0), (1, .getfield 12, 5, 0, 3, 0), (4, .dup, 0, 0, 0, 0), (5, .getfield 48, 4, 3, 0, 0), (8, .iconst 1, 0, 0, 0, 0), (9, .isub, 0, 0, 0, 0), (10, .putfield 48, 4, 3, 0, 0), (13, .iload_n 1, 0, 0, 0, 0), (14, .istore_n 2, 0, 0, 0, 0)]
def l45_15 : List Ent := [(15, .iload_n 2, 0, 0, 0, 0), (16, .aload_n 0, 0, 0, 0, 0), (17, .getfield 12, 5, 0, 3, 0), (20, .getfield 48, 4, 3, 0, 0), (23, .if_icmp .ge 17, 40, 0, 0, 0), (26, .aload_n 0, 0, 0, 0, 0), (27, .iload_n 2, 0, 0, 0, 0), (28, .iconst 1, 0, 0, 0, 0), (29, .iadd, 0, 0, 0, 0), (30, .iload_n 2, 0, 0, 0, 0), (31, .invokevirtual 74, 46, 3, 0, 5)]
def l45_34 : List Ent := [(34, .iinc 2 1, 0, 0, 0, 0), (37, .goto (-22), 15, 0, 0, 0)]
def l45_40 : List Ent := [(40, .aload_n 0, 0, 0, 0, 0), (41, .getfield 12, 5, 0, 3, 0), (44, .getfield 87, 4, 2, 5, 0), (47, .iconst 0, 0, 0, 0, 0), (48, .iconst 1, 0, 0, 0, 0), (49, .iastore, 0, 0, 0, 0), (50, .return_, 0, 0, 0, 0)]
def bk45 : List Blk := [(0, l45_0, 15), (15, l45_15, 34), (34, l45_34, 40), (40, l45_40, 51)]
-- NoticeShifts$State.moveSentence
def l46_0 : List Ent := [(0, .aload_n 0, 0, 0, 0, 0), (1, .getfield 12, 5, 0, 3, 0), (4, .getfield 78, 4, 0, 3, 0), (7, .iload_n 2, 0, 0, 0, 0), (8, .aload_n 0, 0, 0, 0, 0), (9, .getfield 12, 5, 0, 3, 0), (12, .getfield 78, 4, 0, 3, 0), (15, .iload_n 1, 0, 0, 0, 0), (16, .iaload, 0, 0, 0, 0), (17, .iastore, 0, 0, 0, 0), (18, .aload_n 0, 0, 0, 0, 0), (19, .getfield 12, 5, 0, 3, 0), (22, .getfield 84, 4, 1, 4, 0), (25, .iload_n 2, 0, 0, 0, 0), (26, .aload_n 0, 0, 0, 0, 0), (27, .getfield 12, 5, 0, 3, 0), (30, .getfield 84, 4, 1, 4, 0), (33, .iload_n 1, 0, 0, 0, 0), (34, .iaload, 0, 0, 0, 0), (35, .iastore, 0, 0, 0, 0), (36, .aload_n 0, 0, 0, 0, 0), (37, .getfield 12, 5, 0, 3, 0), (40, .getfield 87, 4, 2, 5, 0), (43, .iload_n 2, 0, 0, 0, 0), (44, .aload_n 0, 0, 0, 0, 0), (45, .getfield 12, 5, 0, 3, 0), (48, .getfield 87, 4, 2, 5, 0), (51, .iload_n 1, 0, 0, 0, 0), (52, .iaload, 0, 0, 0, 0), (53, .iastore, 0, 0, 0, 0), (54, .aload_n 0, 0, 0, 0, 0), (55, .getfield 18, 5, 1, 7, 0), (58, .iload_n 2, 0, 0, 0, 0), (59, .aload_n 0, 0, 0, 0, 0), (60, .getfield 18, 5, 1, 7, 0), (63, .iload_n 1, 0, 0, 0, 0), (64, .iaload, 0, 0, 0, 0), (65, .iastore, 0, 0, 0, 0), (66, .aload_n 0, 0, 0, 0, 0), (67, .getfield 22, 5, 2, 8, 0), (70, .iload_n 1, 0, 0, 0, 0), (71, .iconst 4, 0, 0, 0, 0), (72, .imul, 0, 0, 0, 0), (73, .aload_n 0, 0, 0, 0, 0), (74, .getfield 22, 5, 2, 8, 0), (77, .iload_n 2, 0, 0, 0, 0), (78, .iconst 4, 0, 0, 0, 0), (79, .imul, 0, 0, 0, 0), (80, .iconst 4, 0, 0, 0, 0), (81, .invokestatic 90, 0, 0, 13, 0), (84, .return_, 0, 0, 0, 0)]
def bk46 : List Blk := [(0, l46_0, 85)]
-- NoticeShifts$State.copyFrom
def l47_0 : List Ent := [(0, .aload_n 0, 0, 0, 0, 0), (1, .getfield 12, 5, 0, 3, 0), (4, .aload_n 1, 0, 0, 0, 0), (5, .getfield 12, 5, 0, 3, 0), (8, .invokevirtual 96, 32, 2, 0, 4)]
def l47_11 : List Ent := [(11, .aload_n 0, 0, 0, 0, 0), (12, .aload_n 1, 0, 0, 0, 0), (13, .getfield 81, 5, 9, 0, 0), (16, .putfield 81, 5, 9, 0, 0), (19, .aload_n 1, 0, 0, 0, 0), (20, .getfield 18, 5, 1, 7, 0), (23, .iconst 0, 0, 0, 0, 0), (24, .aload_n 0, 0, 0, 0, 0), (25, .getfield 18, 5, 1, 7, 0), (28, .iconst 0, 0, 0, 0, 0), (29, .bipush 24, 0, 0, 0, 0), (31, .invokestatic 90, 0, 0, 13, 0), (34, .aload_n 1, 0, 0, 0, 0), (35, .getfield 22, 5, 2, 8, 0), (38, .iconst 0, 0, 0, 0, 0), (39, .aload_n 0, 0, 0, 0, 0), (40, .getfield 22, 5, 2, 8, 0), (43, .iconst 0, 0, 0, 0, 0), (44, .bipush 96, 0, 0, 0, 0), (46, .invokestatic 90, 0, 0, 13, 0), (49, .aload_n 0, 0, 0, 0, 0), (50, .aload_n 1, 0, 0, 0, 0), (51, .getfield 56, 5, 10, 0, 0), (54, .putfield 56, 5, 10, 0, 0), (57, .aload_n 1, 0, 0, 0, 0), (58, .getfield 25, 5, 3, 9, 0), (61, .iconst 0, 0, 0, 0, 0), (62, .aload_n 0, 0, 0, 0, 0), (63, .getfield 25, 5, 3, 9, 0), (66, .iconst 0, 0, 0, 0, 0), (67, .bipush 8, 0, 0, 0, 0), (69, .invokestatic 90, 0, 0, 13, 0), (72, .aload_n 1, 0, 0, 0, 0), (73, .getfield 28, 5, 4, 10, 0), (76, .iconst 0, 0, 0, 0, 0), (77, .aload_n 0, 0, 0, 0, 0), (78, .getfield 28, 5, 4, 10, 0), (81, .iconst 0, 0, 0, 0, 0), (82, .bipush 8, 0, 0, 0, 0), (84, .invokestatic 90, 0, 0, 13, 0), (87, .aload_n 0, 0, 0, 0, 0), (88, .aload_n 1, 0, 0, 0, 0), (89, .getfield 59, 5, 11, 0, 0), (92, .putfield 59, 5, 11, 0, 0), (95, .aload_n 1, 0, 0, 0, 0), (96, .getfield 31, 5, 5, 11, 0), (99, .iconst 0, 0, 0, 0, 0), (100, .aload_n 0, 0, 0, 0, 0), (101, .getfield 31, 5, 5, 11, 0), (104, .iconst 0, 0, 0, 0, 0), (105, .bipush 6, 0, 0, 0, 0), (107, .invokestatic 90, 0, 0, 13, 0), (110, .aload_n 1, 0, 0, 0, 0), (111, .getfield 34, 5, 6, 12, 0), (114, .iconst 0, 0, 0, 0, 0), (115, .aload_n 0, 0, 0, 0, 0), (116, .getfield 34, 5, 6, 12, 0), (119, .iconst 0, 0, 0, 0, 0), (120, .bipush 6, 0, 0, 0, 0), (122, .invokestatic 90, 0, 0, 13, 0), (125, .iconst 0, 0, 0, 0, 0), (126, .istore_n 2, 0, 0, 0, 0)]
def l47_127 : List Ent := [(127, .iload_n 2, 0, 0, 0, 0), (128, .aload_n 0, 0, 0, 0, 0), (129, .getfield 59, 5, 11, 0, 0), (132, .if_icmp .ge 45, 177, 0, 0, 0), (135, .aload_n 0, 0, 0, 0, 0), (136, .getfield 37, 5, 7, 13, 0), (139, .iload_n 2, 0, 0, 0, 0), (140, .aload_n 1, 0, 0, 0, 0), (141, .getfield 37, 5, 7, 13, 0), (144, .iload_n 2, 0, 0, 0, 0), (145, .baload, 0, 0, 0, 0), (146, .bastore, 0, 0, 0, 0), (147, .aload_n 0, 0, 0, 0, 0), (148, .getfield 37, 5, 7, 13, 0), (151, .iload_n 2, 0, 0, 0, 0), (152, .baload, 0, 0, 0, 0), (153, .ifCond .eq 18, 171, 0, 0, 0), (156, .aload_n 0, 0, 0, 0, 0), (157, .getfield 43, 5, 8, 14, 0), (160, .iload_n 2, 0, 0, 0, 0), (161, .aaload, 103, 1, 7, 0), (162, .aload_n 1, 0, 0, 0, 0), (163, .getfield 43, 5, 8, 14, 0), (166, .iload_n 2, 0, 0, 0, 0), (167, .aaload, 103, 1, 7, 0), (168, .invokevirtual 100, 11, 2, 0, 1)]
def l47_171 : List Ent := [(171, .iinc 2 1, 0, 0, 0, 0), (174, .goto (-47), 127, 0, 0, 0)]
def l47_177 : List Ent := [(177, .return_, 0, 0, 0, 0)]
def bk47 : List Blk := [(0, l47_0, 11), (11, l47_11, 127), (127, l47_127, 171), (171, l47_171, 177), (177, l47_177, 178)]
-- NoticeShifts.putIn
def l49_0 : List Ent := [(0, .iload_n 1, 0, 0, 0, 0), (1, .iconst 0, 0, 0, 0, 0), (2, .aload_n 0, 0, 0, 0, 0), (3, .getfield 10, 6, 0, 3, 0), (6, .getfield 56, 5, 0, 3, 0), (9, .getfield 60, 4, 3, 0, 0), (12, .invokestatic 66, 80, 3, 1, 0)]
def l49_15 : List Ent := [(15, .ifCond .ne 5, 20, 0, 0, 0), (18, .iconst (-1), 0, 0, 0, 0), (19, .ireturn, 0, 0, 0, 0)]
def l49_20 : List Ent := [(20, .iload_n 2, 0, 0, 0, 0), (21, .iconst 1, 0, 0, 0, 0), (22, .sipush 300, 0, 0, 0, 0), (25, .invokestatic 66, 80, 3, 1, 0)]
def l49_28 : List Ent := [(28, .ifCond .ne 6, 34, 0, 0, 0), (31, .bipush (-2), 0, 0, 0, 0), (33, .ireturn, 0, 0, 0, 0)]
def l49_34 : List Ent := [(34, .aload_n 0, 0, 0, 0, 0), (35, .getfield 10, 6, 0, 3, 0), (38, .getfield 56, 5, 0, 3, 0), (41, .getfield 60, 4, 3, 0, 0), (44, .bipush 24, 0, 0, 0, 0), (46, .if_icmp .ge 15, 61, 0, 0, 0), (49, .aload_n 0, 0, 0, 0, 0), (50, .getfield 10, 6, 0, 3, 0), (53, .getfield 70, 5, 9, 0, 0), (56, .bipush 100, 0, 0, 0, 0), (58, .if_icmp .lt 6, 64, 0, 0, 0)]
def l49_61 : List Ent := [(61, .bipush (-4), 0, 0, 0, 0), (63, .ireturn, 0, 0, 0, 0)]
def l49_64 : List Ent := [(64, .aload_n 0, 0, 0, 0, 0), (65, .getfield 19, 6, 1, 58, 0), (68, .aload_n 0, 0, 0, 0, 0), (69, .getfield 10, 6, 0, 3, 0), (72, .invokevirtual 73, 14, 2, 0, 2)]
def l49_75 : List Ent := [(75, .aload_n 0, 0, 0, 0, 0), (76, .getfield 10, 6, 0, 3, 0), (79, .iload_n 1, 0, 0, 0, 0), (80, .iload_n 2, 0, 0, 0, 0), (81, .invokevirtual 52, 44, 3, 0, 5)]
def l49_84 : List Ent := [(84, .aload_n 0, 0, 0, 0, 0), (85, .getfield 10, 6, 0, 3, 0), (88, .getfield 56, 5, 0, 3, 0), (91, .getfield 77, 4, 0, 3, 0), (94, .iload_n 1, 0, 0, 0, 0), (95, .iaload, 0, 0, 0, 0), (96, .ireturn, 0, 0, 0, 0)]
def bk49 : List Blk := [(0, l49_0, 15), (15, l49_15, 20), (20, l49_20, 28), (28, l49_28, 34), (34, l49_34, 61), (61, l49_61, 64), (64, l49_64, 75), (75, l49_75, 84), (84, l49_84, 97)]
-- NoticeShifts.cutOut
def l50_0 : List Ent := [(0, .aload_n 0, 0, 0, 0, 0), (1, .getfield 10, 6, 0, 3, 0), (4, .iload_n 1, 0, 0, 0, 0), (5, .invokevirtual 81, 35, 2, 1, 5)]
def l50_8 : List Ent := [(8, .ifCond .ne 5, 13, 0, 0, 0), (11, .iconst (-1), 0, 0, 0, 0), (12, .ireturn, 0, 0, 0, 0)]
def l50_13 : List Ent := [(13, .aload_n 0, 0, 0, 0, 0), (14, .getfield 10, 6, 0, 3, 0), (17, .getfield 56, 5, 0, 3, 0), (20, .getfield 60, 4, 3, 0, 0), (23, .iconst 1, 0, 0, 0, 0), (24, .if_icmp .ne 6, 30, 0, 0, 0), (27, .bipush (-5), 0, 0, 0, 0), (29, .ireturn, 0, 0, 0, 0)]
def l50_30 : List Ent := [(30, .aload_n 0, 0, 0, 0, 0), (31, .getfield 19, 6, 1, 58, 0), (34, .aload_n 0, 0, 0, 0, 0), (35, .getfield 10, 6, 0, 3, 0), (38, .invokevirtual 73, 14, 2, 0, 2)]
def l50_41 : List Ent := [(41, .aload_n 0, 0, 0, 0, 0), (42, .getfield 10, 6, 0, 3, 0), (45, .getfield 56, 5, 0, 3, 0), (48, .getfield 77, 4, 0, 3, 0), (51, .iload_n 1, 0, 0, 0, 0), (52, .iaload, 0, 0, 0, 0), (53, .istore_n 2, 0, 0, 0, 0), (54, .aload_n 0, 0, 0, 0, 0), (55, .getfield 10, 6, 0, 3, 0), (58, .iload_n 1, 0, 0, 0, 0), (59, .invokevirtual 85, 45, 2, 0, 5)]
def l50_62 : List Ent := [(62, .iload_n 2, 0, 0, 0, 0), (63, .ireturn, 0, 0, 0, 0)]
def bk50 : List Blk := [(0, l50_0, 8), (8, l50_8, 13), (13, l50_13, 30), (30, l50_30, 41), (41, l50_41, 62), (62, l50_62, 64)]
-- NoticeShifts.change
def l51_0 : List Ent := [(0, .aload_n 0, 0, 0, 0, 0), (1, .getfield 10, 6, 0, 3, 0), (4, .iload_n 1, 0, 0, 0, 0), (5, .invokevirtual 81, 35, 2, 1, 5)]
def l51_8 : List Ent := [(8, .ifCond .ne 5, 13, 0, 0, 0), (11, .iconst (-1), 0, 0, 0, 0), (12, .ireturn, 0, 0, 0, 0)]
def l51_13 : List Ent := [(13, .iload_n 2, 0, 0, 0, 0), (14, .iconst 1, 0, 0, 0, 0), (15, .sipush 300, 0, 0, 0, 0), (18, .invokestatic 66, 80, 3, 1, 0)]
def l51_21 : List Ent := [(21, .ifCond .ne 6, 27, 0, 0, 0), (24, .bipush (-2), 0, 0, 0, 0), (26, .ireturn, 0, 0, 0, 0)]
def l51_27 : List Ent := [(27, .aload_n 0, 0, 0, 0, 0), (28, .getfield 19, 6, 1, 58, 0), (31, .aload_n 0, 0, 0, 0, 0), (32, .getfield 10, 6, 0, 3, 0), (35, .invokevirtual 73, 14, 2, 0, 2)]
def l51_38 : List Ent := [(38, .aload_n 0, 0, 0, 0, 0), (39, .getfield 10, 6, 0, 3, 0), (42, .getfield 56, 5, 0, 3, 0), (45, .getfield 89, 4, 1, 4, 0), (48, .iload_n 1, 0, 0, 0, 0), (49, .iaload, 0, 0, 0, 0), (50, .istore_n 3, 0, 0, 0, 0), (51, .aload_n 0, 0, 0, 0, 0), (52, .getfield 10, 6, 0, 3, 0), (55, .getfield 56, 5, 0, 3, 0), (58, .getfield 89, 4, 1, 4, 0), (61, .iload_n 1, 0, 0, 0, 0), (62, .iload_n 2, 0, 0, 0, 0), (63, .iastore, 0, 0, 0, 0), (64, .iload_n 3, 0, 0, 0, 0), (65, .ireturn, 0, 0, 0, 0)]
def bk51 : List Blk := [(0, l51_0, 8), (8, l51_8, 13), (13, l51_13, 21), (21, l51_21, 27), (27, l51_27, 38), (38, l51_38, 66)]
-- NoticeShifts.chapter
def l52_0 : List Ent := [(0, .aload_n 0, 0, 0, 0, 0), (1, .getfield 10, 6, 0, 3, 0), (4, .iload_n 1, 0, 0, 0, 0), (5, .invokevirtual 81, 35, 2, 1, 5)]
def l52_8 : List Ent := [(8, .ifCond .ne 5, 13, 0, 0, 0), (11, .iconst (-1), 0, 0, 0, 0), (12, .ireturn, 0, 0, 0, 0)]
def l52_13 : List Ent := [(13, .iload_n 2, 0, 0, 0, 0), (14, .invokestatic 92, 81, 1, 1, 0)]
def l52_17 : List Ent := [(17, .istore_n 3, 0, 0, 0, 0), (18, .iload_n 1, 0, 0, 0, 0), (19, .ifCond .eq 19, 38, 0, 0, 0), (22, .aload_n 0, 0, 0, 0, 0), (23, .getfield 10, 6, 0, 3, 0), (26, .getfield 56, 5, 0, 3, 0), (29, .getfield 96, 4, 2, 5, 0), (32, .iload_n 1, 0, 0, 0, 0), (33, .iaload, 0, 0, 0, 0), (34, .iload_n 3, 0, 0, 0, 0), (35, .if_icmp .ne 6, 41, 0, 0, 0)]
def l52_38 : List Ent := [(38, .bipush (-5), 0, 0, 0, 0), (40, .ireturn, 0, 0, 0, 0)]
def l52_41 : List Ent := [(41, .aload_n 0, 0, 0, 0, 0), (42, .getfield 19, 6, 1, 58, 0), (45, .aload_n 0, 0, 0, 0, 0), (46, .getfield 10, 6, 0, 3, 0), (49, .invokevirtual 73, 14, 2, 0, 2)]
def l52_52 : List Ent := [(52, .aload_n 0, 0, 0, 0, 0), (53, .getfield 10, 6, 0, 3, 0), (56, .getfield 56, 5, 0, 3, 0), (59, .getfield 96, 4, 2, 5, 0), (62, .iload_n 1, 0, 0, 0, 0), (63, .iload_n 3, 0, 0, 0, 0), (64, .iastore, 0, 0, 0, 0), (65, .aload_n 0, 0, 0, 0, 0), (66, .getfield 10, 6, 0, 3, 0), (69, .getfield 56, 5, 0, 3, 0), (72, .invokevirtual 99, 30, 1, 1, 4)]
def l52_75 : List Ent := [(75, .ireturn, 0, 0, 0, 0)]
def bk52 : List Blk := [(0, l52_0, 8), (8, l52_8, 13), (13, l52_13, 17), (17, l52_17, 38), (38, l52_38, 41), (41, l52_41, 52), (52, l52_52, 75), (75, l52_75, 76)]
-- NoticeShifts.notice
def l53_0 : List Ent := [(0, .iload_n 1, 0, 0, 0, 0), (1, .iconst 1, 0, 0, 0, 0), (2, .bipush 120, 0, 0, 0, 0), (4, .invokestatic 66, 80, 3, 1, 0)]
def l53_7 : List Ent := [(7, .ifCond .eq 13, 20, 0, 0, 0), (10, .iload_n 2, 0, 0, 0, 0), (11, .iconst 1, 0, 0, 0, 0), (12, .bipush 63, 0, 0, 0, 0), (14, .invokestatic 66, 80, 3, 1, 0)]
def l53_17 : List Ent := [(17, .ifCond .ne 6, 23, 0, 0, 0)]
def l53_20 : List Ent := [(20, .bipush (-2), 0, 0, 0, 0), (22, .ireturn, 0, 0, 0, 0)]
def l53_23 : List Ent := [(23, .aload_n 0, 0, 0, 0, 0), (24, .getfield 10, 6, 0, 3, 0), (27, .getfield 103, 5, 10, 0, 0), (30, .bipush 8, 0, 0, 0, 0), (32, .if_icmp .lt 6, 38, 0, 0, 0), (35, .bipush (-4), 0, 0, 0, 0), (37, .ireturn, 0, 0, 0, 0)]
def l53_38 : List Ent := [(38, .aload_n 0, 0, 0, 0, 0), (39, .getfield 19, 6, 1, 58, 0), (42, .aload_n 0, 0, 0, 0, 0), (43, .getfield 10, 6, 0, 3, 0), (46, .invokevirtual 73, 14, 2, 0, 2)]
def l53_49 : List Ent := [(49, .aload_n 0, 0, 0, 0, 0), (50, .getfield 10, 6, 0, 3, 0), (53, .getfield 103, 5, 10, 0, 0), (56, .istore_n 3, 0, 0, 0, 0), (57, .aload_n 0, 0, 0, 0, 0), (58, .getfield 10, 6, 0, 3, 0), (61, .getfield 106, 5, 3, 9, 0), (64, .iload_n 3, 0, 0, 0, 0), (65, .iload_n 1, 0, 0, 0, 0), (66, .iastore, 0, 0, 0, 0), (67, .aload_n 0, 0, 0, 0, 0), (68, .getfield 10, 6, 0, 3, 0), (71, .getfield 109, 5, 4, 10, 0), (74, .iload_n 3, 0, 0, 0, 0), (75, .iload_n 2, 0, 0, 0, 0), (76, .iastore, 0, 0, 0, 0), (77, .aload_n 0, 0, 0, 0, 0), (78, .getfield 10, 6, 0, 3, 0), (81, .dup, 0, 0, 0, 0), (82, .getfield 103, 5, 10, 0, 0), (85, .iconst 1, 0, 0, 0, 0), (86, .iadd, 0, 0, 0, 0), (87, .putfield 103, 5, 10, 0, 0), (90, .iload_n 3, 0, 0, 0, 0), (91, .ireturn, 0, 0, 0, 0)]
def bk53 : List Blk := [(0, l53_0, 7), (7, l53_7, 17), (17, l53_17, 20), (20, l53_20, 23), (23, l53_23, 38), (38, l53_38, 49), (49, l53_49, 92)]
-- NoticeShifts.book
def l54_0 : List Ent := [(0, .aload_n 0, 0, 0, 0, 0), (1, .getfield 10, 6, 0, 3, 0), (4, .iload_n 1, 0, 0, 0, 0), (5, .invokevirtual 81, 35, 2, 1, 5)]
def l54_8 : List Ent := [(8, .ifCond .eq 14, 22, 0, 0, 0), (11, .aload_n 0, 0, 0, 0, 0), (12, .getfield 10, 6, 0, 3, 0), (15, .iload_n 2, 0, 0, 0, 0), (16, .invokevirtual 112, 36, 2, 1, 5)]
def l54_19 : List Ent := [(19, .ifCond .ne 5, 24, 0, 0, 0)]
def l54_22 : List Ent := [(22, .iconst (-1), 0, 0, 0, 0), (23, .ireturn, 0, 0, 0, 0)]
def l54_24 : List Ent := [(24, .aload_n 0, 0, 0, 0, 0), (25, .getfield 10, 6, 0, 3, 0), (28, .iload_n 1, 0, 0, 0, 0), (29, .invokevirtual 115, 38, 2, 1, 5)]
def l54_32 : List Ent := [(32, .ifCond .eq 6, 38, 0, 0, 0), (35, .bipush (-4), 0, 0, 0, 0), (37, .ireturn, 0, 0, 0, 0)]
def l54_38 : List Ent := [(38, .aload_n 0, 0, 0, 0, 0), (39, .getfield 19, 6, 1, 58, 0), (42, .aload_n 0, 0, 0, 0, 0), (43, .getfield 10, 6, 0, 3, 0), (46, .invokevirtual 73, 14, 2, 0, 2)]
def l54_49 : List Ent := [(49, .aload_n 0, 0, 0, 0, 0), (50, .getfield 10, 6, 0, 3, 0), (53, .iload_n 1, 0, 0, 0, 0), (54, .iload_n 2, 0, 0, 0, 0), (55, .invokevirtual 118, 40, 3, 0, 5)]
def l54_58 : List Ent := [(58, .aload_n 0, 0, 0, 0, 0), (59, .getfield 10, 6, 0, 3, 0), (62, .getfield 121, 5, 1, 7, 0), (65, .iload_n 1, 0, 0, 0, 0), (66, .iaload, 0, 0, 0, 0), (67, .ireturn, 0, 0, 0, 0)]
def bk54 : List Blk := [(0, l54_0, 8), (8, l54_8, 19), (19, l54_19, 22), (22, l54_22, 24), (24, l54_24, 32), (32, l54_32, 38), (38, l54_38, 49), (49, l54_49, 58), (58, l54_58, 68)]
-- NoticeShifts.empty
def l55_0 : List Ent := [(0, .aload_n 0, 0, 0, 0, 0), (1, .getfield 10, 6, 0, 3, 0), (4, .iload_n 1, 0, 0, 0, 0), (5, .invokevirtual 81, 35, 2, 1, 5)]
def l55_8 : List Ent := [(8, .ifCond .ne 5, 13, 0, 0, 0), (11, .iconst (-1), 0, 0, 0, 0), (12, .ireturn, 0, 0, 0, 0)]
def l55_13 : List Ent := [(13, .aload_n 0, 0, 0, 0, 0), (14, .getfield 19, 6, 1, 58, 0), (17, .aload_n 0, 0, 0, 0, 0), (18, .getfield 10, 6, 0, 3, 0), (21, .invokevirtual 73, 14, 2, 0, 2)]
def l55_24 : List Ent := [(24, .aload_n 0, 0, 0, 0, 0), (25, .getfield 10, 6, 0, 3, 0), (28, .getfield 121, 5, 1, 7, 0), (31, .iload_n 1, 0, 0, 0, 0), (32, .iaload, 0, 0, 0, 0), (33, .istore_n 2, 0, 0, 0, 0), (34, .aload_n 0, 0, 0, 0, 0), (35, .getfield 10, 6, 0, 3, 0), (38, .getfield 121, 5, 1, 7, 0), (41, .iload_n 1, 0, 0, 0, 0), (42, .iconst 0, 0, 0, 0, 0), (43, .iastore, 0, 0, 0, 0), (44, .iload_n 2, 0, 0, 0, 0), (45, .ireturn, 0, 0, 0, 0)]
def bk55 : List Blk := [(0, l55_0, 8), (8, l55_8, 13), (13, l55_13, 24), (24, l55_24, 46)]
-- NoticeShifts.read
def l56_0 : List Ent := [(0, .aload_n 0, 0, 0, 0, 0), (1, .getfield 34, 6, 4, 392, 0), (4, .invokevirtual 124, 21, 1, 1, 3)]
def l56_7 : List Ent := [(7, .bipush (-6), 0, 0, 0, 0), (9, .if_icmp .eq 6, 15, 0, 0, 0), (12, .bipush (-3), 0, 0, 0, 0), (14, .ireturn, 0, 0, 0, 0)]
def l56_15 : List Ent := [(15, .aload_n 0, 0, 0, 0, 0), (16, .getfield 34, 6, 4, 392, 0), (19, .invokevirtual 127, 22, 1, 1, 3)]
def l56_22 : List Ent := [(22, .istore_n 1, 0, 0, 0, 0), (23, .iload_n 1, 0, 0, 0, 0), (24, .aload_n 0, 0, 0, 0, 0), (25, .getfield 10, 6, 0, 3, 0), (28, .getfield 56, 5, 0, 3, 0), (31, .getfield 60, 4, 3, 0, 0), (34, .if_icmp .gt 20, 54, 0, 0, 0), (37, .aload_n 0, 0, 0, 0, 0), (38, .getfield 34, 6, 4, 392, 0), (41, .invokevirtual 130, 23, 1, 1, 3)]
def l56_44 : List Ent := [(44, .aload_n 0, 0, 0, 0, 0), (45, .getfield 10, 6, 0, 3, 0), (48, .getfield 103, 5, 10, 0, 0), (51, .if_icmp .lt 5, 56, 0, 0, 0)]
def l56_54 : List Ent := [(54, .iconst (-1), 0, 0, 0, 0), (55, .ireturn, 0, 0, 0, 0)]
def l56_56 : List Ent := [(56, .aload_n 0, 0, 0, 0, 0), (57, .getfield 19, 6, 1, 58, 0), (60, .aload_n 0, 0, 0, 0, 0), (61, .getfield 10, 6, 0, 3, 0), (64, .invokevirtual 73, 14, 2, 0, 2)]
def l56_67 : List Ent := [(67, .aload_n 0, 0, 0, 0, 0), (68, .invokevirtual 133, 82, 1, 0, 6)]
def l56_71 : List Ent := [(71, .aload_n 0, 0, 0, 0, 0), (72, .getfield 34, 6, 4, 392, 0), (75, .iconst 0, 0, 0, 0, 0), (76, .putfield 136, 3, 1, 0, 0), (79, .iload_n 1, 0, 0, 0, 0), (80, .ireturn, 0, 0, 0, 0)]
def bk56 : List Blk := [(0, l56_0, 7), (7, l56_7, 15), (15, l56_15, 22), (22, l56_22, 44), (44, l56_44, 54), (54, l56_54, 56), (56, l56_56, 67), (67, l56_67, 71), (71, l56_71, 81)]
-- NoticeShifts.listener
def l57_0 : List Ent := [(0, .iload_n 1, 0, 0, 0, 0), (1, .iconst 0, 0, 0, 0, 0), (2, .iconst 5, 0, 0, 0, 0), (3, .invokestatic 66, 80, 3, 1, 0)]
def l57_6 : List Ent := [(6, .ifCond .eq 14, 20, 0, 0, 0), (9, .iload_n 2, 0, 0, 0, 0), (10, .iconst 0, 0, 0, 0, 0), (11, .sipush 600, 0, 0, 0, 0), (14, .invokestatic 66, 80, 3, 1, 0)]
def l57_17 : List Ent := [(17, .ifCond .ne 6, 23, 0, 0, 0)]
def l57_20 : List Ent := [(20, .bipush (-2), 0, 0, 0, 0), (22, .ireturn, 0, 0, 0, 0)]
def l57_23 : List Ent := [(23, .aload_n 0, 0, 0, 0, 0), (24, .getfield 10, 6, 0, 3, 0), (27, .getfield 139, 5, 11, 0, 0), (30, .bipush 6, 0, 0, 0, 0), (32, .if_icmp .lt 6, 38, 0, 0, 0), (35, .bipush (-4), 0, 0, 0, 0), (37, .ireturn, 0, 0, 0, 0)]
def l57_38 : List Ent := [(38, .aload_n 0, 0, 0, 0, 0), (39, .getfield 19, 6, 1, 58, 0), (42, .aload_n 0, 0, 0, 0, 0), (43, .getfield 10, 6, 0, 3, 0), (46, .invokevirtual 73, 14, 2, 0, 2)]
def l57_49 : List Ent := [(49, .aload_n 0, 0, 0, 0, 0), (50, .getfield 10, 6, 0, 3, 0), (53, .getfield 139, 5, 11, 0, 0), (56, .istore_n 3, 0, 0, 0, 0), (57, .aload_n 0, 0, 0, 0, 0), (58, .getfield 10, 6, 0, 3, 0), (61, .getfield 142, 5, 5, 11, 0), (64, .iload_n 3, 0, 0, 0, 0), (65, .iload_n 1, 0, 0, 0, 0), (66, .iastore, 0, 0, 0, 0), (67, .aload_n 0, 0, 0, 0, 0), (68, .getfield 10, 6, 0, 3, 0), (71, .getfield 145, 5, 6, 12, 0), (74, .iload_n 3, 0, 0, 0, 0), (75, .iload_n 2, 0, 0, 0, 0), (76, .iastore, 0, 0, 0, 0), (77, .aload_n 0, 0, 0, 0, 0), (78, .getfield 10, 6, 0, 3, 0), (81, .getfield 148, 5, 7, 13, 0), (84, .iload_n 3, 0, 0, 0, 0), (85, .iconst 0, 0, 0, 0, 0), (86, .bastore, 0, 0, 0, 0), (87, .aload_n 0, 0, 0, 0, 0), (88, .getfield 10, 6, 0, 3, 0), (91, .dup, 0, 0, 0, 0), (92, .getfield 139, 5, 11, 0, 0), (95, .iconst 1, 0, 0, 0, 0), (96, .iadd, 0, 0, 0, 0), (97, .putfield 139, 5, 11, 0, 0), (100, .iload_n 3, 0, 0, 0, 0), (101, .ireturn, 0, 0, 0, 0)]
def bk57 : List Blk := [(0, l57_0, 6), (6, l57_6, 17), (17, l57_17, 20), (20, l57_20, 23), (23, l57_23, 38), (38, l57_38, 49), (49, l57_49, 102)]
-- NoticeShifts.load
def l58_0 : List Ent := [(0, .aload_n 0, 0, 0, 0, 0), (1, .getfield 10, 6, 0, 3, 0), (4, .iload_n 1, 0, 0, 0, 0), (5, .invokevirtual 151, 37, 2, 1, 5)]
def l58_8 : List Ent := [(8, .ifCond .ne 5, 13, 0, 0, 0), (11, .iconst (-1), 0, 0, 0, 0), (12, .ireturn, 0, 0, 0, 0)]
def l58_13 : List Ent := [(13, .iload_n 2, 0, 0, 0, 0), (14, .ifCond .eq 18, 32, 0, 0, 0), (17, .aload_n 0, 0, 0, 0, 0), (18, .getfield 10, 6, 0, 3, 0), (21, .getfield 148, 5, 7, 13, 0), (24, .iload_n 1, 0, 0, 0, 0), (25, .baload, 0, 0, 0, 0), (26, .ifCond .ne 6, 32, 0, 0, 0), (29, .bipush (-5), 0, 0, 0, 0), (31, .ireturn, 0, 0, 0, 0)]
def l58_32 : List Ent := [(32, .aload_n 0, 0, 0, 0, 0), (33, .getfield 19, 6, 1, 58, 0), (36, .aload_n 0, 0, 0, 0, 0), (37, .getfield 10, 6, 0, 3, 0), (40, .invokevirtual 73, 14, 2, 0, 2)]
def l58_43 : List Ent := [(43, .aload_n 0, 0, 0, 0, 0), (44, .getfield 10, 6, 0, 3, 0), (47, .getfield 148, 5, 7, 13, 0), (50, .iload_n 1, 0, 0, 0, 0), (51, .iload_n 2, 0, 0, 0, 0), (52, .ifCond .ne 7, 59, 0, 0, 0), (55, .iconst 1, 0, 0, 0, 0), (56, .goto 4, 60, 0, 0, 0)]
def l58_59 : List Ent := [(59, .iconst 0, 0, 0, 0, 0)]
def l58_60 : List Ent := [(60, .bastore, 0, 0, 0, 0), (61, .iload_n 2, 0, 0, 0, 0), (62, .ifCond .ne 17, 79, 0, 0, 0), (65, .aload_n 0, 0, 0, 0, 0), (66, .iload_n 1, 0, 0, 0, 0), (67, .aload_n 0, 0, 0, 0, 0), (68, .getfield 10, 6, 0, 3, 0), (71, .getfield 154, 5, 8, 14, 0), (74, .iload_n 1, 0, 0, 0, 0), (75, .aaload, 103, 1, 7, 0), (76, .invokevirtual 158, 84, 3, 0, 6)]
def l58_79 : List Ent := [(79, .aload_n 0, 0, 0, 0, 0), (80, .iload_n 1, 0, 0, 0, 0), (81, .invokevirtual 162, 83, 2, 2, 6)]
def l58_84 : List Ent := [(84, .invokevirtual 166, 7, 1, 1, 1)]
def l58_87 : List Ent := [(87, .ireturn, 0, 0, 0, 0)]
def bk58 : List Blk := [(0, l58_0, 8), (8, l58_8, 13), (13, l58_13, 32), (32, l58_32, 43), (43, l58_43, 59), (59, l58_59, 60), (60, l58_60, 79), (79, l58_79, 84), (84, l58_84, 87), (87, l58_87, 88)]
-- NoticeShifts.sentence
def l59_0 : List Ent := [(0, .aload_n 0, 0, 0, 0, 0), (1, .getfield 10, 6, 0, 3, 0), (4, .iload_n 1, 0, 0, 0, 0), (5, .invokevirtual 81, 35, 2, 1, 5)]
def l59_8 : List Ent := [(8, .ifCond .ne 5, 13, 0, 0, 0), (11, .iconst (-1), 0, 0, 0, 0), (12, .ireturn, 0, 0, 0, 0)]
def l59_13 : List Ent := [(13, .iload_n 2, 0, 0, 0, 0), (14, .tableswitch 111 0 5 #[38, 51, 64, 76, 88, 101], 0, 0, 0, 0)]
def l59_52 : List Ent := [(52, .aload_n 0, 0, 0, 0, 0), (53, .getfield 10, 6, 0, 3, 0), (56, .getfield 56, 5, 0, 3, 0), (59, .getfield 77, 4, 0, 3, 0), (62, .iload_n 1, 0, 0, 0, 0), (63, .iaload, 0, 0, 0, 0), (64, .ireturn, 0, 0, 0, 0)]
def l59_65 : List Ent := [(65, .aload_n 0, 0, 0, 0, 0), (66, .getfield 10, 6, 0, 3, 0), (69, .getfield 56, 5, 0, 3, 0), (72, .getfield 89, 4, 1, 4, 0), (75, .iload_n 1, 0, 0, 0, 0), (76, .iaload, 0, 0, 0, 0), (77, .ireturn, 0, 0, 0, 0)]
def l59_78 : List Ent := [(78, .aload_n 0, 0, 0, 0, 0), (79, .getfield 10, 6, 0, 3, 0), (82, .getfield 56, 5, 0, 3, 0), (85, .iload_n 1, 0, 0, 0, 0), (86, .invokevirtual 169, 25, 2, 1, 4)]
def l59_89 : List Ent := [(89, .ireturn, 0, 0, 0, 0)]
def l59_90 : List Ent := [(90, .aload_n 0, 0, 0, 0, 0), (91, .getfield 10, 6, 0, 3, 0), (94, .getfield 56, 5, 0, 3, 0), (97, .iload_n 1, 0, 0, 0, 0), (98, .invokevirtual 173, 29, 2, 1, 4)]
def l59_101 : List Ent := [(101, .ireturn, 0, 0, 0, 0)]
def l59_102 : List Ent := [(102, .aload_n 0, 0, 0, 0, 0), (103, .getfield 10, 6, 0, 3, 0), (106, .getfield 56, 5, 0, 3, 0), (109, .getfield 96, 4, 2, 5, 0), (112, .iload_n 1, 0, 0, 0, 0), (113, .iaload, 0, 0, 0, 0), (114, .ireturn, 0, 0, 0, 0)]
def l59_115 : List Ent := [(115, .aload_n 0, 0, 0, 0, 0), (116, .getfield 10, 6, 0, 3, 0), (119, .getfield 121, 5, 1, 7, 0), (122, .iload_n 1, 0, 0, 0, 0), (123, .iaload, 0, 0, 0, 0), (124, .ireturn, 0, 0, 0, 0)]
def l59_125 : List Ent := [(125, .bipush (-2), 0, 0, 0, 0), (127, .ireturn, 0, 0, 0, 0)]
def bk59 : List Blk := [(0, l59_0, 8), (8, l59_8, 13), (13, l59_13, 52), (52, l59_52, 65), (65, l59_65, 78), (78, l59_78, 89), (89, l59_89, 90), (90, l59_90, 101), (101, l59_101, 102), (102, l59_102, 115), (115, l59_115, 125), (125, l59_125, 128)]
-- NoticeShifts.marked
def l60_0 : List Ent := [(0, .aload_n 0, 0, 0, 0, 0), (1, .getfield 10, 6, 0, 3, 0), (4, .getfield 56, 5, 0, 3, 0), (7, .iload_n 1, 0, 0, 0, 0), (8, .invokevirtual 176, 28, 2, 1, 4)]
def l60_11 : List Ent := [(11, .ireturn, 0, 0, 0, 0)]
def bk60 : List Blk := [(0, l60_0, 11), (11, l60_11, 12)]
-- NoticeShifts.booked
def l61_0 : List Ent := [(0, .aload_n 0, 0, 0, 0, 0), (1, .getfield 10, 6, 0, 3, 0), (4, .iload_n 1, 0, 0, 0, 0), (5, .invokevirtual 81, 35, 2, 1, 5)]
def l61_8 : List Ent := [(8, .ifCond .eq 22, 30, 0, 0, 0), (11, .iload_n 2, 0, 0, 0, 0), (12, .iconst 0, 0, 0, 0, 0), (13, .aload_n 0, 0, 0, 0, 0), (14, .getfield 10, 6, 0, 3, 0), (17, .getfield 121, 5, 1, 7, 0), (20, .iload_n 1, 0, 0, 0, 0), (21, .iaload, 0, 0, 0, 0), (22, .iconst 1, 0, 0, 0, 0), (23, .isub, 0, 0, 0, 0), (24, .invokestatic 66, 80, 3, 1, 0)]
def l61_27 : List Ent := [(27, .ifCond .ne 5, 32, 0, 0, 0)]
def l61_30 : List Ent := [(30, .iconst (-1), 0, 0, 0, 0), (31, .ireturn, 0, 0, 0, 0)]
def l61_32 : List Ent := [(32, .aload_n 0, 0, 0, 0, 0), (33, .getfield 10, 6, 0, 3, 0), (36, .iload_n 1, 0, 0, 0, 0), (37, .iload_n 2, 0, 0, 0, 0), (38, .invokevirtual 179, 39, 3, 1, 5)]
def l61_41 : List Ent := [(41, .ireturn, 0, 0, 0, 0)]
def bk61 : List Blk := [(0, l61_0, 8), (8, l61_8, 27), (27, l61_27, 30), (30, l61_30, 32), (32, l61_32, 41), (41, l61_41, 42)]
-- NoticeShifts.ofNotice
def l62_0 : List Ent := [(0, .aload_n 0, 0, 0, 0, 0), (1, .getfield 10, 6, 0, 3, 0), (4, .iload_n 1, 0, 0, 0, 0), (5, .invokevirtual 112, 36, 2, 1, 5)]
def l62_8 : List Ent := [(8, .ifCond .ne 5, 13, 0, 0, 0), (11, .iconst (-1), 0, 0, 0, 0), (12, .ireturn, 0, 0, 0, 0)]
def l62_13 : List Ent := [(13, .iload_n 2, 0, 0, 0, 0), (14, .tableswitch 65 0 3 #[30, 40, 50, 59], 0, 0, 0, 0)]
def l62_44 : List Ent := [(44, .aload_n 0, 0, 0, 0, 0), (45, .getfield 10, 6, 0, 3, 0), (48, .getfield 106, 5, 3, 9, 0), (51, .iload_n 1, 0, 0, 0, 0), (52, .iaload, 0, 0, 0, 0), (53, .ireturn, 0, 0, 0, 0)]
def l62_54 : List Ent := [(54, .aload_n 0, 0, 0, 0, 0), (55, .getfield 10, 6, 0, 3, 0), (58, .getfield 109, 5, 4, 10, 0), (61, .iload_n 1, 0, 0, 0, 0), (62, .iaload, 0, 0, 0, 0), (63, .ireturn, 0, 0, 0, 0)]
def l62_64 : List Ent := [(64, .aload_n 0, 0, 0, 0, 0), (65, .getfield 10, 6, 0, 3, 0), (68, .iload_n 1, 0, 0, 0, 0), (69, .invokevirtual 183, 43, 2, 1, 5)]
def l62_72 : List Ent := [(72, .ireturn, 0, 0, 0, 0)]
def l62_73 : List Ent := [(73, .aload_n 0, 0, 0, 0, 0), (74, .iload_n 1, 0, 0, 0, 0), (75, .invokevirtual 186, 91, 2, 1, 6)]
def l62_78 : List Ent := [(78, .ireturn, 0, 0, 0, 0)]
def l62_79 : List Ent := [(79, .bipush (-2), 0, 0, 0, 0), (81, .ireturn, 0, 0, 0, 0)]
def bk62 : List Blk := [(0, l62_0, 8), (8, l62_8, 13), (13, l62_13, 44), (44, l62_44, 54), (54, l62_54, 64), (64, l62_64, 72), (72, l62_72, 73), (73, l62_73, 78), (78, l62_78, 79), (79, l62_79, 82)]
-- NoticeShifts.of
def l63_0 : List Ent := [(0, .aload_n 0, 0, 0, 0, 0), (1, .getfield 10, 6, 0, 3, 0), (4, .iload_n 1, 0, 0, 0, 0), (5, .invokevirtual 151, 37, 2, 1, 5)]
def l63_8 : List Ent := [(8, .ifCond .ne 5, 13, 0, 0, 0), (11, .iconst (-1), 0, 0, 0, 0), (12, .ireturn, 0, 0, 0, 0)]
def l63_13 : List Ent := [(13, .iload_n 2, 0, 0, 0, 0), (14, .tableswitch 127 0 7 #[46, 56, 66, 79, 88, 97, 106, 115], 0, 0, 0, 0)]
def l63_60 : List Ent := [(60, .aload_n 0, 0, 0, 0, 0), (61, .getfield 10, 6, 0, 3, 0), (64, .getfield 142, 5, 5, 11, 0), (67, .iload_n 1, 0, 0, 0, 0), (68, .iaload, 0, 0, 0, 0), (69, .ireturn, 0, 0, 0, 0)]
def l63_70 : List Ent := [(70, .aload_n 0, 0, 0, 0, 0), (71, .getfield 10, 6, 0, 3, 0), (74, .getfield 145, 5, 6, 12, 0), (77, .iload_n 1, 0, 0, 0, 0), (78, .iaload, 0, 0, 0, 0), (79, .ireturn, 0, 0, 0, 0)]
def l63_80 : List Ent := [(80, .aload_n 0, 0, 0, 0, 0), (81, .getfield 10, 6, 0, 3, 0), (84, .getfield 148, 5, 7, 13, 0), (87, .iload_n 1, 0, 0, 0, 0), (88, .baload, 0, 0, 0, 0), (89, .invokestatic 92, 81, 1, 1, 0)]
def l63_92 : List Ent := [(92, .ireturn, 0, 0, 0, 0)]
def l63_93 : List Ent := [(93, .aload_n 0, 0, 0, 0, 0), (94, .iload_n 1, 0, 0, 0, 0), (95, .invokevirtual 189, 85, 2, 1, 6)]
def l63_98 : List Ent := [(98, .invokestatic 92, 81, 1, 1, 0)]
def l63_101 : List Ent := [(101, .ireturn, 0, 0, 0, 0)]
def l63_102 : List Ent := [(102, .aload_n 0, 0, 0, 0, 0), (103, .iload_n 1, 0, 0, 0, 0), (104, .invokevirtual 162, 83, 2, 2, 6)]
def l63_107 : List Ent := [(107, .invokevirtual 166, 7, 1, 1, 1)]
def l63_110 : List Ent := [(110, .ireturn, 0, 0, 0, 0)]
def l63_111 : List Ent := [(111, .aload_n 0, 0, 0, 0, 0), (112, .iload_n 1, 0, 0, 0, 0), (113, .invokevirtual 162, 83, 2, 2, 6)]
def l63_116 : List Ent := [(116, .invokevirtual 192, 9, 1, 1, 1)]
def l63_119 : List Ent := [(119, .ireturn, 0, 0, 0, 0)]
def l63_120 : List Ent := [(120, .aload_n 0, 0, 0, 0, 0), (121, .iload_n 1, 0, 0, 0, 0), (122, .invokevirtual 162, 83, 2, 2, 6)]
def l63_125 : List Ent := [(125, .invokevirtual 195, 8, 1, 1, 1)]
def l63_128 : List Ent := [(128, .ireturn, 0, 0, 0, 0)]
def l63_129 : List Ent := [(129, .aload_n 0, 0, 0, 0, 0), (130, .iload_n 1, 0, 0, 0, 0), (131, .invokevirtual 162, 83, 2, 2, 6)]
def l63_134 : List Ent := [(134, .getfield 198, 1, 0, 3, 0), (137, .getfield 60, 4, 3, 0, 0), (140, .ireturn, 0, 0, 0, 0)]
def l63_141 : List Ent := [(141, .bipush (-2), 0, 0, 0, 0), (143, .ireturn, 0, 0, 0, 0)]
def bk63 : List Blk := [(0, l63_0, 8), (8, l63_8, 13), (13, l63_13, 60), (60, l63_60, 70), (70, l63_70, 80), (80, l63_80, 92), (92, l63_92, 93), (93, l63_93, 98), (98, l63_98, 101), (101, l63_101, 102), (102, l63_102, 107), (107, l63_107, 110), (110, l63_110, 111), (111, l63_111, 116), (116, l63_116, 119), (119, l63_119, 120), (120, l63_120, 125), (125, l63_125, 128), (128, l63_128, 129), (129, l63_129, 134), (134, l63_134, 141), (141, l63_141, 144)]
-- NoticeShifts.count
def l64_0 : List Ent := [(0, .iload_n 1, 0, 0, 0, 0), (1, .tableswitch 126 0 8 #[51, 62, 73, 84, 92, 100, 105, 110, 118], 0, 0, 0, 0)]
def l64_52 : List Ent := [(52, .aload_n 0, 0, 0, 0, 0), (53, .getfield 10, 6, 0, 3, 0), (56, .getfield 56, 5, 0, 3, 0), (59, .getfield 60, 4, 3, 0, 0), (62, .ireturn, 0, 0, 0, 0)]
def l64_63 : List Ent := [(63, .aload_n 0, 0, 0, 0, 0), (64, .getfield 10, 6, 0, 3, 0), (67, .getfield 56, 5, 0, 3, 0), (70, .invokevirtual 199, 26, 1, 1, 4)]
def l64_73 : List Ent := [(73, .ireturn, 0, 0, 0, 0)]
def l64_74 : List Ent := [(74, .aload_n 0, 0, 0, 0, 0), (75, .getfield 10, 6, 0, 3, 0), (78, .getfield 56, 5, 0, 3, 0), (81, .invokevirtual 99, 30, 1, 1, 4)]
def l64_84 : List Ent := [(84, .ireturn, 0, 0, 0, 0)]
def l64_85 : List Ent := [(85, .aload_n 0, 0, 0, 0, 0), (86, .getfield 10, 6, 0, 3, 0), (89, .getfield 103, 5, 10, 0, 0), (92, .ireturn, 0, 0, 0, 0)]
def l64_93 : List Ent := [(93, .aload_n 0, 0, 0, 0, 0), (94, .getfield 10, 6, 0, 3, 0), (97, .getfield 139, 5, 11, 0, 0), (100, .ireturn, 0, 0, 0, 0)]
def l64_101 : List Ent := [(101, .aload_n 0, 0, 0, 0, 0), (102, .invokevirtual 200, 86, 1, 1, 6)]
def l64_105 : List Ent := [(105, .ireturn, 0, 0, 0, 0)]
def l64_106 : List Ent := [(106, .aload_n 0, 0, 0, 0, 0), (107, .invokevirtual 203, 87, 1, 1, 6)]
def l64_110 : List Ent := [(110, .ireturn, 0, 0, 0, 0)]
def l64_111 : List Ent := [(111, .aload_n 0, 0, 0, 0, 0), (112, .getfield 34, 6, 4, 392, 0), (115, .getfield 136, 3, 1, 0, 0), (118, .ireturn, 0, 0, 0, 0)]
def l64_119 : List Ent := [(119, .aload_n 0, 0, 0, 0, 0), (120, .getfield 19, 6, 1, 58, 0), (123, .getfield 206, 2, 2, 0, 0), (126, .ireturn, 0, 0, 0, 0)]
def l64_127 : List Ent := [(127, .bipush (-2), 0, 0, 0, 0), (129, .ireturn, 0, 0, 0, 0)]
def bk64 : List Blk := [(0, l64_0, 52), (52, l64_52, 63), (63, l64_63, 73), (73, l64_73, 74), (74, l64_74, 84), (84, l64_84, 85), (85, l64_85, 93), (93, l64_93, 101), (101, l64_101, 105), (105, l64_105, 106), (106, l64_106, 110), (110, l64_110, 111), (111, l64_111, 119), (119, l64_119, 127), (127, l64_127, 130)]
-- NoticeShifts.heard
def l65_0 : List Ent := [(0, .aload_n 0, 0, 0, 0, 0), (1, .getfield 10, 6, 0, 3, 0), (4, .iload_n 1, 0, 0, 0, 0), (5, .invokevirtual 151, 37, 2, 1, 5)]
def l65_8 : List Ent := [(8, .ifCond .ne 5, 13, 0, 0, 0), (11, .iconst (-1), 0, 0, 0, 0), (12, .ireturn, 0, 0, 0, 0)]
def l65_13 : List Ent := [(13, .aload_n 0, 0, 0, 0, 0), (14, .iload_n 1, 0, 0, 0, 0), (15, .invokevirtual 162, 83, 2, 2, 6)]
def l65_18 : List Ent := [(18, .astore_n 3, 0, 0, 0, 0), (19, .iload_n 2, 0, 0, 0, 0), (20, .iconst 0, 0, 0, 0, 0), (21, .aload_n 3, 0, 0, 0, 0), (22, .getfield 198, 1, 0, 3, 0), (25, .getfield 60, 4, 3, 0, 0), (28, .iconst 1, 0, 0, 0, 0), (29, .isub, 0, 0, 0, 0), (30, .invokestatic 66, 80, 3, 1, 0)]
def l65_33 : List Ent := [(33, .ifCond .ne 5, 38, 0, 0, 0), (36, .iconst (-1), 0, 0, 0, 0), (37, .ireturn, 0, 0, 0, 0)]
def l65_38 : List Ent := [(38, .aload_n 3, 0, 0, 0, 0), (39, .getfield 207, 1, 1, 7, 0), (42, .iload_n 2, 0, 0, 0, 0), (43, .iaload, 0, 0, 0, 0), (44, .ireturn, 0, 0, 0, 0)]
def bk65 : List Blk := [(0, l65_0, 8), (8, l65_8, 13), (13, l65_13, 18), (18, l65_18, 33), (33, l65_33, 38), (38, l65_38, 45)]
-- NoticeShifts.whenHeard
def l66_0 : List Ent := [(0, .aload_n 0, 0, 0, 0, 0), (1, .getfield 10, 6, 0, 3, 0), (4, .iload_n 1, 0, 0, 0, 0), (5, .invokevirtual 151, 37, 2, 1, 5)]
def l66_8 : List Ent := [(8, .ifCond .ne 5, 13, 0, 0, 0), (11, .iconst (-1), 0, 0, 0, 0), (12, .ireturn, 0, 0, 0, 0)]
def l66_13 : List Ent := [(13, .iload_n 2, 0, 0, 0, 0), (14, .iconst 0, 0, 0, 0, 0), (15, .sipush 7199, 0, 0, 0, 0), (18, .invokestatic 66, 80, 3, 1, 0)]
def l66_21 : List Ent := [(21, .ifCond .ne 6, 27, 0, 0, 0), (24, .bipush (-2), 0, 0, 0, 0), (26, .ireturn, 0, 0, 0, 0)]
def l66_27 : List Ent := [(27, .aload_n 0, 0, 0, 0, 0), (28, .iload_n 1, 0, 0, 0, 0), (29, .invokevirtual 162, 83, 2, 2, 6)]
def l66_32 : List Ent := [(32, .astore_n 3, 0, 0, 0, 0), (33, .aload_n 3, 0, 0, 0, 0), (34, .getfield 198, 1, 0, 3, 0), (37, .iload_n 2, 0, 0, 0, 0), (38, .invokevirtual 209, 27, 2, 1, 4)]
def l66_41 : List Ent := [(41, .istore 4, 0, 0, 0, 0), (43, .iload 4, 0, 0, 0, 0), (45, .bipush (-6), 0, 0, 0, 0), (47, .if_icmp .ne 6, 53, 0, 0, 0), (50, .bipush (-6), 0, 0, 0, 0), (52, .ireturn, 0, 0, 0, 0)]
def l66_53 : List Ent := [(53, .aload_n 3, 0, 0, 0, 0), (54, .iload 4, 0, 0, 0, 0), (56, .invokevirtual 212, 6, 2, 1, 1)]
def l66_59 : List Ent := [(59, .iload_n 2, 0, 0, 0, 0), (60, .iadd, 0, 0, 0, 0), (61, .aload_n 3, 0, 0, 0, 0), (62, .getfield 198, 1, 0, 3, 0), (65, .iload 4, 0, 0, 0, 0), (67, .invokevirtual 169, 25, 2, 1, 4)]
def l66_70 : List Ent := [(70, .isub, 0, 0, 0, 0), (71, .ireturn, 0, 0, 0, 0)]
def bk66 : List Blk := [(0, l66_0, 8), (8, l66_8, 13), (13, l66_13, 21), (21, l66_21, 27), (27, l66_27, 32), (32, l66_32, 41), (41, l66_41, 53), (53, l66_53, 59), (59, l66_59, 70), (70, l66_70, 72)]
-- NoticeShifts.heardAt
def l67_0 : List Ent := [(0, .aload_n 0, 0, 0, 0, 0), (1, .getfield 10, 6, 0, 3, 0), (4, .iload_n 1, 0, 0, 0, 0), (5, .invokevirtual 151, 37, 2, 1, 5)]
def l67_8 : List Ent := [(8, .ifCond .ne 5, 13, 0, 0, 0), (11, .iconst (-1), 0, 0, 0, 0), (12, .ireturn, 0, 0, 0, 0)]
def l67_13 : List Ent := [(13, .iload_n 2, 0, 0, 0, 0), (14, .iconst 0, 0, 0, 0, 0), (15, .sipush 9999, 0, 0, 0, 0), (18, .invokestatic 66, 80, 3, 1, 0)]
def l67_21 : List Ent := [(21, .ifCond .eq 12, 33, 0, 0, 0), (24, .iload_n 3, 0, 0, 0, 0), (25, .iconst 0, 0, 0, 0, 0), (26, .iconst 3, 0, 0, 0, 0), (27, .invokestatic 66, 80, 3, 1, 0)]
def l67_30 : List Ent := [(30, .ifCond .ne 6, 36, 0, 0, 0)]
def l67_33 : List Ent := [(33, .bipush (-2), 0, 0, 0, 0), (35, .ireturn, 0, 0, 0, 0)]
def l67_36 : List Ent := [(36, .aload_n 0, 0, 0, 0, 0), (37, .iload_n 1, 0, 0, 0, 0), (38, .invokevirtual 162, 83, 2, 2, 6)]
def l67_41 : List Ent := [(41, .astore 4, 0, 0, 0, 0), (43, .aload 4, 0, 0, 0, 0), (45, .iload_n 2, 0, 0, 0, 0), (46, .invokevirtual 215, 10, 2, 1, 1)]
def l67_49 : List Ent := [(49, .istore 5, 0, 0, 0, 0), (51, .iload 5, 0, 0, 0, 0), (53, .bipush (-6), 0, 0, 0, 0), (55, .if_icmp .ne 6, 61, 0, 0, 0), (58, .bipush (-5), 0, 0, 0, 0), (60, .ireturn, 0, 0, 0, 0)]
def l67_61 : List Ent := [(61, .iload_n 2, 0, 0, 0, 0), (62, .aload 4, 0, 0, 0, 0), (64, .iload 5, 0, 0, 0, 0), (66, .invokevirtual 212, 6, 2, 1, 1)]
def l67_69 : List Ent := [(69, .isub, 0, 0, 0, 0), (70, .istore 6, 0, 0, 0, 0), (72, .iload 6, 0, 0, 0, 0), (74, .ifCond .ge 7, 81, 0, 0, 0), (77, .iconst 1, 0, 0, 0, 0), (78, .goto 4, 82, 0, 0, 0)]
def l67_81 : List Ent := [(81, .iconst 0, 0, 0, 0, 0)]
def l67_82 : List Ent := [(82, .istore 7, 0, 0, 0, 0), (84, .iload_n 3, 0, 0, 0, 0), (85, .tableswitch 73 0 2 #[27, 51, 70], 0, 0, 0, 0)]
def l67_112 : List Ent := [(112, .iload 7, 0, 0, 0, 0), (114, .ifCond .eq 8, 122, 0, 0, 0), (117, .bipush (-6), 0, 0, 0, 0), (119, .goto 16, 135, 0, 0, 0)]
def l67_122 : List Ent := [(122, .aload 4, 0, 0, 0, 0), (124, .getfield 198, 1, 0, 3, 0), (127, .iload 5, 0, 0, 0, 0), (129, .invokevirtual 169, 25, 2, 1, 4)]
def l67_132 : List Ent := [(132, .iload 6, 0, 0, 0, 0), (134, .iadd, 0, 0, 0, 0)]
def l67_135 : List Ent := [(135, .ireturn, 0, 0, 0, 0)]
def l67_136 : List Ent := [(136, .iload 7, 0, 0, 0, 0), (138, .ifCond .eq 14, 152, 0, 0, 0), (141, .aload 4, 0, 0, 0, 0), (143, .getfield 207, 1, 1, 7, 0), (146, .iload 5, 0, 0, 0, 0), (148, .iaload, 0, 0, 0, 0), (149, .goto 5, 154, 0, 0, 0)]
def l67_152 : List Ent := [(152, .bipush (-6), 0, 0, 0, 0)]
def l67_154 : List Ent := [(154, .ireturn, 0, 0, 0, 0)]
def l67_155 : List Ent := [(155, .iload 5, 0, 0, 0, 0), (157, .ireturn, 0, 0, 0, 0)]
def l67_158 : List Ent := [(158, .aload 4, 0, 0, 0, 0), (160, .getfield 198, 1, 0, 3, 0), (163, .iload 5, 0, 0, 0, 0), (165, .invokevirtual 173, 29, 2, 1, 4)]
def l67_168 : List Ent := [(168, .ireturn, 0, 0, 0, 0)]
def bk67 : List Blk := [(0, l67_0, 8), (8, l67_8, 13), (13, l67_13, 21), (21, l67_21, 30), (30, l67_30, 33), (33, l67_33, 36), (36, l67_36, 41), (41, l67_41, 49), (49, l67_49, 61), (61, l67_61, 69), (69, l67_69, 81), (81, l67_81, 82), (82, l67_82, 112), (112, l67_112, 122), (122, l67_122, 132), (132, l67_132, 135), (135, l67_135, 136), (136, l67_136, 152), (152, l67_152, 154), (154, l67_154, 155), (155, l67_155, 158), (158, l67_158, 168), (168, l67_168, 169)]
-- NoticeShifts.chapterAt
def l68_0 : List Ent := [(0, .aload_n 0, 0, 0, 0, 0), (1, .getfield 10, 6, 0, 3, 0), (4, .iload_n 1, 0, 0, 0, 0), (5, .invokevirtual 151, 37, 2, 1, 5)]
def l68_8 : List Ent := [(8, .ifCond .ne 5, 13, 0, 0, 0), (11, .iconst (-1), 0, 0, 0, 0), (12, .ireturn, 0, 0, 0, 0)]
def l68_13 : List Ent := [(13, .aload_n 0, 0, 0, 0, 0), (14, .iload_n 1, 0, 0, 0, 0), (15, .invokevirtual 162, 83, 2, 2, 6)]
def l68_18 : List Ent := [(18, .astore_n 3, 0, 0, 0, 0), (19, .iload_n 2, 0, 0, 0, 0), (20, .iconst 0, 0, 0, 0, 0), (21, .aload_n 3, 0, 0, 0, 0), (22, .getfield 198, 1, 0, 3, 0), (25, .invokevirtual 99, 30, 1, 1, 4)]
def l68_28 : List Ent := [(28, .iconst 1, 0, 0, 0, 0), (29, .isub, 0, 0, 0, 0), (30, .invokestatic 66, 80, 3, 1, 0)]
def l68_33 : List Ent := [(33, .ifCond .ne 5, 38, 0, 0, 0), (36, .iconst (-1), 0, 0, 0, 0), (37, .ireturn, 0, 0, 0, 0)]
def l68_38 : List Ent := [(38, .aload_n 3, 0, 0, 0, 0), (39, .aload_n 3, 0, 0, 0, 0), (40, .getfield 198, 1, 0, 3, 0), (43, .iload_n 2, 0, 0, 0, 0), (44, .invokevirtual 218, 31, 2, 1, 4)]
def l68_47 : List Ent := [(47, .invokevirtual 221, 5, 2, 1, 1)]
def l68_50 : List Ent := [(50, .ireturn, 0, 0, 0, 0)]
def bk68 : List Blk := [(0, l68_0, 8), (8, l68_8, 13), (13, l68_13, 18), (18, l68_18, 28), (28, l68_28, 33), (33, l68_33, 38), (38, l68_38, 47), (47, l68_47, 50), (50, l68_50, 51)]
-- NoticeShifts.open
def l69_0 : List Ent := [(0, .aload_n 0, 0, 0, 0, 0), (1, .getfield 10, 6, 0, 3, 0), (4, .iload_n 1, 0, 0, 0, 0), (5, .invokevirtual 151, 37, 2, 1, 5)]
def l69_8 : List Ent := [(8, .ifCond .ne 5, 13, 0, 0, 0), (11, .iconst (-1), 0, 0, 0, 0), (12, .ireturn, 0, 0, 0, 0)]
def l69_13 : List Ent := [(13, .iload_n 3, 0, 0, 0, 0), (14, .iconst 0, 0, 0, 0, 0), (15, .sipush 299, 0, 0, 0, 0), (18, .invokestatic 66, 80, 3, 1, 0)]
def l69_21 : List Ent := [(21, .ifCond .ne 6, 27, 0, 0, 0), (24, .bipush (-2), 0, 0, 0, 0), (26, .ireturn, 0, 0, 0, 0)]
def l69_27 : List Ent := [(27, .aload_n 0, 0, 0, 0, 0), (28, .iload_n 1, 0, 0, 0, 0), (29, .invokevirtual 162, 83, 2, 2, 6)]
def l69_32 : List Ent := [(32, .astore 4, 0, 0, 0, 0), (34, .aload 4, 0, 0, 0, 0), (36, .getfield 198, 1, 0, 3, 0), (39, .iload_n 2, 0, 0, 0, 0), (40, .invokevirtual 176, 28, 2, 1, 4)]
def l69_43 : List Ent := [(43, .istore 5, 0, 0, 0, 0), (45, .iload 5, 0, 0, 0, 0), (47, .iconst (-1), 0, 0, 0, 0), (48, .if_icmp .eq 18, 66, 0, 0, 0), (51, .iload_n 3, 0, 0, 0, 0), (52, .aload 4, 0, 0, 0, 0), (54, .getfield 198, 1, 0, 3, 0), (57, .getfield 89, 4, 1, 4, 0), (60, .iload 5, 0, 0, 0, 0), (62, .iaload, 0, 0, 0, 0), (63, .if_icmp .lt 6, 69, 0, 0, 0)]
def l69_66 : List Ent := [(66, .bipush (-5), 0, 0, 0, 0), (68, .ireturn, 0, 0, 0, 0)]
def l69_69 : List Ent := [(69, .aload 4, 0, 0, 0, 0), (71, .iload 5, 0, 0, 0, 0), (73, .invokevirtual 212, 6, 2, 1, 1)]
def l69_76 : List Ent := [(76, .iload_n 3, 0, 0, 0, 0), (77, .iadd, 0, 0, 0, 0), (78, .ireturn, 0, 0, 0, 0)]
def bk69 : List Blk := [(0, l69_0, 8), (8, l69_8, 13), (13, l69_13, 21), (21, l69_21, 27), (27, l69_27, 32), (32, l69_32, 43), (43, l69_43, 66), (66, l69_66, 69), (69, l69_69, 76), (76, l69_76, 79)]
-- NoticeShifts.wrongAt
def l70_0 : List Ent := [(0, .aload_n 0, 0, 0, 0, 0), (1, .getfield 10, 6, 0, 3, 0), (4, .iload_n 1, 0, 0, 0, 0), (5, .invokevirtual 151, 37, 2, 1, 5)]
def l70_8 : List Ent := [(8, .ifCond .eq 14, 22, 0, 0, 0), (11, .aload_n 0, 0, 0, 0, 0), (12, .getfield 10, 6, 0, 3, 0), (15, .iload_n 2, 0, 0, 0, 0), (16, .invokevirtual 151, 37, 2, 1, 5)]
def l70_19 : List Ent := [(19, .ifCond .ne 5, 24, 0, 0, 0)]
def l70_22 : List Ent := [(22, .iconst (-1), 0, 0, 0, 0), (23, .ireturn, 0, 0, 0, 0)]
def l70_24 : List Ent := [(24, .iload_n 3, 0, 0, 0, 0), (25, .iconst 0, 0, 0, 0, 0), (26, .sipush 9999, 0, 0, 0, 0), (29, .invokestatic 66, 80, 3, 1, 0)]
def l70_32 : List Ent := [(32, .ifCond .ne 6, 38, 0, 0, 0), (35, .bipush (-2), 0, 0, 0, 0), (37, .ireturn, 0, 0, 0, 0)]
def l70_38 : List Ent := [(38, .aload_n 0, 0, 0, 0, 0), (39, .iload_n 1, 0, 0, 0, 0), (40, .iload_n 3, 0, 0, 0, 0), (41, .invokevirtual 224, 88, 3, 1, 6)]
def l70_44 : List Ent := [(44, .istore 4, 0, 0, 0, 0), (46, .aload_n 0, 0, 0, 0, 0), (47, .iload_n 2, 0, 0, 0, 0), (48, .iload_n 3, 0, 0, 0, 0), (49, .invokevirtual 224, 88, 3, 1, 6)]
def l70_52 : List Ent := [(52, .istore 5, 0, 0, 0, 0), (54, .iload 4, 0, 0, 0, 0), (56, .bipush (-5), 0, 0, 0, 0), (58, .if_icmp .eq 10, 68, 0, 0, 0), (61, .iload 5, 0, 0, 0, 0), (63, .bipush (-5), 0, 0, 0, 0), (65, .if_icmp .ne 6, 71, 0, 0, 0)]
def l70_68 : List Ent := [(68, .bipush (-5), 0, 0, 0, 0), (70, .ireturn, 0, 0, 0, 0)]
def l70_71 : List Ent := [(71, .iload 5, 0, 0, 0, 0), (73, .iload 4, 0, 0, 0, 0), (75, .isub, 0, 0, 0, 0), (76, .invokestatic 227, 0, 0, 12, 0), (79, .ireturn, 0, 0, 0, 0)]
def bk70 : List Blk := [(0, l70_0, 8), (8, l70_8, 19), (19, l70_19, 22), (22, l70_22, 24), (24, l70_24, 32), (32, l70_32, 38), (38, l70_38, 44), (44, l70_44, 52), (52, l70_52, 68), (68, l70_68, 71), (71, l70_71, 80)]
-- NoticeShifts.ifBooked
def l71_0 : List Ent := [(0, .aload_n 0, 0, 0, 0, 0), (1, .getfield 10, 6, 0, 3, 0), (4, .iload_n 1, 0, 0, 0, 0), (5, .invokevirtual 81, 35, 2, 1, 5)]
def l71_8 : List Ent := [(8, .ifCond .eq 14, 22, 0, 0, 0), (11, .aload_n 0, 0, 0, 0, 0), (12, .getfield 10, 6, 0, 3, 0), (15, .iload_n 2, 0, 0, 0, 0), (16, .invokevirtual 112, 36, 2, 1, 5)]
def l71_19 : List Ent := [(19, .ifCond .ne 5, 24, 0, 0, 0)]
def l71_22 : List Ent := [(22, .iconst (-1), 0, 0, 0, 0), (23, .ireturn, 0, 0, 0, 0)]
def l71_24 : List Ent := [(24, .aload_n 0, 0, 0, 0, 0), (25, .getfield 10, 6, 0, 3, 0), (28, .iload_n 1, 0, 0, 0, 0), (29, .invokevirtual 115, 38, 2, 1, 5)]
def l71_32 : List Ent := [(32, .ifCond .eq 6, 38, 0, 0, 0), (35, .bipush (-4), 0, 0, 0, 0), (37, .ireturn, 0, 0, 0, 0)]
def l71_38 : List Ent := [(38, .aload_n 0, 0, 0, 0, 0), (39, .invokevirtual 232, 90, 1, 1, 6)]
def l71_42 : List Ent := [(42, .istore_n 3, 0, 0, 0, 0), (43, .aload_n 0, 0, 0, 0, 0), (44, .getfield 10, 6, 0, 3, 0), (47, .iload_n 1, 0, 0, 0, 0), (48, .iload_n 2, 0, 0, 0, 0), (49, .invokevirtual 118, 40, 3, 0, 5)]
def l71_52 : List Ent := [(52, .aload_n 0, 0, 0, 0, 0), (53, .invokevirtual 232, 90, 1, 1, 6)]
def l71_56 : List Ent := [(56, .istore 4, 0, 0, 0, 0), (58, .aload_n 0, 0, 0, 0, 0), (59, .getfield 10, 6, 0, 3, 0), (62, .iload_n 1, 0, 0, 0, 0), (63, .invokevirtual 235, 41, 2, 0, 5)]
def l71_66 : List Ent := [(66, .sipush 10000, 0, 0, 0, 0), (69, .iload 4, 0, 0, 0, 0), (71, .iadd, 0, 0, 0, 0), (72, .iload_n 3, 0, 0, 0, 0), (73, .isub, 0, 0, 0, 0), (74, .ireturn, 0, 0, 0, 0)]
def bk71 : List Blk := [(0, l71_0, 8), (8, l71_8, 19), (19, l71_19, 22), (22, l71_22, 24), (24, l71_24, 32), (32, l71_32, 38), (38, l71_38, 42), (42, l71_42, 52), (52, l71_52, 56), (56, l71_56, 66), (66, l71_66, 75)]
-- NoticeShifts.bestBreak
def l72_0 : List Ent := [(0, .aload_n 0, 0, 0, 0, 0), (1, .getfield 10, 6, 0, 3, 0), (4, .iload_n 1, 0, 0, 0, 0), (5, .invokevirtual 112, 36, 2, 1, 5)]
def l72_8 : List Ent := [(8, .ifCond .ne 5, 13, 0, 0, 0), (11, .iconst (-1), 0, 0, 0, 0), (12, .ireturn, 0, 0, 0, 0)]
def l72_13 : List Ent := [(13, .iload_n 2, 0, 0, 0, 0), (14, .iconst 0, 0, 0, 0, 0), (15, .iconst 1, 0, 0, 0, 0), (16, .invokestatic 66, 80, 3, 1, 0)]
def l72_19 : List Ent := [(19, .ifCond .ne 6, 25, 0, 0, 0), (22, .bipush (-2), 0, 0, 0, 0), (24, .ireturn, 0, 0, 0, 0)]
def l72_25 : List Ent := [(25, .bipush (-6), 0, 0, 0, 0), (27, .istore_n 3, 0, 0, 0, 0), (28, .bipush (-6), 0, 0, 0, 0), (30, .istore 4, 0, 0, 0, 0), (32, .iconst 0, 0, 0, 0, 0), (33, .istore 5, 0, 0, 0, 0)]
def l72_35 : List Ent := [(35, .iload 5, 0, 0, 0, 0), (37, .aload_n 0, 0, 0, 0, 0), (38, .getfield 10, 6, 0, 3, 0), (41, .getfield 56, 5, 0, 3, 0), (44, .getfield 60, 4, 3, 0, 0), (47, .if_icmp .ge 32, 79, 0, 0, 0), (50, .aload_n 0, 0, 0, 0, 0), (51, .iload 5, 0, 0, 0, 0), (53, .iload_n 1, 0, 0, 0, 0), (54, .invokevirtual 238, 92, 3, 1, 6)]
def l72_57 : List Ent := [(57, .istore 6, 0, 0, 0, 0), (59, .iload 6, 0, 0, 0, 0), (61, .iload 4, 0, 0, 0, 0), (63, .if_icmp .le 10, 73, 0, 0, 0), (66, .iload 5, 0, 0, 0, 0), (68, .istore_n 3, 0, 0, 0, 0), (69, .iload 6, 0, 0, 0, 0), (71, .istore 4, 0, 0, 0, 0)]
def l72_73 : List Ent := [(73, .iinc 5 1, 0, 0, 0, 0), (76, .goto (-41), 35, 0, 0, 0)]
def l72_79 : List Ent := [(79, .iload_n 2, 0, 0, 0, 0), (80, .ifCond .ne 7, 87, 0, 0, 0), (83, .iload_n 3, 0, 0, 0, 0), (84, .goto 5, 89, 0, 0, 0)]
def l72_87 : List Ent := [(87, .iload 4, 0, 0, 0, 0)]
def l72_89 : List Ent := [(89, .ireturn, 0, 0, 0, 0)]
def bk72 : List Blk := [(0, l72_0, 8), (8, l72_8, 13), (13, l72_13, 19), (19, l72_19, 25), (25, l72_25, 35), (35, l72_35, 57), (57, l72_57, 73), (73, l72_73, 79), (79, l72_79, 87), (87, l72_87, 89), (89, l72_89, 90)]
-- NoticeShifts.enough
def l73_0 : List Ent := [(0, .aload_n 0, 0, 0, 0, 0), (1, .getfield 10, 6, 0, 3, 0), (4, .iload_n 1, 0, 0, 0, 0), (5, .invokevirtual 151, 37, 2, 1, 5)]
def l73_8 : List Ent := [(8, .ifCond .ne 5, 13, 0, 0, 0), (11, .iconst (-1), 0, 0, 0, 0), (12, .ireturn, 0, 0, 0, 0)]
def l73_13 : List Ent := [(13, .aload_n 0, 0, 0, 0, 0), (14, .iload_n 1, 0, 0, 0, 0), (15, .sipush 600, 0, 0, 0, 0), (18, .invokevirtual 241, 89, 3, 0, 6)]
def l73_21 : List Ent := [(21, .aload_n 0, 0, 0, 0, 0), (22, .getfield 41, 6, 5, 394, 0), (25, .getfield 244, 0, 2, 0, 0), (28, .istore_n 2, 0, 0, 0, 0), (29, .iconst 0, 0, 0, 0, 0), (30, .istore_n 3, 0, 0, 0, 0), (31, .iconst 0, 0, 0, 0, 0), (32, .istore 4, 0, 0, 0, 0)]
def l73_34 : List Ent := [(34, .iload 4, 0, 0, 0, 0), (36, .sipush 600, 0, 0, 0, 0), (39, .if_icmp .ge 47, 86, 0, 0, 0), (42, .iload 4, 0, 0, 0, 0), (44, .iload_n 3, 0, 0, 0, 0), (45, .if_icmp .ge 6, 51, 0, 0, 0), (48, .goto 32, 80, 0, 0, 0)]
def l73_51 : List Ent := [(51, .aload_n 0, 0, 0, 0, 0), (52, .iload_n 1, 0, 0, 0, 0), (53, .iload 4, 0, 0, 0, 0), (55, .invokevirtual 241, 89, 3, 0, 6)]
def l73_58 : List Ent := [(58, .aload_n 0, 0, 0, 0, 0), (59, .getfield 41, 6, 5, 394, 0), (62, .getfield 244, 0, 2, 0, 0), (65, .iload_n 2, 0, 0, 0, 0), (66, .if_icmp .ne 6, 72, 0, 0, 0), (69, .iload 4, 0, 0, 0, 0), (71, .ireturn, 0, 0, 0, 0)]
def l73_72 : List Ent := [(72, .aload_n 0, 0, 0, 0, 0), (73, .getfield 41, 6, 5, 394, 0), (76, .getfield 247, 0, 5, 0, 0), (79, .istore_n 3, 0, 0, 0, 0)]
def l73_80 : List Ent := [(80, .iinc 4 1, 0, 0, 0, 0), (83, .goto (-49), 34, 0, 0, 0)]
def l73_86 : List Ent := [(86, .sipush 600, 0, 0, 0, 0), (89, .ireturn, 0, 0, 0, 0)]
def bk73 : List Blk := [(0, l73_0, 8), (8, l73_8, 13), (13, l73_13, 21), (21, l73_21, 34), (34, l73_34, 51), (51, l73_51, 58), (58, l73_58, 72), (72, l73_72, 80), (80, l73_80, 86), (86, l73_86, 90)]
-- NoticeShifts.put
def l74_0 : List Ent := [(0, .lload_n 1, 0, 0, 0, 0), (1, .invokestatic 250, 18, 1, 1, 0)]
def l74_4 : List Ent := [(4, .istore_n 3, 0, 0, 0, 0), (5, .iload_n 3, 0, 0, 0, 0), (6, .bipush (-2), 0, 0, 0, 0), (8, .if_icmp .ne 6, 14, 0, 0, 0), (11, .bipush (-2), 0, 0, 0, 0), (13, .ireturn, 0, 0, 0, 0)]
def l74_14 : List Ent := [(14, .aload_n 0, 0, 0, 0, 0), (15, .getfield 34, 6, 4, 392, 0), (18, .getfield 136, 3, 1, 0, 0), (21, .iload_n 3, 0, 0, 0, 0), (22, .iadd, 0, 0, 0, 0), (23, .bipush 60, 0, 0, 0, 0), (25, .if_icmp .le 6, 31, 0, 0, 0), (28, .bipush (-4), 0, 0, 0, 0), (30, .ireturn, 0, 0, 0, 0)]
def l74_31 : List Ent := [(31, .aload_n 0, 0, 0, 0, 0), (32, .getfield 34, 6, 4, 392, 0), (35, .lload_n 1, 0, 0, 0, 0), (36, .iload_n 3, 0, 0, 0, 0), (37, .invokevirtual 254, 20, 3, 0, 3)]
def l74_40 : List Ent := [(40, .aload_n 0, 0, 0, 0, 0), (41, .getfield 34, 6, 4, 392, 0), (44, .getfield 136, 3, 1, 0, 0), (47, .ireturn, 0, 0, 0, 0)]
def bk74 : List Blk := [(0, l74_0, 4), (4, l74_4, 14), (14, l74_14, 31), (31, l74_31, 40), (40, l74_40, 48)]
-- NoticeShifts.wipe
def l75_0 : List Ent := [(0, .aload_n 0, 0, 0, 0, 0), (1, .getfield 34, 6, 4, 392, 0), (4, .getfield 136, 3, 1, 0, 0), (7, .istore_n 1, 0, 0, 0, 0), (8, .aload_n 0, 0, 0, 0, 0), (9, .getfield 34, 6, 4, 392, 0), (12, .iconst 0, 0, 0, 0, 0), (13, .putfield 136, 3, 1, 0, 0), (16, .iload_n 1, 0, 0, 0, 0), (17, .ireturn, 0, 0, 0, 0)]
def bk75 : List Blk := [(0, l75_0, 18)]
-- NoticeShifts.fault
def l76_0 : List Ent := [(0, .aload_n 0, 0, 0, 0, 0), (1, .getfield 34, 6, 4, 392, 0), (4, .invokevirtual 124, 21, 1, 1, 3)]
def l76_7 : List Ent := [(7, .ireturn, 0, 0, 0, 0)]
def bk76 : List Blk := [(0, l76_0, 7), (7, l76_7, 8)]
-- NoticeShifts.undo
def l77_0 : List Ent := [(0, .aload_n 0, 0, 0, 0, 0), (1, .getfield 19, 6, 1, 58, 0), (4, .getfield 206, 2, 2, 0, 0), (7, .ifCond .ne 6, 13, 0, 0, 0), (10, .bipush (-5), 0, 0, 0, 0), (12, .ireturn, 0, 0, 0, 0)]
def l77_13 : List Ent := [(13, .aload_n 0, 0, 0, 0, 0), (14, .getfield 19, 6, 1, 58, 0), (17, .aload_n 0, 0, 0, 0, 0), (18, .getfield 10, 6, 0, 3, 0), (21, .invokevirtual 258, 15, 2, 0, 2)]
def l77_24 : List Ent := [(24, .aload_n 0, 0, 0, 0, 0), (25, .getfield 19, 6, 1, 58, 0), (28, .getfield 206, 2, 2, 0, 0), (31, .ireturn, 0, 0, 0, 0)]
def bk77 : List Blk := [(0, l77_0, 13), (13, l77_13, 24), (24, l77_24, 32)]
-- NoticeShifts.save
def l78_0 : List Ent := [(0, .iload_n 1, 0, 0, 0, 0), (1, .iconst 0, 0, 0, 0, 0), (2, .iconst 1, 0, 0, 0, 0), (3, .invokestatic 66, 80, 3, 1, 0)]
def l78_6 : List Ent := [(6, .ifCond .ne 6, 12, 0, 0, 0), (9, .bipush (-2), 0, 0, 0, 0), (11, .ireturn, 0, 0, 0, 0)]
def l78_12 : List Ent := [(12, .aload_n 0, 0, 0, 0, 0), (13, .getfield 23, 6, 2, 390, 0), (16, .iload_n 1, 0, 0, 0, 0), (17, .aaload, 105, 12, 55, 0), (18, .aload_n 0, 0, 0, 0, 0), (19, .getfield 10, 6, 0, 3, 0), (22, .invokevirtual 261, 47, 2, 0, 5)]
def l78_25 : List Ent := [(25, .aload_n 0, 0, 0, 0, 0), (26, .getfield 27, 6, 3, 391, 0), (29, .iload_n 1, 0, 0, 0, 0), (30, .iconst 1, 0, 0, 0, 0), (31, .bastore, 0, 0, 0, 0), (32, .aload_n 0, 0, 0, 0, 0), (33, .getfield 10, 6, 0, 3, 0), (36, .getfield 56, 5, 0, 3, 0), (39, .getfield 60, 4, 3, 0, 0), (42, .ireturn, 0, 0, 0, 0)]
def bk78 : List Blk := [(0, l78_0, 6), (6, l78_6, 12), (12, l78_12, 25), (25, l78_25, 43)]
-- NoticeShifts.restore
def l79_0 : List Ent := [(0, .iload_n 1, 0, 0, 0, 0), (1, .iconst 0, 0, 0, 0, 0), (2, .iconst 1, 0, 0, 0, 0), (3, .invokestatic 66, 80, 3, 1, 0)]
def l79_6 : List Ent := [(6, .ifCond .ne 6, 12, 0, 0, 0), (9, .bipush (-2), 0, 0, 0, 0), (11, .ireturn, 0, 0, 0, 0)]
def l79_12 : List Ent := [(12, .aload_n 0, 0, 0, 0, 0), (13, .getfield 27, 6, 3, 391, 0), (16, .iload_n 1, 0, 0, 0, 0), (17, .baload, 0, 0, 0, 0), (18, .ifCond .ne 6, 24, 0, 0, 0), (21, .bipush (-5), 0, 0, 0, 0), (23, .ireturn, 0, 0, 0, 0)]
def l79_24 : List Ent := [(24, .aload_n 0, 0, 0, 0, 0), (25, .getfield 19, 6, 1, 58, 0), (28, .aload_n 0, 0, 0, 0, 0), (29, .getfield 10, 6, 0, 3, 0), (32, .invokevirtual 73, 14, 2, 0, 2)]
def l79_35 : List Ent := [(35, .aload_n 0, 0, 0, 0, 0), (36, .getfield 10, 6, 0, 3, 0), (39, .aload_n 0, 0, 0, 0, 0), (40, .getfield 23, 6, 2, 390, 0), (43, .iload_n 1, 0, 0, 0, 0), (44, .aaload, 105, 12, 55, 0), (45, .invokevirtual 261, 47, 2, 0, 5)]
def l79_48 : List Ent := [(48, .aload_n 0, 0, 0, 0, 0), (49, .getfield 10, 6, 0, 3, 0), (52, .getfield 56, 5, 0, 3, 0), (55, .getfield 60, 4, 3, 0, 0), (58, .ireturn, 0, 0, 0, 0)]
def bk79 : List Blk := [(0, l79_0, 6), (6, l79_6, 12), (12, l79_12, 24), (24, l79_24, 35), (35, l79_35, 48), (48, l79_48, 59)]
-- NoticeShifts.isWithin
def l80_0 : List Ent := [(0, .iload_n 0, 0, 0, 0, 0), (1, .iload_n 1, 0, 0, 0, 0), (2, .if_icmp .lt 12, 14, 0, 0, 0), (5, .iload_n 0, 0, 0, 0, 0), (6, .iload_n 2, 0, 0, 0, 0), (7, .if_icmp .gt 7, 14, 0, 0, 0), (10, .iconst 1, 0, 0, 0, 0), (11, .goto 4, 15, 0, 0, 0)]
def l80_14 : List Ent := [(14, .iconst 0, 0, 0, 0, 0)]
def l80_15 : List Ent := [(15, .ireturn, 1, 0, 0, 0)]
def bk80 : List Blk := [(0, l80_0, 14), (14, l80_14, 15), (15, l80_15, 16)]
-- NoticeShifts.asNumber
def l81_0 : List Ent := [(0, .iload_n 0, 0, 0, 0, 0), (1, .ifCond .eq 7, 8, 0, 0, 0), (4, .iconst 1, 0, 0, 0, 0), (5, .goto 4, 9, 0, 0, 0)]
def l81_8 : List Ent := [(8, .iconst 0, 0, 0, 0, 0)]
def l81_9 : List Ent := [(9, .ireturn, 0, 0, 0, 0)]
def bk81 : List Blk := [(0, l81_0, 8), (8, l81_8, 9), (9, l81_9, 10)]
-- NoticeShifts.takeRows
def l82_0 : List Ent := [(0, .iconst 0, 0, 0, 0, 0), (1, .istore_n 1, 0, 0, 0, 0), (2, .aload_n 0, 0, 0, 0, 0), (3, .getfield 10, 6, 0, 3, 0), (6, .getfield 121, 5, 1, 7, 0), (9, .iload_n 1, 0, 0, 0, 0), (10, .iconst 0, 0, 0, 0, 0), (11, .iastore, 0, 0, 0, 0), (12, .iconst 0, 0, 0, 0, 0), (13, .istore_n 2, 0, 0, 0, 0)]
def l82_14 : List Ent := [(14, .iload_n 2, 0, 0, 0, 0), (15, .aload_n 0, 0, 0, 0, 0), (16, .getfield 34, 6, 4, 392, 0), (19, .getfield 136, 3, 1, 0, 0), (22, .if_icmp .ge 60, 82, 0, 0, 0), (25, .aload_n 0, 0, 0, 0, 0), (26, .getfield 34, 6, 4, 392, 0), (29, .getfield 264, 3, 0, 3, 0), (32, .iload_n 2, 0, 0, 0, 0), (33, .caload, 0, 0, 0, 0), (34, .istore_n 3, 0, 0, 0, 0), (35, .iload_n 3, 0, 0, 0, 0), (36, .bipush 47, 0, 0, 0, 0), (38, .if_icmp .ne 19, 57, 0, 0, 0), (41, .iinc 1 1, 0, 0, 0, 0), (44, .aload_n 0, 0, 0, 0, 0), (45, .getfield 10, 6, 0, 3, 0), (48, .getfield 121, 5, 1, 7, 0), (51, .iload_n 1, 0, 0, 0, 0), (52, .iconst 0, 0, 0, 0, 0), (53, .iastore, 0, 0, 0, 0), (54, .goto 22, 76, 0, 0, 0)]
def l82_57 : List Ent := [(57, .iload_n 3, 0, 0, 0, 0), (58, .invokestatic 268, 17, 1, 1, 0)]
def l82_61 : List Ent := [(61, .ifCond .eq 15, 76, 0, 0, 0), (64, .aload_n 0, 0, 0, 0, 0), (65, .getfield 10, 6, 0, 3, 0), (68, .iload_n 1, 0, 0, 0, 0), (69, .iload_n 3, 0, 0, 0, 0), (70, .bipush 48, 0, 0, 0, 0), (72, .isub, 0, 0, 0, 0), (73, .invokevirtual 118, 40, 3, 0, 5)]
def l82_76 : List Ent := [(76, .iinc 2 1, 0, 0, 0, 0), (79, .goto (-65), 14, 0, 0, 0)]
def l82_82 : List Ent := [(82, .return_, 0, 0, 0, 0)]
def bk82 : List Blk := [(0, l82_0, 14), (14, l82_14, 57), (57, l82_57, 61), (61, l82_61, 76), (76, l82_76, 82), (82, l82_82, 83)]
-- NoticeShifts.hearingOf
def l83_0 : List Ent := [(0, .aload_n 0, 0, 0, 0, 0), (1, .getfield 10, 6, 0, 3, 0), (4, .getfield 148, 5, 7, 13, 0), (7, .iload_n 1, 0, 0, 0, 0), (8, .baload, 0, 0, 0, 0), (9, .ifCond .eq 13, 22, 0, 0, 0), (12, .aload_n 0, 0, 0, 0, 0), (13, .getfield 10, 6, 0, 3, 0), (16, .getfield 154, 5, 8, 14, 0), (19, .iload_n 1, 0, 0, 0, 0), (20, .aaload, 103, 1, 7, 0), (21, .areturn, 0, 0, 0, 0)]
def l83_22 : List Ent := [(22, .aload_n 0, 0, 0, 0, 0), (23, .iload_n 1, 0, 0, 0, 0), (24, .aload_n 0, 0, 0, 0, 0), (25, .getfield 48, 6, 6, 395, 0), (28, .invokevirtual 158, 84, 3, 0, 6)]
def l83_31 : List Ent := [(31, .aload_n 0, 0, 0, 0, 0), (32, .getfield 48, 6, 6, 395, 0), (35, .areturn, 0, 0, 0, 0)]
def bk83 : List Blk := [(0, l83_0, 22), (22, l83_22, 31), (31, l83_31, 36)]
-- NoticeShifts.hearNow
def l84_0 : List Ent := [(0, .aload_n 2, 0, 0, 0, 0), (1, .getfield 198, 1, 0, 3, 0), (4, .aload_n 0, 0, 0, 0, 0), (5, .getfield 10, 6, 0, 3, 0), (8, .getfield 56, 5, 0, 3, 0), (11, .invokevirtual 272, 32, 2, 0, 4)]
def l84_14 : List Ent := [(14, .aload_n 0, 0, 0, 0, 0), (15, .getfield 41, 6, 5, 394, 0), (18, .aload_n 0, 0, 0, 0, 0), (19, .getfield 10, 6, 0, 3, 0), (22, .getfield 142, 5, 5, 11, 0), (25, .iload_n 1, 0, 0, 0, 0), (26, .iaload, 0, 0, 0, 0), (27, .aload_n 0, 0, 0, 0, 0), (28, .getfield 10, 6, 0, 3, 0), (31, .getfield 145, 5, 6, 12, 0), (34, .iload_n 1, 0, 0, 0, 0), (35, .iaload, 0, 0, 0, 0), (36, .invokevirtual 275, 1, 3, 0, 0)]
def l84_39 : List Ent := [(39, .iconst 0, 0, 0, 0, 0), (40, .istore_n 3, 0, 0, 0, 0)]
def l84_41 : List Ent := [(41, .iload_n 3, 0, 0, 0, 0), (42, .aload_n 0, 0, 0, 0, 0), (43, .getfield 10, 6, 0, 3, 0), (46, .getfield 56, 5, 0, 3, 0), (49, .getfield 60, 4, 3, 0, 0), (52, .if_icmp .ge 58, 110, 0, 0, 0), (55, .aload_n 0, 0, 0, 0, 0), (56, .getfield 41, 6, 5, 394, 0), (59, .aload_n 0, 0, 0, 0, 0), (60, .getfield 10, 6, 0, 3, 0), (63, .iload_n 3, 0, 0, 0, 0), (64, .invokevirtual 278, 2, 3, 1, 0)]
def l84_67 : List Ent := [(67, .istore 4, 0, 0, 0, 0), (69, .aload_n 2, 0, 0, 0, 0), (70, .getfield 207, 1, 1, 7, 0), (73, .iload_n 3, 0, 0, 0, 0), (74, .iload 4, 0, 0, 0, 0), (76, .iastore, 0, 0, 0, 0), (77, .aload_n 2, 0, 0, 0, 0), (78, .getfield 282, 1, 2, 8, 0), (81, .iload_n 3, 0, 0, 0, 0), (82, .iload 4, 0, 0, 0, 0), (84, .bipush (-6), 0, 0, 0, 0), (86, .if_icmp .ne 7, 93, 0, 0, 0), (89, .iconst 0, 0, 0, 0, 0), (90, .goto 13, 103, 0, 0, 0)]
def l84_93 : List Ent := [(93, .aload_n 0, 0, 0, 0, 0), (94, .getfield 10, 6, 0, 3, 0), (97, .getfield 106, 5, 3, 9, 0), (100, .iload 4, 0, 0, 0, 0), (102, .iaload, 0, 0, 0, 0)]
def l84_103 : List Ent := [(103, .iastore, 0, 0, 0, 0), (104, .iinc 3 1, 0, 0, 0, 0), (107, .goto (-66), 41, 0, 0, 0)]
def l84_110 : List Ent := [(110, .return_, 0, 0, 0, 0)]
def bk84 : List Blk := [(0, l84_0, 14), (14, l84_14, 39), (39, l84_39, 41), (41, l84_41, 67), (67, l84_67, 93), (93, l84_93, 103), (103, l84_103, 110), (110, l84_110, 111)]
-- NoticeShifts.isOutOfDate
def l85_0 : List Ent := [(0, .aload_n 0, 0, 0, 0, 0), (1, .getfield 10, 6, 0, 3, 0), (4, .getfield 148, 5, 7, 13, 0), (7, .iload_n 1, 0, 0, 0, 0), (8, .baload, 0, 0, 0, 0), (9, .ifCond .ne 5, 14, 0, 0, 0), (12, .iconst 0, 0, 0, 0, 0), (13, .ireturn, 1, 0, 0, 0)]
def l85_14 : List Ent := [(14, .aload_n 0, 0, 0, 0, 0), (15, .iload_n 1, 0, 0, 0, 0), (16, .aload_n 0, 0, 0, 0, 0), (17, .getfield 48, 6, 6, 395, 0), (20, .invokevirtual 158, 84, 3, 0, 6)]
def l85_23 : List Ent := [(23, .aload_n 0, 0, 0, 0, 0), (24, .getfield 48, 6, 6, 395, 0), (27, .aload_n 0, 0, 0, 0, 0), (28, .getfield 10, 6, 0, 3, 0), (31, .getfield 154, 5, 8, 14, 0), (34, .iload_n 1, 0, 0, 0, 0), (35, .aaload, 103, 1, 7, 0), (36, .invokevirtual 283, 12, 2, 1, 1)]
def l85_39 : List Ent := [(39, .ifCond .ne 7, 46, 0, 0, 0), (42, .iconst 1, 0, 0, 0, 0), (43, .goto 4, 47, 0, 0, 0)]
def l85_46 : List Ent := [(46, .iconst 0, 0, 0, 0, 0)]
def l85_47 : List Ent := [(47, .ireturn, 1, 0, 0, 0)]
def bk85 : List Blk := [(0, l85_0, 14), (14, l85_14, 23), (23, l85_23, 39), (39, l85_39, 46), (46, l85_46, 47), (47, l85_47, 48)]
-- NoticeShifts.outOfDateListeners
def l86_0 : List Ent := [(0, .iconst 0, 0, 0, 0, 0), (1, .istore_n 1, 0, 0, 0, 0), (2, .iconst 0, 0, 0, 0, 0), (3, .istore_n 2, 0, 0, 0, 0)]
def l86_4 : List Ent := [(4, .iload_n 2, 0, 0, 0, 0), (5, .aload_n 0, 0, 0, 0, 0), (6, .getfield 10, 6, 0, 3, 0), (9, .getfield 139, 5, 11, 0, 0), (12, .if_icmp .ge 23, 35, 0, 0, 0), (15, .aload_n 0, 0, 0, 0, 0), (16, .iload_n 2, 0, 0, 0, 0), (17, .invokevirtual 189, 85, 2, 1, 6)]
def l86_20 : List Ent := [(20, .ifCond .eq 9, 29, 0, 0, 0), (23, .iload_n 1, 0, 0, 0, 0), (24, .iconst 1, 0, 0, 0, 0), (25, .iload_n 2, 0, 0, 0, 0), (26, .ishl, 0, 0, 0, 0), (27, .ior, 0, 0, 0, 0), (28, .istore_n 1, 0, 0, 0, 0)]
def l86_29 : List Ent := [(29, .iinc 2 1, 0, 0, 0, 0), (32, .goto (-28), 4, 0, 0, 0)]
def l86_35 : List Ent := [(35, .iload_n 1, 0, 0, 0, 0), (36, .ireturn, 0, 0, 0, 0)]
def bk86 : List Blk := [(0, l86_0, 4), (4, l86_4, 20), (20, l86_20, 29), (29, l86_29, 35), (35, l86_35, 37)]
-- NoticeShifts.longestListener
def l87_0 : List Ent := [(0, .bipush (-6), 0, 0, 0, 0), (2, .istore_n 1, 0, 0, 0, 0), (3, .bipush (-6), 0, 0, 0, 0), (5, .istore_n 2, 0, 0, 0, 0), (6, .iconst 0, 0, 0, 0, 0), (7, .istore_n 3, 0, 0, 0, 0)]
def l87_8 : List Ent := [(8, .iload_n 3, 0, 0, 0, 0), (9, .aload_n 0, 0, 0, 0, 0), (10, .getfield 10, 6, 0, 3, 0), (13, .getfield 139, 5, 11, 0, 0), (16, .if_icmp .ge 30, 46, 0, 0, 0), (19, .aload_n 0, 0, 0, 0, 0), (20, .iload_n 3, 0, 0, 0, 0), (21, .invokevirtual 162, 83, 2, 2, 6)]
def l87_24 : List Ent := [(24, .invokevirtual 166, 7, 1, 1, 1)]
def l87_27 : List Ent := [(27, .istore 4, 0, 0, 0, 0), (29, .iload 4, 0, 0, 0, 0), (31, .iload_n 2, 0, 0, 0, 0), (32, .if_icmp .le 8, 40, 0, 0, 0), (35, .iload_n 3, 0, 0, 0, 0), (36, .istore_n 1, 0, 0, 0, 0), (37, .iload 4, 0, 0, 0, 0), (39, .istore_n 2, 0, 0, 0, 0)]
def l87_40 : List Ent := [(40, .iinc 3 1, 0, 0, 0, 0), (43, .goto (-35), 8, 0, 0, 0)]
def l87_46 : List Ent := [(46, .iload_n 1, 0, 0, 0, 0), (47, .ireturn, 0, 0, 0, 0)]
def bk87 : List Blk := [(0, l87_0, 8), (8, l87_8, 24), (24, l87_24, 27), (27, l87_27, 40), (40, l87_40, 46), (46, l87_46, 48)]
-- NoticeShifts.momentNow
def l88_0 : List Ent := [(0, .aload_n 0, 0, 0, 0, 0), (1, .iload_n 1, 0, 0, 0, 0), (2, .invokevirtual 162, 83, 2, 2, 6)]
def l88_5 : List Ent := [(5, .astore_n 3, 0, 0, 0, 0), (6, .aload_n 3, 0, 0, 0, 0), (7, .iload_n 2, 0, 0, 0, 0), (8, .invokevirtual 215, 10, 2, 1, 1)]
def l88_11 : List Ent := [(11, .istore 4, 0, 0, 0, 0), (13, .iload 4, 0, 0, 0, 0), (15, .bipush (-6), 0, 0, 0, 0), (17, .if_icmp .ne 6, 23, 0, 0, 0), (20, .bipush (-5), 0, 0, 0, 0), (22, .ireturn, 0, 0, 0, 0)]
def l88_23 : List Ent := [(23, .aload_n 0, 0, 0, 0, 0), (24, .getfield 10, 6, 0, 3, 0), (27, .getfield 56, 5, 0, 3, 0), (30, .aload_n 3, 0, 0, 0, 0), (31, .getfield 198, 1, 0, 3, 0), (34, .getfield 77, 4, 0, 3, 0), (37, .iload 4, 0, 0, 0, 0), (39, .iaload, 0, 0, 0, 0), (40, .invokevirtual 176, 28, 2, 1, 4)]
def l88_43 : List Ent := [(43, .istore 5, 0, 0, 0, 0), (45, .iload 5, 0, 0, 0, 0), (47, .iconst (-1), 0, 0, 0, 0), (48, .if_icmp .ne 6, 54, 0, 0, 0), (51, .bipush (-5), 0, 0, 0, 0), (53, .ireturn, 0, 0, 0, 0)]
def l88_54 : List Ent := [(54, .aload_n 0, 0, 0, 0, 0), (55, .getfield 10, 6, 0, 3, 0), (58, .getfield 56, 5, 0, 3, 0), (61, .iload 5, 0, 0, 0, 0), (63, .invokevirtual 169, 25, 2, 1, 4)]
def l88_66 : List Ent := [(66, .iconst 0, 0, 0, 0, 0), (67, .iload_n 2, 0, 0, 0, 0), (68, .aload_n 3, 0, 0, 0, 0), (69, .iload 4, 0, 0, 0, 0), (71, .invokevirtual 212, 6, 2, 1, 1)]
def l88_74 : List Ent := [(74, .isub, 0, 0, 0, 0), (75, .invokestatic 287, 0, 0, 11, 0), (78, .iadd, 0, 0, 0, 0), (79, .ireturn, 0, 0, 0, 0)]
def bk88 : List Blk := [(0, l88_0, 5), (5, l88_5, 11), (11, l88_11, 23), (23, l88_23, 43), (43, l88_43, 54), (54, l88_54, 66), (66, l88_66, 74), (74, l88_74, 80)]
-- NoticeShifts.chooseAll
def l89_0 : List Ent := [(0, .aload_n 0, 0, 0, 0, 0), (1, .getfield 41, 6, 5, 394, 0), (4, .aload_n 0, 0, 0, 0, 0), (5, .getfield 10, 6, 0, 3, 0), (8, .getfield 142, 5, 5, 11, 0), (11, .iload_n 1, 0, 0, 0, 0), (12, .iaload, 0, 0, 0, 0), (13, .iload_n 2, 0, 0, 0, 0), (14, .invokevirtual 275, 1, 3, 0, 0)]
def l89_17 : List Ent := [(17, .iconst 0, 0, 0, 0, 0), (18, .istore_n 3, 0, 0, 0, 0)]
def l89_19 : List Ent := [(19, .iload_n 3, 0, 0, 0, 0), (20, .aload_n 0, 0, 0, 0, 0), (21, .getfield 10, 6, 0, 3, 0), (24, .getfield 56, 5, 0, 3, 0), (27, .getfield 60, 4, 3, 0, 0), (30, .if_icmp .ge 22, 52, 0, 0, 0), (33, .aload_n 0, 0, 0, 0, 0), (34, .getfield 41, 6, 5, 394, 0), (37, .aload_n 0, 0, 0, 0, 0), (38, .getfield 10, 6, 0, 3, 0), (41, .iload_n 3, 0, 0, 0, 0), (42, .invokevirtual 278, 2, 3, 1, 0)]
def l89_45 : List Ent := [(45, .pop, 0, 0, 0, 0), (46, .iinc 3 1, 0, 0, 0, 0), (49, .goto (-30), 19, 0, 0, 0)]
def l89_52 : List Ent := [(52, .return_, 0, 0, 0, 0)]
def bk89 : List Blk := [(0, l89_0, 17), (17, l89_17, 19), (19, l89_19, 45), (45, l89_45, 52), (52, l89_52, 53)]
-- NoticeShifts.secondsOfAll
def l90_0 : List Ent := [(0, .iconst 0, 0, 0, 0, 0), (1, .istore_n 1, 0, 0, 0, 0), (2, .iconst 0, 0, 0, 0, 0), (3, .istore_n 2, 0, 0, 0, 0)]
def l90_4 : List Ent := [(4, .iload_n 2, 0, 0, 0, 0), (5, .aload_n 0, 0, 0, 0, 0), (6, .getfield 10, 6, 0, 3, 0), (9, .getfield 139, 5, 11, 0, 0), (12, .if_icmp .ge 33, 45, 0, 0, 0), (15, .aload_n 0, 0, 0, 0, 0), (16, .iload_n 2, 0, 0, 0, 0), (17, .aload_n 0, 0, 0, 0, 0), (18, .getfield 10, 6, 0, 3, 0), (21, .getfield 145, 5, 6, 12, 0), (24, .iload_n 2, 0, 0, 0, 0), (25, .iaload, 0, 0, 0, 0), (26, .invokevirtual 241, 89, 3, 0, 6)]
def l90_29 : List Ent := [(29, .iload_n 1, 0, 0, 0, 0), (30, .aload_n 0, 0, 0, 0, 0), (31, .getfield 41, 6, 5, 394, 0), (34, .getfield 290, 0, 4, 0, 0), (37, .iadd, 0, 0, 0, 0), (38, .istore_n 1, 0, 0, 0, 0), (39, .iinc 2 1, 0, 0, 0, 0), (42, .goto (-38), 4, 0, 0, 0)]
def l90_45 : List Ent := [(45, .iload_n 1, 0, 0, 0, 0), (46, .ireturn, 0, 0, 0, 0)]
def bk90 : List Blk := [(0, l90_0, 4), (4, l90_4, 29), (29, l90_29, 45), (45, l90_45, 47)]
-- NoticeShifts.countHearers
def l91_0 : List Ent := [(0, .iconst 0, 0, 0, 0, 0), (1, .istore_n 2, 0, 0, 0, 0), (2, .iconst 0, 0, 0, 0, 0), (3, .istore_n 3, 0, 0, 0, 0)]
def l91_4 : List Ent := [(4, .iload_n 3, 0, 0, 0, 0), (5, .aload_n 0, 0, 0, 0, 0), (6, .getfield 10, 6, 0, 3, 0), (9, .getfield 139, 5, 11, 0, 0), (12, .if_icmp .ge 37, 49, 0, 0, 0), (15, .aload_n 0, 0, 0, 0, 0), (16, .iload_n 3, 0, 0, 0, 0), (17, .aload_n 0, 0, 0, 0, 0), (18, .getfield 10, 6, 0, 3, 0), (21, .getfield 145, 5, 6, 12, 0), (24, .iload_n 3, 0, 0, 0, 0), (25, .iaload, 0, 0, 0, 0), (26, .invokevirtual 241, 89, 3, 0, 6)]
def l91_29 : List Ent := [(29, .iload_n 2, 0, 0, 0, 0), (30, .aload_n 0, 0, 0, 0, 0), (31, .getfield 41, 6, 5, 394, 0), (34, .getfield 293, 0, 3, 0, 0), (37, .iload_n 1, 0, 0, 0, 0), (38, .ishr, 0, 0, 0, 0), (39, .iconst 1, 0, 0, 0, 0), (40, .iand, 0, 0, 0, 0), (41, .iadd, 0, 0, 0, 0), (42, .istore_n 2, 0, 0, 0, 0), (43, .iinc 3 1, 0, 0, 0, 0), (46, .goto (-42), 4, 0, 0, 0)]
def l91_49 : List Ent := [(49, .iload_n 2, 0, 0, 0, 0), (50, .ireturn, 0, 0, 0, 0)]
def bk91 : List Blk := [(0, l91_0, 4), (4, l91_4, 29), (29, l91_29, 49), (49, l91_49, 51)]
-- NoticeShifts.hearersIfBooked
def l92_0 : List Ent := [(0, .aload_n 0, 0, 0, 0, 0), (1, .getfield 10, 6, 0, 3, 0), (4, .iload_n 1, 0, 0, 0, 0), (5, .invokevirtual 115, 38, 2, 1, 5)]
def l92_8 : List Ent := [(8, .ifCond .eq 6, 14, 0, 0, 0), (11, .bipush (-6), 0, 0, 0, 0), (13, .ireturn, 0, 0, 0, 0)]
def l92_14 : List Ent := [(14, .aload_n 0, 0, 0, 0, 0), (15, .getfield 10, 6, 0, 3, 0), (18, .iload_n 1, 0, 0, 0, 0), (19, .iload_n 2, 0, 0, 0, 0), (20, .invokevirtual 118, 40, 3, 0, 5)]
def l92_23 : List Ent := [(23, .aload_n 0, 0, 0, 0, 0), (24, .iload_n 2, 0, 0, 0, 0), (25, .invokevirtual 186, 91, 2, 1, 6)]
def l92_28 : List Ent := [(28, .istore_n 3, 0, 0, 0, 0), (29, .aload_n 0, 0, 0, 0, 0), (30, .getfield 10, 6, 0, 3, 0), (33, .iload_n 1, 0, 0, 0, 0), (34, .invokevirtual 235, 41, 2, 0, 5)]
def l92_37 : List Ent := [(37, .iload_n 3, 0, 0, 0, 0), (38, .ireturn, 0, 0, 0, 0)]
def bk92 : List Blk := [(0, l92_0, 8), (8, l92_8, 14), (14, l92_14, 23), (23, l92_23, 28), (28, l92_28, 37), (37, l92_37, 39)]
-- NoticeShiftsModel.in
def l94_0 : List Ent := [(0, .iload_n 0, 0, 0, 0, 0), (1, .iload_n 1, 0, 0, 0, 0), (2, .if_icmp .lt 12, 14, 0, 0, 0), (5, .iload_n 0, 0, 0, 0, 0), (6, .iload_n 2, 0, 0, 0, 0), (7, .if_icmp .gt 7, 14, 0, 0, 0), (10, .iconst 1, 0, 0, 0, 0), (11, .goto 4, 15, 0, 0, 0)]
def l94_14 : List Ent := [(14, .iconst 0, 0, 0, 0, 0)]
def l94_15 : List Ent := [(15, .ireturn, 1, 0, 0, 0)]
def bk94 : List Blk := [(0, l94_0, 14), (14, l94_14, 15), (15, l94_15, 16)]
-- NoticeShiftsModel.isSentence
def l95_0 : List Ent := [(0, .iload_n 1, 0, 0, 0, 0), (1, .ifCond .lt 17, 18, 0, 0, 0), (4, .iload_n 1, 0, 0, 0, 0), (5, .aload_n 0, 0, 0, 0, 0), (6, .getfield 7, 7, 0, 3, 0), (9, .iconst 0, 0, 0, 0, 0), (10, .iaload, 0, 0, 0, 0), (11, .if_icmp .ge 7, 18, 0, 0, 0), (14, .iconst 1, 0, 0, 0, 0), (15, .goto 4, 19, 0, 0, 0)]
def l95_18 : List Ent := [(18, .iconst 0, 0, 0, 0, 0)]
def l95_19 : List Ent := [(19, .ireturn, 1, 0, 0, 0)]
def bk95 : List Blk := [(0, l95_0, 18), (18, l95_18, 19), (19, l95_19, 20)]
-- NoticeShiftsModel.isNotice
def l96_0 : List Ent := [(0, .iload_n 1, 0, 0, 0, 0), (1, .ifCond .lt 17, 18, 0, 0, 0), (4, .iload_n 1, 0, 0, 0, 0), (5, .aload_n 0, 0, 0, 0, 0), (6, .getfield 7, 7, 0, 3, 0), (9, .iconst 2, 0, 0, 0, 0), (10, .iaload, 0, 0, 0, 0), (11, .if_icmp .ge 7, 18, 0, 0, 0), (14, .iconst 1, 0, 0, 0, 0), (15, .goto 4, 19, 0, 0, 0)]
def l96_18 : List Ent := [(18, .iconst 0, 0, 0, 0, 0)]
def l96_19 : List Ent := [(19, .ireturn, 1, 0, 0, 0)]
def bk96 : List Blk := [(0, l96_0, 18), (18, l96_18, 19), (19, l96_19, 20)]
-- NoticeShiftsModel.isListener
def l97_0 : List Ent := [(0, .iload_n 1, 0, 0, 0, 0), (1, .ifCond .lt 17, 18, 0, 0, 0), (4, .iload_n 1, 0, 0, 0, 0), (5, .aload_n 0, 0, 0, 0, 0), (6, .getfield 7, 7, 0, 3, 0), (9, .iconst 3, 0, 0, 0, 0), (10, .iaload, 0, 0, 0, 0), (11, .if_icmp .ge 7, 18, 0, 0, 0), (14, .iconst 1, 0, 0, 0, 0), (15, .goto 4, 19, 0, 0, 0)]
def l97_18 : List Ent := [(18, .iconst 0, 0, 0, 0, 0)]
def l97_19 : List Ent := [(19, .ireturn, 1, 0, 0, 0)]
def bk97 : List Blk := [(0, l97_0, 18), (18, l97_18, 19), (19, l97_19, 20)]
-- NoticeShiftsModel.its
def l98_0 : List Ent := [(0, .aload_n 0, 0, 0, 0, 0), (1, .getfield 7, 7, 0, 3, 0), (4, .iconst 4, 0, 0, 0, 0), (5, .iconst 3, 0, 0, 0, 0), (6, .iload_n 1, 0, 0, 0, 0), (7, .imul, 0, 0, 0, 0), (8, .iadd, 0, 0, 0, 0), (9, .iload_n 2, 0, 0, 0, 0), (10, .iadd, 0, 0, 0, 0), (11, .iaload, 0, 0, 0, 0), (12, .ireturn, 0, 0, 0, 0)]
def bk98 : List Blk := [(0, l98_0, 13)]
-- NoticeShiftsModel.inBreak
def l99_0 : List Ent := [(0, .aload_n 0, 0, 0, 0, 0), (1, .getfield 7, 7, 0, 3, 0), (4, .bipush 76, 0, 0, 0, 0), (6, .iconst 5, 0, 0, 0, 0), (7, .iload_n 1, 0, 0, 0, 0), (8, .imul, 0, 0, 0, 0), (9, .iadd, 0, 0, 0, 0), (10, .iaload, 0, 0, 0, 0), (11, .ireturn, 0, 0, 0, 0)]
def bk99 : List Blk := [(0, l99_0, 12)]
-- NoticeShiftsModel.inRow
def l100_0 : List Ent := [(0, .aload_n 0, 0, 0, 0, 0), (1, .getfield 7, 7, 0, 3, 0), (4, .bipush 76, 0, 0, 0, 0), (6, .iconst 5, 0, 0, 0, 0), (7, .iload_n 1, 0, 0, 0, 0), (8, .imul, 0, 0, 0, 0), (9, .iadd, 0, 0, 0, 0), (10, .iconst 1, 0, 0, 0, 0), (11, .iadd, 0, 0, 0, 0), (12, .iload_n 2, 0, 0, 0, 0), (13, .iadd, 0, 0, 0, 0), (14, .iaload, 0, 0, 0, 0), (15, .ireturn, 0, 0, 0, 0)]
def bk100 : List Blk := [(0, l100_0, 16)]
-- NoticeShiftsModel.lengthOf
def l101_0 : List Ent := [(0, .aload_n 0, 0, 0, 0, 0), (1, .getfield 7, 7, 0, 3, 0), (4, .sipush 196, 0, 0, 0, 0), (7, .iconst 2, 0, 0, 0, 0), (8, .iload_n 1, 0, 0, 0, 0), (9, .imul, 0, 0, 0, 0), (10, .iadd, 0, 0, 0, 0), (11, .iaload, 0, 0, 0, 0), (12, .ireturn, 0, 0, 0, 0)]
def bk101 : List Blk := [(0, l101_0, 13)]
-- NoticeShiftsModel.groupsOf
def l102_0 : List Ent := [(0, .aload_n 0, 0, 0, 0, 0), (1, .getfield 7, 7, 0, 3, 0), (4, .sipush 196, 0, 0, 0, 0), (7, .iconst 2, 0, 0, 0, 0), (8, .iload_n 1, 0, 0, 0, 0), (9, .imul, 0, 0, 0, 0), (10, .iadd, 0, 0, 0, 0), (11, .iconst 1, 0, 0, 0, 0), (12, .iadd, 0, 0, 0, 0), (13, .iaload, 0, 0, 0, 0), (14, .ireturn, 0, 0, 0, 0)]
def bk102 : List Blk := [(0, l102_0, 15)]
-- NoticeShiftsModel.groupOf
def l103_0 : List Ent := [(0, .aload_n 0, 0, 0, 0, 0), (1, .getfield 7, 7, 0, 3, 0), (4, .sipush 212, 0, 0, 0, 0), (7, .iconst 3, 0, 0, 0, 0), (8, .iload_n 1, 0, 0, 0, 0), (9, .imul, 0, 0, 0, 0), (10, .iadd, 0, 0, 0, 0), (11, .iaload, 0, 0, 0, 0), (12, .ireturn, 0, 0, 0, 0)]
def bk103 : List Blk := [(0, l103_0, 13)]
-- NoticeShiftsModel.boundOf
def l104_0 : List Ent := [(0, .aload_n 0, 0, 0, 0, 0), (1, .getfield 7, 7, 0, 3, 0), (4, .sipush 212, 0, 0, 0, 0), (7, .iconst 3, 0, 0, 0, 0), (8, .iload_n 1, 0, 0, 0, 0), (9, .imul, 0, 0, 0, 0), (10, .iadd, 0, 0, 0, 0), (11, .iconst 1, 0, 0, 0, 0), (12, .iadd, 0, 0, 0, 0), (13, .iaload, 0, 0, 0, 0), (14, .ireturn, 0, 0, 0, 0)]
def bk104 : List Blk := [(0, l104_0, 15)]
-- NoticeShiftsModel.hasFile
def l105_0 : List Ent := [(0, .aload_n 0, 0, 0, 0, 0), (1, .getfield 7, 7, 0, 3, 0), (4, .sipush 212, 0, 0, 0, 0), (7, .iconst 3, 0, 0, 0, 0), (8, .iload_n 1, 0, 0, 0, 0), (9, .imul, 0, 0, 0, 0), (10, .iadd, 0, 0, 0, 0), (11, .iconst 2, 0, 0, 0, 0), (12, .iadd, 0, 0, 0, 0), (13, .iaload, 0, 0, 0, 0), (14, .iconst 1, 0, 0, 0, 0), (15, .if_icmp .ne 7, 22, 0, 0, 0), (18, .iconst 1, 0, 0, 0, 0), (19, .goto 4, 23, 0, 0, 0)]
def l105_22 : List Ent := [(22, .iconst 0, 0, 0, 0, 0)]
def l105_23 : List Ent := [(23, .ireturn, 1, 0, 0, 0)]
def bk105 : List Blk := [(0, l105_0, 22), (22, l105_22, 23), (23, l105_23, 24)]
-- NoticeShiftsModel.record
def l106_0 : List Ent := [(0, .aload_n 0, 0, 0, 0, 0), (1, .getfield 33, 7, 4, 0, 0), (4, .bipush 6, 0, 0, 0, 0), (6, .if_icmp .ne 44, 50, 0, 0, 0), (9, .iconst 0, 0, 0, 0, 0), (10, .istore_n 1, 0, 0, 0, 0)]
def l106_11 : List Ent := [(11, .iload_n 1, 0, 0, 0, 0), (12, .sipush 4780, 0, 0, 0, 0), (15, .if_icmp .ge 25, 40, 0, 0, 0), (18, .aload_n 0, 0, 0, 0, 0), (19, .getfield 13, 7, 1, 4, 0), (22, .iload_n 1, 0, 0, 0, 0), (23, .aload_n 0, 0, 0, 0, 0), (24, .getfield 13, 7, 1, 4, 0), (27, .iload_n 1, 0, 0, 0, 0), (28, .sipush 956, 0, 0, 0, 0), (31, .iadd, 0, 0, 0, 0), (32, .iaload, 0, 0, 0, 0), (33, .iastore, 0, 0, 0, 0), (34, .iinc 1 1, 0, 0, 0, 0), (37, .goto (-26), 11, 0, 0, 0)]
def l106_40 : List Ent := [(40, .aload_n 0, 0, 0, 0, 0), (41, .dup, 0, 0, 0, 0), (42, .getfield 33, 7, 4, 0, 0), (45, .iconst 1, 0, 0, 0, 0), (46, .isub, 0, 0, 0, 0), (47, .putfield 33, 7, 4, 0, 0)]
def l106_50 : List Ent := [(50, .iconst 0, 0, 0, 0, 0), (51, .istore_n 1, 0, 0, 0, 0)]
def l106_52 : List Ent := [(52, .iload_n 1, 0, 0, 0, 0), (53, .sipush 956, 0, 0, 0, 0), (56, .if_icmp .ge 30, 86, 0, 0, 0), (59, .aload_n 0, 0, 0, 0, 0), (60, .getfield 13, 7, 1, 4, 0), (63, .aload_n 0, 0, 0, 0, 0), (64, .getfield 33, 7, 4, 0, 0), (67, .sipush 956, 0, 0, 0, 0), (70, .imul, 0, 0, 0, 0), (71, .iload_n 1, 0, 0, 0, 0), (72, .iadd, 0, 0, 0, 0), (73, .aload_n 0, 0, 0, 0, 0), (74, .getfield 7, 7, 0, 3, 0), (77, .iload_n 1, 0, 0, 0, 0), (78, .iaload, 0, 0, 0, 0), (79, .iastore, 0, 0, 0, 0), (80, .iinc 1 1, 0, 0, 0, 0), (83, .goto (-31), 52, 0, 0, 0)]
def l106_86 : List Ent := [(86, .aload_n 0, 0, 0, 0, 0), (87, .dup, 0, 0, 0, 0), (88, .getfield 33, 7, 4, 0, 0), (91, .iconst 1, 0, 0, 0, 0), (92, .iadd, 0, 0, 0, 0), (93, .putfield 33, 7, 4, 0, 0), (96, .return_, 0, 0, 0, 0)]
def bk106 : List Blk := [(0, l106_0, 11), (11, l106_11, 40), (40, l106_40, 50), (50, l106_50, 52), (52, l106_52, 86), (86, l106_86, 97)]
-- NoticeShiftsModel.undo
def l107_0 : List Ent := [(0, .aload_n 0, 0, 0, 0, 0), (1, .getfield 33, 7, 4, 0, 0), (4, .ifCond .ne 6, 10, 0, 0, 0), (7, .bipush (-5), 0, 0, 0, 0), (9, .ireturn, 0, 0, 0, 0)]
def l107_10 : List Ent := [(10, .aload_n 0, 0, 0, 0, 0), (11, .dup, 0, 0, 0, 0), (12, .getfield 33, 7, 4, 0, 0), (15, .iconst 1, 0, 0, 0, 0), (16, .isub, 0, 0, 0, 0), (17, .putfield 33, 7, 4, 0, 0), (20, .iconst 0, 0, 0, 0, 0), (21, .istore_n 1, 0, 0, 0, 0)]
def l107_22 : List Ent := [(22, .iload_n 1, 0, 0, 0, 0), (23, .sipush 956, 0, 0, 0, 0), (26, .if_icmp .ge 30, 56, 0, 0, 0), (29, .aload_n 0, 0, 0, 0, 0), (30, .getfield 7, 7, 0, 3, 0), (33, .iload_n 1, 0, 0, 0, 0), (34, .aload_n 0, 0, 0, 0, 0), (35, .getfield 13, 7, 1, 4, 0), (38, .aload_n 0, 0, 0, 0, 0), (39, .getfield 33, 7, 4, 0, 0), (42, .sipush 956, 0, 0, 0, 0), (45, .imul, 0, 0, 0, 0), (46, .iload_n 1, 0, 0, 0, 0), (47, .iadd, 0, 0, 0, 0), (48, .iaload, 0, 0, 0, 0), (49, .iastore, 0, 0, 0, 0), (50, .iinc 1 1, 0, 0, 0, 0), (53, .goto (-31), 22, 0, 0, 0)]
def l107_56 : List Ent := [(56, .aload_n 0, 0, 0, 0, 0), (57, .getfield 33, 7, 4, 0, 0), (60, .ireturn, 0, 0, 0, 0)]
def bk107 : List Blk := [(0, l107_0, 10), (10, l107_10, 22), (22, l107_22, 56), (56, l107_56, 61)]
-- NoticeShiftsModel.save
def l108_0 : List Ent := [(0, .iload_n 1, 0, 0, 0, 0), (1, .iconst 0, 0, 0, 0, 0), (2, .iconst 1, 0, 0, 0, 0), (3, .invokestatic 37, 94, 3, 1, 0)]
def l108_6 : List Ent := [(6, .ifCond .ne 6, 12, 0, 0, 0), (9, .bipush (-2), 0, 0, 0, 0), (11, .ireturn, 0, 0, 0, 0)]
def l108_12 : List Ent := [(12, .aload_n 0, 0, 0, 0, 0), (13, .getfield 19, 7, 3, 6, 0), (16, .iload_n 1, 0, 0, 0, 0), (17, .iconst 1, 0, 0, 0, 0), (18, .bastore, 0, 0, 0, 0), (19, .iconst 0, 0, 0, 0, 0), (20, .istore_n 2, 0, 0, 0, 0)]
def l108_21 : List Ent := [(21, .iload_n 2, 0, 0, 0, 0), (22, .sipush 956, 0, 0, 0, 0), (25, .if_icmp .ge 27, 52, 0, 0, 0), (28, .aload_n 0, 0, 0, 0, 0), (29, .getfield 16, 7, 2, 5, 0), (32, .iload_n 1, 0, 0, 0, 0), (33, .sipush 956, 0, 0, 0, 0), (36, .imul, 0, 0, 0, 0), (37, .iload_n 2, 0, 0, 0, 0), (38, .iadd, 0, 0, 0, 0), (39, .aload_n 0, 0, 0, 0, 0), (40, .getfield 7, 7, 0, 3, 0), (43, .iload_n 2, 0, 0, 0, 0), (44, .iaload, 0, 0, 0, 0), (45, .iastore, 0, 0, 0, 0), (46, .iinc 2 1, 0, 0, 0, 0), (49, .goto (-28), 21, 0, 0, 0)]
def l108_52 : List Ent := [(52, .aload_n 0, 0, 0, 0, 0), (53, .getfield 7, 7, 0, 3, 0), (56, .iconst 0, 0, 0, 0, 0), (57, .iaload, 0, 0, 0, 0), (58, .ireturn, 0, 0, 0, 0)]
def bk108 : List Blk := [(0, l108_0, 6), (6, l108_6, 12), (12, l108_12, 21), (21, l108_21, 52), (52, l108_52, 59)]
-- NoticeShiftsModel.restore
def l109_0 : List Ent := [(0, .iload_n 1, 0, 0, 0, 0), (1, .iconst 0, 0, 0, 0, 0), (2, .iconst 1, 0, 0, 0, 0), (3, .invokestatic 37, 94, 3, 1, 0)]
def l109_6 : List Ent := [(6, .ifCond .ne 6, 12, 0, 0, 0), (9, .bipush (-2), 0, 0, 0, 0), (11, .ireturn, 0, 0, 0, 0)]
def l109_12 : List Ent := [(12, .aload_n 0, 0, 0, 0, 0), (13, .getfield 19, 7, 3, 6, 0), (16, .iload_n 1, 0, 0, 0, 0), (17, .baload, 0, 0, 0, 0), (18, .ifCond .ne 6, 24, 0, 0, 0), (21, .bipush (-5), 0, 0, 0, 0), (23, .ireturn, 0, 0, 0, 0)]
def l109_24 : List Ent := [(24, .aload_n 0, 0, 0, 0, 0), (25, .invokevirtual 41, 106, 1, 0, 7)]
def l109_28 : List Ent := [(28, .iconst 0, 0, 0, 0, 0), (29, .istore_n 2, 0, 0, 0, 0)]
def l109_30 : List Ent := [(30, .iload_n 2, 0, 0, 0, 0), (31, .sipush 956, 0, 0, 0, 0), (34, .if_icmp .ge 27, 61, 0, 0, 0), (37, .aload_n 0, 0, 0, 0, 0), (38, .getfield 7, 7, 0, 3, 0), (41, .iload_n 2, 0, 0, 0, 0), (42, .aload_n 0, 0, 0, 0, 0), (43, .getfield 16, 7, 2, 5, 0), (46, .iload_n 1, 0, 0, 0, 0), (47, .sipush 956, 0, 0, 0, 0), (50, .imul, 0, 0, 0, 0), (51, .iload_n 2, 0, 0, 0, 0), (52, .iadd, 0, 0, 0, 0), (53, .iaload, 0, 0, 0, 0), (54, .iastore, 0, 0, 0, 0), (55, .iinc 2 1, 0, 0, 0, 0), (58, .goto (-28), 30, 0, 0, 0)]
def l109_61 : List Ent := [(61, .aload_n 0, 0, 0, 0, 0), (62, .getfield 7, 7, 0, 3, 0), (65, .iconst 0, 0, 0, 0, 0), (66, .iaload, 0, 0, 0, 0), (67, .ireturn, 0, 0, 0, 0)]
def bk109 : List Blk := [(0, l109_0, 6), (6, l109_6, 12), (12, l109_12, 24), (24, l109_24, 28), (28, l109_28, 30), (30, l109_30, 61), (61, l109_61, 68)]
-- NoticeShiftsModel.layWith
def l110_0 : List Ent := [(0, .iconst 0, 0, 0, 0, 0), (1, .istore_n 3, 0, 0, 0, 0), (2, .iconst 0, 0, 0, 0, 0), (3, .istore 4, 0, 0, 0, 0), (5, .aload_n 0, 0, 0, 0, 0), (6, .getfield 27, 7, 7, 8, 0), (9, .iconst 0, 0, 0, 0, 0), (10, .aload_n 0, 0, 0, 0, 0), (11, .getfield 7, 7, 0, 3, 0), (14, .iconst 0, 0, 0, 0, 0), (15, .iaload, 0, 0, 0, 0), (16, .iastore, 0, 0, 0, 0), (17, .iconst 0, 0, 0, 0, 0), (18, .istore 5, 0, 0, 0, 0)]
def l110_20 : List Ent := [(20, .iload 5, 0, 0, 0, 0), (22, .aload_n 0, 0, 0, 0, 0), (23, .getfield 7, 7, 0, 3, 0), (26, .iconst 0, 0, 0, 0, 0), (27, .iaload, 0, 0, 0, 0), (28, .if_icmp .ge 234, 262, 0, 0, 0), (31, .bipush (-6), 0, 0, 0, 0), (33, .istore 6, 0, 0, 0, 0), (35, .aload_n 0, 0, 0, 0, 0), (36, .iload 5, 0, 0, 0, 0), (38, .invokevirtual 44, 99, 2, 1, 7)]
def l110_41 : List Ent := [(41, .iconst 1, 0, 0, 0, 0), (42, .isub, 0, 0, 0, 0), (43, .istore 7, 0, 0, 0, 0)]
def l110_45 : List Ent := [(45, .iload 7, 0, 0, 0, 0), (47, .ifCond .lt 80, 127, 0, 0, 0), (50, .aload_n 0, 0, 0, 0, 0), (51, .iload 5, 0, 0, 0, 0), (53, .iload 7, 0, 0, 0, 0), (55, .invokevirtual 48, 100, 3, 1, 7)]
def l110_58 : List Ent := [(58, .istore 8, 0, 0, 0, 0), (60, .aload_n 0, 0, 0, 0, 0), (61, .iload 8, 0, 0, 0, 0), (63, .invokevirtual 52, 102, 2, 1, 7)]
def l110_66 : List Ent := [(66, .aload_n 0, 0, 0, 0, 0), (67, .iload_n 1, 0, 0, 0, 0), (68, .invokevirtual 55, 103, 2, 1, 7)]
def l110_71 : List Ent := [(71, .ishr, 0, 0, 0, 0), (72, .iconst 1, 0, 0, 0, 0), (73, .iand, 0, 0, 0, 0), (74, .iconst 1, 0, 0, 0, 0), (75, .if_icmp .ne 29, 104, 0, 0, 0), (78, .iload_n 3, 0, 0, 0, 0), (79, .iload 8, 0, 0, 0, 0), (81, .ishr, 0, 0, 0, 0), (82, .iconst 1, 0, 0, 0, 0), (83, .iand, 0, 0, 0, 0), (84, .ifCond .ne 20, 104, 0, 0, 0), (87, .iload 4, 0, 0, 0, 0), (89, .aload_n 0, 0, 0, 0, 0), (90, .iload 8, 0, 0, 0, 0), (92, .invokevirtual 58, 101, 2, 1, 7)]
def l110_95 : List Ent := [(95, .iadd, 0, 0, 0, 0), (96, .iload_n 2, 0, 0, 0, 0), (97, .if_icmp .gt 7, 104, 0, 0, 0), (100, .iconst 1, 0, 0, 0, 0), (101, .goto 4, 105, 0, 0, 0)]
def l110_104 : List Ent := [(104, .iconst 0, 0, 0, 0, 0)]
def l110_105 : List Ent := [(105, .istore 9, 0, 0, 0, 0), (107, .iload 9, 0, 0, 0, 0), (109, .ifCond .eq 8, 117, 0, 0, 0), (112, .iload 8, 0, 0, 0, 0), (114, .goto 5, 119, 0, 0, 0)]
def l110_117 : List Ent := [(117, .iload 6, 0, 0, 0, 0)]
def l110_119 : List Ent := [(119, .istore 6, 0, 0, 0, 0), (121, .iinc 7 (-1), 0, 0, 0, 0), (124, .goto (-79), 45, 0, 0, 0)]
def l110_127 : List Ent := [(127, .aload_n 0, 0, 0, 0, 0), (128, .getfield 27, 7, 7, 8, 0), (131, .iconst 5, 0, 0, 0, 0), (132, .iload 5, 0, 0, 0, 0), (134, .imul, 0, 0, 0, 0), (135, .iconst 1, 0, 0, 0, 0), (136, .iadd, 0, 0, 0, 0), (137, .iload 6, 0, 0, 0, 0), (139, .iastore, 0, 0, 0, 0), (140, .aload_n 0, 0, 0, 0, 0), (141, .getfield 27, 7, 7, 8, 0), (144, .iconst 5, 0, 0, 0, 0), (145, .iload 5, 0, 0, 0, 0), (147, .imul, 0, 0, 0, 0), (148, .iconst 2, 0, 0, 0, 0), (149, .iadd, 0, 0, 0, 0), (150, .iload 6, 0, 0, 0, 0), (152, .bipush (-6), 0, 0, 0, 0), (154, .if_icmp .ne 7, 161, 0, 0, 0), (157, .iconst 0, 0, 0, 0, 0), (158, .goto 9, 167, 0, 0, 0)]
def l110_161 : List Ent := [(161, .aload_n 0, 0, 0, 0, 0), (162, .iload 6, 0, 0, 0, 0), (164, .invokevirtual 58, 101, 2, 1, 7)]
def l110_167 : List Ent := [(167, .iastore, 0, 0, 0, 0), (168, .aload_n 0, 0, 0, 0, 0), (169, .getfield 27, 7, 7, 8, 0), (172, .iconst 5, 0, 0, 0, 0), (173, .iload 5, 0, 0, 0, 0), (175, .imul, 0, 0, 0, 0), (176, .iconst 3, 0, 0, 0, 0), (177, .iadd, 0, 0, 0, 0), (178, .aload_n 0, 0, 0, 0, 0), (179, .iload 5, 0, 0, 0, 0), (181, .iconst 0, 0, 0, 0, 0), (182, .invokevirtual 61, 98, 3, 1, 7)]
def l110_185 : List Ent := [(185, .iastore, 0, 0, 0, 0), (186, .aload_n 0, 0, 0, 0, 0), (187, .getfield 27, 7, 7, 8, 0), (190, .iconst 5, 0, 0, 0, 0), (191, .iload 5, 0, 0, 0, 0), (193, .imul, 0, 0, 0, 0), (194, .iconst 4, 0, 0, 0, 0), (195, .iadd, 0, 0, 0, 0), (196, .aload_n 0, 0, 0, 0, 0), (197, .iload 5, 0, 0, 0, 0), (199, .iconst 1, 0, 0, 0, 0), (200, .invokevirtual 61, 98, 3, 1, 7)]
def l110_203 : List Ent := [(203, .iastore, 0, 0, 0, 0), (204, .aload_n 0, 0, 0, 0, 0), (205, .getfield 27, 7, 7, 8, 0), (208, .iconst 5, 0, 0, 0, 0), (209, .iload 5, 0, 0, 0, 0), (211, .imul, 0, 0, 0, 0), (212, .iconst 5, 0, 0, 0, 0), (213, .iadd, 0, 0, 0, 0), (214, .aload_n 0, 0, 0, 0, 0), (215, .iload 5, 0, 0, 0, 0), (217, .iconst 2, 0, 0, 0, 0), (218, .invokevirtual 61, 98, 3, 1, 7)]
def l110_221 : List Ent := [(221, .iastore, 0, 0, 0, 0), (222, .iload 4, 0, 0, 0, 0), (224, .aload_n 0, 0, 0, 0, 0), (225, .getfield 27, 7, 7, 8, 0), (228, .iconst 5, 0, 0, 0, 0), (229, .iload 5, 0, 0, 0, 0), (231, .imul, 0, 0, 0, 0), (232, .iconst 2, 0, 0, 0, 0), (233, .iadd, 0, 0, 0, 0), (234, .iaload, 0, 0, 0, 0), (235, .iadd, 0, 0, 0, 0), (236, .istore 4, 0, 0, 0, 0), (238, .iload_n 3, 0, 0, 0, 0), (239, .iload 6, 0, 0, 0, 0), (241, .bipush (-6), 0, 0, 0, 0), (243, .if_icmp .ne 7, 250, 0, 0, 0), (246, .iconst 0, 0, 0, 0, 0), (247, .goto 7, 254, 0, 0, 0)]
def l110_250 : List Ent := [(250, .iconst 1, 0, 0, 0, 0), (251, .iload 6, 0, 0, 0, 0), (253, .ishl, 0, 0, 0, 0)]
def l110_254 : List Ent := [(254, .ior, 0, 0, 0, 0), (255, .istore_n 3, 0, 0, 0, 0), (256, .iinc 5 1, 0, 0, 0, 0), (259, .goto (-239), 20, 0, 0, 0)]
def l110_262 : List Ent := [(262, .iconst 5, 0, 0, 0, 0), (263, .aload_n 0, 0, 0, 0, 0), (264, .getfield 7, 7, 0, 3, 0), (267, .iconst 0, 0, 0, 0, 0), (268, .iaload, 0, 0, 0, 0), (269, .imul, 0, 0, 0, 0), (270, .iconst 1, 0, 0, 0, 0), (271, .iadd, 0, 0, 0, 0), (272, .istore 5, 0, 0, 0, 0)]
def l110_274 : List Ent := [(274, .iload 5, 0, 0, 0, 0), (276, .bipush 121, 0, 0, 0, 0), (278, .if_icmp .ge 17, 295, 0, 0, 0), (281, .aload_n 0, 0, 0, 0, 0), (282, .getfield 27, 7, 7, 8, 0), (285, .iload 5, 0, 0, 0, 0), (287, .iconst 0, 0, 0, 0, 0), (288, .iastore, 0, 0, 0, 0), (289, .iinc 5 1, 0, 0, 0, 0), (292, .goto (-18), 274, 0, 0, 0)]
def l110_295 : List Ent := [(295, .return_, 0, 0, 0, 0)]
def bk110 : List Blk := [(0, l110_0, 20), (20, l110_20, 41), (41, l110_41, 45), (45, l110_45, 58), (58, l110_58, 66), (66, l110_66, 71), (71, l110_71, 95), (95, l110_95, 104), (104, l110_104, 105), (105, l110_105, 117), (117, l110_117, 119), (119, l110_119, 127), (127, l110_127, 161), (161, l110_161, 167), (167, l110_167, 185), (185, l110_185, 203), (203, l110_203, 221), (221, l110_221, 250), (250, l110_250, 254), (254, l110_254, 262), (262, l110_262, 274), (274, l110_274, 295), (295, l110_295, 296)]
-- NoticeShiftsModel.layNow
def l111_0 : List Ent := [(0, .aload_n 0, 0, 0, 0, 0), (1, .iload_n 1, 0, 0, 0, 0), (2, .aload_n 0, 0, 0, 0, 0), (3, .iload_n 1, 0, 0, 0, 0), (4, .invokevirtual 64, 104, 2, 1, 7)]
def l111_7 : List Ent := [(7, .invokevirtual 67, 110, 3, 0, 7)]
def l111_10 : List Ent := [(10, .return_, 0, 0, 0, 0)]
def bk111 : List Blk := [(0, l111_0, 7), (7, l111_7, 10), (10, l111_10, 11)]
-- NoticeShiftsModel.lay
def l112_0 : List Ent := [(0, .aload_n 0, 0, 0, 0, 0), (1, .iload_n 1, 0, 0, 0, 0), (2, .invokevirtual 71, 105, 2, 1, 7)]
def l112_5 : List Ent := [(5, .ifCond .eq 41, 46, 0, 0, 0), (8, .iconst 0, 0, 0, 0, 0), (9, .istore_n 2, 0, 0, 0, 0)]
def l112_10 : List Ent := [(10, .iload_n 2, 0, 0, 0, 0), (11, .bipush 121, 0, 0, 0, 0), (13, .if_icmp .ge 30, 43, 0, 0, 0), (16, .aload_n 0, 0, 0, 0, 0), (17, .getfield 27, 7, 7, 8, 0), (20, .iload_n 2, 0, 0, 0, 0), (21, .aload_n 0, 0, 0, 0, 0), (22, .getfield 7, 7, 0, 3, 0), (25, .sipush 230, 0, 0, 0, 0), (28, .bipush 121, 0, 0, 0, 0), (30, .iload_n 1, 0, 0, 0, 0), (31, .imul, 0, 0, 0, 0), (32, .iadd, 0, 0, 0, 0), (33, .iload_n 2, 0, 0, 0, 0), (34, .iadd, 0, 0, 0, 0), (35, .iaload, 0, 0, 0, 0), (36, .iastore, 0, 0, 0, 0), (37, .iinc 2 1, 0, 0, 0, 0), (40, .goto (-30), 10, 0, 0, 0)]
def l112_43 : List Ent := [(43, .goto 8, 51, 0, 0, 0)]
def l112_46 : List Ent := [(46, .aload_n 0, 0, 0, 0, 0), (47, .iload_n 1, 0, 0, 0, 0), (48, .invokevirtual 75, 111, 2, 0, 7)]
def l112_51 : List Ent := [(51, .return_, 0, 0, 0, 0)]
def bk112 : List Blk := [(0, l112_0, 5), (5, l112_5, 10), (10, l112_10, 43), (43, l112_43, 46), (46, l112_46, 51), (51, l112_51, 52)]
-- NoticeShiftsModel.isOld
def l113_0 : List Ent := [(0, .iconst 0, 0, 0, 0, 0), (1, .istore_n 2, 0, 0, 0, 0), (2, .aload_n 0, 0, 0, 0, 0), (3, .iload_n 1, 0, 0, 0, 0), (4, .invokevirtual 75, 111, 2, 0, 7)]
def l113_7 : List Ent := [(7, .iconst 0, 0, 0, 0, 0), (8, .istore_n 3, 0, 0, 0, 0)]
def l113_9 : List Ent := [(9, .iload_n 3, 0, 0, 0, 0), (10, .bipush 121, 0, 0, 0, 0), (12, .if_icmp .ge 51, 63, 0, 0, 0), (15, .iload_n 2, 0, 0, 0, 0), (16, .ifCond .ne 35, 51, 0, 0, 0), (19, .aload_n 0, 0, 0, 0, 0), (20, .iload_n 1, 0, 0, 0, 0), (21, .invokevirtual 71, 105, 2, 1, 7)]
def l113_24 : List Ent := [(24, .ifCond .eq 31, 55, 0, 0, 0), (27, .aload_n 0, 0, 0, 0, 0), (28, .getfield 27, 7, 7, 8, 0), (31, .iload_n 3, 0, 0, 0, 0), (32, .iaload, 0, 0, 0, 0), (33, .aload_n 0, 0, 0, 0, 0), (34, .getfield 7, 7, 0, 3, 0), (37, .sipush 230, 0, 0, 0, 0), (40, .bipush 121, 0, 0, 0, 0), (42, .iload_n 1, 0, 0, 0, 0), (43, .imul, 0, 0, 0, 0), (44, .iadd, 0, 0, 0, 0), (45, .iload_n 3, 0, 0, 0, 0), (46, .iadd, 0, 0, 0, 0), (47, .iaload, 0, 0, 0, 0), (48, .if_icmp .eq 7, 55, 0, 0, 0)]
def l113_51 : List Ent := [(51, .iconst 1, 0, 0, 0, 0), (52, .goto 4, 56, 0, 0, 0)]
def l113_55 : List Ent := [(55, .iconst 0, 0, 0, 0, 0)]
def l113_56 : List Ent := [(56, .istore_n 2, 0, 0, 0, 0), (57, .iinc 3 1, 0, 0, 0, 0), (60, .goto (-51), 9, 0, 0, 0)]
def l113_63 : List Ent := [(63, .iload_n 2, 0, 0, 0, 0), (64, .ireturn, 1, 0, 0, 0)]
def bk113 : List Blk := [(0, l113_0, 7), (7, l113_7, 9), (9, l113_9, 24), (24, l113_24, 51), (51, l113_51, 55), (55, l113_55, 56), (56, l113_56, 63), (63, l113_63, 65)]
-- NoticeShiftsModel.seconds
def l114_0 : List Ent := [(0, .iconst 0, 0, 0, 0, 0), (1, .istore_n 2, 0, 0, 0, 0), (2, .iconst 0, 0, 0, 0, 0), (3, .istore_n 3, 0, 0, 0, 0)]
def l114_4 : List Ent := [(4, .iload_n 3, 0, 0, 0, 0), (5, .aload_n 0, 0, 0, 0, 0), (6, .getfield 27, 7, 7, 8, 0), (9, .iconst 0, 0, 0, 0, 0), (10, .iaload, 0, 0, 0, 0), (11, .if_icmp .ge 41, 52, 0, 0, 0), (14, .iload_n 2, 0, 0, 0, 0), (15, .aload_n 0, 0, 0, 0, 0), (16, .getfield 27, 7, 7, 8, 0), (19, .iconst 5, 0, 0, 0, 0), (20, .iload_n 3, 0, 0, 0, 0), (21, .imul, 0, 0, 0, 0), (22, .iconst 2, 0, 0, 0, 0), (23, .iadd, 0, 0, 0, 0), (24, .iaload, 0, 0, 0, 0), (25, .iload_n 1, 0, 0, 0, 0), (26, .ifCond .eq 16, 42, 0, 0, 0), (29, .aload_n 0, 0, 0, 0, 0), (30, .getfield 27, 7, 7, 8, 0), (33, .iconst 5, 0, 0, 0, 0), (34, .iload_n 3, 0, 0, 0, 0), (35, .imul, 0, 0, 0, 0), (36, .iconst 4, 0, 0, 0, 0), (37, .iadd, 0, 0, 0, 0), (38, .iaload, 0, 0, 0, 0), (39, .goto 4, 43, 0, 0, 0)]
def l114_42 : List Ent := [(42, .iconst 0, 0, 0, 0, 0)]
def l114_43 : List Ent := [(43, .iadd, 0, 0, 0, 0), (44, .iadd, 0, 0, 0, 0), (45, .istore_n 2, 0, 0, 0, 0), (46, .iinc 3 1, 0, 0, 0, 0), (49, .goto (-45), 4, 0, 0, 0)]
def l114_52 : List Ent := [(52, .iload_n 2, 0, 0, 0, 0), (53, .ireturn, 0, 0, 0, 0)]
def bk114 : List Blk := [(0, l114_0, 4), (4, l114_4, 42), (42, l114_42, 43), (43, l114_43, 52), (52, l114_52, 54)]
-- NoticeShiftsModel.notices
def l115_0 : List Ent := [(0, .iconst 0, 0, 0, 0, 0), (1, .istore_n 1, 0, 0, 0, 0), (2, .iconst 0, 0, 0, 0, 0), (3, .istore_n 2, 0, 0, 0, 0)]
def l115_4 : List Ent := [(4, .iload_n 2, 0, 0, 0, 0), (5, .aload_n 0, 0, 0, 0, 0), (6, .getfield 27, 7, 7, 8, 0), (9, .iconst 0, 0, 0, 0, 0), (10, .iaload, 0, 0, 0, 0), (11, .if_icmp .ge 32, 43, 0, 0, 0), (14, .iload_n 1, 0, 0, 0, 0), (15, .aload_n 0, 0, 0, 0, 0), (16, .getfield 27, 7, 7, 8, 0), (19, .iconst 5, 0, 0, 0, 0), (20, .iload_n 2, 0, 0, 0, 0), (21, .imul, 0, 0, 0, 0), (22, .iconst 1, 0, 0, 0, 0), (23, .iadd, 0, 0, 0, 0), (24, .iaload, 0, 0, 0, 0), (25, .bipush (-6), 0, 0, 0, 0), (27, .if_icmp .ne 7, 34, 0, 0, 0), (30, .iconst 0, 0, 0, 0, 0), (31, .goto 4, 35, 0, 0, 0)]
def l115_34 : List Ent := [(34, .iconst 1, 0, 0, 0, 0)]
def l115_35 : List Ent := [(35, .iadd, 0, 0, 0, 0), (36, .istore_n 1, 0, 0, 0, 0), (37, .iinc 2 1, 0, 0, 0, 0), (40, .goto (-36), 4, 0, 0, 0)]
def l115_43 : List Ent := [(43, .iload_n 1, 0, 0, 0, 0), (44, .ireturn, 0, 0, 0, 0)]
def bk115 : List Blk := [(0, l115_0, 4), (4, l115_4, 34), (34, l115_34, 35), (35, l115_35, 43), (43, l115_43, 45)]
-- NoticeShiftsModel.hasHeard
def l116_0 : List Ent := [(0, .iconst 0, 0, 0, 0, 0), (1, .istore_n 2, 0, 0, 0, 0), (2, .iconst 0, 0, 0, 0, 0), (3, .istore_n 3, 0, 0, 0, 0)]
def l116_4 : List Ent := [(4, .iload_n 3, 0, 0, 0, 0), (5, .aload_n 0, 0, 0, 0, 0), (6, .getfield 27, 7, 7, 8, 0), (9, .iconst 0, 0, 0, 0, 0), (10, .iaload, 0, 0, 0, 0), (11, .if_icmp .ge 33, 44, 0, 0, 0), (14, .iload_n 2, 0, 0, 0, 0), (15, .ifCond .ne 17, 32, 0, 0, 0), (18, .aload_n 0, 0, 0, 0, 0), (19, .getfield 27, 7, 7, 8, 0), (22, .iconst 5, 0, 0, 0, 0), (23, .iload_n 3, 0, 0, 0, 0), (24, .imul, 0, 0, 0, 0), (25, .iconst 1, 0, 0, 0, 0), (26, .iadd, 0, 0, 0, 0), (27, .iaload, 0, 0, 0, 0), (28, .iload_n 1, 0, 0, 0, 0), (29, .if_icmp .ne 7, 36, 0, 0, 0)]
def l116_32 : List Ent := [(32, .iconst 1, 0, 0, 0, 0), (33, .goto 4, 37, 0, 0, 0)]
def l116_36 : List Ent := [(36, .iconst 0, 0, 0, 0, 0)]
def l116_37 : List Ent := [(37, .istore_n 2, 0, 0, 0, 0), (38, .iinc 3 1, 0, 0, 0, 0), (41, .goto (-37), 4, 0, 0, 0)]
def l116_44 : List Ent := [(44, .iload_n 2, 0, 0, 0, 0), (45, .ireturn, 1, 0, 0, 0)]
def bk116 : List Blk := [(0, l116_0, 4), (4, l116_4, 32), (32, l116_32, 36), (36, l116_36, 37), (37, l116_37, 44), (44, l116_44, 46)]
-- NoticeShiftsModel.exchange
def l117_0 : List Ent := [(0, .iconst 0, 0, 0, 0, 0), (1, .istore_n 3, 0, 0, 0, 0)]
def l117_2 : List Ent := [(2, .iload_n 3, 0, 0, 0, 0), (3, .iload_n 2, 0, 0, 0, 0), (4, .if_icmp .ge 49, 53, 0, 0, 0), (7, .aload_n 0, 0, 0, 0, 0), (8, .getfield 7, 7, 0, 3, 0), (11, .iload_n 1, 0, 0, 0, 0), (12, .iload_n 3, 0, 0, 0, 0), (13, .iadd, 0, 0, 0, 0), (14, .iaload, 0, 0, 0, 0), (15, .istore 4, 0, 0, 0, 0), (17, .aload_n 0, 0, 0, 0, 0), (18, .getfield 7, 7, 0, 3, 0), (21, .iload_n 1, 0, 0, 0, 0), (22, .iload_n 3, 0, 0, 0, 0), (23, .iadd, 0, 0, 0, 0), (24, .aload_n 0, 0, 0, 0, 0), (25, .getfield 7, 7, 0, 3, 0), (28, .iload_n 1, 0, 0, 0, 0), (29, .iload_n 2, 0, 0, 0, 0), (30, .iadd, 0, 0, 0, 0), (31, .iload_n 3, 0, 0, 0, 0), (32, .iadd, 0, 0, 0, 0), (33, .iaload, 0, 0, 0, 0), (34, .iastore, 0, 0, 0, 0), (35, .aload_n 0, 0, 0, 0, 0), (36, .getfield 7, 7, 0, 3, 0), (39, .iload_n 1, 0, 0, 0, 0), (40, .iload_n 2, 0, 0, 0, 0), (41, .iadd, 0, 0, 0, 0), (42, .iload_n 3, 0, 0, 0, 0), (43, .iadd, 0, 0, 0, 0), (44, .iload 4, 0, 0, 0, 0), (46, .iastore, 0, 0, 0, 0), (47, .iinc 3 1, 0, 0, 0, 0), (50, .goto (-48), 2, 0, 0, 0)]
def l117_53 : List Ent := [(53, .return_, 0, 0, 0, 0)]
def bk117 : List Blk := [(0, l117_0, 2), (2, l117_2, 53), (53, l117_53, 54)]
-- NoticeShiftsModel.exchangeSentences
def l118_0 : List Ent := [(0, .aload_n 0, 0, 0, 0, 0), (1, .iconst 4, 0, 0, 0, 0), (2, .iconst 3, 0, 0, 0, 0), (3, .iload_n 1, 0, 0, 0, 0), (4, .imul, 0, 0, 0, 0), (5, .iadd, 0, 0, 0, 0), (6, .iconst 3, 0, 0, 0, 0), (7, .invokevirtual 79, 117, 3, 0, 7)]
def l118_10 : List Ent := [(10, .aload_n 0, 0, 0, 0, 0), (11, .bipush 76, 0, 0, 0, 0), (13, .iconst 5, 0, 0, 0, 0), (14, .iload_n 1, 0, 0, 0, 0), (15, .imul, 0, 0, 0, 0), (16, .iadd, 0, 0, 0, 0), (17, .iconst 5, 0, 0, 0, 0), (18, .invokevirtual 79, 117, 3, 0, 7)]
def l118_21 : List Ent := [(21, .return_, 0, 0, 0, 0)]
def bk118 : List Blk := [(0, l118_0, 10), (10, l118_10, 21), (21, l118_21, 22)]
-- NoticeShiftsModel.clearSentence
def l119_0 : List Ent := [(0, .iconst 0, 0, 0, 0, 0), (1, .istore_n 2, 0, 0, 0, 0)]
def l119_2 : List Ent := [(2, .iload_n 2, 0, 0, 0, 0), (3, .iconst 3, 0, 0, 0, 0), (4, .if_icmp .ge 22, 26, 0, 0, 0), (7, .aload_n 0, 0, 0, 0, 0), (8, .getfield 7, 7, 0, 3, 0), (11, .iconst 4, 0, 0, 0, 0), (12, .iconst 3, 0, 0, 0, 0), (13, .iload_n 1, 0, 0, 0, 0), (14, .imul, 0, 0, 0, 0), (15, .iadd, 0, 0, 0, 0), (16, .iload_n 2, 0, 0, 0, 0), (17, .iadd, 0, 0, 0, 0), (18, .iconst 0, 0, 0, 0, 0), (19, .iastore, 0, 0, 0, 0), (20, .iinc 2 1, 0, 0, 0, 0), (23, .goto (-21), 2, 0, 0, 0)]
def l119_26 : List Ent := [(26, .iconst 0, 0, 0, 0, 0), (27, .istore_n 2, 0, 0, 0, 0)]
def l119_28 : List Ent := [(28, .iload_n 2, 0, 0, 0, 0), (29, .iconst 5, 0, 0, 0, 0), (30, .if_icmp .ge 23, 53, 0, 0, 0), (33, .aload_n 0, 0, 0, 0, 0), (34, .getfield 7, 7, 0, 3, 0), (37, .bipush 76, 0, 0, 0, 0), (39, .iconst 5, 0, 0, 0, 0), (40, .iload_n 1, 0, 0, 0, 0), (41, .imul, 0, 0, 0, 0), (42, .iadd, 0, 0, 0, 0), (43, .iload_n 2, 0, 0, 0, 0), (44, .iadd, 0, 0, 0, 0), (45, .iconst 0, 0, 0, 0, 0), (46, .iastore, 0, 0, 0, 0), (47, .iinc 2 1, 0, 0, 0, 0), (50, .goto (-22), 28, 0, 0, 0)]
def l119_53 : List Ent := [(53, .return_, 0, 0, 0, 0)]
def bk119 : List Blk := [(0, l119_0, 2), (2, l119_2, 26), (26, l119_26, 28), (28, l119_28, 53), (53, l119_53, 54)]
-- NoticeShiftsModel.putIn
def l120_0 : List Ent := [(0, .iload_n 1, 0, 0, 0, 0), (1, .iconst 0, 0, 0, 0, 0), (2, .aload_n 0, 0, 0, 0, 0), (3, .getfield 7, 7, 0, 3, 0), (6, .iconst 0, 0, 0, 0, 0), (7, .iaload, 0, 0, 0, 0), (8, .invokestatic 37, 94, 3, 1, 0)]
def l120_11 : List Ent := [(11, .ifCond .ne 5, 16, 0, 0, 0), (14, .iconst (-1), 0, 0, 0, 0), (15, .ireturn, 0, 0, 0, 0)]
def l120_16 : List Ent := [(16, .iload_n 2, 0, 0, 0, 0), (17, .iconst 1, 0, 0, 0, 0), (18, .sipush 300, 0, 0, 0, 0), (21, .invokestatic 37, 94, 3, 1, 0)]
def l120_24 : List Ent := [(24, .ifCond .ne 6, 30, 0, 0, 0), (27, .bipush (-2), 0, 0, 0, 0), (29, .ireturn, 0, 0, 0, 0)]
def l120_30 : List Ent := [(30, .aload_n 0, 0, 0, 0, 0), (31, .getfield 7, 7, 0, 3, 0), (34, .iconst 0, 0, 0, 0, 0), (35, .iaload, 0, 0, 0, 0), (36, .bipush 24, 0, 0, 0, 0), (38, .if_icmp .eq 14, 52, 0, 0, 0), (41, .aload_n 0, 0, 0, 0, 0), (42, .getfield 7, 7, 0, 3, 0), (45, .iconst 1, 0, 0, 0, 0), (46, .iaload, 0, 0, 0, 0), (47, .bipush 100, 0, 0, 0, 0), (49, .if_icmp .ne 6, 55, 0, 0, 0)]
def l120_52 : List Ent := [(52, .bipush (-4), 0, 0, 0, 0), (54, .ireturn, 0, 0, 0, 0)]
def l120_55 : List Ent := [(55, .aload_n 0, 0, 0, 0, 0), (56, .invokevirtual 41, 106, 1, 0, 7)]
def l120_59 : List Ent := [(59, .aload_n 0, 0, 0, 0, 0), (60, .getfield 7, 7, 0, 3, 0), (63, .iconst 0, 0, 0, 0, 0), (64, .iaload, 0, 0, 0, 0), (65, .istore_n 3, 0, 0, 0, 0), (66, .aload_n 0, 0, 0, 0, 0), (67, .iload_n 3, 0, 0, 0, 0), (68, .invokevirtual 82, 119, 2, 0, 7)]
def l120_71 : List Ent := [(71, .aload_n 0, 0, 0, 0, 0), (72, .getfield 7, 7, 0, 3, 0), (75, .iconst 4, 0, 0, 0, 0), (76, .iconst 3, 0, 0, 0, 0), (77, .iload_n 3, 0, 0, 0, 0), (78, .imul, 0, 0, 0, 0), (79, .iadd, 0, 0, 0, 0), (80, .aload_n 0, 0, 0, 0, 0), (81, .getfield 7, 7, 0, 3, 0), (84, .iconst 1, 0, 0, 0, 0), (85, .iaload, 0, 0, 0, 0), (86, .iastore, 0, 0, 0, 0), (87, .aload_n 0, 0, 0, 0, 0), (88, .getfield 7, 7, 0, 3, 0), (91, .iconst 4, 0, 0, 0, 0), (92, .iconst 3, 0, 0, 0, 0), (93, .iload_n 3, 0, 0, 0, 0), (94, .imul, 0, 0, 0, 0), (95, .iadd, 0, 0, 0, 0), (96, .iconst 1, 0, 0, 0, 0), (97, .iadd, 0, 0, 0, 0), (98, .iload_n 2, 0, 0, 0, 0), (99, .iastore, 0, 0, 0, 0), (100, .aload_n 0, 0, 0, 0, 0), (101, .getfield 7, 7, 0, 3, 0), (104, .iconst 4, 0, 0, 0, 0), (105, .iconst 3, 0, 0, 0, 0), (106, .iload_n 3, 0, 0, 0, 0), (107, .imul, 0, 0, 0, 0), (108, .iadd, 0, 0, 0, 0), (109, .iconst 2, 0, 0, 0, 0), (110, .iadd, 0, 0, 0, 0), (111, .iload_n 1, 0, 0, 0, 0), (112, .ifCond .ne 7, 119, 0, 0, 0), (115, .iconst 1, 0, 0, 0, 0), (116, .goto 4, 120, 0, 0, 0)]
def l120_119 : List Ent := [(119, .iconst 0, 0, 0, 0, 0)]
def l120_120 : List Ent := [(120, .iastore, 0, 0, 0, 0), (121, .aload_n 0, 0, 0, 0, 0), (122, .getfield 7, 7, 0, 3, 0), (125, .iconst 0, 0, 0, 0, 0), (126, .dup2, 0, 0, 0, 0), (127, .iaload, 0, 0, 0, 0), (128, .iconst 1, 0, 0, 0, 0), (129, .iadd, 0, 0, 0, 0), (130, .iastore, 0, 0, 0, 0), (131, .aload_n 0, 0, 0, 0, 0), (132, .getfield 7, 7, 0, 3, 0), (135, .iconst 1, 0, 0, 0, 0), (136, .dup2, 0, 0, 0, 0), (137, .iaload, 0, 0, 0, 0), (138, .iconst 1, 0, 0, 0, 0), (139, .iadd, 0, 0, 0, 0), (140, .iastore, 0, 0, 0, 0), (141, .iload_n 3, 0, 0, 0, 0), (142, .iconst 1, 0, 0, 0, 0), (143, .isub, 0, 0, 0, 0), (144, .istore 4, 0, 0, 0, 0)]
def l120_146 : List Ent := [(146, .iload 4, 0, 0, 0, 0), (148, .iload_n 1, 0, 0, 0, 0), (149, .if_icmp .lt 15, 164, 0, 0, 0), (152, .aload_n 0, 0, 0, 0, 0), (153, .iload 4, 0, 0, 0, 0), (155, .invokevirtual 85, 118, 2, 0, 7)]
def l120_158 : List Ent := [(158, .iinc 4 (-1), 0, 0, 0, 0), (161, .goto (-15), 146, 0, 0, 0)]
def l120_164 : List Ent := [(164, .aload_n 0, 0, 0, 0, 0), (165, .iload_n 1, 0, 0, 0, 0), (166, .iconst 0, 0, 0, 0, 0), (167, .invokevirtual 61, 98, 3, 1, 7)]
def l120_170 : List Ent := [(170, .ireturn, 0, 0, 0, 0)]
def bk120 : List Blk := [(0, l120_0, 11), (11, l120_11, 16), (16, l120_16, 24), (24, l120_24, 30), (30, l120_30, 52), (52, l120_52, 55), (55, l120_55, 59), (59, l120_59, 71), (71, l120_71, 119), (119, l120_119, 120), (120, l120_120, 146), (146, l120_146, 158), (158, l120_158, 164), (164, l120_164, 170), (170, l120_170, 171)]
-- NoticeShiftsModel.cutOut
def l121_0 : List Ent := [(0, .aload_n 0, 0, 0, 0, 0), (1, .iload_n 1, 0, 0, 0, 0), (2, .invokevirtual 88, 95, 2, 1, 7)]
def l121_5 : List Ent := [(5, .ifCond .ne 5, 10, 0, 0, 0), (8, .iconst (-1), 0, 0, 0, 0), (9, .ireturn, 0, 0, 0, 0)]
def l121_10 : List Ent := [(10, .aload_n 0, 0, 0, 0, 0), (11, .getfield 7, 7, 0, 3, 0), (14, .iconst 0, 0, 0, 0, 0), (15, .iaload, 0, 0, 0, 0), (16, .iconst 1, 0, 0, 0, 0), (17, .if_icmp .ne 6, 23, 0, 0, 0), (20, .bipush (-5), 0, 0, 0, 0), (22, .ireturn, 0, 0, 0, 0)]
def l121_23 : List Ent := [(23, .aload_n 0, 0, 0, 0, 0), (24, .invokevirtual 41, 106, 1, 0, 7)]
def l121_27 : List Ent := [(27, .aload_n 0, 0, 0, 0, 0), (28, .iload_n 1, 0, 0, 0, 0), (29, .iconst 0, 0, 0, 0, 0), (30, .invokevirtual 61, 98, 3, 1, 7)]
def l121_33 : List Ent := [(33, .istore_n 2, 0, 0, 0, 0), (34, .iload_n 1, 0, 0, 0, 0), (35, .istore_n 3, 0, 0, 0, 0)]
def l121_36 : List Ent := [(36, .iload_n 3, 0, 0, 0, 0), (37, .iconst 1, 0, 0, 0, 0), (38, .iadd, 0, 0, 0, 0), (39, .aload_n 0, 0, 0, 0, 0), (40, .getfield 7, 7, 0, 3, 0), (43, .iconst 0, 0, 0, 0, 0), (44, .iaload, 0, 0, 0, 0), (45, .if_icmp .ge 14, 59, 0, 0, 0), (48, .aload_n 0, 0, 0, 0, 0), (49, .iload_n 3, 0, 0, 0, 0), (50, .invokevirtual 85, 118, 2, 0, 7)]
def l121_53 : List Ent := [(53, .iinc 3 1, 0, 0, 0, 0), (56, .goto (-20), 36, 0, 0, 0)]
def l121_59 : List Ent := [(59, .aload_n 0, 0, 0, 0, 0), (60, .getfield 7, 7, 0, 3, 0), (63, .iconst 0, 0, 0, 0, 0), (64, .dup2, 0, 0, 0, 0), (65, .iaload, 0, 0, 0, 0), (66, .iconst 1, 0, 0, 0, 0), (67, .isub, 0, 0, 0, 0), (68, .iastore, 0, 0, 0, 0), (69, .aload_n 0, 0, 0, 0, 0), (70, .aload_n 0, 0, 0, 0, 0), (71, .getfield 7, 7, 0, 3, 0), (74, .iconst 0, 0, 0, 0, 0), (75, .iaload, 0, 0, 0, 0), (76, .invokevirtual 82, 119, 2, 0, 7)]
def l121_79 : List Ent := [(79, .aload_n 0, 0, 0, 0, 0), (80, .getfield 7, 7, 0, 3, 0), (83, .bipush 6, 0, 0, 0, 0), (85, .iconst 1, 0, 0, 0, 0), (86, .iastore, 0, 0, 0, 0), (87, .iload_n 2, 0, 0, 0, 0), (88, .ireturn, 0, 0, 0, 0)]
def bk121 : List Blk := [(0, l121_0, 5), (5, l121_5, 10), (10, l121_10, 23), (23, l121_23, 27), (27, l121_27, 33), (33, l121_33, 36), (36, l121_36, 53), (53, l121_53, 59), (59, l121_59, 79), (79, l121_79, 89)]
-- NoticeShiftsModel.change
def l122_0 : List Ent := [(0, .aload_n 0, 0, 0, 0, 0), (1, .iload_n 1, 0, 0, 0, 0), (2, .invokevirtual 88, 95, 2, 1, 7)]
def l122_5 : List Ent := [(5, .ifCond .ne 5, 10, 0, 0, 0), (8, .iconst (-1), 0, 0, 0, 0), (9, .ireturn, 0, 0, 0, 0)]
def l122_10 : List Ent := [(10, .iload_n 2, 0, 0, 0, 0), (11, .iconst 1, 0, 0, 0, 0), (12, .sipush 300, 0, 0, 0, 0), (15, .invokestatic 37, 94, 3, 1, 0)]
def l122_18 : List Ent := [(18, .ifCond .ne 6, 24, 0, 0, 0), (21, .bipush (-2), 0, 0, 0, 0), (23, .ireturn, 0, 0, 0, 0)]
def l122_24 : List Ent := [(24, .aload_n 0, 0, 0, 0, 0), (25, .invokevirtual 41, 106, 1, 0, 7)]
def l122_28 : List Ent := [(28, .aload_n 0, 0, 0, 0, 0), (29, .iload_n 1, 0, 0, 0, 0), (30, .iconst 1, 0, 0, 0, 0), (31, .invokevirtual 61, 98, 3, 1, 7)]
def l122_34 : List Ent := [(34, .istore_n 3, 0, 0, 0, 0), (35, .aload_n 0, 0, 0, 0, 0), (36, .getfield 7, 7, 0, 3, 0), (39, .iconst 4, 0, 0, 0, 0), (40, .iconst 3, 0, 0, 0, 0), (41, .iload_n 1, 0, 0, 0, 0), (42, .imul, 0, 0, 0, 0), (43, .iadd, 0, 0, 0, 0), (44, .iconst 1, 0, 0, 0, 0), (45, .iadd, 0, 0, 0, 0), (46, .iload_n 2, 0, 0, 0, 0), (47, .iastore, 0, 0, 0, 0), (48, .iload_n 3, 0, 0, 0, 0), (49, .ireturn, 0, 0, 0, 0)]
def bk122 : List Blk := [(0, l122_0, 5), (5, l122_5, 10), (10, l122_10, 18), (18, l122_18, 24), (24, l122_24, 28), (28, l122_28, 34), (34, l122_34, 50)]
-- NoticeShiftsModel.chapters
def l123_0 : List Ent := [(0, .iconst 0, 0, 0, 0, 0), (1, .istore_n 1, 0, 0, 0, 0), (2, .iconst 0, 0, 0, 0, 0), (3, .istore_n 2, 0, 0, 0, 0)]
def l123_4 : List Ent := [(4, .iload_n 2, 0, 0, 0, 0), (5, .aload_n 0, 0, 0, 0, 0), (6, .getfield 7, 7, 0, 3, 0), (9, .iconst 0, 0, 0, 0, 0), (10, .iaload, 0, 0, 0, 0), (11, .if_icmp .ge 18, 29, 0, 0, 0), (14, .iload_n 1, 0, 0, 0, 0), (15, .aload_n 0, 0, 0, 0, 0), (16, .iload_n 2, 0, 0, 0, 0), (17, .iconst 2, 0, 0, 0, 0), (18, .invokevirtual 61, 98, 3, 1, 7)]
def l123_21 : List Ent := [(21, .iadd, 0, 0, 0, 0), (22, .istore_n 1, 0, 0, 0, 0), (23, .iinc 2 1, 0, 0, 0, 0), (26, .goto (-22), 4, 0, 0, 0)]
def l123_29 : List Ent := [(29, .iload_n 1, 0, 0, 0, 0), (30, .ireturn, 0, 0, 0, 0)]
def bk123 : List Blk := [(0, l123_0, 4), (4, l123_4, 21), (21, l123_21, 29), (29, l123_29, 31)]
-- NoticeShiftsModel.chapter
def l124_0 : List Ent := [(0, .aload_n 0, 0, 0, 0, 0), (1, .iload_n 1, 0, 0, 0, 0), (2, .invokevirtual 88, 95, 2, 1, 7)]
def l124_5 : List Ent := [(5, .ifCond .ne 5, 10, 0, 0, 0), (8, .iconst (-1), 0, 0, 0, 0), (9, .ireturn, 0, 0, 0, 0)]
def l124_10 : List Ent := [(10, .iload_n 1, 0, 0, 0, 0), (11, .ifCond .eq 22, 33, 0, 0, 0), (14, .aload_n 0, 0, 0, 0, 0), (15, .iload_n 1, 0, 0, 0, 0), (16, .iconst 2, 0, 0, 0, 0), (17, .invokevirtual 61, 98, 3, 1, 7)]
def l124_20 : List Ent := [(20, .iconst 1, 0, 0, 0, 0), (21, .if_icmp .ne 7, 28, 0, 0, 0), (24, .iconst 1, 0, 0, 0, 0), (25, .goto 4, 29, 0, 0, 0)]
def l124_28 : List Ent := [(28, .iconst 0, 0, 0, 0, 0)]
def l124_29 : List Ent := [(29, .iload_n 2, 0, 0, 0, 0), (30, .if_icmp .ne 6, 36, 0, 0, 0)]
def l124_33 : List Ent := [(33, .bipush (-5), 0, 0, 0, 0), (35, .ireturn, 0, 0, 0, 0)]
def l124_36 : List Ent := [(36, .aload_n 0, 0, 0, 0, 0), (37, .invokevirtual 41, 106, 1, 0, 7)]
def l124_40 : List Ent := [(40, .aload_n 0, 0, 0, 0, 0), (41, .getfield 7, 7, 0, 3, 0), (44, .iconst 4, 0, 0, 0, 0), (45, .iconst 3, 0, 0, 0, 0), (46, .iload_n 1, 0, 0, 0, 0), (47, .imul, 0, 0, 0, 0), (48, .iadd, 0, 0, 0, 0), (49, .iconst 2, 0, 0, 0, 0), (50, .iadd, 0, 0, 0, 0), (51, .iload_n 2, 0, 0, 0, 0), (52, .ifCond .eq 7, 59, 0, 0, 0), (55, .iconst 1, 0, 0, 0, 0), (56, .goto 4, 60, 0, 0, 0)]
def l124_59 : List Ent := [(59, .iconst 0, 0, 0, 0, 0)]
def l124_60 : List Ent := [(60, .iastore, 0, 0, 0, 0), (61, .aload_n 0, 0, 0, 0, 0), (62, .invokevirtual 91, 123, 1, 1, 7)]
def l124_65 : List Ent := [(65, .ireturn, 0, 0, 0, 0)]
def bk124 : List Blk := [(0, l124_0, 5), (5, l124_5, 10), (10, l124_10, 20), (20, l124_20, 28), (28, l124_28, 29), (29, l124_29, 33), (33, l124_33, 36), (36, l124_36, 40), (40, l124_40, 59), (59, l124_59, 60), (60, l124_60, 65), (65, l124_65, 66)]
-- NoticeShiftsModel.notice
def l125_0 : List Ent := [(0, .iload_n 1, 0, 0, 0, 0), (1, .iconst 1, 0, 0, 0, 0), (2, .bipush 120, 0, 0, 0, 0), (4, .invokestatic 37, 94, 3, 1, 0)]
def l125_7 : List Ent := [(7, .ifCond .eq 13, 20, 0, 0, 0), (10, .iload_n 2, 0, 0, 0, 0), (11, .iconst 1, 0, 0, 0, 0), (12, .bipush 63, 0, 0, 0, 0), (14, .invokestatic 37, 94, 3, 1, 0)]
def l125_17 : List Ent := [(17, .ifCond .ne 6, 23, 0, 0, 0)]
def l125_20 : List Ent := [(20, .bipush (-2), 0, 0, 0, 0), (22, .ireturn, 0, 0, 0, 0)]
def l125_23 : List Ent := [(23, .aload_n 0, 0, 0, 0, 0), (24, .getfield 7, 7, 0, 3, 0), (27, .iconst 2, 0, 0, 0, 0), (28, .iaload, 0, 0, 0, 0), (29, .bipush 8, 0, 0, 0, 0), (31, .if_icmp .ne 6, 37, 0, 0, 0), (34, .bipush (-4), 0, 0, 0, 0), (36, .ireturn, 0, 0, 0, 0)]
def l125_37 : List Ent := [(37, .aload_n 0, 0, 0, 0, 0), (38, .invokevirtual 41, 106, 1, 0, 7)]
def l125_41 : List Ent := [(41, .aload_n 0, 0, 0, 0, 0), (42, .getfield 7, 7, 0, 3, 0), (45, .sipush 196, 0, 0, 0, 0), (48, .iconst 2, 0, 0, 0, 0), (49, .aload_n 0, 0, 0, 0, 0), (50, .getfield 7, 7, 0, 3, 0), (53, .iconst 2, 0, 0, 0, 0), (54, .iaload, 0, 0, 0, 0), (55, .imul, 0, 0, 0, 0), (56, .iadd, 0, 0, 0, 0), (57, .iload_n 1, 0, 0, 0, 0), (58, .iastore, 0, 0, 0, 0), (59, .aload_n 0, 0, 0, 0, 0), (60, .getfield 7, 7, 0, 3, 0), (63, .sipush 196, 0, 0, 0, 0), (66, .iconst 2, 0, 0, 0, 0), (67, .aload_n 0, 0, 0, 0, 0), (68, .getfield 7, 7, 0, 3, 0), (71, .iconst 2, 0, 0, 0, 0), (72, .iaload, 0, 0, 0, 0), (73, .imul, 0, 0, 0, 0), (74, .iadd, 0, 0, 0, 0), (75, .iconst 1, 0, 0, 0, 0), (76, .iadd, 0, 0, 0, 0), (77, .iload_n 2, 0, 0, 0, 0), (78, .iastore, 0, 0, 0, 0), (79, .aload_n 0, 0, 0, 0, 0), (80, .getfield 7, 7, 0, 3, 0), (83, .iconst 2, 0, 0, 0, 0), (84, .dup2, 0, 0, 0, 0), (85, .iaload, 0, 0, 0, 0), (86, .iconst 1, 0, 0, 0, 0), (87, .iadd, 0, 0, 0, 0), (88, .iastore, 0, 0, 0, 0), (89, .aload_n 0, 0, 0, 0, 0), (90, .getfield 7, 7, 0, 3, 0), (93, .iconst 2, 0, 0, 0, 0), (94, .iaload, 0, 0, 0, 0), (95, .iconst 1, 0, 0, 0, 0), (96, .isub, 0, 0, 0, 0), (97, .ireturn, 0, 0, 0, 0)]
def bk125 : List Blk := [(0, l125_0, 7), (7, l125_7, 17), (17, l125_17, 20), (20, l125_20, 23), (23, l125_23, 37), (37, l125_37, 41), (41, l125_41, 98)]
-- NoticeShiftsModel.bookIt
def l126_0 : List Ent := [(0, .aload_n 0, 0, 0, 0, 0), (1, .getfield 7, 7, 0, 3, 0), (4, .bipush 76, 0, 0, 0, 0), (6, .iconst 5, 0, 0, 0, 0), (7, .iload_n 1, 0, 0, 0, 0), (8, .imul, 0, 0, 0, 0), (9, .iadd, 0, 0, 0, 0), (10, .iconst 1, 0, 0, 0, 0), (11, .iadd, 0, 0, 0, 0), (12, .aload_n 0, 0, 0, 0, 0), (13, .iload_n 1, 0, 0, 0, 0), (14, .invokevirtual 44, 99, 2, 1, 7)]
def l126_17 : List Ent := [(17, .iadd, 0, 0, 0, 0), (18, .iload_n 2, 0, 0, 0, 0), (19, .iastore, 0, 0, 0, 0), (20, .aload_n 0, 0, 0, 0, 0), (21, .getfield 7, 7, 0, 3, 0), (24, .bipush 76, 0, 0, 0, 0), (26, .iconst 5, 0, 0, 0, 0), (27, .iload_n 1, 0, 0, 0, 0), (28, .imul, 0, 0, 0, 0), (29, .iadd, 0, 0, 0, 0), (30, .dup2, 0, 0, 0, 0), (31, .iaload, 0, 0, 0, 0), (32, .iconst 1, 0, 0, 0, 0), (33, .iadd, 0, 0, 0, 0), (34, .iastore, 0, 0, 0, 0), (35, .return_, 0, 0, 0, 0)]
def bk126 : List Blk := [(0, l126_0, 17), (17, l126_17, 36)]
-- NoticeShiftsModel.unbookLast
def l127_0 : List Ent := [(0, .aload_n 0, 0, 0, 0, 0), (1, .getfield 7, 7, 0, 3, 0), (4, .bipush 76, 0, 0, 0, 0), (6, .iconst 5, 0, 0, 0, 0), (7, .iload_n 1, 0, 0, 0, 0), (8, .imul, 0, 0, 0, 0), (9, .iadd, 0, 0, 0, 0), (10, .dup2, 0, 0, 0, 0), (11, .iaload, 0, 0, 0, 0), (12, .iconst 1, 0, 0, 0, 0), (13, .isub, 0, 0, 0, 0), (14, .iastore, 0, 0, 0, 0), (15, .aload_n 0, 0, 0, 0, 0), (16, .getfield 7, 7, 0, 3, 0), (19, .bipush 76, 0, 0, 0, 0), (21, .iconst 5, 0, 0, 0, 0), (22, .iload_n 1, 0, 0, 0, 0), (23, .imul, 0, 0, 0, 0), (24, .iadd, 0, 0, 0, 0), (25, .iconst 1, 0, 0, 0, 0), (26, .iadd, 0, 0, 0, 0), (27, .aload_n 0, 0, 0, 0, 0), (28, .iload_n 1, 0, 0, 0, 0), (29, .invokevirtual 44, 99, 2, 1, 7)]
def l127_32 : List Ent := [(32, .iadd, 0, 0, 0, 0), (33, .iconst 0, 0, 0, 0, 0), (34, .iastore, 0, 0, 0, 0), (35, .return_, 0, 0, 0, 0)]
def bk127 : List Blk := [(0, l127_0, 32), (32, l127_32, 36)]
-- NoticeShiftsModel.whyNotBook
def l128_0 : List Ent := [(0, .aload_n 0, 0, 0, 0, 0), (1, .iload_n 1, 0, 0, 0, 0), (2, .invokevirtual 88, 95, 2, 1, 7)]
def l128_5 : List Ent := [(5, .ifCond .eq 11, 16, 0, 0, 0), (8, .aload_n 0, 0, 0, 0, 0), (9, .iload_n 2, 0, 0, 0, 0), (10, .invokevirtual 95, 96, 2, 1, 7)]
def l128_13 : List Ent := [(13, .ifCond .ne 7, 20, 0, 0, 0)]
def l128_16 : List Ent := [(16, .iconst (-1), 0, 0, 0, 0), (17, .goto 18, 35, 0, 0, 0)]
def l128_20 : List Ent := [(20, .aload_n 0, 0, 0, 0, 0), (21, .iload_n 1, 0, 0, 0, 0), (22, .invokevirtual 44, 99, 2, 1, 7)]
def l128_25 : List Ent := [(25, .iconst 4, 0, 0, 0, 0), (26, .if_icmp .ne 8, 34, 0, 0, 0), (29, .bipush (-4), 0, 0, 0, 0), (31, .goto 4, 35, 0, 0, 0)]
def l128_34 : List Ent := [(34, .iconst 0, 0, 0, 0, 0)]
def l128_35 : List Ent := [(35, .ireturn, 0, 0, 0, 0)]
def bk128 : List Blk := [(0, l128_0, 5), (5, l128_5, 13), (13, l128_13, 16), (16, l128_16, 20), (20, l128_20, 25), (25, l128_25, 34), (34, l128_34, 35), (35, l128_35, 36)]
-- NoticeShiftsModel.book
def l129_0 : List Ent := [(0, .aload_n 0, 0, 0, 0, 0), (1, .iload_n 1, 0, 0, 0, 0), (2, .iload_n 2, 0, 0, 0, 0), (3, .invokevirtual 98, 128, 3, 1, 7)]
def l129_6 : List Ent := [(6, .istore_n 3, 0, 0, 0, 0), (7, .iload_n 3, 0, 0, 0, 0), (8, .ifCond .ge 5, 13, 0, 0, 0), (11, .iload_n 3, 0, 0, 0, 0), (12, .ireturn, 0, 0, 0, 0)]
def l129_13 : List Ent := [(13, .aload_n 0, 0, 0, 0, 0), (14, .invokevirtual 41, 106, 1, 0, 7)]
def l129_17 : List Ent := [(17, .aload_n 0, 0, 0, 0, 0), (18, .iload_n 1, 0, 0, 0, 0), (19, .iload_n 2, 0, 0, 0, 0), (20, .invokevirtual 101, 126, 3, 0, 7)]
def l129_23 : List Ent := [(23, .aload_n 0, 0, 0, 0, 0), (24, .iload_n 1, 0, 0, 0, 0), (25, .invokevirtual 44, 99, 2, 1, 7)]
def l129_28 : List Ent := [(28, .ireturn, 0, 0, 0, 0)]
def bk129 : List Blk := [(0, l129_0, 6), (6, l129_6, 13), (13, l129_13, 17), (17, l129_17, 23), (23, l129_23, 28), (28, l129_28, 29)]
-- NoticeShiftsModel.emptyIt
def l130_0 : List Ent := [(0, .aload_n 0, 0, 0, 0, 0), (1, .iload_n 1, 0, 0, 0, 0), (2, .invokevirtual 44, 99, 2, 1, 7)]
def l130_5 : List Ent := [(5, .istore_n 2, 0, 0, 0, 0), (6, .iconst 0, 0, 0, 0, 0), (7, .istore_n 3, 0, 0, 0, 0)]
def l130_8 : List Ent := [(8, .iload_n 3, 0, 0, 0, 0), (9, .iconst 5, 0, 0, 0, 0), (10, .if_icmp .ge 23, 33, 0, 0, 0), (13, .aload_n 0, 0, 0, 0, 0), (14, .getfield 7, 7, 0, 3, 0), (17, .bipush 76, 0, 0, 0, 0), (19, .iconst 5, 0, 0, 0, 0), (20, .iload_n 1, 0, 0, 0, 0), (21, .imul, 0, 0, 0, 0), (22, .iadd, 0, 0, 0, 0), (23, .iload_n 3, 0, 0, 0, 0), (24, .iadd, 0, 0, 0, 0), (25, .iconst 0, 0, 0, 0, 0), (26, .iastore, 0, 0, 0, 0), (27, .iinc 3 1, 0, 0, 0, 0), (30, .goto (-22), 8, 0, 0, 0)]
def l130_33 : List Ent := [(33, .iload_n 2, 0, 0, 0, 0), (34, .ireturn, 0, 0, 0, 0)]
def bk130 : List Blk := [(0, l130_0, 5), (5, l130_5, 8), (8, l130_8, 33), (33, l130_33, 35)]
-- NoticeShiftsModel.empty
def l131_0 : List Ent := [(0, .aload_n 0, 0, 0, 0, 0), (1, .iload_n 1, 0, 0, 0, 0), (2, .invokevirtual 88, 95, 2, 1, 7)]
def l131_5 : List Ent := [(5, .ifCond .ne 5, 10, 0, 0, 0), (8, .iconst (-1), 0, 0, 0, 0), (9, .ireturn, 0, 0, 0, 0)]
def l131_10 : List Ent := [(10, .aload_n 0, 0, 0, 0, 0), (11, .invokevirtual 41, 106, 1, 0, 7)]
def l131_14 : List Ent := [(14, .aload_n 0, 0, 0, 0, 0), (15, .iload_n 1, 0, 0, 0, 0), (16, .invokevirtual 104, 130, 2, 1, 7)]
def l131_19 : List Ent := [(19, .ireturn, 0, 0, 0, 0)]
def bk131 : List Blk := [(0, l131_0, 5), (5, l131_5, 10), (10, l131_10, 14), (14, l131_14, 19), (19, l131_19, 20)]
-- NoticeShiftsModel.listener
def l132_0 : List Ent := [(0, .iload_n 1, 0, 0, 0, 0), (1, .iconst 0, 0, 0, 0, 0), (2, .iconst 5, 0, 0, 0, 0), (3, .invokestatic 37, 94, 3, 1, 0)]
def l132_6 : List Ent := [(6, .ifCond .eq 14, 20, 0, 0, 0), (9, .iload_n 2, 0, 0, 0, 0), (10, .iconst 0, 0, 0, 0, 0), (11, .sipush 600, 0, 0, 0, 0), (14, .invokestatic 37, 94, 3, 1, 0)]
def l132_17 : List Ent := [(17, .ifCond .ne 6, 23, 0, 0, 0)]
def l132_20 : List Ent := [(20, .bipush (-2), 0, 0, 0, 0), (22, .ireturn, 0, 0, 0, 0)]
def l132_23 : List Ent := [(23, .aload_n 0, 0, 0, 0, 0), (24, .getfield 7, 7, 0, 3, 0), (27, .iconst 3, 0, 0, 0, 0), (28, .iaload, 0, 0, 0, 0), (29, .bipush 6, 0, 0, 0, 0), (31, .if_icmp .ne 6, 37, 0, 0, 0), (34, .bipush (-4), 0, 0, 0, 0), (36, .ireturn, 0, 0, 0, 0)]
def l132_37 : List Ent := [(37, .aload_n 0, 0, 0, 0, 0), (38, .invokevirtual 41, 106, 1, 0, 7)]
def l132_41 : List Ent := [(41, .aload_n 0, 0, 0, 0, 0), (42, .getfield 7, 7, 0, 3, 0), (45, .iconst 3, 0, 0, 0, 0), (46, .iaload, 0, 0, 0, 0), (47, .istore_n 3, 0, 0, 0, 0), (48, .aload_n 0, 0, 0, 0, 0), (49, .getfield 7, 7, 0, 3, 0), (52, .sipush 212, 0, 0, 0, 0), (55, .iconst 3, 0, 0, 0, 0), (56, .iload_n 3, 0, 0, 0, 0), (57, .imul, 0, 0, 0, 0), (58, .iadd, 0, 0, 0, 0), (59, .iload_n 1, 0, 0, 0, 0), (60, .iastore, 0, 0, 0, 0), (61, .aload_n 0, 0, 0, 0, 0), (62, .getfield 7, 7, 0, 3, 0), (65, .sipush 212, 0, 0, 0, 0), (68, .iconst 3, 0, 0, 0, 0), (69, .iload_n 3, 0, 0, 0, 0), (70, .imul, 0, 0, 0, 0), (71, .iadd, 0, 0, 0, 0), (72, .iconst 1, 0, 0, 0, 0), (73, .iadd, 0, 0, 0, 0), (74, .iload_n 2, 0, 0, 0, 0), (75, .iastore, 0, 0, 0, 0), (76, .aload_n 0, 0, 0, 0, 0), (77, .getfield 7, 7, 0, 3, 0), (80, .sipush 212, 0, 0, 0, 0), (83, .iconst 3, 0, 0, 0, 0), (84, .iload_n 3, 0, 0, 0, 0), (85, .imul, 0, 0, 0, 0), (86, .iadd, 0, 0, 0, 0), (87, .iconst 2, 0, 0, 0, 0), (88, .iadd, 0, 0, 0, 0), (89, .iconst 0, 0, 0, 0, 0), (90, .iastore, 0, 0, 0, 0), (91, .aload_n 0, 0, 0, 0, 0), (92, .getfield 7, 7, 0, 3, 0), (95, .iconst 3, 0, 0, 0, 0), (96, .dup2, 0, 0, 0, 0), (97, .iaload, 0, 0, 0, 0), (98, .iconst 1, 0, 0, 0, 0), (99, .iadd, 0, 0, 0, 0), (100, .iastore, 0, 0, 0, 0), (101, .iload_n 3, 0, 0, 0, 0), (102, .ireturn, 0, 0, 0, 0)]
def bk132 : List Blk := [(0, l132_0, 6), (6, l132_6, 17), (17, l132_17, 20), (20, l132_20, 23), (23, l132_23, 37), (37, l132_37, 41), (41, l132_41, 103)]
-- NoticeShiftsModel.load
def l133_0 : List Ent := [(0, .aload_n 0, 0, 0, 0, 0), (1, .iload_n 1, 0, 0, 0, 0), (2, .invokevirtual 107, 97, 2, 1, 7)]
def l133_5 : List Ent := [(5, .ifCond .ne 5, 10, 0, 0, 0), (8, .iconst (-1), 0, 0, 0, 0), (9, .ireturn, 0, 0, 0, 0)]
def l133_10 : List Ent := [(10, .iload_n 2, 0, 0, 0, 0), (11, .ifCond .eq 14, 25, 0, 0, 0), (14, .aload_n 0, 0, 0, 0, 0), (15, .iload_n 1, 0, 0, 0, 0), (16, .invokevirtual 71, 105, 2, 1, 7)]
def l133_19 : List Ent := [(19, .ifCond .ne 6, 25, 0, 0, 0), (22, .bipush (-5), 0, 0, 0, 0), (24, .ireturn, 0, 0, 0, 0)]
def l133_25 : List Ent := [(25, .aload_n 0, 0, 0, 0, 0), (26, .invokevirtual 41, 106, 1, 0, 7)]
def l133_29 : List Ent := [(29, .aload_n 0, 0, 0, 0, 0), (30, .iload_n 1, 0, 0, 0, 0), (31, .invokevirtual 75, 111, 2, 0, 7)]
def l133_34 : List Ent := [(34, .iconst 0, 0, 0, 0, 0), (35, .istore_n 3, 0, 0, 0, 0)]
def l133_36 : List Ent := [(36, .iload_n 3, 0, 0, 0, 0), (37, .bipush 121, 0, 0, 0, 0), (39, .if_icmp .ge 38, 77, 0, 0, 0), (42, .aload_n 0, 0, 0, 0, 0), (43, .getfield 7, 7, 0, 3, 0), (46, .sipush 230, 0, 0, 0, 0), (49, .bipush 121, 0, 0, 0, 0), (51, .iload_n 1, 0, 0, 0, 0), (52, .imul, 0, 0, 0, 0), (53, .iadd, 0, 0, 0, 0), (54, .iload_n 3, 0, 0, 0, 0), (55, .iadd, 0, 0, 0, 0), (56, .iload_n 2, 0, 0, 0, 0), (57, .ifCond .eq 7, 64, 0, 0, 0), (60, .iconst 0, 0, 0, 0, 0), (61, .goto 9, 70, 0, 0, 0)]
def l133_64 : List Ent := [(64, .aload_n 0, 0, 0, 0, 0), (65, .getfield 27, 7, 7, 8, 0), (68, .iload_n 3, 0, 0, 0, 0), (69, .iaload, 0, 0, 0, 0)]
def l133_70 : List Ent := [(70, .iastore, 0, 0, 0, 0), (71, .iinc 3 1, 0, 0, 0, 0), (74, .goto (-38), 36, 0, 0, 0)]
def l133_77 : List Ent := [(77, .aload_n 0, 0, 0, 0, 0), (78, .getfield 7, 7, 0, 3, 0), (81, .sipush 212, 0, 0, 0, 0), (84, .iconst 3, 0, 0, 0, 0), (85, .iload_n 1, 0, 0, 0, 0), (86, .imul, 0, 0, 0, 0), (87, .iadd, 0, 0, 0, 0), (88, .iconst 2, 0, 0, 0, 0), (89, .iadd, 0, 0, 0, 0), (90, .iload_n 2, 0, 0, 0, 0), (91, .ifCond .eq 7, 98, 0, 0, 0), (94, .iconst 0, 0, 0, 0, 0), (95, .goto 4, 99, 0, 0, 0)]
def l133_98 : List Ent := [(98, .iconst 1, 0, 0, 0, 0)]
def l133_99 : List Ent := [(99, .iastore, 0, 0, 0, 0), (100, .aload_n 0, 0, 0, 0, 0), (101, .iconst 1, 0, 0, 0, 0), (102, .invokevirtual 110, 114, 2, 1, 7)]
def l133_105 : List Ent := [(105, .ireturn, 0, 0, 0, 0)]
def bk133 : List Blk := [(0, l133_0, 5), (5, l133_5, 10), (10, l133_10, 19), (19, l133_19, 25), (25, l133_25, 29), (29, l133_29, 34), (34, l133_34, 36), (36, l133_36, 64), (64, l133_64, 70), (70, l133_70, 77), (77, l133_77, 98), (98, l133_98, 99), (99, l133_99, 105), (105, l133_105, 106)]
-- NoticeShiftsModel.timeOf
def l134_0 : List Ent := [(0, .iconst 0, 0, 0, 0, 0), (1, .istore_n 2, 0, 0, 0, 0), (2, .iconst 0, 0, 0, 0, 0), (3, .istore_n 3, 0, 0, 0, 0)]
def l134_4 : List Ent := [(4, .iload_n 3, 0, 0, 0, 0), (5, .iload_n 1, 0, 0, 0, 0), (6, .if_icmp .ge 18, 24, 0, 0, 0), (9, .iload_n 2, 0, 0, 0, 0), (10, .aload_n 0, 0, 0, 0, 0), (11, .iload_n 3, 0, 0, 0, 0), (12, .iconst 1, 0, 0, 0, 0), (13, .invokevirtual 61, 98, 3, 1, 7)]
def l134_16 : List Ent := [(16, .iadd, 0, 0, 0, 0), (17, .istore_n 2, 0, 0, 0, 0), (18, .iinc 3 1, 0, 0, 0, 0), (21, .goto (-17), 4, 0, 0, 0)]
def l134_24 : List Ent := [(24, .iload_n 2, 0, 0, 0, 0), (25, .ireturn, 0, 0, 0, 0)]
def bk134 : List Blk := [(0, l134_0, 4), (4, l134_4, 16), (16, l134_16, 24), (24, l134_24, 26)]
-- NoticeShiftsModel.chapterOf
def l135_0 : List Ent := [(0, .iconst (-1), 0, 0, 0, 0), (1, .istore_n 2, 0, 0, 0, 0), (2, .iconst 0, 0, 0, 0, 0), (3, .istore_n 3, 0, 0, 0, 0)]
def l135_4 : List Ent := [(4, .iload_n 3, 0, 0, 0, 0), (5, .iload_n 1, 0, 0, 0, 0), (6, .if_icmp .gt 18, 24, 0, 0, 0), (9, .iload_n 2, 0, 0, 0, 0), (10, .aload_n 0, 0, 0, 0, 0), (11, .iload_n 3, 0, 0, 0, 0), (12, .iconst 2, 0, 0, 0, 0), (13, .invokevirtual 61, 98, 3, 1, 7)]
def l135_16 : List Ent := [(16, .iadd, 0, 0, 0, 0), (17, .istore_n 2, 0, 0, 0, 0), (18, .iinc 3 1, 0, 0, 0, 0), (21, .goto (-17), 4, 0, 0, 0)]
def l135_24 : List Ent := [(24, .iload_n 2, 0, 0, 0, 0), (25, .ireturn, 0, 0, 0, 0)]
def bk135 : List Blk := [(0, l135_0, 4), (4, l135_4, 16), (16, l135_16, 24), (24, l135_24, 26)]
-- NoticeShiftsModel.sentence
def l136_0 : List Ent := [(0, .aload_n 0, 0, 0, 0, 0), (1, .iload_n 1, 0, 0, 0, 0), (2, .invokevirtual 88, 95, 2, 1, 7)]
def l136_5 : List Ent := [(5, .ifCond .ne 5, 10, 0, 0, 0), (8, .iconst (-1), 0, 0, 0, 0), (9, .ireturn, 0, 0, 0, 0)]
def l136_10 : List Ent := [(10, .iload_n 2, 0, 0, 0, 0), (11, .tableswitch 69 0 5 #[37, 37, 44, 50, 56, 63], 0, 0, 0, 0)]
def l136_48 : List Ent := [(48, .aload_n 0, 0, 0, 0, 0), (49, .iload_n 1, 0, 0, 0, 0), (50, .iload_n 2, 0, 0, 0, 0), (51, .invokevirtual 61, 98, 3, 1, 7)]
def l136_54 : List Ent := [(54, .ireturn, 0, 0, 0, 0)]
def l136_55 : List Ent := [(55, .aload_n 0, 0, 0, 0, 0), (56, .iload_n 1, 0, 0, 0, 0), (57, .invokevirtual 114, 134, 2, 1, 7)]
def l136_60 : List Ent := [(60, .ireturn, 0, 0, 0, 0)]
def l136_61 : List Ent := [(61, .aload_n 0, 0, 0, 0, 0), (62, .iload_n 1, 0, 0, 0, 0), (63, .invokevirtual 117, 135, 2, 1, 7)]
def l136_66 : List Ent := [(66, .ireturn, 0, 0, 0, 0)]
def l136_67 : List Ent := [(67, .aload_n 0, 0, 0, 0, 0), (68, .iload_n 1, 0, 0, 0, 0), (69, .iconst 2, 0, 0, 0, 0), (70, .invokevirtual 61, 98, 3, 1, 7)]
def l136_73 : List Ent := [(73, .ireturn, 0, 0, 0, 0)]
def l136_74 : List Ent := [(74, .aload_n 0, 0, 0, 0, 0), (75, .iload_n 1, 0, 0, 0, 0), (76, .invokevirtual 44, 99, 2, 1, 7)]
def l136_79 : List Ent := [(79, .ireturn, 0, 0, 0, 0)]
def l136_80 : List Ent := [(80, .bipush (-2), 0, 0, 0, 0), (82, .ireturn, 0, 0, 0, 0)]
def bk136 : List Blk := [(0, l136_0, 5), (5, l136_5, 10), (10, l136_10, 48), (48, l136_48, 54), (54, l136_54, 55), (55, l136_55, 60), (60, l136_60, 61), (61, l136_61, 66), (66, l136_66, 67), (67, l136_67, 73), (73, l136_73, 74), (74, l136_74, 79), (79, l136_79, 80), (80, l136_80, 83)]
-- NoticeShiftsModel.marked
def l137_0 : List Ent := [(0, .iconst 0, 0, 0, 0, 0), (1, .istore_n 2, 0, 0, 0, 0)]
def l137_2 : List Ent := [(2, .iload_n 2, 0, 0, 0, 0), (3, .aload_n 0, 0, 0, 0, 0), (4, .getfield 7, 7, 0, 3, 0), (7, .iconst 0, 0, 0, 0, 0), (8, .iaload, 0, 0, 0, 0), (9, .if_icmp .ge 21, 30, 0, 0, 0), (12, .aload_n 0, 0, 0, 0, 0), (13, .iload_n 2, 0, 0, 0, 0), (14, .iconst 0, 0, 0, 0, 0), (15, .invokevirtual 61, 98, 3, 1, 7)]
def l137_18 : List Ent := [(18, .iload_n 1, 0, 0, 0, 0), (19, .if_icmp .ne 5, 24, 0, 0, 0), (22, .iload_n 2, 0, 0, 0, 0), (23, .ireturn, 0, 0, 0, 0)]
def l137_24 : List Ent := [(24, .iinc 2 1, 0, 0, 0, 0), (27, .goto (-25), 2, 0, 0, 0)]
def l137_30 : List Ent := [(30, .iconst (-1), 0, 0, 0, 0), (31, .ireturn, 0, 0, 0, 0)]
def bk137 : List Blk := [(0, l137_0, 2), (2, l137_2, 18), (18, l137_18, 24), (24, l137_24, 30), (30, l137_30, 32)]
-- NoticeShiftsModel.booked
def l138_0 : List Ent := [(0, .aload_n 0, 0, 0, 0, 0), (1, .iload_n 1, 0, 0, 0, 0), (2, .invokevirtual 88, 95, 2, 1, 7)]
def l138_5 : List Ent := [(5, .ifCond .eq 27, 32, 0, 0, 0), (8, .iload_n 2, 0, 0, 0, 0), (9, .iconst 0, 0, 0, 0, 0), (10, .aload_n 0, 0, 0, 0, 0), (11, .iload_n 1, 0, 0, 0, 0), (12, .invokevirtual 44, 99, 2, 1, 7)]
def l138_15 : List Ent := [(15, .iconst 1, 0, 0, 0, 0), (16, .isub, 0, 0, 0, 0), (17, .invokestatic 37, 94, 3, 1, 0)]
def l138_20 : List Ent := [(20, .ifCond .eq 12, 32, 0, 0, 0), (23, .aload_n 0, 0, 0, 0, 0), (24, .iload_n 1, 0, 0, 0, 0), (25, .iload_n 2, 0, 0, 0, 0), (26, .invokevirtual 48, 100, 3, 1, 7)]
def l138_29 : List Ent := [(29, .goto 4, 33, 0, 0, 0)]
def l138_32 : List Ent := [(32, .iconst (-1), 0, 0, 0, 0)]
def l138_33 : List Ent := [(33, .ireturn, 0, 0, 0, 0)]
def bk138 : List Blk := [(0, l138_0, 5), (5, l138_5, 15), (15, l138_15, 20), (20, l138_20, 29), (29, l138_29, 32), (32, l138_32, 33), (33, l138_33, 34)]
-- NoticeShiftsModel.breaksWith
def l139_0 : List Ent := [(0, .iconst 0, 0, 0, 0, 0), (1, .istore_n 2, 0, 0, 0, 0), (2, .iconst 0, 0, 0, 0, 0), (3, .istore_n 3, 0, 0, 0, 0)]
def l139_4 : List Ent := [(4, .iload_n 3, 0, 0, 0, 0), (5, .aload_n 0, 0, 0, 0, 0), (6, .getfield 7, 7, 0, 3, 0), (9, .iconst 0, 0, 0, 0, 0), (10, .iaload, 0, 0, 0, 0), (11, .if_icmp .ge 67, 78, 0, 0, 0), (14, .iconst 0, 0, 0, 0, 0), (15, .istore 4, 0, 0, 0, 0), (17, .iconst 0, 0, 0, 0, 0), (18, .istore 5, 0, 0, 0, 0)]
def l139_20 : List Ent := [(20, .iload 5, 0, 0, 0, 0), (22, .aload_n 0, 0, 0, 0, 0), (23, .iload_n 3, 0, 0, 0, 0), (24, .invokevirtual 44, 99, 2, 1, 7)]
def l139_27 : List Ent := [(27, .if_icmp .ge 32, 59, 0, 0, 0), (30, .iload 4, 0, 0, 0, 0), (32, .ifCond .ne 14, 46, 0, 0, 0), (35, .aload_n 0, 0, 0, 0, 0), (36, .iload_n 3, 0, 0, 0, 0), (37, .iload 5, 0, 0, 0, 0), (39, .invokevirtual 48, 100, 3, 1, 7)]
def l139_42 : List Ent := [(42, .iload_n 1, 0, 0, 0, 0), (43, .if_icmp .ne 7, 50, 0, 0, 0)]
def l139_46 : List Ent := [(46, .iconst 1, 0, 0, 0, 0), (47, .goto 4, 51, 0, 0, 0)]
def l139_50 : List Ent := [(50, .iconst 0, 0, 0, 0, 0)]
def l139_51 : List Ent := [(51, .istore 4, 0, 0, 0, 0), (53, .iinc 5 1, 0, 0, 0, 0), (56, .goto (-36), 20, 0, 0, 0)]
def l139_59 : List Ent := [(59, .iload_n 2, 0, 0, 0, 0), (60, .iload 4, 0, 0, 0, 0), (62, .ifCond .eq 7, 69, 0, 0, 0), (65, .iconst 1, 0, 0, 0, 0), (66, .goto 4, 70, 0, 0, 0)]
def l139_69 : List Ent := [(69, .iconst 0, 0, 0, 0, 0)]
def l139_70 : List Ent := [(70, .iadd, 0, 0, 0, 0), (71, .istore_n 2, 0, 0, 0, 0), (72, .iinc 3 1, 0, 0, 0, 0), (75, .goto (-71), 4, 0, 0, 0)]
def l139_78 : List Ent := [(78, .iload_n 2, 0, 0, 0, 0), (79, .ireturn, 0, 0, 0, 0)]
def bk139 : List Blk := [(0, l139_0, 4), (4, l139_4, 20), (20, l139_20, 27), (27, l139_27, 42), (42, l139_42, 46), (46, l139_46, 50), (50, l139_50, 51), (51, l139_51, 59), (59, l139_59, 69), (69, l139_69, 70), (70, l139_70, 78), (78, l139_78, 80)]
-- NoticeShiftsModel.hearers
def l140_0 : List Ent := [(0, .iconst 0, 0, 0, 0, 0), (1, .istore_n 2, 0, 0, 0, 0), (2, .iconst 0, 0, 0, 0, 0), (3, .istore_n 3, 0, 0, 0, 0)]
def l140_4 : List Ent := [(4, .iload_n 3, 0, 0, 0, 0), (5, .aload_n 0, 0, 0, 0, 0), (6, .getfield 7, 7, 0, 3, 0), (9, .iconst 3, 0, 0, 0, 0), (10, .iaload, 0, 0, 0, 0), (11, .if_icmp .ge 30, 41, 0, 0, 0), (14, .aload_n 0, 0, 0, 0, 0), (15, .iload_n 3, 0, 0, 0, 0), (16, .invokevirtual 75, 111, 2, 0, 7)]
def l140_19 : List Ent := [(19, .iload_n 2, 0, 0, 0, 0), (20, .aload_n 0, 0, 0, 0, 0), (21, .iload_n 1, 0, 0, 0, 0), (22, .invokevirtual 120, 116, 2, 1, 7)]
def l140_25 : List Ent := [(25, .ifCond .eq 7, 32, 0, 0, 0), (28, .iconst 1, 0, 0, 0, 0), (29, .goto 4, 33, 0, 0, 0)]
def l140_32 : List Ent := [(32, .iconst 0, 0, 0, 0, 0)]
def l140_33 : List Ent := [(33, .iadd, 0, 0, 0, 0), (34, .istore_n 2, 0, 0, 0, 0), (35, .iinc 3 1, 0, 0, 0, 0), (38, .goto (-34), 4, 0, 0, 0)]
def l140_41 : List Ent := [(41, .iload_n 2, 0, 0, 0, 0), (42, .ireturn, 0, 0, 0, 0)]
def bk140 : List Blk := [(0, l140_0, 4), (4, l140_4, 19), (19, l140_19, 25), (25, l140_25, 32), (32, l140_32, 33), (33, l140_33, 41), (41, l140_41, 43)]
-- NoticeShiftsModel.ofNotice
def l141_0 : List Ent := [(0, .aload_n 0, 0, 0, 0, 0), (1, .iload_n 1, 0, 0, 0, 0), (2, .invokevirtual 95, 96, 2, 1, 7)]
def l141_5 : List Ent := [(5, .ifCond .ne 5, 10, 0, 0, 0), (8, .iconst (-1), 0, 0, 0, 0), (9, .ireturn, 0, 0, 0, 0)]
def l141_10 : List Ent := [(10, .iload_n 2, 0, 0, 0, 0), (11, .tableswitch 53 0 3 #[29, 35, 41, 47], 0, 0, 0, 0)]
def l141_40 : List Ent := [(40, .aload_n 0, 0, 0, 0, 0), (41, .iload_n 1, 0, 0, 0, 0), (42, .invokevirtual 58, 101, 2, 1, 7)]
def l141_45 : List Ent := [(45, .ireturn, 0, 0, 0, 0)]
def l141_46 : List Ent := [(46, .aload_n 0, 0, 0, 0, 0), (47, .iload_n 1, 0, 0, 0, 0), (48, .invokevirtual 52, 102, 2, 1, 7)]
def l141_51 : List Ent := [(51, .ireturn, 0, 0, 0, 0)]
def l141_52 : List Ent := [(52, .aload_n 0, 0, 0, 0, 0), (53, .iload_n 1, 0, 0, 0, 0), (54, .invokevirtual 123, 139, 2, 1, 7)]
def l141_57 : List Ent := [(57, .ireturn, 0, 0, 0, 0)]
def l141_58 : List Ent := [(58, .aload_n 0, 0, 0, 0, 0), (59, .iload_n 1, 0, 0, 0, 0), (60, .invokevirtual 126, 140, 2, 1, 7)]
def l141_63 : List Ent := [(63, .ireturn, 0, 0, 0, 0)]
def l141_64 : List Ent := [(64, .bipush (-2), 0, 0, 0, 0), (66, .ireturn, 0, 0, 0, 0)]
def bk141 : List Blk := [(0, l141_0, 5), (5, l141_5, 10), (10, l141_10, 40), (40, l141_40, 45), (45, l141_45, 46), (46, l141_46, 51), (51, l141_51, 52), (52, l141_52, 57), (57, l141_57, 58), (58, l141_58, 63), (63, l141_63, 64), (64, l141_64, 67)]
-- NoticeShiftsModel.of
def l142_0 : List Ent := [(0, .aload_n 0, 0, 0, 0, 0), (1, .iload_n 1, 0, 0, 0, 0), (2, .invokevirtual 107, 97, 2, 1, 7)]
def l142_5 : List Ent := [(5, .ifCond .ne 5, 10, 0, 0, 0), (8, .iconst (-1), 0, 0, 0, 0), (9, .ireturn, 0, 0, 0, 0)]
def l142_10 : List Ent := [(10, .iload_n 2, 0, 0, 0, 0), (11, .iconst 3, 0, 0, 0, 0), (12, .if_icmp .ne 17, 29, 0, 0, 0), (15, .aload_n 0, 0, 0, 0, 0), (16, .iload_n 1, 0, 0, 0, 0), (17, .invokevirtual 129, 113, 2, 1, 7)]
def l142_20 : List Ent := [(20, .ifCond .eq 7, 27, 0, 0, 0), (23, .iconst 1, 0, 0, 0, 0), (24, .goto 4, 28, 0, 0, 0)]
def l142_27 : List Ent := [(27, .iconst 0, 0, 0, 0, 0)]
def l142_28 : List Ent := [(28, .ireturn, 0, 0, 0, 0)]
def l142_29 : List Ent := [(29, .aload_n 0, 0, 0, 0, 0), (30, .iload_n 1, 0, 0, 0, 0), (31, .invokevirtual 132, 112, 2, 0, 7)]
def l142_34 : List Ent := [(34, .iload_n 2, 0, 0, 0, 0), (35, .tableswitch 95 0 7 #[45, 51, 57, 95, 71, 77, 82, 88], 0, 0, 0, 0)]
def l142_80 : List Ent := [(80, .aload_n 0, 0, 0, 0, 0), (81, .iload_n 1, 0, 0, 0, 0), (82, .invokevirtual 55, 103, 2, 1, 7)]
def l142_85 : List Ent := [(85, .ireturn, 0, 0, 0, 0)]
def l142_86 : List Ent := [(86, .aload_n 0, 0, 0, 0, 0), (87, .iload_n 1, 0, 0, 0, 0), (88, .invokevirtual 64, 104, 2, 1, 7)]
def l142_91 : List Ent := [(91, .ireturn, 0, 0, 0, 0)]
def l142_92 : List Ent := [(92, .aload_n 0, 0, 0, 0, 0), (93, .iload_n 1, 0, 0, 0, 0), (94, .invokevirtual 71, 105, 2, 1, 7)]
def l142_97 : List Ent := [(97, .ifCond .eq 7, 104, 0, 0, 0), (100, .iconst 1, 0, 0, 0, 0), (101, .goto 4, 105, 0, 0, 0)]
def l142_104 : List Ent := [(104, .iconst 0, 0, 0, 0, 0)]
def l142_105 : List Ent := [(105, .ireturn, 0, 0, 0, 0)]
def l142_106 : List Ent := [(106, .aload_n 0, 0, 0, 0, 0), (107, .iconst 1, 0, 0, 0, 0), (108, .invokevirtual 110, 114, 2, 1, 7)]
def l142_111 : List Ent := [(111, .ireturn, 0, 0, 0, 0)]
def l142_112 : List Ent := [(112, .aload_n 0, 0, 0, 0, 0), (113, .invokevirtual 135, 115, 1, 1, 7)]
def l142_116 : List Ent := [(116, .ireturn, 0, 0, 0, 0)]
def l142_117 : List Ent := [(117, .aload_n 0, 0, 0, 0, 0), (118, .iconst 0, 0, 0, 0, 0), (119, .invokevirtual 110, 114, 2, 1, 7)]
def l142_122 : List Ent := [(122, .ireturn, 0, 0, 0, 0)]
def l142_123 : List Ent := [(123, .aload_n 0, 0, 0, 0, 0), (124, .getfield 27, 7, 7, 8, 0), (127, .iconst 0, 0, 0, 0, 0), (128, .iaload, 0, 0, 0, 0), (129, .ireturn, 0, 0, 0, 0)]
def l142_130 : List Ent := [(130, .bipush (-2), 0, 0, 0, 0), (132, .ireturn, 0, 0, 0, 0)]
def bk142 : List Blk := [(0, l142_0, 5), (5, l142_5, 10), (10, l142_10, 20), (20, l142_20, 27), (27, l142_27, 28), (28, l142_28, 29), (29, l142_29, 34), (34, l142_34, 80), (80, l142_80, 85), (85, l142_85, 86), (86, l142_86, 91), (91, l142_91, 92), (92, l142_92, 97), (97, l142_97, 104), (104, l142_104, 105), (105, l142_105, 106), (106, l142_106, 111), (111, l142_111, 112), (112, l142_112, 116), (116, l142_116, 117), (117, l142_117, 122), (122, l142_122, 123), (123, l142_123, 130), (130, l142_130, 133)]
-- NoticeShiftsModel.oldOnes
def l143_0 : List Ent := [(0, .iconst 0, 0, 0, 0, 0), (1, .istore_n 1, 0, 0, 0, 0), (2, .iconst 0, 0, 0, 0, 0), (3, .istore_n 2, 0, 0, 0, 0)]
def l143_4 : List Ent := [(4, .iload_n 2, 0, 0, 0, 0), (5, .aload_n 0, 0, 0, 0, 0), (6, .getfield 7, 7, 0, 3, 0), (9, .iconst 3, 0, 0, 0, 0), (10, .iaload, 0, 0, 0, 0), (11, .if_icmp .ge 27, 38, 0, 0, 0), (14, .iload_n 1, 0, 0, 0, 0), (15, .aload_n 0, 0, 0, 0, 0), (16, .iload_n 2, 0, 0, 0, 0), (17, .invokevirtual 129, 113, 2, 1, 7)]
def l143_20 : List Ent := [(20, .ifCond .eq 9, 29, 0, 0, 0), (23, .iconst 1, 0, 0, 0, 0), (24, .iload_n 2, 0, 0, 0, 0), (25, .ishl, 0, 0, 0, 0), (26, .goto 4, 30, 0, 0, 0)]
def l143_29 : List Ent := [(29, .iconst 0, 0, 0, 0, 0)]
def l143_30 : List Ent := [(30, .ior, 0, 0, 0, 0), (31, .istore_n 1, 0, 0, 0, 0), (32, .iinc 2 1, 0, 0, 0, 0), (35, .goto (-31), 4, 0, 0, 0)]
def l143_38 : List Ent := [(38, .iload_n 1, 0, 0, 0, 0), (39, .ireturn, 0, 0, 0, 0)]
def bk143 : List Blk := [(0, l143_0, 4), (4, l143_4, 20), (20, l143_20, 29), (29, l143_29, 30), (30, l143_30, 38), (38, l143_38, 40)]
-- NoticeShiftsModel.longest
def l144_0 : List Ent := [(0, .bipush (-6), 0, 0, 0, 0), (2, .istore_n 1, 0, 0, 0, 0), (3, .bipush (-6), 0, 0, 0, 0), (5, .istore_n 2, 0, 0, 0, 0), (6, .iconst 0, 0, 0, 0, 0), (7, .istore_n 3, 0, 0, 0, 0)]
def l144_8 : List Ent := [(8, .iload_n 3, 0, 0, 0, 0), (9, .aload_n 0, 0, 0, 0, 0), (10, .getfield 7, 7, 0, 3, 0), (13, .iconst 3, 0, 0, 0, 0), (14, .iaload, 0, 0, 0, 0), (15, .if_icmp .ge 46, 61, 0, 0, 0), (18, .aload_n 0, 0, 0, 0, 0), (19, .iload_n 3, 0, 0, 0, 0), (20, .invokevirtual 132, 112, 2, 0, 7)]
def l144_23 : List Ent := [(23, .aload_n 0, 0, 0, 0, 0), (24, .iconst 1, 0, 0, 0, 0), (25, .invokevirtual 110, 114, 2, 1, 7)]
def l144_28 : List Ent := [(28, .istore 4, 0, 0, 0, 0), (30, .iload 4, 0, 0, 0, 0), (32, .iload_n 2, 0, 0, 0, 0), (33, .if_icmp .le 7, 40, 0, 0, 0), (36, .iload_n 3, 0, 0, 0, 0), (37, .goto 4, 41, 0, 0, 0)]
def l144_40 : List Ent := [(40, .iload_n 1, 0, 0, 0, 0)]
def l144_41 : List Ent := [(41, .istore_n 1, 0, 0, 0, 0), (42, .iload 4, 0, 0, 0, 0), (44, .iload_n 2, 0, 0, 0, 0), (45, .if_icmp .le 8, 53, 0, 0, 0), (48, .iload 4, 0, 0, 0, 0), (50, .goto 4, 54, 0, 0, 0)]
def l144_53 : List Ent := [(53, .iload_n 2, 0, 0, 0, 0)]
def l144_54 : List Ent := [(54, .istore_n 2, 0, 0, 0, 0), (55, .iinc 3 1, 0, 0, 0, 0), (58, .goto (-50), 8, 0, 0, 0)]
def l144_61 : List Ent := [(61, .iload_n 1, 0, 0, 0, 0), (62, .ireturn, 0, 0, 0, 0)]
def bk144 : List Blk := [(0, l144_0, 8), (8, l144_8, 23), (23, l144_23, 28), (28, l144_28, 40), (40, l144_40, 41), (41, l144_41, 53), (53, l144_53, 54), (54, l144_54, 61), (61, l144_61, 63)]
-- NoticeShiftsModel.count
def l145_0 : List Ent := [(0, .iload_n 1, 0, 0, 0, 0), (1, .tableswitch 108 0 8 #[51, 58, 69, 74, 81, 88, 93, 98, 103], 0, 0, 0, 0)]
def l145_52 : List Ent := [(52, .aload_n 0, 0, 0, 0, 0), (53, .getfield 7, 7, 0, 3, 0), (56, .iconst 0, 0, 0, 0, 0), (57, .iaload, 0, 0, 0, 0), (58, .ireturn, 0, 0, 0, 0)]
def l145_59 : List Ent := [(59, .aload_n 0, 0, 0, 0, 0), (60, .aload_n 0, 0, 0, 0, 0), (61, .getfield 7, 7, 0, 3, 0), (64, .iconst 0, 0, 0, 0, 0), (65, .iaload, 0, 0, 0, 0), (66, .invokevirtual 114, 134, 2, 1, 7)]
def l145_69 : List Ent := [(69, .ireturn, 0, 0, 0, 0)]
def l145_70 : List Ent := [(70, .aload_n 0, 0, 0, 0, 0), (71, .invokevirtual 91, 123, 1, 1, 7)]
def l145_74 : List Ent := [(74, .ireturn, 0, 0, 0, 0)]
def l145_75 : List Ent := [(75, .aload_n 0, 0, 0, 0, 0), (76, .getfield 7, 7, 0, 3, 0), (79, .iconst 2, 0, 0, 0, 0), (80, .iaload, 0, 0, 0, 0), (81, .ireturn, 0, 0, 0, 0)]
def l145_82 : List Ent := [(82, .aload_n 0, 0, 0, 0, 0), (83, .getfield 7, 7, 0, 3, 0), (86, .iconst 3, 0, 0, 0, 0), (87, .iaload, 0, 0, 0, 0), (88, .ireturn, 0, 0, 0, 0)]
def l145_89 : List Ent := [(89, .aload_n 0, 0, 0, 0, 0), (90, .invokevirtual 138, 143, 1, 1, 7)]
def l145_93 : List Ent := [(93, .ireturn, 0, 0, 0, 0)]
def l145_94 : List Ent := [(94, .aload_n 0, 0, 0, 0, 0), (95, .invokevirtual 141, 144, 1, 1, 7)]
def l145_98 : List Ent := [(98, .ireturn, 0, 0, 0, 0)]
def l145_99 : List Ent := [(99, .aload_n 0, 0, 0, 0, 0), (100, .getfield 144, 7, 6, 0, 0), (103, .ireturn, 0, 0, 0, 0)]
def l145_104 : List Ent := [(104, .aload_n 0, 0, 0, 0, 0), (105, .getfield 33, 7, 4, 0, 0), (108, .ireturn, 0, 0, 0, 0)]
def l145_109 : List Ent := [(109, .bipush (-2), 0, 0, 0, 0), (111, .ireturn, 0, 0, 0, 0)]
def bk145 : List Blk := [(0, l145_0, 52), (52, l145_52, 59), (59, l145_59, 69), (69, l145_69, 70), (70, l145_70, 74), (74, l145_74, 75), (75, l145_75, 82), (82, l145_82, 89), (89, l145_89, 93), (93, l145_93, 94), (94, l145_94, 98), (98, l145_98, 99), (99, l145_99, 104), (104, l145_104, 109), (109, l145_109, 112)]
-- NoticeShiftsModel.heard
def l146_0 : List Ent := [(0, .aload_n 0, 0, 0, 0, 0), (1, .iload_n 1, 0, 0, 0, 0), (2, .invokevirtual 107, 97, 2, 1, 7)]
def l146_5 : List Ent := [(5, .ifCond .ne 5, 10, 0, 0, 0), (8, .iconst (-1), 0, 0, 0, 0), (9, .ireturn, 0, 0, 0, 0)]
def l146_10 : List Ent := [(10, .aload_n 0, 0, 0, 0, 0), (11, .iload_n 1, 0, 0, 0, 0), (12, .invokevirtual 132, 112, 2, 0, 7)]
def l146_15 : List Ent := [(15, .iload_n 2, 0, 0, 0, 0), (16, .iconst 0, 0, 0, 0, 0), (17, .aload_n 0, 0, 0, 0, 0), (18, .getfield 27, 7, 7, 8, 0), (21, .iconst 0, 0, 0, 0, 0), (22, .iaload, 0, 0, 0, 0), (23, .iconst 1, 0, 0, 0, 0), (24, .isub, 0, 0, 0, 0), (25, .invokestatic 37, 94, 3, 1, 0)]
def l146_28 : List Ent := [(28, .ifCond .eq 16, 44, 0, 0, 0), (31, .aload_n 0, 0, 0, 0, 0), (32, .getfield 27, 7, 7, 8, 0), (35, .iconst 5, 0, 0, 0, 0), (36, .iload_n 2, 0, 0, 0, 0), (37, .imul, 0, 0, 0, 0), (38, .iconst 1, 0, 0, 0, 0), (39, .iadd, 0, 0, 0, 0), (40, .iaload, 0, 0, 0, 0), (41, .goto 4, 45, 0, 0, 0)]
def l146_44 : List Ent := [(44, .iconst (-1), 0, 0, 0, 0)]
def l146_45 : List Ent := [(45, .ireturn, 0, 0, 0, 0)]
def bk146 : List Blk := [(0, l146_0, 5), (5, l146_5, 10), (10, l146_10, 15), (15, l146_15, 28), (28, l146_28, 44), (44, l146_44, 45), (45, l146_45, 46)]
-- NoticeShiftsModel.whenHeard
def l147_0 : List Ent := [(0, .aload_n 0, 0, 0, 0, 0), (1, .iload_n 1, 0, 0, 0, 0), (2, .invokevirtual 107, 97, 2, 1, 7)]
def l147_5 : List Ent := [(5, .ifCond .ne 5, 10, 0, 0, 0), (8, .iconst (-1), 0, 0, 0, 0), (9, .ireturn, 0, 0, 0, 0)]
def l147_10 : List Ent := [(10, .iload_n 2, 0, 0, 0, 0), (11, .iconst 0, 0, 0, 0, 0), (12, .sipush 7199, 0, 0, 0, 0), (15, .invokestatic 37, 94, 3, 1, 0)]
def l147_18 : List Ent := [(18, .ifCond .ne 6, 24, 0, 0, 0), (21, .bipush (-2), 0, 0, 0, 0), (23, .ireturn, 0, 0, 0, 0)]
def l147_24 : List Ent := [(24, .aload_n 0, 0, 0, 0, 0), (25, .iload_n 1, 0, 0, 0, 0), (26, .invokevirtual 132, 112, 2, 0, 7)]
def l147_29 : List Ent := [(29, .iconst 0, 0, 0, 0, 0), (30, .istore_n 3, 0, 0, 0, 0), (31, .iconst 0, 0, 0, 0, 0), (32, .istore 4, 0, 0, 0, 0), (34, .iconst 0, 0, 0, 0, 0), (35, .istore 5, 0, 0, 0, 0)]
def l147_37 : List Ent := [(37, .iload 5, 0, 0, 0, 0), (39, .aload_n 0, 0, 0, 0, 0), (40, .getfield 27, 7, 7, 8, 0), (43, .iconst 0, 0, 0, 0, 0), (44, .iaload, 0, 0, 0, 0), (45, .if_icmp .ge 49, 94, 0, 0, 0), (48, .iload_n 3, 0, 0, 0, 0), (49, .aload_n 0, 0, 0, 0, 0), (50, .getfield 27, 7, 7, 8, 0), (53, .iconst 5, 0, 0, 0, 0), (54, .iload 5, 0, 0, 0, 0), (56, .imul, 0, 0, 0, 0), (57, .iconst 2, 0, 0, 0, 0), (58, .iadd, 0, 0, 0, 0), (59, .iaload, 0, 0, 0, 0), (60, .iadd, 0, 0, 0, 0), (61, .istore_n 3, 0, 0, 0, 0), (62, .iload 4, 0, 0, 0, 0), (64, .aload_n 0, 0, 0, 0, 0), (65, .getfield 27, 7, 7, 8, 0), (68, .iconst 5, 0, 0, 0, 0), (69, .iload 5, 0, 0, 0, 0), (71, .imul, 0, 0, 0, 0), (72, .iconst 4, 0, 0, 0, 0), (73, .iadd, 0, 0, 0, 0), (74, .iaload, 0, 0, 0, 0), (75, .iadd, 0, 0, 0, 0), (76, .istore 4, 0, 0, 0, 0), (78, .iload_n 2, 0, 0, 0, 0), (79, .iload 4, 0, 0, 0, 0), (81, .if_icmp .ge 7, 88, 0, 0, 0), (84, .iload_n 2, 0, 0, 0, 0), (85, .iload_n 3, 0, 0, 0, 0), (86, .iadd, 0, 0, 0, 0), (87, .ireturn, 0, 0, 0, 0)]
def l147_88 : List Ent := [(88, .iinc 5 1, 0, 0, 0, 0), (91, .goto (-54), 37, 0, 0, 0)]
def l147_94 : List Ent := [(94, .bipush (-6), 0, 0, 0, 0), (96, .ireturn, 0, 0, 0, 0)]
def bk147 : List Blk := [(0, l147_0, 5), (5, l147_5, 10), (10, l147_10, 18), (18, l147_18, 24), (24, l147_24, 29), (29, l147_29, 37), (37, l147_37, 88), (88, l147_88, 94), (94, l147_94, 97)]
-- NoticeShiftsModel.find
def l148_0 : List Ent := [(0, .iload_n 1, 0, 0, 0, 0), (1, .istore_n 2, 0, 0, 0, 0), (2, .aload_n 0, 0, 0, 0, 0), (3, .iconst 0, 0, 0, 0, 0), (4, .putfield 147, 7, 10, 0, 0), (7, .iconst 0, 0, 0, 0, 0), (8, .istore_n 3, 0, 0, 0, 0)]
def l148_9 : List Ent := [(9, .iload_n 3, 0, 0, 0, 0), (10, .aload_n 0, 0, 0, 0, 0), (11, .getfield 27, 7, 7, 8, 0), (14, .iconst 0, 0, 0, 0, 0), (15, .iaload, 0, 0, 0, 0), (16, .if_icmp .ge 84, 100, 0, 0, 0), (19, .aload_n 0, 0, 0, 0, 0), (20, .iload_n 3, 0, 0, 0, 0), (21, .putfield 150, 7, 8, 0, 0), (24, .aload_n 0, 0, 0, 0, 0), (25, .iload_n 2, 0, 0, 0, 0), (26, .aload_n 0, 0, 0, 0, 0), (27, .getfield 27, 7, 7, 8, 0), (30, .iconst 5, 0, 0, 0, 0), (31, .iload_n 3, 0, 0, 0, 0), (32, .imul, 0, 0, 0, 0), (33, .iconst 2, 0, 0, 0, 0), (34, .iadd, 0, 0, 0, 0), (35, .iaload, 0, 0, 0, 0), (36, .isub, 0, 0, 0, 0), (37, .putfield 153, 7, 9, 0, 0), (40, .aload_n 0, 0, 0, 0, 0), (41, .getfield 153, 7, 9, 0, 0), (44, .aload_n 0, 0, 0, 0, 0), (45, .getfield 27, 7, 7, 8, 0), (48, .iconst 5, 0, 0, 0, 0), (49, .iload_n 3, 0, 0, 0, 0), (50, .imul, 0, 0, 0, 0), (51, .iconst 4, 0, 0, 0, 0), (52, .iadd, 0, 0, 0, 0), (53, .iaload, 0, 0, 0, 0), (54, .if_icmp .ge 5, 59, 0, 0, 0), (57, .iconst 1, 0, 0, 0, 0), (58, .ireturn, 1, 0, 0, 0)]
def l148_59 : List Ent := [(59, .aload_n 0, 0, 0, 0, 0), (60, .getfield 153, 7, 9, 0, 0), (63, .aload_n 0, 0, 0, 0, 0), (64, .getfield 27, 7, 7, 8, 0), (67, .iconst 5, 0, 0, 0, 0), (68, .iload_n 3, 0, 0, 0, 0), (69, .imul, 0, 0, 0, 0), (70, .iconst 4, 0, 0, 0, 0), (71, .iadd, 0, 0, 0, 0), (72, .iaload, 0, 0, 0, 0), (73, .isub, 0, 0, 0, 0), (74, .istore_n 2, 0, 0, 0, 0), (75, .aload_n 0, 0, 0, 0, 0), (76, .dup, 0, 0, 0, 0), (77, .getfield 147, 7, 10, 0, 0), (80, .aload_n 0, 0, 0, 0, 0), (81, .getfield 27, 7, 7, 8, 0), (84, .iconst 5, 0, 0, 0, 0), (85, .iload_n 3, 0, 0, 0, 0), (86, .imul, 0, 0, 0, 0), (87, .iconst 4, 0, 0, 0, 0), (88, .iadd, 0, 0, 0, 0), (89, .iaload, 0, 0, 0, 0), (90, .iadd, 0, 0, 0, 0), (91, .putfield 147, 7, 10, 0, 0), (94, .iinc 3 1, 0, 0, 0, 0), (97, .goto (-88), 9, 0, 0, 0)]
def l148_100 : List Ent := [(100, .iconst 0, 0, 0, 0, 0), (101, .ireturn, 1, 0, 0, 0)]
def bk148 : List Blk := [(0, l148_0, 9), (9, l148_9, 59), (59, l148_59, 100), (100, l148_100, 102)]
-- NoticeShiftsModel.heardChapter
def l149_0 : List Ent := [(0, .iconst (-1), 0, 0, 0, 0), (1, .istore_n 2, 0, 0, 0, 0), (2, .iconst 0, 0, 0, 0, 0), (3, .istore_n 3, 0, 0, 0, 0)]
def l149_4 : List Ent := [(4, .iload_n 3, 0, 0, 0, 0), (5, .iload_n 1, 0, 0, 0, 0), (6, .if_icmp .gt 22, 28, 0, 0, 0), (9, .iload_n 2, 0, 0, 0, 0), (10, .aload_n 0, 0, 0, 0, 0), (11, .getfield 27, 7, 7, 8, 0), (14, .iconst 5, 0, 0, 0, 0), (15, .iload_n 3, 0, 0, 0, 0), (16, .imul, 0, 0, 0, 0), (17, .iconst 5, 0, 0, 0, 0), (18, .iadd, 0, 0, 0, 0), (19, .iaload, 0, 0, 0, 0), (20, .iadd, 0, 0, 0, 0), (21, .istore_n 2, 0, 0, 0, 0), (22, .iinc 3 1, 0, 0, 0, 0), (25, .goto (-21), 4, 0, 0, 0)]
def l149_28 : List Ent := [(28, .iload_n 2, 0, 0, 0, 0), (29, .ireturn, 0, 0, 0, 0)]
def bk149 : List Blk := [(0, l149_0, 4), (4, l149_4, 28), (28, l149_28, 30)]
-- NoticeShiftsModel.heardAt
def l150_0 : List Ent := [(0, .aload_n 0, 0, 0, 0, 0), (1, .iload_n 1, 0, 0, 0, 0), (2, .invokevirtual 107, 97, 2, 1, 7)]
def l150_5 : List Ent := [(5, .ifCond .ne 5, 10, 0, 0, 0), (8, .iconst (-1), 0, 0, 0, 0), (9, .ireturn, 0, 0, 0, 0)]
def l150_10 : List Ent := [(10, .iload_n 2, 0, 0, 0, 0), (11, .iconst 0, 0, 0, 0, 0), (12, .sipush 9999, 0, 0, 0, 0), (15, .invokestatic 37, 94, 3, 1, 0)]
def l150_18 : List Ent := [(18, .ifCond .eq 12, 30, 0, 0, 0), (21, .iload_n 3, 0, 0, 0, 0), (22, .iconst 0, 0, 0, 0, 0), (23, .iconst 3, 0, 0, 0, 0), (24, .invokestatic 37, 94, 3, 1, 0)]
def l150_27 : List Ent := [(27, .ifCond .ne 6, 33, 0, 0, 0)]
def l150_30 : List Ent := [(30, .bipush (-2), 0, 0, 0, 0), (32, .ireturn, 0, 0, 0, 0)]
def l150_33 : List Ent := [(33, .aload_n 0, 0, 0, 0, 0), (34, .iload_n 1, 0, 0, 0, 0), (35, .invokevirtual 132, 112, 2, 0, 7)]
def l150_38 : List Ent := [(38, .aload_n 0, 0, 0, 0, 0), (39, .iload_n 2, 0, 0, 0, 0), (40, .invokevirtual 156, 148, 2, 1, 7)]
def l150_43 : List Ent := [(43, .ifCond .ne 6, 49, 0, 0, 0), (46, .bipush (-5), 0, 0, 0, 0), (48, .ireturn, 0, 0, 0, 0)]
def l150_49 : List Ent := [(49, .iload_n 3, 0, 0, 0, 0), (50, .ifCond .ne 25, 75, 0, 0, 0), (53, .aload_n 0, 0, 0, 0, 0), (54, .getfield 153, 7, 9, 0, 0), (57, .ifCond .ge 8, 65, 0, 0, 0), (60, .bipush (-6), 0, 0, 0, 0), (62, .goto 12, 74, 0, 0, 0)]
def l150_65 : List Ent := [(65, .aload_n 0, 0, 0, 0, 0), (66, .getfield 147, 7, 10, 0, 0), (69, .aload_n 0, 0, 0, 0, 0), (70, .getfield 153, 7, 9, 0, 0), (73, .iadd, 0, 0, 0, 0)]
def l150_74 : List Ent := [(74, .ireturn, 0, 0, 0, 0)]
def l150_75 : List Ent := [(75, .iload_n 3, 0, 0, 0, 0), (76, .iconst 1, 0, 0, 0, 0), (77, .if_icmp .ne 31, 108, 0, 0, 0), (80, .aload_n 0, 0, 0, 0, 0), (81, .getfield 153, 7, 9, 0, 0), (84, .ifCond .ge 19, 103, 0, 0, 0), (87, .aload_n 0, 0, 0, 0, 0), (88, .getfield 27, 7, 7, 8, 0), (91, .iconst 5, 0, 0, 0, 0), (92, .aload_n 0, 0, 0, 0, 0), (93, .getfield 150, 7, 8, 0, 0), (96, .imul, 0, 0, 0, 0), (97, .iconst 1, 0, 0, 0, 0), (98, .iadd, 0, 0, 0, 0), (99, .iaload, 0, 0, 0, 0), (100, .goto 28, 128, 0, 0, 0)]
def l150_103 : List Ent := [(103, .bipush (-6), 0, 0, 0, 0), (105, .goto 23, 128, 0, 0, 0)]
def l150_108 : List Ent := [(108, .iload_n 3, 0, 0, 0, 0), (109, .iconst 2, 0, 0, 0, 0), (110, .if_icmp .ne 10, 120, 0, 0, 0), (113, .aload_n 0, 0, 0, 0, 0), (114, .getfield 150, 7, 8, 0, 0), (117, .goto 11, 128, 0, 0, 0)]
def l150_120 : List Ent := [(120, .aload_n 0, 0, 0, 0, 0), (121, .aload_n 0, 0, 0, 0, 0), (122, .getfield 150, 7, 8, 0, 0), (125, .invokevirtual 159, 149, 2, 1, 7)]
def l150_128 : List Ent := [(128, .ireturn, 0, 0, 0, 0)]
def bk150 : List Blk := [(0, l150_0, 5), (5, l150_5, 10), (10, l150_10, 18), (18, l150_18, 27), (27, l150_27, 30), (30, l150_30, 33), (33, l150_33, 38), (38, l150_38, 43), (43, l150_43, 49), (49, l150_49, 65), (65, l150_65, 74), (74, l150_74, 75), (75, l150_75, 103), (103, l150_103, 108), (108, l150_108, 120), (120, l150_120, 128), (128, l150_128, 129)]
-- NoticeShiftsModel.chapterAt
def l151_0 : List Ent := [(0, .aload_n 0, 0, 0, 0, 0), (1, .iload_n 1, 0, 0, 0, 0), (2, .invokevirtual 107, 97, 2, 1, 7)]
def l151_5 : List Ent := [(5, .ifCond .ne 5, 10, 0, 0, 0), (8, .iconst (-1), 0, 0, 0, 0), (9, .ireturn, 0, 0, 0, 0)]
def l151_10 : List Ent := [(10, .aload_n 0, 0, 0, 0, 0), (11, .iload_n 1, 0, 0, 0, 0), (12, .invokevirtual 132, 112, 2, 0, 7)]
def l151_15 : List Ent := [(15, .iconst 0, 0, 0, 0, 0), (16, .istore_n 3, 0, 0, 0, 0), (17, .iconst (-1), 0, 0, 0, 0), (18, .istore 4, 0, 0, 0, 0), (20, .iconst 0, 0, 0, 0, 0), (21, .istore 5, 0, 0, 0, 0)]
def l151_23 : List Ent := [(23, .iload 5, 0, 0, 0, 0), (25, .aload_n 0, 0, 0, 0, 0), (26, .getfield 27, 7, 7, 8, 0), (29, .iconst 0, 0, 0, 0, 0), (30, .iaload, 0, 0, 0, 0), (31, .if_icmp .ge 74, 105, 0, 0, 0), (34, .iload 4, 0, 0, 0, 0), (36, .aload_n 0, 0, 0, 0, 0), (37, .getfield 27, 7, 7, 8, 0), (40, .iconst 5, 0, 0, 0, 0), (41, .iload 5, 0, 0, 0, 0), (43, .imul, 0, 0, 0, 0), (44, .iconst 5, 0, 0, 0, 0), (45, .iadd, 0, 0, 0, 0), (46, .iaload, 0, 0, 0, 0), (47, .iadd, 0, 0, 0, 0), (48, .istore 4, 0, 0, 0, 0), (50, .aload_n 0, 0, 0, 0, 0), (51, .getfield 27, 7, 7, 8, 0), (54, .iconst 5, 0, 0, 0, 0), (55, .iload 5, 0, 0, 0, 0), (57, .imul, 0, 0, 0, 0), (58, .iconst 5, 0, 0, 0, 0), (59, .iadd, 0, 0, 0, 0), (60, .iaload, 0, 0, 0, 0), (61, .iconst 1, 0, 0, 0, 0), (62, .if_icmp .ne 11, 73, 0, 0, 0), (65, .iload 4, 0, 0, 0, 0), (67, .iload_n 2, 0, 0, 0, 0), (68, .if_icmp .ne 5, 73, 0, 0, 0), (71, .iload_n 3, 0, 0, 0, 0), (72, .ireturn, 0, 0, 0, 0)]
def l151_73 : List Ent := [(73, .iload_n 3, 0, 0, 0, 0), (74, .aload_n 0, 0, 0, 0, 0), (75, .getfield 27, 7, 7, 8, 0), (78, .iconst 5, 0, 0, 0, 0), (79, .iload 5, 0, 0, 0, 0), (81, .imul, 0, 0, 0, 0), (82, .iconst 2, 0, 0, 0, 0), (83, .iadd, 0, 0, 0, 0), (84, .iaload, 0, 0, 0, 0), (85, .aload_n 0, 0, 0, 0, 0), (86, .getfield 27, 7, 7, 8, 0), (89, .iconst 5, 0, 0, 0, 0), (90, .iload 5, 0, 0, 0, 0), (92, .imul, 0, 0, 0, 0), (93, .iconst 4, 0, 0, 0, 0), (94, .iadd, 0, 0, 0, 0), (95, .iaload, 0, 0, 0, 0), (96, .iadd, 0, 0, 0, 0), (97, .iadd, 0, 0, 0, 0), (98, .istore_n 3, 0, 0, 0, 0), (99, .iinc 5 1, 0, 0, 0, 0), (102, .goto (-79), 23, 0, 0, 0)]
def l151_105 : List Ent := [(105, .iconst (-1), 0, 0, 0, 0), (106, .ireturn, 0, 0, 0, 0)]
def bk151 : List Blk := [(0, l151_0, 5), (5, l151_5, 10), (10, l151_10, 15), (15, l151_15, 23), (23, l151_23, 73), (73, l151_73, 105), (105, l151_105, 107)]
-- NoticeShiftsModel.open
def l152_0 : List Ent := [(0, .aload_n 0, 0, 0, 0, 0), (1, .iload_n 1, 0, 0, 0, 0), (2, .invokevirtual 107, 97, 2, 1, 7)]
def l152_5 : List Ent := [(5, .ifCond .ne 5, 10, 0, 0, 0), (8, .iconst (-1), 0, 0, 0, 0), (9, .ireturn, 0, 0, 0, 0)]
def l152_10 : List Ent := [(10, .iload_n 3, 0, 0, 0, 0), (11, .iconst 0, 0, 0, 0, 0), (12, .sipush 299, 0, 0, 0, 0), (15, .invokestatic 37, 94, 3, 1, 0)]
def l152_18 : List Ent := [(18, .ifCond .ne 6, 24, 0, 0, 0), (21, .bipush (-2), 0, 0, 0, 0), (23, .ireturn, 0, 0, 0, 0)]
def l152_24 : List Ent := [(24, .aload_n 0, 0, 0, 0, 0), (25, .iload_n 1, 0, 0, 0, 0), (26, .invokevirtual 132, 112, 2, 0, 7)]
def l152_29 : List Ent := [(29, .iconst 0, 0, 0, 0, 0), (30, .istore 4, 0, 0, 0, 0), (32, .iconst 0, 0, 0, 0, 0), (33, .istore 5, 0, 0, 0, 0)]
def l152_35 : List Ent := [(35, .iload 5, 0, 0, 0, 0), (37, .aload_n 0, 0, 0, 0, 0), (38, .getfield 27, 7, 7, 8, 0), (41, .iconst 0, 0, 0, 0, 0), (42, .iaload, 0, 0, 0, 0), (43, .if_icmp .ge 81, 124, 0, 0, 0), (46, .iload 4, 0, 0, 0, 0), (48, .aload_n 0, 0, 0, 0, 0), (49, .getfield 27, 7, 7, 8, 0), (52, .iconst 5, 0, 0, 0, 0), (53, .iload 5, 0, 0, 0, 0), (55, .imul, 0, 0, 0, 0), (56, .iconst 2, 0, 0, 0, 0), (57, .iadd, 0, 0, 0, 0), (58, .iaload, 0, 0, 0, 0), (59, .iadd, 0, 0, 0, 0), (60, .istore 4, 0, 0, 0, 0), (62, .aload_n 0, 0, 0, 0, 0), (63, .getfield 27, 7, 7, 8, 0), (66, .iconst 5, 0, 0, 0, 0), (67, .iload 5, 0, 0, 0, 0), (69, .imul, 0, 0, 0, 0), (70, .iconst 3, 0, 0, 0, 0), (71, .iadd, 0, 0, 0, 0), (72, .iaload, 0, 0, 0, 0), (73, .iload_n 2, 0, 0, 0, 0), (74, .if_icmp .ne 28, 102, 0, 0, 0), (77, .iload_n 3, 0, 0, 0, 0), (78, .aload_n 0, 0, 0, 0, 0), (79, .getfield 27, 7, 7, 8, 0), (82, .iconst 5, 0, 0, 0, 0), (83, .iload 5, 0, 0, 0, 0), (85, .imul, 0, 0, 0, 0), (86, .iconst 4, 0, 0, 0, 0), (87, .iadd, 0, 0, 0, 0), (88, .iaload, 0, 0, 0, 0), (89, .if_icmp .ge 10, 99, 0, 0, 0), (92, .iload 4, 0, 0, 0, 0), (94, .iload_n 3, 0, 0, 0, 0), (95, .iadd, 0, 0, 0, 0), (96, .goto 5, 101, 0, 0, 0)]
def l152_99 : List Ent := [(99, .bipush (-5), 0, 0, 0, 0)]
def l152_101 : List Ent := [(101, .ireturn, 0, 0, 0, 0)]
def l152_102 : List Ent := [(102, .iload 4, 0, 0, 0, 0), (104, .aload_n 0, 0, 0, 0, 0), (105, .getfield 27, 7, 7, 8, 0), (108, .iconst 5, 0, 0, 0, 0), (109, .iload 5, 0, 0, 0, 0), (111, .imul, 0, 0, 0, 0), (112, .iconst 4, 0, 0, 0, 0), (113, .iadd, 0, 0, 0, 0), (114, .iaload, 0, 0, 0, 0), (115, .iadd, 0, 0, 0, 0), (116, .istore 4, 0, 0, 0, 0), (118, .iinc 5 1, 0, 0, 0, 0), (121, .goto (-86), 35, 0, 0, 0)]
def l152_124 : List Ent := [(124, .bipush (-5), 0, 0, 0, 0), (126, .ireturn, 0, 0, 0, 0)]
def bk152 : List Blk := [(0, l152_0, 5), (5, l152_5, 10), (10, l152_10, 18), (18, l152_18, 24), (24, l152_24, 29), (29, l152_29, 35), (35, l152_35, 99), (99, l152_99, 101), (101, l152_101, 102), (102, l152_102, 124), (124, l152_124, 127)]
-- NoticeShiftsModel.momentAt
def l153_0 : List Ent := [(0, .aload_n 0, 0, 0, 0, 0), (1, .iload_n 1, 0, 0, 0, 0), (2, .invokevirtual 132, 112, 2, 0, 7)]
def l153_5 : List Ent := [(5, .aload_n 0, 0, 0, 0, 0), (6, .iload_n 2, 0, 0, 0, 0), (7, .invokevirtual 156, 148, 2, 1, 7)]
def l153_10 : List Ent := [(10, .ifCond .ne 6, 16, 0, 0, 0), (13, .bipush (-5), 0, 0, 0, 0), (15, .ireturn, 0, 0, 0, 0)]
def l153_16 : List Ent := [(16, .aload_n 0, 0, 0, 0, 0), (17, .aload_n 0, 0, 0, 0, 0), (18, .getfield 27, 7, 7, 8, 0), (21, .iconst 5, 0, 0, 0, 0), (22, .aload_n 0, 0, 0, 0, 0), (23, .getfield 150, 7, 8, 0, 0), (26, .imul, 0, 0, 0, 0), (27, .iconst 3, 0, 0, 0, 0), (28, .iadd, 0, 0, 0, 0), (29, .iaload, 0, 0, 0, 0), (30, .invokevirtual 162, 137, 2, 1, 7)]
def l153_33 : List Ent := [(33, .istore_n 3, 0, 0, 0, 0), (34, .iload_n 3, 0, 0, 0, 0), (35, .ifCond .ge 8, 43, 0, 0, 0), (38, .bipush (-5), 0, 0, 0, 0), (40, .goto 24, 64, 0, 0, 0)]
def l153_43 : List Ent := [(43, .aload_n 0, 0, 0, 0, 0), (44, .iload_n 3, 0, 0, 0, 0), (45, .invokevirtual 114, 134, 2, 1, 7)]
def l153_48 : List Ent := [(48, .aload_n 0, 0, 0, 0, 0), (49, .getfield 153, 7, 9, 0, 0), (52, .ifCond .ge 7, 59, 0, 0, 0), (55, .iconst 0, 0, 0, 0, 0), (56, .goto 7, 63, 0, 0, 0)]
def l153_59 : List Ent := [(59, .aload_n 0, 0, 0, 0, 0), (60, .getfield 153, 7, 9, 0, 0)]
def l153_63 : List Ent := [(63, .iadd, 0, 0, 0, 0)]
def l153_64 : List Ent := [(64, .ireturn, 0, 0, 0, 0)]
def bk153 : List Blk := [(0, l153_0, 5), (5, l153_5, 10), (10, l153_10, 16), (16, l153_16, 33), (33, l153_33, 43), (43, l153_43, 48), (48, l153_48, 59), (59, l153_59, 63), (63, l153_63, 64), (64, l153_64, 65)]
-- NoticeShiftsModel.wrongAt
def l154_0 : List Ent := [(0, .aload_n 0, 0, 0, 0, 0), (1, .iload_n 1, 0, 0, 0, 0), (2, .invokevirtual 107, 97, 2, 1, 7)]
def l154_5 : List Ent := [(5, .ifCond .eq 11, 16, 0, 0, 0), (8, .aload_n 0, 0, 0, 0, 0), (9, .iload_n 2, 0, 0, 0, 0), (10, .invokevirtual 107, 97, 2, 1, 7)]
def l154_13 : List Ent := [(13, .ifCond .ne 5, 18, 0, 0, 0)]
def l154_16 : List Ent := [(16, .iconst (-1), 0, 0, 0, 0), (17, .ireturn, 0, 0, 0, 0)]
def l154_18 : List Ent := [(18, .iload_n 3, 0, 0, 0, 0), (19, .iconst 0, 0, 0, 0, 0), (20, .sipush 9999, 0, 0, 0, 0), (23, .invokestatic 37, 94, 3, 1, 0)]
def l154_26 : List Ent := [(26, .ifCond .ne 6, 32, 0, 0, 0), (29, .bipush (-2), 0, 0, 0, 0), (31, .ireturn, 0, 0, 0, 0)]
def l154_32 : List Ent := [(32, .aload_n 0, 0, 0, 0, 0), (33, .iload_n 1, 0, 0, 0, 0), (34, .iload_n 3, 0, 0, 0, 0), (35, .invokevirtual 165, 153, 3, 1, 7)]
def l154_38 : List Ent := [(38, .istore 4, 0, 0, 0, 0), (40, .aload_n 0, 0, 0, 0, 0), (41, .iload_n 2, 0, 0, 0, 0), (42, .iload_n 3, 0, 0, 0, 0), (43, .invokevirtual 165, 153, 3, 1, 7)]
def l154_46 : List Ent := [(46, .istore 5, 0, 0, 0, 0), (48, .iload 4, 0, 0, 0, 0), (50, .ifCond .lt 8, 58, 0, 0, 0), (53, .iload 5, 0, 0, 0, 0), (55, .ifCond .ge 6, 61, 0, 0, 0)]
def l154_58 : List Ent := [(58, .bipush (-5), 0, 0, 0, 0), (60, .ireturn, 0, 0, 0, 0)]
def l154_61 : List Ent := [(61, .iload 4, 0, 0, 0, 0), (63, .iload 5, 0, 0, 0, 0), (65, .if_icmp .ge 11, 76, 0, 0, 0), (68, .iload 5, 0, 0, 0, 0), (70, .iload 4, 0, 0, 0, 0), (72, .isub, 0, 0, 0, 0), (73, .goto 8, 81, 0, 0, 0)]
def l154_76 : List Ent := [(76, .iload 4, 0, 0, 0, 0), (78, .iload 5, 0, 0, 0, 0), (80, .isub, 0, 0, 0, 0)]
def l154_81 : List Ent := [(81, .ireturn, 0, 0, 0, 0)]
def bk154 : List Blk := [(0, l154_0, 5), (5, l154_5, 13), (13, l154_13, 16), (16, l154_16, 18), (18, l154_18, 26), (26, l154_26, 32), (32, l154_32, 38), (38, l154_38, 46), (46, l154_46, 58), (58, l154_58, 61), (61, l154_61, 76), (76, l154_76, 81), (81, l154_81, 82)]
-- NoticeShiftsModel.allSeconds
def l155_0 : List Ent := [(0, .iconst 0, 0, 0, 0, 0), (1, .istore_n 1, 0, 0, 0, 0), (2, .iconst 0, 0, 0, 0, 0), (3, .istore_n 2, 0, 0, 0, 0)]
def l155_4 : List Ent := [(4, .iload_n 2, 0, 0, 0, 0), (5, .aload_n 0, 0, 0, 0, 0), (6, .getfield 7, 7, 0, 3, 0), (9, .iconst 3, 0, 0, 0, 0), (10, .iaload, 0, 0, 0, 0), (11, .if_icmp .ge 22, 33, 0, 0, 0), (14, .aload_n 0, 0, 0, 0, 0), (15, .iload_n 2, 0, 0, 0, 0), (16, .invokevirtual 75, 111, 2, 0, 7)]
def l155_19 : List Ent := [(19, .iload_n 1, 0, 0, 0, 0), (20, .aload_n 0, 0, 0, 0, 0), (21, .iconst 1, 0, 0, 0, 0), (22, .invokevirtual 110, 114, 2, 1, 7)]
def l155_25 : List Ent := [(25, .iadd, 0, 0, 0, 0), (26, .istore_n 1, 0, 0, 0, 0), (27, .iinc 2 1, 0, 0, 0, 0), (30, .goto (-26), 4, 0, 0, 0)]
def l155_33 : List Ent := [(33, .iload_n 1, 0, 0, 0, 0), (34, .ireturn, 0, 0, 0, 0)]
def bk155 : List Blk := [(0, l155_0, 4), (4, l155_4, 19), (19, l155_19, 25), (25, l155_25, 33), (33, l155_33, 35)]
-- NoticeShiftsModel.ifBooked
def l156_0 : List Ent := [(0, .aload_n 0, 0, 0, 0, 0), (1, .iload_n 1, 0, 0, 0, 0), (2, .iload_n 2, 0, 0, 0, 0), (3, .invokevirtual 98, 128, 3, 1, 7)]
def l156_6 : List Ent := [(6, .istore_n 3, 0, 0, 0, 0), (7, .iload_n 3, 0, 0, 0, 0), (8, .ifCond .ge 5, 13, 0, 0, 0), (11, .iload_n 3, 0, 0, 0, 0), (12, .ireturn, 0, 0, 0, 0)]
def l156_13 : List Ent := [(13, .aload_n 0, 0, 0, 0, 0), (14, .invokevirtual 168, 155, 1, 1, 7)]
def l156_17 : List Ent := [(17, .istore 4, 0, 0, 0, 0), (19, .aload_n 0, 0, 0, 0, 0), (20, .iload_n 1, 0, 0, 0, 0), (21, .iload_n 2, 0, 0, 0, 0), (22, .invokevirtual 101, 126, 3, 0, 7)]
def l156_25 : List Ent := [(25, .aload_n 0, 0, 0, 0, 0), (26, .invokevirtual 168, 155, 1, 1, 7)]
def l156_29 : List Ent := [(29, .istore 5, 0, 0, 0, 0), (31, .aload_n 0, 0, 0, 0, 0), (32, .iload_n 1, 0, 0, 0, 0), (33, .invokevirtual 171, 127, 2, 0, 7)]
def l156_36 : List Ent := [(36, .iload 5, 0, 0, 0, 0), (38, .iload 4, 0, 0, 0, 0), (40, .isub, 0, 0, 0, 0), (41, .sipush 10000, 0, 0, 0, 0), (44, .iadd, 0, 0, 0, 0), (45, .ireturn, 0, 0, 0, 0)]
def bk156 : List Blk := [(0, l156_0, 6), (6, l156_6, 13), (13, l156_13, 17), (17, l156_17, 25), (25, l156_25, 29), (29, l156_29, 36), (36, l156_36, 46)]
-- NoticeShiftsModel.bestBreak
def l157_0 : List Ent := [(0, .aload_n 0, 0, 0, 0, 0), (1, .iload_n 1, 0, 0, 0, 0), (2, .invokevirtual 95, 96, 2, 1, 7)]
def l157_5 : List Ent := [(5, .ifCond .ne 5, 10, 0, 0, 0), (8, .iconst (-1), 0, 0, 0, 0), (9, .ireturn, 0, 0, 0, 0)]
def l157_10 : List Ent := [(10, .iload_n 2, 0, 0, 0, 0), (11, .iconst 0, 0, 0, 0, 0), (12, .iconst 1, 0, 0, 0, 0), (13, .invokestatic 37, 94, 3, 1, 0)]
def l157_16 : List Ent := [(16, .ifCond .ne 6, 22, 0, 0, 0), (19, .bipush (-2), 0, 0, 0, 0), (21, .ireturn, 0, 0, 0, 0)]
def l157_22 : List Ent := [(22, .bipush (-6), 0, 0, 0, 0), (24, .istore_n 3, 0, 0, 0, 0), (25, .bipush (-6), 0, 0, 0, 0), (27, .istore 4, 0, 0, 0, 0), (29, .iconst 0, 0, 0, 0, 0), (30, .istore 5, 0, 0, 0, 0)]
def l157_32 : List Ent := [(32, .iload 5, 0, 0, 0, 0), (34, .aload_n 0, 0, 0, 0, 0), (35, .getfield 7, 7, 0, 3, 0), (38, .iconst 0, 0, 0, 0, 0), (39, .iaload, 0, 0, 0, 0), (40, .if_icmp .ge 69, 109, 0, 0, 0), (43, .aload_n 0, 0, 0, 0, 0), (44, .iload 5, 0, 0, 0, 0), (46, .invokevirtual 44, 99, 2, 1, 7)]
def l157_49 : List Ent := [(49, .iconst 4, 0, 0, 0, 0), (50, .if_icmp .ge 53, 103, 0, 0, 0), (53, .aload_n 0, 0, 0, 0, 0), (54, .iload 5, 0, 0, 0, 0), (56, .iload_n 1, 0, 0, 0, 0), (57, .invokevirtual 101, 126, 3, 0, 7)]
def l157_60 : List Ent := [(60, .aload_n 0, 0, 0, 0, 0), (61, .iload_n 1, 0, 0, 0, 0), (62, .invokevirtual 126, 140, 2, 1, 7)]
def l157_65 : List Ent := [(65, .istore 6, 0, 0, 0, 0), (67, .aload_n 0, 0, 0, 0, 0), (68, .iload 5, 0, 0, 0, 0), (70, .invokevirtual 171, 127, 2, 0, 7)]
def l157_73 : List Ent := [(73, .iload 6, 0, 0, 0, 0), (75, .iload 4, 0, 0, 0, 0), (77, .if_icmp .le 8, 85, 0, 0, 0), (80, .iload 5, 0, 0, 0, 0), (82, .goto 4, 86, 0, 0, 0)]
def l157_85 : List Ent := [(85, .iload_n 3, 0, 0, 0, 0)]
def l157_86 : List Ent := [(86, .istore_n 3, 0, 0, 0, 0), (87, .iload 6, 0, 0, 0, 0), (89, .iload 4, 0, 0, 0, 0), (91, .if_icmp .le 8, 99, 0, 0, 0), (94, .iload 6, 0, 0, 0, 0), (96, .goto 5, 101, 0, 0, 0)]
def l157_99 : List Ent := [(99, .iload 4, 0, 0, 0, 0)]
def l157_101 : List Ent := [(101, .istore 4, 0, 0, 0, 0)]
def l157_103 : List Ent := [(103, .iinc 5 1, 0, 0, 0, 0), (106, .goto (-74), 32, 0, 0, 0)]
def l157_109 : List Ent := [(109, .iload_n 2, 0, 0, 0, 0), (110, .ifCond .ne 7, 117, 0, 0, 0), (113, .iload_n 3, 0, 0, 0, 0), (114, .goto 5, 119, 0, 0, 0)]
def l157_117 : List Ent := [(117, .iload 4, 0, 0, 0, 0)]
def l157_119 : List Ent := [(119, .ireturn, 0, 0, 0, 0)]
def bk157 : List Blk := [(0, l157_0, 5), (5, l157_5, 10), (10, l157_10, 16), (16, l157_16, 22), (22, l157_22, 32), (32, l157_32, 49), (49, l157_49, 60), (60, l157_60, 65), (65, l157_65, 73), (73, l157_73, 85), (85, l157_85, 86), (86, l157_86, 99), (99, l157_99, 101), (101, l157_101, 103), (103, l157_103, 109), (109, l157_109, 117), (117, l157_117, 119), (119, l157_119, 120)]
-- NoticeShiftsModel.enough
def l158_0 : List Ent := [(0, .aload_n 0, 0, 0, 0, 0), (1, .iload_n 1, 0, 0, 0, 0), (2, .invokevirtual 107, 97, 2, 1, 7)]
def l158_5 : List Ent := [(5, .ifCond .ne 5, 10, 0, 0, 0), (8, .iconst (-1), 0, 0, 0, 0), (9, .ireturn, 0, 0, 0, 0)]
def l158_10 : List Ent := [(10, .aload_n 0, 0, 0, 0, 0), (11, .iload_n 1, 0, 0, 0, 0), (12, .sipush 600, 0, 0, 0, 0), (15, .invokevirtual 67, 110, 3, 0, 7)]
def l158_18 : List Ent := [(18, .aload_n 0, 0, 0, 0, 0), (19, .invokevirtual 135, 115, 1, 1, 7)]
def l158_22 : List Ent := [(22, .istore_n 2, 0, 0, 0, 0), (23, .iconst 0, 0, 0, 0, 0), (24, .istore_n 3, 0, 0, 0, 0)]
def l158_25 : List Ent := [(25, .iload_n 3, 0, 0, 0, 0), (26, .sipush 600, 0, 0, 0, 0), (29, .if_icmp .ge 25, 54, 0, 0, 0), (32, .aload_n 0, 0, 0, 0, 0), (33, .iload_n 1, 0, 0, 0, 0), (34, .iload_n 3, 0, 0, 0, 0), (35, .invokevirtual 67, 110, 3, 0, 7)]
def l158_38 : List Ent := [(38, .aload_n 0, 0, 0, 0, 0), (39, .invokevirtual 135, 115, 1, 1, 7)]
def l158_42 : List Ent := [(42, .iload_n 2, 0, 0, 0, 0), (43, .if_icmp .ne 5, 48, 0, 0, 0), (46, .iload_n 3, 0, 0, 0, 0), (47, .ireturn, 0, 0, 0, 0)]
def l158_48 : List Ent := [(48, .iinc 3 1, 0, 0, 0, 0), (51, .goto (-26), 25, 0, 0, 0)]
def l158_54 : List Ent := [(54, .sipush 600, 0, 0, 0, 0), (57, .ireturn, 0, 0, 0, 0)]
def bk158 : List Blk := [(0, l158_0, 5), (5, l158_5, 10), (10, l158_10, 18), (18, l158_18, 22), (22, l158_22, 25), (25, l158_25, 38), (38, l158_38, 42), (42, l158_42, 48), (48, l158_48, 54), (54, l158_54, 58)]
-- NoticeShiftsModel.put
def l159_0 : List Ent := [(0, .iconst 0, 0, 0, 0, 0), (1, .istore_n 3, 0, 0, 0, 0), (2, .lload_n 1, 0, 0, 0, 0), (3, .lstore 4, 0, 0, 0, 0), (5, .iconst 1, 0, 0, 0, 0), (6, .istore 6, 0, 0, 0, 0)]
def l159_8 : List Ent := [(8, .lload 4, 0, 0, 0, 0), (10, .lconst 0, 0, 0, 0, 0), (11, .lcmp, 0, 0, 0, 0), (12, .ifCond .eq 37, 49, 0, 0, 0), (15, .iload 6, 0, 0, 0, 0), (17, .ifCond .eq 32, 49, 0, 0, 0), (20, .lload 4, 0, 0, 0, 0), (22, .ldc2_w 174, 255, 0, 0, 0), (25, .land, 0, 0, 0, 0), (26, .l2i, 0, 0, 0, 0), (27, .bipush 33, 0, 0, 0, 0), (29, .bipush 126, 0, 0, 0, 0), (31, .invokestatic 37, 94, 3, 1, 0)]
def l159_34 : List Ent := [(34, .istore 6, 0, 0, 0, 0), (36, .lload 4, 0, 0, 0, 0), (38, .bipush 8, 0, 0, 0, 0), (40, .lushr, 0, 0, 0, 0), (41, .lstore 4, 0, 0, 0, 0), (43, .iinc 3 1, 0, 0, 0, 0), (46, .goto (-38), 8, 0, 0, 0)]
def l159_49 : List Ent := [(49, .iload_n 3, 0, 0, 0, 0), (50, .ifCond .eq 8, 58, 0, 0, 0), (53, .iload 6, 0, 0, 0, 0), (55, .ifCond .ne 6, 61, 0, 0, 0)]
def l159_58 : List Ent := [(58, .bipush (-2), 0, 0, 0, 0), (60, .ireturn, 0, 0, 0, 0)]
def l159_61 : List Ent := [(61, .aload_n 0, 0, 0, 0, 0), (62, .getfield 144, 7, 6, 0, 0), (65, .iload_n 3, 0, 0, 0, 0), (66, .iadd, 0, 0, 0, 0), (67, .bipush 60, 0, 0, 0, 0), (69, .if_icmp .le 6, 75, 0, 0, 0), (72, .bipush (-4), 0, 0, 0, 0), (74, .ireturn, 0, 0, 0, 0)]
def l159_75 : List Ent := [(75, .iload_n 3, 0, 0, 0, 0), (76, .iconst 1, 0, 0, 0, 0), (77, .isub, 0, 0, 0, 0), (78, .istore 7, 0, 0, 0, 0)]
def l159_80 : List Ent := [(80, .iload 7, 0, 0, 0, 0), (82, .ifCond .lt 41, 123, 0, 0, 0), (85, .aload_n 0, 0, 0, 0, 0), (86, .getfield 23, 7, 5, 7, 0), (89, .aload_n 0, 0, 0, 0, 0), (90, .getfield 144, 7, 6, 0, 0), (93, .lload_n 1, 0, 0, 0, 0), (94, .bipush 8, 0, 0, 0, 0), (96, .iload 7, 0, 0, 0, 0), (98, .imul, 0, 0, 0, 0), (99, .lushr, 0, 0, 0, 0), (100, .ldc2_w 174, 255, 0, 0, 0), (103, .land, 0, 0, 0, 0), (104, .l2i, 0, 0, 0, 0), (105, .i2c, 0, 0, 0, 0), (106, .castore, 0, 0, 0, 0), (107, .aload_n 0, 0, 0, 0, 0), (108, .dup, 0, 0, 0, 0), (109, .getfield 144, 7, 6, 0, 0), (112, .iconst 1, 0, 0, 0, 0), (113, .iadd, 0, 0, 0, 0), (114, .putfield 144, 7, 6, 0, 0), (117, .iinc 7 (-1), 0, 0, 0, 0), (120, .goto (-40), 80, 0, 0, 0)]
def l159_123 : List Ent := [(123, .aload_n 0, 0, 0, 0, 0), (124, .getfield 144, 7, 6, 0, 0), (127, .ireturn, 0, 0, 0, 0)]
def bk159 : List Blk := [(0, l159_0, 8), (8, l159_8, 34), (34, l159_34, 49), (49, l159_49, 58), (58, l159_58, 61), (61, l159_61, 75), (75, l159_75, 80), (80, l159_80, 123), (123, l159_123, 128)]
-- NoticeShiftsModel.wipe
def l160_0 : List Ent := [(0, .aload_n 0, 0, 0, 0, 0), (1, .getfield 144, 7, 6, 0, 0), (4, .istore_n 1, 0, 0, 0, 0), (5, .aload_n 0, 0, 0, 0, 0), (6, .iconst 0, 0, 0, 0, 0), (7, .putfield 144, 7, 6, 0, 0), (10, .iload_n 1, 0, 0, 0, 0), (11, .ireturn, 0, 0, 0, 0)]
def bk160 : List Blk := [(0, l160_0, 12)]
-- NoticeShiftsModel.stands
def l161_0 : List Ent := [(0, .iconst 5, 0, 0, 0, 0), (1, .aload_n 0, 0, 0, 0, 0), (2, .getfield 176, 7, 12, 0, 0), (5, .iconst 1, 0, 0, 0, 0), (6, .isub, 0, 0, 0, 0), (7, .imul, 0, 0, 0, 0), (8, .istore_n 2, 0, 0, 0, 0), (9, .iload_n 1, 0, 0, 0, 0), (10, .bipush 47, 0, 0, 0, 0), (12, .if_icmp .ne 80, 92, 0, 0, 0), (15, .aload_n 0, 0, 0, 0, 0), (16, .getfield 179, 7, 13, 1, 0), (19, .ifCond .ne 12, 31, 0, 0, 0), (22, .aload_n 0, 0, 0, 0, 0), (23, .getfield 30, 7, 11, 9, 0), (26, .iload_n 2, 0, 0, 0, 0), (27, .iaload, 0, 0, 0, 0), (28, .ifCond .le 7, 35, 0, 0, 0)]
def l161_31 : List Ent := [(31, .iconst 1, 0, 0, 0, 0), (32, .goto 4, 36, 0, 0, 0)]
def l161_35 : List Ent := [(35, .iconst 0, 0, 0, 0, 0)]
def l161_36 : List Ent := [(36, .istore_n 3, 0, 0, 0, 0), (37, .iload_n 3, 0, 0, 0, 0), (38, .ifCond .eq 16, 54, 0, 0, 0), (41, .aload_n 0, 0, 0, 0, 0), (42, .getfield 176, 7, 12, 0, 0), (45, .bipush 24, 0, 0, 0, 0), (47, .if_icmp .ge 7, 54, 0, 0, 0), (50, .iconst 1, 0, 0, 0, 0), (51, .goto 4, 55, 0, 0, 0)]
def l161_54 : List Ent := [(54, .iconst 0, 0, 0, 0, 0)]
def l161_55 : List Ent := [(55, .istore 4, 0, 0, 0, 0), (57, .iload 4, 0, 0, 0, 0), (59, .ifCond .eq 30, 89, 0, 0, 0), (62, .aload_n 0, 0, 0, 0, 0), (63, .getfield 30, 7, 11, 9, 0), (66, .iconst 5, 0, 0, 0, 0), (67, .aload_n 0, 0, 0, 0, 0), (68, .getfield 176, 7, 12, 0, 0), (71, .imul, 0, 0, 0, 0), (72, .iconst 0, 0, 0, 0, 0), (73, .iastore, 0, 0, 0, 0), (74, .aload_n 0, 0, 0, 0, 0), (75, .dup, 0, 0, 0, 0), (76, .getfield 176, 7, 12, 0, 0), (79, .iconst 1, 0, 0, 0, 0), (80, .iadd, 0, 0, 0, 0), (81, .putfield 176, 7, 12, 0, 0), (84, .aload_n 0, 0, 0, 0, 0), (85, .iconst 0, 0, 0, 0, 0), (86, .putfield 179, 7, 13, 1, 0)]
def l161_89 : List Ent := [(89, .iload 4, 0, 0, 0, 0), (91, .ireturn, 1, 0, 0, 0)]
def l161_92 : List Ent := [(92, .iload_n 1, 0, 0, 0, 0), (93, .bipush 46, 0, 0, 0, 0), (95, .if_icmp .ne 32, 127, 0, 0, 0), (98, .aload_n 0, 0, 0, 0, 0), (99, .getfield 179, 7, 13, 1, 0), (102, .ifCond .ne 16, 118, 0, 0, 0), (105, .aload_n 0, 0, 0, 0, 0), (106, .getfield 30, 7, 11, 9, 0), (109, .iload_n 2, 0, 0, 0, 0), (110, .iaload, 0, 0, 0, 0), (111, .ifCond .ne 7, 118, 0, 0, 0), (114, .iconst 1, 0, 0, 0, 0), (115, .goto 4, 119, 0, 0, 0)]
def l161_118 : List Ent := [(118, .iconst 0, 0, 0, 0, 0)]
def l161_119 : List Ent := [(119, .istore_n 3, 0, 0, 0, 0), (120, .aload_n 0, 0, 0, 0, 0), (121, .iconst 1, 0, 0, 0, 0), (122, .putfield 179, 7, 13, 1, 0), (125, .iload_n 3, 0, 0, 0, 0), (126, .ireturn, 1, 0, 0, 0)]
def l161_127 : List Ent := [(127, .aload_n 0, 0, 0, 0, 0), (128, .getfield 179, 7, 13, 1, 0), (131, .ifCond .ne 24, 155, 0, 0, 0), (134, .aload_n 0, 0, 0, 0, 0), (135, .getfield 30, 7, 11, 9, 0), (138, .iload_n 2, 0, 0, 0, 0), (139, .iaload, 0, 0, 0, 0), (140, .iconst 4, 0, 0, 0, 0), (141, .if_icmp .eq 14, 155, 0, 0, 0), (144, .iload_n 1, 0, 0, 0, 0), (145, .bipush 48, 0, 0, 0, 0), (147, .bipush 55, 0, 0, 0, 0), (149, .invokestatic 37, 94, 3, 1, 0)]
def l161_152 : List Ent := [(152, .ifCond .ne 5, 157, 0, 0, 0)]
def l161_155 : List Ent := [(155, .iconst 0, 0, 0, 0, 0), (156, .ireturn, 1, 0, 0, 0)]
def l161_157 : List Ent := [(157, .aload_n 0, 0, 0, 0, 0), (158, .getfield 30, 7, 11, 9, 0), (161, .iload_n 2, 0, 0, 0, 0), (162, .dup2, 0, 0, 0, 0), (163, .iaload, 0, 0, 0, 0), (164, .iconst 1, 0, 0, 0, 0), (165, .iadd, 0, 0, 0, 0), (166, .iastore, 0, 0, 0, 0), (167, .aload_n 0, 0, 0, 0, 0), (168, .getfield 30, 7, 11, 9, 0), (171, .iload_n 2, 0, 0, 0, 0), (172, .aload_n 0, 0, 0, 0, 0), (173, .getfield 30, 7, 11, 9, 0), (176, .iload_n 2, 0, 0, 0, 0), (177, .iaload, 0, 0, 0, 0), (178, .iadd, 0, 0, 0, 0), (179, .iload_n 1, 0, 0, 0, 0), (180, .bipush 48, 0, 0, 0, 0), (182, .isub, 0, 0, 0, 0), (183, .iastore, 0, 0, 0, 0), (184, .iconst 1, 0, 0, 0, 0), (185, .ireturn, 1, 0, 0, 0)]
def bk161 : List Blk := [(0, l161_0, 31), (31, l161_31, 35), (35, l161_35, 36), (36, l161_36, 54), (54, l161_54, 55), (55, l161_55, 89), (89, l161_89, 92), (92, l161_92, 118), (118, l161_118, 119), (119, l161_119, 127), (127, l161_127, 152), (152, l161_152, 155), (155, l161_155, 157), (157, l161_157, 186)]
-- NoticeShiftsModel.readPad
def l162_0 : List Ent := [(0, .aload_n 0, 0, 0, 0, 0), (1, .iconst 1, 0, 0, 0, 0), (2, .putfield 176, 7, 12, 0, 0), (5, .aload_n 0, 0, 0, 0, 0), (6, .getfield 30, 7, 11, 9, 0), (9, .iconst 0, 0, 0, 0, 0), (10, .iconst 0, 0, 0, 0, 0), (11, .iastore, 0, 0, 0, 0), (12, .aload_n 0, 0, 0, 0, 0), (13, .iconst 0, 0, 0, 0, 0), (14, .putfield 179, 7, 13, 1, 0), (17, .iconst 0, 0, 0, 0, 0), (18, .istore_n 1, 0, 0, 0, 0)]
def l162_19 : List Ent := [(19, .iload_n 1, 0, 0, 0, 0), (20, .aload_n 0, 0, 0, 0, 0), (21, .getfield 144, 7, 6, 0, 0), (24, .if_icmp .ge 24, 48, 0, 0, 0), (27, .aload_n 0, 0, 0, 0, 0), (28, .aload_n 0, 0, 0, 0, 0), (29, .getfield 23, 7, 5, 7, 0), (32, .iload_n 1, 0, 0, 0, 0), (33, .caload, 0, 0, 0, 0), (34, .invokevirtual 183, 161, 2, 1, 7)]
def l162_37 : List Ent := [(37, .ifCond .ne 5, 42, 0, 0, 0), (40, .iload_n 1, 0, 0, 0, 0), (41, .ireturn, 0, 0, 0, 0)]
def l162_42 : List Ent := [(42, .iinc 1 1, 0, 0, 0, 0), (45, .goto (-26), 19, 0, 0, 0)]
def l162_48 : List Ent := [(48, .aload_n 0, 0, 0, 0, 0), (49, .getfield 179, 7, 13, 1, 0), (52, .ifCond .ne 19, 71, 0, 0, 0), (55, .aload_n 0, 0, 0, 0, 0), (56, .getfield 30, 7, 11, 9, 0), (59, .iconst 5, 0, 0, 0, 0), (60, .aload_n 0, 0, 0, 0, 0), (61, .getfield 176, 7, 12, 0, 0), (64, .iconst 1, 0, 0, 0, 0), (65, .isub, 0, 0, 0, 0), (66, .imul, 0, 0, 0, 0), (67, .iaload, 0, 0, 0, 0), (68, .ifCond .le 8, 76, 0, 0, 0)]
def l162_71 : List Ent := [(71, .bipush (-6), 0, 0, 0, 0), (73, .goto 7, 80, 0, 0, 0)]
def l162_76 : List Ent := [(76, .aload_n 0, 0, 0, 0, 0), (77, .getfield 144, 7, 6, 0, 0)]
def l162_80 : List Ent := [(80, .ireturn, 0, 0, 0, 0)]
def bk162 : List Blk := [(0, l162_0, 19), (19, l162_19, 37), (37, l162_37, 42), (42, l162_42, 48), (48, l162_48, 71), (71, l162_71, 76), (76, l162_76, 80), (80, l162_80, 81)]
-- NoticeShiftsModel.fault
def l163_0 : List Ent := [(0, .aload_n 0, 0, 0, 0, 0), (1, .invokevirtual 186, 162, 1, 1, 7)]
def l163_4 : List Ent := [(4, .ireturn, 0, 0, 0, 0)]
def bk163 : List Blk := [(0, l163_0, 4), (4, l163_4, 5)]
-- NoticeShiftsModel.areRows
def l164_0 : List Ent := [(0, .aload_n 0, 0, 0, 0, 0), (1, .getfield 176, 7, 12, 0, 0), (4, .aload_n 0, 0, 0, 0, 0), (5, .getfield 7, 7, 0, 3, 0), (8, .iconst 0, 0, 0, 0, 0), (9, .iaload, 0, 0, 0, 0), (10, .if_icmp .gt 7, 17, 0, 0, 0), (13, .iconst 1, 0, 0, 0, 0), (14, .goto 4, 18, 0, 0, 0)]
def l164_17 : List Ent := [(17, .iconst 0, 0, 0, 0, 0)]
def l164_18 : List Ent := [(18, .istore_n 1, 0, 0, 0, 0), (19, .iconst 0, 0, 0, 0, 0), (20, .istore_n 2, 0, 0, 0, 0)]
def l164_21 : List Ent := [(21, .iload_n 2, 0, 0, 0, 0), (22, .aload_n 0, 0, 0, 0, 0), (23, .getfield 176, 7, 12, 0, 0), (26, .if_icmp .ge 56, 82, 0, 0, 0), (29, .iconst 1, 0, 0, 0, 0), (30, .istore_n 3, 0, 0, 0, 0)]
def l164_31 : List Ent := [(31, .iload_n 3, 0, 0, 0, 0), (32, .aload_n 0, 0, 0, 0, 0), (33, .getfield 30, 7, 11, 9, 0), (36, .iconst 5, 0, 0, 0, 0), (37, .iload_n 2, 0, 0, 0, 0), (38, .imul, 0, 0, 0, 0), (39, .iaload, 0, 0, 0, 0), (40, .if_icmp .gt 36, 76, 0, 0, 0), (43, .iload_n 1, 0, 0, 0, 0), (44, .ifCond .eq 24, 68, 0, 0, 0), (47, .aload_n 0, 0, 0, 0, 0), (48, .aload_n 0, 0, 0, 0, 0), (49, .getfield 30, 7, 11, 9, 0), (52, .iconst 5, 0, 0, 0, 0), (53, .iload_n 2, 0, 0, 0, 0), (54, .imul, 0, 0, 0, 0), (55, .iload_n 3, 0, 0, 0, 0), (56, .iadd, 0, 0, 0, 0), (57, .iaload, 0, 0, 0, 0), (58, .invokevirtual 95, 96, 2, 1, 7)]
def l164_61 : List Ent := [(61, .ifCond .eq 7, 68, 0, 0, 0), (64, .iconst 1, 0, 0, 0, 0), (65, .goto 4, 69, 0, 0, 0)]
def l164_68 : List Ent := [(68, .iconst 0, 0, 0, 0, 0)]
def l164_69 : List Ent := [(69, .istore_n 1, 0, 0, 0, 0), (70, .iinc 3 1, 0, 0, 0, 0), (73, .goto (-42), 31, 0, 0, 0)]
def l164_76 : List Ent := [(76, .iinc 2 1, 0, 0, 0, 0), (79, .goto (-58), 21, 0, 0, 0)]
def l164_82 : List Ent := [(82, .iload_n 1, 0, 0, 0, 0), (83, .ireturn, 1, 0, 0, 0)]
def bk164 : List Blk := [(0, l164_0, 17), (17, l164_17, 18), (18, l164_18, 21), (21, l164_21, 31), (31, l164_31, 61), (61, l164_61, 68), (68, l164_68, 69), (69, l164_69, 76), (76, l164_76, 82), (82, l164_82, 84)]
-- NoticeShiftsModel.read
def l165_0 : List Ent := [(0, .aload_n 0, 0, 0, 0, 0), (1, .invokevirtual 186, 162, 1, 1, 7)]
def l165_4 : List Ent := [(4, .bipush (-6), 0, 0, 0, 0), (6, .if_icmp .eq 6, 12, 0, 0, 0), (9, .bipush (-3), 0, 0, 0, 0), (11, .ireturn, 0, 0, 0, 0)]
def l165_12 : List Ent := [(12, .aload_n 0, 0, 0, 0, 0), (13, .invokevirtual 189, 164, 1, 1, 7)]
def l165_16 : List Ent := [(16, .ifCond .ne 5, 21, 0, 0, 0), (19, .iconst (-1), 0, 0, 0, 0), (20, .ireturn, 0, 0, 0, 0)]
def l165_21 : List Ent := [(21, .aload_n 0, 0, 0, 0, 0), (22, .invokevirtual 41, 106, 1, 0, 7)]
def l165_25 : List Ent := [(25, .iconst 0, 0, 0, 0, 0), (26, .istore_n 1, 0, 0, 0, 0)]
def l165_27 : List Ent := [(27, .iload_n 1, 0, 0, 0, 0), (28, .aload_n 0, 0, 0, 0, 0), (29, .getfield 176, 7, 12, 0, 0), (32, .if_icmp .ge 50, 82, 0, 0, 0), (35, .aload_n 0, 0, 0, 0, 0), (36, .iload_n 1, 0, 0, 0, 0), (37, .invokevirtual 104, 130, 2, 1, 7)]
def l165_40 : List Ent := [(40, .pop, 0, 0, 0, 0), (41, .iconst 1, 0, 0, 0, 0), (42, .istore_n 2, 0, 0, 0, 0)]
def l165_43 : List Ent := [(43, .iload_n 2, 0, 0, 0, 0), (44, .aload_n 0, 0, 0, 0, 0), (45, .getfield 30, 7, 11, 9, 0), (48, .iconst 5, 0, 0, 0, 0), (49, .iload_n 1, 0, 0, 0, 0), (50, .imul, 0, 0, 0, 0), (51, .iaload, 0, 0, 0, 0), (52, .if_icmp .gt 24, 76, 0, 0, 0), (55, .aload_n 0, 0, 0, 0, 0), (56, .iload_n 1, 0, 0, 0, 0), (57, .aload_n 0, 0, 0, 0, 0), (58, .getfield 30, 7, 11, 9, 0), (61, .iconst 5, 0, 0, 0, 0), (62, .iload_n 1, 0, 0, 0, 0), (63, .imul, 0, 0, 0, 0), (64, .iload_n 2, 0, 0, 0, 0), (65, .iadd, 0, 0, 0, 0), (66, .iaload, 0, 0, 0, 0), (67, .invokevirtual 101, 126, 3, 0, 7)]
def l165_70 : List Ent := [(70, .iinc 2 1, 0, 0, 0, 0), (73, .goto (-30), 43, 0, 0, 0)]
def l165_76 : List Ent := [(76, .iinc 1 1, 0, 0, 0, 0), (79, .goto (-52), 27, 0, 0, 0)]
def l165_82 : List Ent := [(82, .aload_n 0, 0, 0, 0, 0), (83, .iconst 0, 0, 0, 0, 0), (84, .putfield 144, 7, 6, 0, 0), (87, .aload_n 0, 0, 0, 0, 0), (88, .getfield 176, 7, 12, 0, 0), (91, .ireturn, 0, 0, 0, 0)]
def bk165 : List Blk := [(0, l165_0, 4), (4, l165_4, 12), (12, l165_12, 16), (16, l165_16, 21), (21, l165_21, 25), (25, l165_25, 27), (27, l165_27, 40), (40, l165_40, 43), (43, l165_43, 70), (70, l165_70, 76), (76, l165_76, 82), (82, l165_82, 92)]
def bks : List (List Blk) := [[], bk1, bk2, bk3, [], bk5, bk6, bk7, bk8, bk9, bk10, bk11, bk12, [], bk14, bk15, [], bk17, bk18, bk19, bk20, bk21, bk22, bk23, [], bk25, bk26, bk27, bk28, bk29, bk30, bk31, bk32, bk33, [], bk35, bk36, bk37, bk38, bk39, bk40, bk41, bk42, bk43, bk44, bk45, bk46, bk47, [], bk49, bk50, bk51, bk52, bk53, bk54, bk55, bk56, bk57, bk58, bk59, bk60, bk61, bk62, bk63, bk64, bk65, bk66, bk67, bk68, bk69, bk70, bk71, bk72, bk73, bk74, bk75, bk76, bk77, bk78, bk79, bk80, bk81, bk82, bk83, bk84, bk85, bk86, bk87, bk88, bk89, bk90, bk91, bk92, [], bk94, bk95, bk96, bk97, bk98, bk99, bk100, bk101, bk102, bk103, bk104, bk105, bk106, bk107, bk108, bk109, bk110, bk111, bk112, bk113, bk114, bk115, bk116, bk117, bk118, bk119, bk120, bk121, bk122, bk123, bk124, bk125, bk126, bk127, bk128, bk129, bk130, bk131, bk132, bk133, bk134, bk135, bk136, bk137, bk138, bk139, bk140, bk141, bk142, bk143, bk144, bk145, bk146, bk147, bk148, bk149, bk150, bk151, bk152, bk153, bk154, bk155, bk156, bk157, bk158, bk159, bk160, bk161, bk162, bk163, bk164, bk165]
def bkOf (mi : Nat) : List Blk := bks.getD mi []
def blk (mi pc : Nat) : Option (List Ent × Nat) := ((bkOf mi).find? (fun b => b.1 == pc)).map (fun b => b.2)
theorem bo1 : bkOf 1 = bk1 := rfl
theorem b1_0 : blk 1 0 = some (l1_0, 33) := rfl
theorem bo2 : bkOf 2 = bk2 := rfl
theorem b2_0 : blk 2 0 = some (l2_0, 2) := rfl
theorem b2_2 : blk 2 2 = some (l2_2, 18) := rfl
theorem b2_18 : blk 2 18 = some (l2_18, 27) := rfl
theorem b2_27 : blk 2 27 = some (l2_27, 33) := rfl
theorem b2_33 : blk 2 33 = some (l2_33, 88) := rfl
theorem b2_88 : blk 2 88 = some (l2_88, 101) := rfl
theorem b2_101 : blk 2 101 = some (l2_101, 107) := rfl
theorem b2_107 : blk 2 107 = some (l2_107, 110) := rfl
theorem bo3 : bkOf 3 = bk3 := rfl
theorem b3_0 : blk 3 0 = some (l3_0, 21) := rfl
theorem b3_21 : blk 3 21 = some (l3_21, 22) := rfl
theorem b3_22 : blk 3 22 = some (l3_22, 39) := rfl
theorem b3_39 : blk 3 39 = some (l3_39, 40) := rfl
theorem b3_40 : blk 3 40 = some (l3_40, 55) := rfl
theorem b3_55 : blk 3 55 = some (l3_55, 56) := rfl
theorem b3_56 : blk 3 56 = some (l3_56, 57) := rfl
theorem bo5 : bkOf 5 = bk5 := rfl
theorem b5_0 : blk 5 0 = some (l5_0, 8) := rfl
theorem b5_8 : blk 5 8 = some (l5_8, 11) := rfl
theorem b5_11 : blk 5 11 = some (l5_11, 31) := rfl
theorem b5_31 : blk 5 31 = some (l5_31, 33) := rfl
theorem bo6 : bkOf 6 = bk6 := rfl
theorem b6_0 : blk 6 0 = some (l6_0, 5) := rfl
theorem b6_5 : blk 6 5 = some (l6_5, 13) := rfl
theorem bo7 : bkOf 7 = bk7 := rfl
theorem b7_0 : blk 7 0 = some (l7_0, 11) := rfl
theorem b7_11 : blk 7 11 = some (l7_11, 12) := rfl
theorem bo8 : bkOf 8 = bk8 := rfl
theorem b8_0 : blk 8 0 = some (l8_0, 4) := rfl
theorem b8_4 : blk 8 4 = some (l8_4, 11) := rfl
theorem b8_11 : blk 8 11 = some (l8_11, 13) := rfl
theorem bo9 : bkOf 9 = bk9 := rfl
theorem b9_0 : blk 9 0 = some (l9_0, 4) := rfl
theorem b9_4 : blk 9 4 = some (l9_4, 31) := rfl
theorem b9_31 : blk 9 31 = some (l9_31, 32) := rfl
theorem b9_32 : blk 9 32 = some (l9_32, 35) := rfl
theorem b9_35 : blk 9 35 = some (l9_35, 43) := rfl
theorem b9_43 : blk 9 43 = some (l9_43, 45) := rfl
theorem bo10 : bkOf 10 = bk10 := rfl
theorem b10_0 : blk 10 0 = some (l10_0, 4) := rfl
theorem b10_4 : blk 10 4 = some (l10_4, 41) := rfl
theorem b10_41 : blk 10 41 = some (l10_41, 47) := rfl
theorem b10_47 : blk 10 47 = some (l10_47, 50) := rfl
theorem bo11 : bkOf 11 = bk11 := rfl
theorem b11_0 : blk 11 0 = some (l11_0, 11) := rfl
theorem b11_11 : blk 11 11 = some (l11_11, 52) := rfl
theorem bo12 : bkOf 12 = bk12 := rfl
theorem b12_0 : blk 12 0 = some (l12_0, 11) := rfl
theorem b12_11 : blk 12 11 = some (l12_11, 16) := rfl
theorem b12_16 : blk 12 16 = some (l12_16, 18) := rfl
theorem b12_18 : blk 12 18 = some (l12_18, 59) := rfl
theorem b12_59 : blk 12 59 = some (l12_59, 61) := rfl
theorem b12_61 : blk 12 61 = some (l12_61, 67) := rfl
theorem b12_67 : blk 12 67 = some (l12_67, 69) := rfl
theorem bo14 : bkOf 14 = bk14 := rfl
theorem b14_0 : blk 14 0 = some (l14_0, 13) := rfl
theorem b14_13 : blk 14 13 = some (l14_13, 26) := rfl
theorem b14_26 : blk 14 26 = some (l14_26, 32) := rfl
theorem b14_32 : blk 14 32 = some (l14_32, 51) := rfl
theorem bo15 : bkOf 15 = bk15 := rfl
theorem b15_0 : blk 15 0 = some (l15_0, 12) := rfl
theorem b15_12 : blk 15 12 = some (l15_12, 18) := rfl
theorem b15_18 : blk 15 18 = some (l15_18, 44) := rfl
theorem b15_44 : blk 15 44 = some (l15_44, 45) := rfl
theorem bo17 : bkOf 17 = bk17 := rfl
theorem b17_0 : blk 17 0 = some (l17_0, 16) := rfl
theorem b17_16 : blk 17 16 = some (l17_16, 17) := rfl
theorem b17_17 : blk 17 17 = some (l17_17, 18) := rfl
theorem bo18 : bkOf 18 = bk18 := rfl
theorem b18_0 : blk 18 0 = some (l18_0, 4) := rfl
theorem b18_4 : blk 18 4 = some (l18_4, 26) := rfl
theorem b18_26 : blk 18 26 = some (l18_26, 33) := rfl
theorem b18_33 : blk 18 33 = some (l18_33, 39) := rfl
theorem b18_39 : blk 18 39 = some (l18_39, 48) := rfl
theorem b18_48 : blk 18 48 = some (l18_48, 57) := rfl
theorem b18_57 : blk 18 57 = some (l18_57, 58) := rfl
theorem b18_58 : blk 18 58 = some (l18_58, 59) := rfl
theorem bo19 : bkOf 19 = bk19 := rfl
theorem b19_0 : blk 19 0 = some (l19_0, 13) := rfl
theorem bo20 : bkOf 20 = bk20 := rfl
theorem b20_0 : blk 20 0 = some (l20_0, 5) := rfl
theorem b20_5 : blk 20 5 = some (l20_5, 24) := rfl
theorem b20_24 : blk 20 24 = some (l20_24, 41) := rfl
theorem b20_41 : blk 20 41 = some (l20_41, 42) := rfl
theorem bo21 : bkOf 21 = bk21 := rfl
theorem b21_0 : blk 21 0 = some (l21_0, 9) := rfl
theorem b21_9 : blk 21 9 = some (l21_9, 47) := rfl
theorem b21_47 : blk 21 47 = some (l21_47, 50) := rfl
theorem b21_50 : blk 21 50 = some (l21_50, 57) := rfl
theorem b21_57 : blk 21 57 = some (l21_57, 75) := rfl
theorem b21_75 : blk 21 75 = some (l21_75, 80) := rfl
theorem b21_80 : blk 21 80 = some (l21_80, 95) := rfl
theorem b21_95 : blk 21 95 = some (l21_95, 98) := rfl
theorem b21_98 : blk 21 98 = some (l21_98, 104) := rfl
theorem b21_104 : blk 21 104 = some (l21_104, 113) := rfl
theorem b21_113 : blk 21 113 = some (l21_113, 117) := rfl
theorem b21_117 : blk 21 117 = some (l21_117, 118) := rfl
theorem bo22 : bkOf 22 = bk22 := rfl
theorem b22_0 : blk 22 0 = some (l22_0, 4) := rfl
theorem b22_4 : blk 22 4 = some (l22_4, 28) := rfl
theorem b22_28 : blk 22 28 = some (l22_28, 29) := rfl
theorem b22_29 : blk 22 29 = some (l22_29, 32) := rfl
theorem b22_32 : blk 22 32 = some (l22_32, 40) := rfl
theorem b22_40 : blk 22 40 = some (l22_40, 42) := rfl
theorem bo23 : bkOf 23 = bk23 := rfl
theorem b23_0 : blk 23 0 = some (l23_0, 4) := rfl
theorem b23_4 : blk 23 4 = some (l23_4, 21) := rfl
theorem b23_21 : blk 23 21 = some (l23_21, 38) := rfl
theorem b23_38 : blk 23 38 = some (l23_38, 44) := rfl
theorem b23_44 : blk 23 44 = some (l23_44, 46) := rfl
theorem bo25 : bkOf 25 = bk25 := rfl
theorem b25_0 : blk 25 0 = some (l25_0, 4) := rfl
theorem b25_4 : blk 25 4 = some (l25_4, 24) := rfl
theorem b25_24 : blk 25 24 = some (l25_24, 26) := rfl
theorem bo26 : bkOf 26 = bk26 := rfl
theorem b26_0 : blk 26 0 = some (l26_0, 8) := rfl
theorem b26_8 : blk 26 8 = some (l26_8, 9) := rfl
theorem bo27 : bkOf 27 = bk27 := rfl
theorem b27_0 : blk 27 0 = some (l27_0, 4) := rfl
theorem b27_4 : blk 27 4 = some (l27_4, 28) := rfl
theorem b27_28 : blk 27 28 = some (l27_28, 34) := rfl
theorem b27_34 : blk 27 34 = some (l27_34, 37) := rfl
theorem bo28 : bkOf 28 = bk28 := rfl
theorem b28_0 : blk 28 0 = some (l28_0, 2) := rfl
theorem b28_2 : blk 28 2 = some (l28_2, 22) := rfl
theorem b28_22 : blk 28 22 = some (l28_22, 28) := rfl
theorem b28_28 : blk 28 28 = some (l28_28, 30) := rfl
theorem bo29 : bkOf 29 = bk29 := rfl
theorem b29_0 : blk 29 0 = some (l29_0, 4) := rfl
theorem b29_4 : blk 29 4 = some (l29_4, 24) := rfl
theorem b29_24 : blk 29 24 = some (l29_24, 26) := rfl
theorem bo30 : bkOf 30 = bk30 := rfl
theorem b30_0 : blk 30 0 = some (l30_0, 10) := rfl
theorem b30_10 : blk 30 10 = some (l30_10, 13) := rfl
theorem bo31 : bkOf 31 = bk31 := rfl
theorem b31_0 : blk 31 0 = some (l31_0, 4) := rfl
theorem b31_4 : blk 31 4 = some (l31_4, 28) := rfl
theorem b31_28 : blk 31 28 = some (l31_28, 34) := rfl
theorem b31_34 : blk 31 34 = some (l31_34, 36) := rfl
theorem bo32 : bkOf 32 = bk32 := rfl
theorem b32_0 : blk 32 0 = some (l32_0, 60) := rfl
theorem bo33 : bkOf 33 = bk33 := rfl
theorem b33_0 : blk 33 0 = some (l33_0, 13) := rfl
theorem b33_13 : blk 33 13 = some (l33_13, 15) := rfl
theorem b33_15 : blk 33 15 = some (l33_15, 68) := rfl
theorem b33_68 : blk 33 68 = some (l33_68, 70) := rfl
theorem b33_70 : blk 33 70 = some (l33_70, 76) := rfl
theorem b33_76 : blk 33 76 = some (l33_76, 78) := rfl
theorem bo35 : bkOf 35 = bk35 := rfl
theorem b35_0 : blk 35 0 = some (l35_0, 14) := rfl
theorem b35_14 : blk 35 14 = some (l35_14, 15) := rfl
theorem bo36 : bkOf 36 = bk36 := rfl
theorem b36_0 : blk 36 0 = some (l36_0, 11) := rfl
theorem b36_11 : blk 36 11 = some (l36_11, 12) := rfl
theorem bo37 : bkOf 37 = bk37 := rfl
theorem b37_0 : blk 37 0 = some (l37_0, 11) := rfl
theorem b37_11 : blk 37 11 = some (l37_11, 12) := rfl
theorem bo38 : bkOf 38 = bk38 := rfl
theorem b38_0 : blk 38 0 = some (l38_0, 14) := rfl
theorem b38_14 : blk 38 14 = some (l38_14, 15) := rfl
theorem b38_15 : blk 38 15 = some (l38_15, 16) := rfl
theorem bo39 : bkOf 39 = bk39 := rfl
theorem b39_0 : blk 39 0 = some (l39_0, 11) := rfl
theorem bo40 : bkOf 40 = bk40 := rfl
theorem b40_0 : blk 40 0 = some (l40_0, 27) := rfl
theorem bo41 : bkOf 41 = bk41 := rfl
theorem b41_0 : blk 41 0 = some (l41_0, 11) := rfl
theorem bo42 : bkOf 42 = bk42 := rfl
theorem b42_0 : blk 42 0 = some (l42_0, 2) := rfl
theorem b42_2 : blk 42 2 = some (l42_2, 18) := rfl
theorem b42_18 : blk 42 18 = some (l42_18, 24) := rfl
theorem b42_24 : blk 42 24 = some (l42_24, 30) := rfl
theorem b42_30 : blk 42 30 = some (l42_30, 32) := rfl
theorem bo43 : bkOf 43 = bk43 := rfl
theorem b43_0 : blk 43 0 = some (l43_0, 4) := rfl
theorem b43_4 : blk 43 4 = some (l43_4, 22) := rfl
theorem b43_22 : blk 43 22 = some (l43_22, 25) := rfl
theorem b43_25 : blk 43 25 = some (l43_25, 33) := rfl
theorem b43_33 : blk 43 33 = some (l43_33, 35) := rfl
theorem bo44 : bkOf 44 = bk44 := rfl
theorem b44_0 : blk 44 0 = some (l44_0, 8) := rfl
theorem b44_8 : blk 44 8 = some (l44_8, 21) := rfl
theorem b44_21 : blk 44 21 = some (l44_21, 27) := rfl
theorem b44_27 : blk 44 27 = some (l44_27, 79) := rfl
theorem b44_79 : blk 44 79 = some (l44_79, 80) := rfl
theorem b44_80 : blk 44 80 = some (l44_80, 83) := rfl
theorem b44_83 : blk 44 83 = some (l44_83, 102) := rfl
theorem bo45 : bkOf 45 = bk45 := rfl
theorem b45_0 : blk 45 0 = some (l45_0, 15) := rfl
theorem b45_15 : blk 45 15 = some (l45_15, 34) := rfl
theorem b45_34 : blk 45 34 = some (l45_34, 40) := rfl
theorem b45_40 : blk 45 40 = some (l45_40, 51) := rfl
theorem bo46 : bkOf 46 = bk46 := rfl
theorem b46_0 : blk 46 0 = some (l46_0, 85) := rfl
theorem bo47 : bkOf 47 = bk47 := rfl
theorem b47_0 : blk 47 0 = some (l47_0, 11) := rfl
theorem b47_11 : blk 47 11 = some (l47_11, 127) := rfl
theorem b47_127 : blk 47 127 = some (l47_127, 171) := rfl
theorem b47_171 : blk 47 171 = some (l47_171, 177) := rfl
theorem b47_177 : blk 47 177 = some (l47_177, 178) := rfl
theorem bo49 : bkOf 49 = bk49 := rfl
theorem b49_0 : blk 49 0 = some (l49_0, 15) := rfl
theorem b49_15 : blk 49 15 = some (l49_15, 20) := rfl
theorem b49_20 : blk 49 20 = some (l49_20, 28) := rfl
theorem b49_28 : blk 49 28 = some (l49_28, 34) := rfl
theorem b49_34 : blk 49 34 = some (l49_34, 61) := rfl
theorem b49_61 : blk 49 61 = some (l49_61, 64) := rfl
theorem b49_64 : blk 49 64 = some (l49_64, 75) := rfl
theorem b49_75 : blk 49 75 = some (l49_75, 84) := rfl
theorem b49_84 : blk 49 84 = some (l49_84, 97) := rfl
theorem bo50 : bkOf 50 = bk50 := rfl
theorem b50_0 : blk 50 0 = some (l50_0, 8) := rfl
theorem b50_8 : blk 50 8 = some (l50_8, 13) := rfl
theorem b50_13 : blk 50 13 = some (l50_13, 30) := rfl
theorem b50_30 : blk 50 30 = some (l50_30, 41) := rfl
theorem b50_41 : blk 50 41 = some (l50_41, 62) := rfl
theorem b50_62 : blk 50 62 = some (l50_62, 64) := rfl
theorem bo51 : bkOf 51 = bk51 := rfl
theorem b51_0 : blk 51 0 = some (l51_0, 8) := rfl
theorem b51_8 : blk 51 8 = some (l51_8, 13) := rfl
theorem b51_13 : blk 51 13 = some (l51_13, 21) := rfl
theorem b51_21 : blk 51 21 = some (l51_21, 27) := rfl
theorem b51_27 : blk 51 27 = some (l51_27, 38) := rfl
theorem b51_38 : blk 51 38 = some (l51_38, 66) := rfl
theorem bo52 : bkOf 52 = bk52 := rfl
theorem b52_0 : blk 52 0 = some (l52_0, 8) := rfl
theorem b52_8 : blk 52 8 = some (l52_8, 13) := rfl
theorem b52_13 : blk 52 13 = some (l52_13, 17) := rfl
theorem b52_17 : blk 52 17 = some (l52_17, 38) := rfl
theorem b52_38 : blk 52 38 = some (l52_38, 41) := rfl
theorem b52_41 : blk 52 41 = some (l52_41, 52) := rfl
theorem b52_52 : blk 52 52 = some (l52_52, 75) := rfl
theorem b52_75 : blk 52 75 = some (l52_75, 76) := rfl
theorem bo53 : bkOf 53 = bk53 := rfl
theorem b53_0 : blk 53 0 = some (l53_0, 7) := rfl
theorem b53_7 : blk 53 7 = some (l53_7, 17) := rfl
theorem b53_17 : blk 53 17 = some (l53_17, 20) := rfl
theorem b53_20 : blk 53 20 = some (l53_20, 23) := rfl
theorem b53_23 : blk 53 23 = some (l53_23, 38) := rfl
theorem b53_38 : blk 53 38 = some (l53_38, 49) := rfl
theorem b53_49 : blk 53 49 = some (l53_49, 92) := rfl
theorem bo54 : bkOf 54 = bk54 := rfl
theorem b54_0 : blk 54 0 = some (l54_0, 8) := rfl
theorem b54_8 : blk 54 8 = some (l54_8, 19) := rfl
theorem b54_19 : blk 54 19 = some (l54_19, 22) := rfl
theorem b54_22 : blk 54 22 = some (l54_22, 24) := rfl
theorem b54_24 : blk 54 24 = some (l54_24, 32) := rfl
theorem b54_32 : blk 54 32 = some (l54_32, 38) := rfl
theorem b54_38 : blk 54 38 = some (l54_38, 49) := rfl
theorem b54_49 : blk 54 49 = some (l54_49, 58) := rfl
theorem b54_58 : blk 54 58 = some (l54_58, 68) := rfl
theorem bo55 : bkOf 55 = bk55 := rfl
theorem b55_0 : blk 55 0 = some (l55_0, 8) := rfl
theorem b55_8 : blk 55 8 = some (l55_8, 13) := rfl
theorem b55_13 : blk 55 13 = some (l55_13, 24) := rfl
theorem b55_24 : blk 55 24 = some (l55_24, 46) := rfl
theorem bo56 : bkOf 56 = bk56 := rfl
theorem b56_0 : blk 56 0 = some (l56_0, 7) := rfl
theorem b56_7 : blk 56 7 = some (l56_7, 15) := rfl
theorem b56_15 : blk 56 15 = some (l56_15, 22) := rfl
theorem b56_22 : blk 56 22 = some (l56_22, 44) := rfl
theorem b56_44 : blk 56 44 = some (l56_44, 54) := rfl
theorem b56_54 : blk 56 54 = some (l56_54, 56) := rfl
theorem b56_56 : blk 56 56 = some (l56_56, 67) := rfl
theorem b56_67 : blk 56 67 = some (l56_67, 71) := rfl
theorem b56_71 : blk 56 71 = some (l56_71, 81) := rfl
theorem bo57 : bkOf 57 = bk57 := rfl
theorem b57_0 : blk 57 0 = some (l57_0, 6) := rfl
theorem b57_6 : blk 57 6 = some (l57_6, 17) := rfl
theorem b57_17 : blk 57 17 = some (l57_17, 20) := rfl
theorem b57_20 : blk 57 20 = some (l57_20, 23) := rfl
theorem b57_23 : blk 57 23 = some (l57_23, 38) := rfl
theorem b57_38 : blk 57 38 = some (l57_38, 49) := rfl
theorem b57_49 : blk 57 49 = some (l57_49, 102) := rfl
theorem bo58 : bkOf 58 = bk58 := rfl
theorem b58_0 : blk 58 0 = some (l58_0, 8) := rfl
theorem b58_8 : blk 58 8 = some (l58_8, 13) := rfl
theorem b58_13 : blk 58 13 = some (l58_13, 32) := rfl
theorem b58_32 : blk 58 32 = some (l58_32, 43) := rfl
theorem b58_43 : blk 58 43 = some (l58_43, 59) := rfl
theorem b58_59 : blk 58 59 = some (l58_59, 60) := rfl
theorem b58_60 : blk 58 60 = some (l58_60, 79) := rfl
theorem b58_79 : blk 58 79 = some (l58_79, 84) := rfl
theorem b58_84 : blk 58 84 = some (l58_84, 87) := rfl
theorem b58_87 : blk 58 87 = some (l58_87, 88) := rfl
theorem bo59 : bkOf 59 = bk59 := rfl
theorem b59_0 : blk 59 0 = some (l59_0, 8) := rfl
theorem b59_8 : blk 59 8 = some (l59_8, 13) := rfl
theorem b59_13 : blk 59 13 = some (l59_13, 52) := rfl
theorem b59_52 : blk 59 52 = some (l59_52, 65) := rfl
theorem b59_65 : blk 59 65 = some (l59_65, 78) := rfl
theorem b59_78 : blk 59 78 = some (l59_78, 89) := rfl
theorem b59_89 : blk 59 89 = some (l59_89, 90) := rfl
theorem b59_90 : blk 59 90 = some (l59_90, 101) := rfl
theorem b59_101 : blk 59 101 = some (l59_101, 102) := rfl
theorem b59_102 : blk 59 102 = some (l59_102, 115) := rfl
theorem b59_115 : blk 59 115 = some (l59_115, 125) := rfl
theorem b59_125 : blk 59 125 = some (l59_125, 128) := rfl
theorem bo60 : bkOf 60 = bk60 := rfl
theorem b60_0 : blk 60 0 = some (l60_0, 11) := rfl
theorem b60_11 : blk 60 11 = some (l60_11, 12) := rfl
theorem bo61 : bkOf 61 = bk61 := rfl
theorem b61_0 : blk 61 0 = some (l61_0, 8) := rfl
theorem b61_8 : blk 61 8 = some (l61_8, 27) := rfl
theorem b61_27 : blk 61 27 = some (l61_27, 30) := rfl
theorem b61_30 : blk 61 30 = some (l61_30, 32) := rfl
theorem b61_32 : blk 61 32 = some (l61_32, 41) := rfl
theorem b61_41 : blk 61 41 = some (l61_41, 42) := rfl
theorem bo62 : bkOf 62 = bk62 := rfl
theorem b62_0 : blk 62 0 = some (l62_0, 8) := rfl
theorem b62_8 : blk 62 8 = some (l62_8, 13) := rfl
theorem b62_13 : blk 62 13 = some (l62_13, 44) := rfl
theorem b62_44 : blk 62 44 = some (l62_44, 54) := rfl
theorem b62_54 : blk 62 54 = some (l62_54, 64) := rfl
theorem b62_64 : blk 62 64 = some (l62_64, 72) := rfl
theorem b62_72 : blk 62 72 = some (l62_72, 73) := rfl
theorem b62_73 : blk 62 73 = some (l62_73, 78) := rfl
theorem b62_78 : blk 62 78 = some (l62_78, 79) := rfl
theorem b62_79 : blk 62 79 = some (l62_79, 82) := rfl
theorem bo63 : bkOf 63 = bk63 := rfl
theorem b63_0 : blk 63 0 = some (l63_0, 8) := rfl
theorem b63_8 : blk 63 8 = some (l63_8, 13) := rfl
theorem b63_13 : blk 63 13 = some (l63_13, 60) := rfl
theorem b63_60 : blk 63 60 = some (l63_60, 70) := rfl
theorem b63_70 : blk 63 70 = some (l63_70, 80) := rfl
theorem b63_80 : blk 63 80 = some (l63_80, 92) := rfl
theorem b63_92 : blk 63 92 = some (l63_92, 93) := rfl
theorem b63_93 : blk 63 93 = some (l63_93, 98) := rfl
theorem b63_98 : blk 63 98 = some (l63_98, 101) := rfl
theorem b63_101 : blk 63 101 = some (l63_101, 102) := rfl
theorem b63_102 : blk 63 102 = some (l63_102, 107) := rfl
theorem b63_107 : blk 63 107 = some (l63_107, 110) := rfl
theorem b63_110 : blk 63 110 = some (l63_110, 111) := rfl
theorem b63_111 : blk 63 111 = some (l63_111, 116) := rfl
theorem b63_116 : blk 63 116 = some (l63_116, 119) := rfl
theorem b63_119 : blk 63 119 = some (l63_119, 120) := rfl
theorem b63_120 : blk 63 120 = some (l63_120, 125) := rfl
theorem b63_125 : blk 63 125 = some (l63_125, 128) := rfl
theorem b63_128 : blk 63 128 = some (l63_128, 129) := rfl
theorem b63_129 : blk 63 129 = some (l63_129, 134) := rfl
theorem b63_134 : blk 63 134 = some (l63_134, 141) := rfl
theorem b63_141 : blk 63 141 = some (l63_141, 144) := rfl
theorem bo64 : bkOf 64 = bk64 := rfl
theorem b64_0 : blk 64 0 = some (l64_0, 52) := rfl
theorem b64_52 : blk 64 52 = some (l64_52, 63) := rfl
theorem b64_63 : blk 64 63 = some (l64_63, 73) := rfl
theorem b64_73 : blk 64 73 = some (l64_73, 74) := rfl
theorem b64_74 : blk 64 74 = some (l64_74, 84) := rfl
theorem b64_84 : blk 64 84 = some (l64_84, 85) := rfl
theorem b64_85 : blk 64 85 = some (l64_85, 93) := rfl
theorem b64_93 : blk 64 93 = some (l64_93, 101) := rfl
theorem b64_101 : blk 64 101 = some (l64_101, 105) := rfl
theorem b64_105 : blk 64 105 = some (l64_105, 106) := rfl
theorem b64_106 : blk 64 106 = some (l64_106, 110) := rfl
theorem b64_110 : blk 64 110 = some (l64_110, 111) := rfl
theorem b64_111 : blk 64 111 = some (l64_111, 119) := rfl
theorem b64_119 : blk 64 119 = some (l64_119, 127) := rfl
theorem b64_127 : blk 64 127 = some (l64_127, 130) := rfl
theorem bo65 : bkOf 65 = bk65 := rfl
theorem b65_0 : blk 65 0 = some (l65_0, 8) := rfl
theorem b65_8 : blk 65 8 = some (l65_8, 13) := rfl
theorem b65_13 : blk 65 13 = some (l65_13, 18) := rfl
theorem b65_18 : blk 65 18 = some (l65_18, 33) := rfl
theorem b65_33 : blk 65 33 = some (l65_33, 38) := rfl
theorem b65_38 : blk 65 38 = some (l65_38, 45) := rfl
theorem bo66 : bkOf 66 = bk66 := rfl
theorem b66_0 : blk 66 0 = some (l66_0, 8) := rfl
theorem b66_8 : blk 66 8 = some (l66_8, 13) := rfl
theorem b66_13 : blk 66 13 = some (l66_13, 21) := rfl
theorem b66_21 : blk 66 21 = some (l66_21, 27) := rfl
theorem b66_27 : blk 66 27 = some (l66_27, 32) := rfl
theorem b66_32 : blk 66 32 = some (l66_32, 41) := rfl
theorem b66_41 : blk 66 41 = some (l66_41, 53) := rfl
theorem b66_53 : blk 66 53 = some (l66_53, 59) := rfl
theorem b66_59 : blk 66 59 = some (l66_59, 70) := rfl
theorem b66_70 : blk 66 70 = some (l66_70, 72) := rfl
theorem bo67 : bkOf 67 = bk67 := rfl
theorem b67_0 : blk 67 0 = some (l67_0, 8) := rfl
theorem b67_8 : blk 67 8 = some (l67_8, 13) := rfl
theorem b67_13 : blk 67 13 = some (l67_13, 21) := rfl
theorem b67_21 : blk 67 21 = some (l67_21, 30) := rfl
theorem b67_30 : blk 67 30 = some (l67_30, 33) := rfl
theorem b67_33 : blk 67 33 = some (l67_33, 36) := rfl
theorem b67_36 : blk 67 36 = some (l67_36, 41) := rfl
theorem b67_41 : blk 67 41 = some (l67_41, 49) := rfl
theorem b67_49 : blk 67 49 = some (l67_49, 61) := rfl
theorem b67_61 : blk 67 61 = some (l67_61, 69) := rfl
theorem b67_69 : blk 67 69 = some (l67_69, 81) := rfl
theorem b67_81 : blk 67 81 = some (l67_81, 82) := rfl
theorem b67_82 : blk 67 82 = some (l67_82, 112) := rfl
theorem b67_112 : blk 67 112 = some (l67_112, 122) := rfl
theorem b67_122 : blk 67 122 = some (l67_122, 132) := rfl
theorem b67_132 : blk 67 132 = some (l67_132, 135) := rfl
theorem b67_135 : blk 67 135 = some (l67_135, 136) := rfl
theorem b67_136 : blk 67 136 = some (l67_136, 152) := rfl
theorem b67_152 : blk 67 152 = some (l67_152, 154) := rfl
theorem b67_154 : blk 67 154 = some (l67_154, 155) := rfl
theorem b67_155 : blk 67 155 = some (l67_155, 158) := rfl
theorem b67_158 : blk 67 158 = some (l67_158, 168) := rfl
theorem b67_168 : blk 67 168 = some (l67_168, 169) := rfl
theorem bo68 : bkOf 68 = bk68 := rfl
theorem b68_0 : blk 68 0 = some (l68_0, 8) := rfl
theorem b68_8 : blk 68 8 = some (l68_8, 13) := rfl
theorem b68_13 : blk 68 13 = some (l68_13, 18) := rfl
theorem b68_18 : blk 68 18 = some (l68_18, 28) := rfl
theorem b68_28 : blk 68 28 = some (l68_28, 33) := rfl
theorem b68_33 : blk 68 33 = some (l68_33, 38) := rfl
theorem b68_38 : blk 68 38 = some (l68_38, 47) := rfl
theorem b68_47 : blk 68 47 = some (l68_47, 50) := rfl
theorem b68_50 : blk 68 50 = some (l68_50, 51) := rfl
theorem bo69 : bkOf 69 = bk69 := rfl
theorem b69_0 : blk 69 0 = some (l69_0, 8) := rfl
theorem b69_8 : blk 69 8 = some (l69_8, 13) := rfl
theorem b69_13 : blk 69 13 = some (l69_13, 21) := rfl
theorem b69_21 : blk 69 21 = some (l69_21, 27) := rfl
theorem b69_27 : blk 69 27 = some (l69_27, 32) := rfl
theorem b69_32 : blk 69 32 = some (l69_32, 43) := rfl
theorem b69_43 : blk 69 43 = some (l69_43, 66) := rfl
theorem b69_66 : blk 69 66 = some (l69_66, 69) := rfl
theorem b69_69 : blk 69 69 = some (l69_69, 76) := rfl
theorem b69_76 : blk 69 76 = some (l69_76, 79) := rfl
theorem bo70 : bkOf 70 = bk70 := rfl
theorem b70_0 : blk 70 0 = some (l70_0, 8) := rfl
theorem b70_8 : blk 70 8 = some (l70_8, 19) := rfl
theorem b70_19 : blk 70 19 = some (l70_19, 22) := rfl
theorem b70_22 : blk 70 22 = some (l70_22, 24) := rfl
theorem b70_24 : blk 70 24 = some (l70_24, 32) := rfl
theorem b70_32 : blk 70 32 = some (l70_32, 38) := rfl
theorem b70_38 : blk 70 38 = some (l70_38, 44) := rfl
theorem b70_44 : blk 70 44 = some (l70_44, 52) := rfl
theorem b70_52 : blk 70 52 = some (l70_52, 68) := rfl
theorem b70_68 : blk 70 68 = some (l70_68, 71) := rfl
theorem b70_71 : blk 70 71 = some (l70_71, 80) := rfl
theorem bo71 : bkOf 71 = bk71 := rfl
theorem b71_0 : blk 71 0 = some (l71_0, 8) := rfl
theorem b71_8 : blk 71 8 = some (l71_8, 19) := rfl
theorem b71_19 : blk 71 19 = some (l71_19, 22) := rfl
theorem b71_22 : blk 71 22 = some (l71_22, 24) := rfl
theorem b71_24 : blk 71 24 = some (l71_24, 32) := rfl
theorem b71_32 : blk 71 32 = some (l71_32, 38) := rfl
theorem b71_38 : blk 71 38 = some (l71_38, 42) := rfl
theorem b71_42 : blk 71 42 = some (l71_42, 52) := rfl
theorem b71_52 : blk 71 52 = some (l71_52, 56) := rfl
theorem b71_56 : blk 71 56 = some (l71_56, 66) := rfl
theorem b71_66 : blk 71 66 = some (l71_66, 75) := rfl
theorem bo72 : bkOf 72 = bk72 := rfl
theorem b72_0 : blk 72 0 = some (l72_0, 8) := rfl
theorem b72_8 : blk 72 8 = some (l72_8, 13) := rfl
theorem b72_13 : blk 72 13 = some (l72_13, 19) := rfl
theorem b72_19 : blk 72 19 = some (l72_19, 25) := rfl
theorem b72_25 : blk 72 25 = some (l72_25, 35) := rfl
theorem b72_35 : blk 72 35 = some (l72_35, 57) := rfl
theorem b72_57 : blk 72 57 = some (l72_57, 73) := rfl
theorem b72_73 : blk 72 73 = some (l72_73, 79) := rfl
theorem b72_79 : blk 72 79 = some (l72_79, 87) := rfl
theorem b72_87 : blk 72 87 = some (l72_87, 89) := rfl
theorem b72_89 : blk 72 89 = some (l72_89, 90) := rfl
theorem bo73 : bkOf 73 = bk73 := rfl
theorem b73_0 : blk 73 0 = some (l73_0, 8) := rfl
theorem b73_8 : blk 73 8 = some (l73_8, 13) := rfl
theorem b73_13 : blk 73 13 = some (l73_13, 21) := rfl
theorem b73_21 : blk 73 21 = some (l73_21, 34) := rfl
theorem b73_34 : blk 73 34 = some (l73_34, 51) := rfl
theorem b73_51 : blk 73 51 = some (l73_51, 58) := rfl
theorem b73_58 : blk 73 58 = some (l73_58, 72) := rfl
theorem b73_72 : blk 73 72 = some (l73_72, 80) := rfl
theorem b73_80 : blk 73 80 = some (l73_80, 86) := rfl
theorem b73_86 : blk 73 86 = some (l73_86, 90) := rfl
theorem bo74 : bkOf 74 = bk74 := rfl
theorem b74_0 : blk 74 0 = some (l74_0, 4) := rfl
theorem b74_4 : blk 74 4 = some (l74_4, 14) := rfl
theorem b74_14 : blk 74 14 = some (l74_14, 31) := rfl
theorem b74_31 : blk 74 31 = some (l74_31, 40) := rfl
theorem b74_40 : blk 74 40 = some (l74_40, 48) := rfl
theorem bo75 : bkOf 75 = bk75 := rfl
theorem b75_0 : blk 75 0 = some (l75_0, 18) := rfl
theorem bo76 : bkOf 76 = bk76 := rfl
theorem b76_0 : blk 76 0 = some (l76_0, 7) := rfl
theorem b76_7 : blk 76 7 = some (l76_7, 8) := rfl
theorem bo77 : bkOf 77 = bk77 := rfl
theorem b77_0 : blk 77 0 = some (l77_0, 13) := rfl
theorem b77_13 : blk 77 13 = some (l77_13, 24) := rfl
theorem b77_24 : blk 77 24 = some (l77_24, 32) := rfl
theorem bo78 : bkOf 78 = bk78 := rfl
theorem b78_0 : blk 78 0 = some (l78_0, 6) := rfl
theorem b78_6 : blk 78 6 = some (l78_6, 12) := rfl
theorem b78_12 : blk 78 12 = some (l78_12, 25) := rfl
theorem b78_25 : blk 78 25 = some (l78_25, 43) := rfl
theorem bo79 : bkOf 79 = bk79 := rfl
theorem b79_0 : blk 79 0 = some (l79_0, 6) := rfl
theorem b79_6 : blk 79 6 = some (l79_6, 12) := rfl
theorem b79_12 : blk 79 12 = some (l79_12, 24) := rfl
theorem b79_24 : blk 79 24 = some (l79_24, 35) := rfl
theorem b79_35 : blk 79 35 = some (l79_35, 48) := rfl
theorem b79_48 : blk 79 48 = some (l79_48, 59) := rfl
theorem bo80 : bkOf 80 = bk80 := rfl
theorem b80_0 : blk 80 0 = some (l80_0, 14) := rfl
theorem b80_14 : blk 80 14 = some (l80_14, 15) := rfl
theorem b80_15 : blk 80 15 = some (l80_15, 16) := rfl
theorem bo81 : bkOf 81 = bk81 := rfl
theorem b81_0 : blk 81 0 = some (l81_0, 8) := rfl
theorem b81_8 : blk 81 8 = some (l81_8, 9) := rfl
theorem b81_9 : blk 81 9 = some (l81_9, 10) := rfl
theorem bo82 : bkOf 82 = bk82 := rfl
theorem b82_0 : blk 82 0 = some (l82_0, 14) := rfl
theorem b82_14 : blk 82 14 = some (l82_14, 57) := rfl
theorem b82_57 : blk 82 57 = some (l82_57, 61) := rfl
theorem b82_61 : blk 82 61 = some (l82_61, 76) := rfl
theorem b82_76 : blk 82 76 = some (l82_76, 82) := rfl
theorem b82_82 : blk 82 82 = some (l82_82, 83) := rfl
theorem bo83 : bkOf 83 = bk83 := rfl
theorem b83_0 : blk 83 0 = some (l83_0, 22) := rfl
theorem b83_22 : blk 83 22 = some (l83_22, 31) := rfl
theorem b83_31 : blk 83 31 = some (l83_31, 36) := rfl
theorem bo84 : bkOf 84 = bk84 := rfl
theorem b84_0 : blk 84 0 = some (l84_0, 14) := rfl
theorem b84_14 : blk 84 14 = some (l84_14, 39) := rfl
theorem b84_39 : blk 84 39 = some (l84_39, 41) := rfl
theorem b84_41 : blk 84 41 = some (l84_41, 67) := rfl
theorem b84_67 : blk 84 67 = some (l84_67, 93) := rfl
theorem b84_93 : blk 84 93 = some (l84_93, 103) := rfl
theorem b84_103 : blk 84 103 = some (l84_103, 110) := rfl
theorem b84_110 : blk 84 110 = some (l84_110, 111) := rfl
theorem bo85 : bkOf 85 = bk85 := rfl
theorem b85_0 : blk 85 0 = some (l85_0, 14) := rfl
theorem b85_14 : blk 85 14 = some (l85_14, 23) := rfl
theorem b85_23 : blk 85 23 = some (l85_23, 39) := rfl
theorem b85_39 : blk 85 39 = some (l85_39, 46) := rfl
theorem b85_46 : blk 85 46 = some (l85_46, 47) := rfl
theorem b85_47 : blk 85 47 = some (l85_47, 48) := rfl
theorem bo86 : bkOf 86 = bk86 := rfl
theorem b86_0 : blk 86 0 = some (l86_0, 4) := rfl
theorem b86_4 : blk 86 4 = some (l86_4, 20) := rfl
theorem b86_20 : blk 86 20 = some (l86_20, 29) := rfl
theorem b86_29 : blk 86 29 = some (l86_29, 35) := rfl
theorem b86_35 : blk 86 35 = some (l86_35, 37) := rfl
theorem bo87 : bkOf 87 = bk87 := rfl
theorem b87_0 : blk 87 0 = some (l87_0, 8) := rfl
theorem b87_8 : blk 87 8 = some (l87_8, 24) := rfl
theorem b87_24 : blk 87 24 = some (l87_24, 27) := rfl
theorem b87_27 : blk 87 27 = some (l87_27, 40) := rfl
theorem b87_40 : blk 87 40 = some (l87_40, 46) := rfl
theorem b87_46 : blk 87 46 = some (l87_46, 48) := rfl
theorem bo88 : bkOf 88 = bk88 := rfl
theorem b88_0 : blk 88 0 = some (l88_0, 5) := rfl
theorem b88_5 : blk 88 5 = some (l88_5, 11) := rfl
theorem b88_11 : blk 88 11 = some (l88_11, 23) := rfl
theorem b88_23 : blk 88 23 = some (l88_23, 43) := rfl
theorem b88_43 : blk 88 43 = some (l88_43, 54) := rfl
theorem b88_54 : blk 88 54 = some (l88_54, 66) := rfl
theorem b88_66 : blk 88 66 = some (l88_66, 74) := rfl
theorem b88_74 : blk 88 74 = some (l88_74, 80) := rfl
theorem bo89 : bkOf 89 = bk89 := rfl
theorem b89_0 : blk 89 0 = some (l89_0, 17) := rfl
theorem b89_17 : blk 89 17 = some (l89_17, 19) := rfl
theorem b89_19 : blk 89 19 = some (l89_19, 45) := rfl
theorem b89_45 : blk 89 45 = some (l89_45, 52) := rfl
theorem b89_52 : blk 89 52 = some (l89_52, 53) := rfl
theorem bo90 : bkOf 90 = bk90 := rfl
theorem b90_0 : blk 90 0 = some (l90_0, 4) := rfl
theorem b90_4 : blk 90 4 = some (l90_4, 29) := rfl
theorem b90_29 : blk 90 29 = some (l90_29, 45) := rfl
theorem b90_45 : blk 90 45 = some (l90_45, 47) := rfl
theorem bo91 : bkOf 91 = bk91 := rfl
theorem b91_0 : blk 91 0 = some (l91_0, 4) := rfl
theorem b91_4 : blk 91 4 = some (l91_4, 29) := rfl
theorem b91_29 : blk 91 29 = some (l91_29, 49) := rfl
theorem b91_49 : blk 91 49 = some (l91_49, 51) := rfl
theorem bo92 : bkOf 92 = bk92 := rfl
theorem b92_0 : blk 92 0 = some (l92_0, 8) := rfl
theorem b92_8 : blk 92 8 = some (l92_8, 14) := rfl
theorem b92_14 : blk 92 14 = some (l92_14, 23) := rfl
theorem b92_23 : blk 92 23 = some (l92_23, 28) := rfl
theorem b92_28 : blk 92 28 = some (l92_28, 37) := rfl
theorem b92_37 : blk 92 37 = some (l92_37, 39) := rfl
theorem bo94 : bkOf 94 = bk94 := rfl
theorem b94_0 : blk 94 0 = some (l94_0, 14) := rfl
theorem b94_14 : blk 94 14 = some (l94_14, 15) := rfl
theorem b94_15 : blk 94 15 = some (l94_15, 16) := rfl
theorem bo95 : bkOf 95 = bk95 := rfl
theorem b95_0 : blk 95 0 = some (l95_0, 18) := rfl
theorem b95_18 : blk 95 18 = some (l95_18, 19) := rfl
theorem b95_19 : blk 95 19 = some (l95_19, 20) := rfl
theorem bo96 : bkOf 96 = bk96 := rfl
theorem b96_0 : blk 96 0 = some (l96_0, 18) := rfl
theorem b96_18 : blk 96 18 = some (l96_18, 19) := rfl
theorem b96_19 : blk 96 19 = some (l96_19, 20) := rfl
theorem bo97 : bkOf 97 = bk97 := rfl
theorem b97_0 : blk 97 0 = some (l97_0, 18) := rfl
theorem b97_18 : blk 97 18 = some (l97_18, 19) := rfl
theorem b97_19 : blk 97 19 = some (l97_19, 20) := rfl
theorem bo98 : bkOf 98 = bk98 := rfl
theorem b98_0 : blk 98 0 = some (l98_0, 13) := rfl
theorem bo99 : bkOf 99 = bk99 := rfl
theorem b99_0 : blk 99 0 = some (l99_0, 12) := rfl
theorem bo100 : bkOf 100 = bk100 := rfl
theorem b100_0 : blk 100 0 = some (l100_0, 16) := rfl
theorem bo101 : bkOf 101 = bk101 := rfl
theorem b101_0 : blk 101 0 = some (l101_0, 13) := rfl
theorem bo102 : bkOf 102 = bk102 := rfl
theorem b102_0 : blk 102 0 = some (l102_0, 15) := rfl
theorem bo103 : bkOf 103 = bk103 := rfl
theorem b103_0 : blk 103 0 = some (l103_0, 13) := rfl
theorem bo104 : bkOf 104 = bk104 := rfl
theorem b104_0 : blk 104 0 = some (l104_0, 15) := rfl
theorem bo105 : bkOf 105 = bk105 := rfl
theorem b105_0 : blk 105 0 = some (l105_0, 22) := rfl
theorem b105_22 : blk 105 22 = some (l105_22, 23) := rfl
theorem b105_23 : blk 105 23 = some (l105_23, 24) := rfl
theorem bo106 : bkOf 106 = bk106 := rfl
theorem b106_0 : blk 106 0 = some (l106_0, 11) := rfl
theorem b106_11 : blk 106 11 = some (l106_11, 40) := rfl
theorem b106_40 : blk 106 40 = some (l106_40, 50) := rfl
theorem b106_50 : blk 106 50 = some (l106_50, 52) := rfl
theorem b106_52 : blk 106 52 = some (l106_52, 86) := rfl
theorem b106_86 : blk 106 86 = some (l106_86, 97) := rfl
theorem bo107 : bkOf 107 = bk107 := rfl
theorem b107_0 : blk 107 0 = some (l107_0, 10) := rfl
theorem b107_10 : blk 107 10 = some (l107_10, 22) := rfl
theorem b107_22 : blk 107 22 = some (l107_22, 56) := rfl
theorem b107_56 : blk 107 56 = some (l107_56, 61) := rfl
theorem bo108 : bkOf 108 = bk108 := rfl
theorem b108_0 : blk 108 0 = some (l108_0, 6) := rfl
theorem b108_6 : blk 108 6 = some (l108_6, 12) := rfl
theorem b108_12 : blk 108 12 = some (l108_12, 21) := rfl
theorem b108_21 : blk 108 21 = some (l108_21, 52) := rfl
theorem b108_52 : blk 108 52 = some (l108_52, 59) := rfl
theorem bo109 : bkOf 109 = bk109 := rfl
theorem b109_0 : blk 109 0 = some (l109_0, 6) := rfl
theorem b109_6 : blk 109 6 = some (l109_6, 12) := rfl
theorem b109_12 : blk 109 12 = some (l109_12, 24) := rfl
theorem b109_24 : blk 109 24 = some (l109_24, 28) := rfl
theorem b109_28 : blk 109 28 = some (l109_28, 30) := rfl
theorem b109_30 : blk 109 30 = some (l109_30, 61) := rfl
theorem b109_61 : blk 109 61 = some (l109_61, 68) := rfl
theorem bo110 : bkOf 110 = bk110 := rfl
theorem b110_0 : blk 110 0 = some (l110_0, 20) := rfl
theorem b110_20 : blk 110 20 = some (l110_20, 41) := rfl
theorem b110_41 : blk 110 41 = some (l110_41, 45) := rfl
theorem b110_45 : blk 110 45 = some (l110_45, 58) := rfl
theorem b110_58 : blk 110 58 = some (l110_58, 66) := rfl
theorem b110_66 : blk 110 66 = some (l110_66, 71) := rfl
theorem b110_71 : blk 110 71 = some (l110_71, 95) := rfl
theorem b110_95 : blk 110 95 = some (l110_95, 104) := rfl
theorem b110_104 : blk 110 104 = some (l110_104, 105) := rfl
theorem b110_105 : blk 110 105 = some (l110_105, 117) := rfl
theorem b110_117 : blk 110 117 = some (l110_117, 119) := rfl
theorem b110_119 : blk 110 119 = some (l110_119, 127) := rfl
theorem b110_127 : blk 110 127 = some (l110_127, 161) := rfl
theorem b110_161 : blk 110 161 = some (l110_161, 167) := rfl
theorem b110_167 : blk 110 167 = some (l110_167, 185) := rfl
theorem b110_185 : blk 110 185 = some (l110_185, 203) := rfl
theorem b110_203 : blk 110 203 = some (l110_203, 221) := rfl
theorem b110_221 : blk 110 221 = some (l110_221, 250) := rfl
theorem b110_250 : blk 110 250 = some (l110_250, 254) := rfl
theorem b110_254 : blk 110 254 = some (l110_254, 262) := rfl
theorem b110_262 : blk 110 262 = some (l110_262, 274) := rfl
theorem b110_274 : blk 110 274 = some (l110_274, 295) := rfl
theorem b110_295 : blk 110 295 = some (l110_295, 296) := rfl
theorem bo111 : bkOf 111 = bk111 := rfl
theorem b111_0 : blk 111 0 = some (l111_0, 7) := rfl
theorem b111_7 : blk 111 7 = some (l111_7, 10) := rfl
theorem b111_10 : blk 111 10 = some (l111_10, 11) := rfl
theorem bo112 : bkOf 112 = bk112 := rfl
theorem b112_0 : blk 112 0 = some (l112_0, 5) := rfl
theorem b112_5 : blk 112 5 = some (l112_5, 10) := rfl
theorem b112_10 : blk 112 10 = some (l112_10, 43) := rfl
theorem b112_43 : blk 112 43 = some (l112_43, 46) := rfl
theorem b112_46 : blk 112 46 = some (l112_46, 51) := rfl
theorem b112_51 : blk 112 51 = some (l112_51, 52) := rfl
theorem bo113 : bkOf 113 = bk113 := rfl
theorem b113_0 : blk 113 0 = some (l113_0, 7) := rfl
theorem b113_7 : blk 113 7 = some (l113_7, 9) := rfl
theorem b113_9 : blk 113 9 = some (l113_9, 24) := rfl
theorem b113_24 : blk 113 24 = some (l113_24, 51) := rfl
theorem b113_51 : blk 113 51 = some (l113_51, 55) := rfl
theorem b113_55 : blk 113 55 = some (l113_55, 56) := rfl
theorem b113_56 : blk 113 56 = some (l113_56, 63) := rfl
theorem b113_63 : blk 113 63 = some (l113_63, 65) := rfl
theorem bo114 : bkOf 114 = bk114 := rfl
theorem b114_0 : blk 114 0 = some (l114_0, 4) := rfl
theorem b114_4 : blk 114 4 = some (l114_4, 42) := rfl
theorem b114_42 : blk 114 42 = some (l114_42, 43) := rfl
theorem b114_43 : blk 114 43 = some (l114_43, 52) := rfl
theorem b114_52 : blk 114 52 = some (l114_52, 54) := rfl
theorem bo115 : bkOf 115 = bk115 := rfl
theorem b115_0 : blk 115 0 = some (l115_0, 4) := rfl
theorem b115_4 : blk 115 4 = some (l115_4, 34) := rfl
theorem b115_34 : blk 115 34 = some (l115_34, 35) := rfl
theorem b115_35 : blk 115 35 = some (l115_35, 43) := rfl
theorem b115_43 : blk 115 43 = some (l115_43, 45) := rfl
theorem bo116 : bkOf 116 = bk116 := rfl
theorem b116_0 : blk 116 0 = some (l116_0, 4) := rfl
theorem b116_4 : blk 116 4 = some (l116_4, 32) := rfl
theorem b116_32 : blk 116 32 = some (l116_32, 36) := rfl
theorem b116_36 : blk 116 36 = some (l116_36, 37) := rfl
theorem b116_37 : blk 116 37 = some (l116_37, 44) := rfl
theorem b116_44 : blk 116 44 = some (l116_44, 46) := rfl
theorem bo117 : bkOf 117 = bk117 := rfl
theorem b117_0 : blk 117 0 = some (l117_0, 2) := rfl
theorem b117_2 : blk 117 2 = some (l117_2, 53) := rfl
theorem b117_53 : blk 117 53 = some (l117_53, 54) := rfl
theorem bo118 : bkOf 118 = bk118 := rfl
theorem b118_0 : blk 118 0 = some (l118_0, 10) := rfl
theorem b118_10 : blk 118 10 = some (l118_10, 21) := rfl
theorem b118_21 : blk 118 21 = some (l118_21, 22) := rfl
theorem bo119 : bkOf 119 = bk119 := rfl
theorem b119_0 : blk 119 0 = some (l119_0, 2) := rfl
theorem b119_2 : blk 119 2 = some (l119_2, 26) := rfl
theorem b119_26 : blk 119 26 = some (l119_26, 28) := rfl
theorem b119_28 : blk 119 28 = some (l119_28, 53) := rfl
theorem b119_53 : blk 119 53 = some (l119_53, 54) := rfl
theorem bo120 : bkOf 120 = bk120 := rfl
theorem b120_0 : blk 120 0 = some (l120_0, 11) := rfl
theorem b120_11 : blk 120 11 = some (l120_11, 16) := rfl
theorem b120_16 : blk 120 16 = some (l120_16, 24) := rfl
theorem b120_24 : blk 120 24 = some (l120_24, 30) := rfl
theorem b120_30 : blk 120 30 = some (l120_30, 52) := rfl
theorem b120_52 : blk 120 52 = some (l120_52, 55) := rfl
theorem b120_55 : blk 120 55 = some (l120_55, 59) := rfl
theorem b120_59 : blk 120 59 = some (l120_59, 71) := rfl
theorem b120_71 : blk 120 71 = some (l120_71, 119) := rfl
theorem b120_119 : blk 120 119 = some (l120_119, 120) := rfl
theorem b120_120 : blk 120 120 = some (l120_120, 146) := rfl
theorem b120_146 : blk 120 146 = some (l120_146, 158) := rfl
theorem b120_158 : blk 120 158 = some (l120_158, 164) := rfl
theorem b120_164 : blk 120 164 = some (l120_164, 170) := rfl
theorem b120_170 : blk 120 170 = some (l120_170, 171) := rfl
theorem bo121 : bkOf 121 = bk121 := rfl
theorem b121_0 : blk 121 0 = some (l121_0, 5) := rfl
theorem b121_5 : blk 121 5 = some (l121_5, 10) := rfl
theorem b121_10 : blk 121 10 = some (l121_10, 23) := rfl
theorem b121_23 : blk 121 23 = some (l121_23, 27) := rfl
theorem b121_27 : blk 121 27 = some (l121_27, 33) := rfl
theorem b121_33 : blk 121 33 = some (l121_33, 36) := rfl
theorem b121_36 : blk 121 36 = some (l121_36, 53) := rfl
theorem b121_53 : blk 121 53 = some (l121_53, 59) := rfl
theorem b121_59 : blk 121 59 = some (l121_59, 79) := rfl
theorem b121_79 : blk 121 79 = some (l121_79, 89) := rfl
theorem bo122 : bkOf 122 = bk122 := rfl
theorem b122_0 : blk 122 0 = some (l122_0, 5) := rfl
theorem b122_5 : blk 122 5 = some (l122_5, 10) := rfl
theorem b122_10 : blk 122 10 = some (l122_10, 18) := rfl
theorem b122_18 : blk 122 18 = some (l122_18, 24) := rfl
theorem b122_24 : blk 122 24 = some (l122_24, 28) := rfl
theorem b122_28 : blk 122 28 = some (l122_28, 34) := rfl
theorem b122_34 : blk 122 34 = some (l122_34, 50) := rfl
theorem bo123 : bkOf 123 = bk123 := rfl
theorem b123_0 : blk 123 0 = some (l123_0, 4) := rfl
theorem b123_4 : blk 123 4 = some (l123_4, 21) := rfl
theorem b123_21 : blk 123 21 = some (l123_21, 29) := rfl
theorem b123_29 : blk 123 29 = some (l123_29, 31) := rfl
theorem bo124 : bkOf 124 = bk124 := rfl
theorem b124_0 : blk 124 0 = some (l124_0, 5) := rfl
theorem b124_5 : blk 124 5 = some (l124_5, 10) := rfl
theorem b124_10 : blk 124 10 = some (l124_10, 20) := rfl
theorem b124_20 : blk 124 20 = some (l124_20, 28) := rfl
theorem b124_28 : blk 124 28 = some (l124_28, 29) := rfl
theorem b124_29 : blk 124 29 = some (l124_29, 33) := rfl
theorem b124_33 : blk 124 33 = some (l124_33, 36) := rfl
theorem b124_36 : blk 124 36 = some (l124_36, 40) := rfl
theorem b124_40 : blk 124 40 = some (l124_40, 59) := rfl
theorem b124_59 : blk 124 59 = some (l124_59, 60) := rfl
theorem b124_60 : blk 124 60 = some (l124_60, 65) := rfl
theorem b124_65 : blk 124 65 = some (l124_65, 66) := rfl
theorem bo125 : bkOf 125 = bk125 := rfl
theorem b125_0 : blk 125 0 = some (l125_0, 7) := rfl
theorem b125_7 : blk 125 7 = some (l125_7, 17) := rfl
theorem b125_17 : blk 125 17 = some (l125_17, 20) := rfl
theorem b125_20 : blk 125 20 = some (l125_20, 23) := rfl
theorem b125_23 : blk 125 23 = some (l125_23, 37) := rfl
theorem b125_37 : blk 125 37 = some (l125_37, 41) := rfl
theorem b125_41 : blk 125 41 = some (l125_41, 98) := rfl
theorem bo126 : bkOf 126 = bk126 := rfl
theorem b126_0 : blk 126 0 = some (l126_0, 17) := rfl
theorem b126_17 : blk 126 17 = some (l126_17, 36) := rfl
theorem bo127 : bkOf 127 = bk127 := rfl
theorem b127_0 : blk 127 0 = some (l127_0, 32) := rfl
theorem b127_32 : blk 127 32 = some (l127_32, 36) := rfl
theorem bo128 : bkOf 128 = bk128 := rfl
theorem b128_0 : blk 128 0 = some (l128_0, 5) := rfl
theorem b128_5 : blk 128 5 = some (l128_5, 13) := rfl
theorem b128_13 : blk 128 13 = some (l128_13, 16) := rfl
theorem b128_16 : blk 128 16 = some (l128_16, 20) := rfl
theorem b128_20 : blk 128 20 = some (l128_20, 25) := rfl
theorem b128_25 : blk 128 25 = some (l128_25, 34) := rfl
theorem b128_34 : blk 128 34 = some (l128_34, 35) := rfl
theorem b128_35 : blk 128 35 = some (l128_35, 36) := rfl
theorem bo129 : bkOf 129 = bk129 := rfl
theorem b129_0 : blk 129 0 = some (l129_0, 6) := rfl
theorem b129_6 : blk 129 6 = some (l129_6, 13) := rfl
theorem b129_13 : blk 129 13 = some (l129_13, 17) := rfl
theorem b129_17 : blk 129 17 = some (l129_17, 23) := rfl
theorem b129_23 : blk 129 23 = some (l129_23, 28) := rfl
theorem b129_28 : blk 129 28 = some (l129_28, 29) := rfl
theorem bo130 : bkOf 130 = bk130 := rfl
theorem b130_0 : blk 130 0 = some (l130_0, 5) := rfl
theorem b130_5 : blk 130 5 = some (l130_5, 8) := rfl
theorem b130_8 : blk 130 8 = some (l130_8, 33) := rfl
theorem b130_33 : blk 130 33 = some (l130_33, 35) := rfl
theorem bo131 : bkOf 131 = bk131 := rfl
theorem b131_0 : blk 131 0 = some (l131_0, 5) := rfl
theorem b131_5 : blk 131 5 = some (l131_5, 10) := rfl
theorem b131_10 : blk 131 10 = some (l131_10, 14) := rfl
theorem b131_14 : blk 131 14 = some (l131_14, 19) := rfl
theorem b131_19 : blk 131 19 = some (l131_19, 20) := rfl
theorem bo132 : bkOf 132 = bk132 := rfl
theorem b132_0 : blk 132 0 = some (l132_0, 6) := rfl
theorem b132_6 : blk 132 6 = some (l132_6, 17) := rfl
theorem b132_17 : blk 132 17 = some (l132_17, 20) := rfl
theorem b132_20 : blk 132 20 = some (l132_20, 23) := rfl
theorem b132_23 : blk 132 23 = some (l132_23, 37) := rfl
theorem b132_37 : blk 132 37 = some (l132_37, 41) := rfl
theorem b132_41 : blk 132 41 = some (l132_41, 103) := rfl
theorem bo133 : bkOf 133 = bk133 := rfl
theorem b133_0 : blk 133 0 = some (l133_0, 5) := rfl
theorem b133_5 : blk 133 5 = some (l133_5, 10) := rfl
theorem b133_10 : blk 133 10 = some (l133_10, 19) := rfl
theorem b133_19 : blk 133 19 = some (l133_19, 25) := rfl
theorem b133_25 : blk 133 25 = some (l133_25, 29) := rfl
theorem b133_29 : blk 133 29 = some (l133_29, 34) := rfl
theorem b133_34 : blk 133 34 = some (l133_34, 36) := rfl
theorem b133_36 : blk 133 36 = some (l133_36, 64) := rfl
theorem b133_64 : blk 133 64 = some (l133_64, 70) := rfl
theorem b133_70 : blk 133 70 = some (l133_70, 77) := rfl
theorem b133_77 : blk 133 77 = some (l133_77, 98) := rfl
theorem b133_98 : blk 133 98 = some (l133_98, 99) := rfl
theorem b133_99 : blk 133 99 = some (l133_99, 105) := rfl
theorem b133_105 : blk 133 105 = some (l133_105, 106) := rfl
theorem bo134 : bkOf 134 = bk134 := rfl
theorem b134_0 : blk 134 0 = some (l134_0, 4) := rfl
theorem b134_4 : blk 134 4 = some (l134_4, 16) := rfl
theorem b134_16 : blk 134 16 = some (l134_16, 24) := rfl
theorem b134_24 : blk 134 24 = some (l134_24, 26) := rfl
theorem bo135 : bkOf 135 = bk135 := rfl
theorem b135_0 : blk 135 0 = some (l135_0, 4) := rfl
theorem b135_4 : blk 135 4 = some (l135_4, 16) := rfl
theorem b135_16 : blk 135 16 = some (l135_16, 24) := rfl
theorem b135_24 : blk 135 24 = some (l135_24, 26) := rfl
theorem bo136 : bkOf 136 = bk136 := rfl
theorem b136_0 : blk 136 0 = some (l136_0, 5) := rfl
theorem b136_5 : blk 136 5 = some (l136_5, 10) := rfl
theorem b136_10 : blk 136 10 = some (l136_10, 48) := rfl
theorem b136_48 : blk 136 48 = some (l136_48, 54) := rfl
theorem b136_54 : blk 136 54 = some (l136_54, 55) := rfl
theorem b136_55 : blk 136 55 = some (l136_55, 60) := rfl
theorem b136_60 : blk 136 60 = some (l136_60, 61) := rfl
theorem b136_61 : blk 136 61 = some (l136_61, 66) := rfl
theorem b136_66 : blk 136 66 = some (l136_66, 67) := rfl
theorem b136_67 : blk 136 67 = some (l136_67, 73) := rfl
theorem b136_73 : blk 136 73 = some (l136_73, 74) := rfl
theorem b136_74 : blk 136 74 = some (l136_74, 79) := rfl
theorem b136_79 : blk 136 79 = some (l136_79, 80) := rfl
theorem b136_80 : blk 136 80 = some (l136_80, 83) := rfl
theorem bo137 : bkOf 137 = bk137 := rfl
theorem b137_0 : blk 137 0 = some (l137_0, 2) := rfl
theorem b137_2 : blk 137 2 = some (l137_2, 18) := rfl
theorem b137_18 : blk 137 18 = some (l137_18, 24) := rfl
theorem b137_24 : blk 137 24 = some (l137_24, 30) := rfl
theorem b137_30 : blk 137 30 = some (l137_30, 32) := rfl
theorem bo138 : bkOf 138 = bk138 := rfl
theorem b138_0 : blk 138 0 = some (l138_0, 5) := rfl
theorem b138_5 : blk 138 5 = some (l138_5, 15) := rfl
theorem b138_15 : blk 138 15 = some (l138_15, 20) := rfl
theorem b138_20 : blk 138 20 = some (l138_20, 29) := rfl
theorem b138_29 : blk 138 29 = some (l138_29, 32) := rfl
theorem b138_32 : blk 138 32 = some (l138_32, 33) := rfl
theorem b138_33 : blk 138 33 = some (l138_33, 34) := rfl
theorem bo139 : bkOf 139 = bk139 := rfl
theorem b139_0 : blk 139 0 = some (l139_0, 4) := rfl
theorem b139_4 : blk 139 4 = some (l139_4, 20) := rfl
theorem b139_20 : blk 139 20 = some (l139_20, 27) := rfl
theorem b139_27 : blk 139 27 = some (l139_27, 42) := rfl
theorem b139_42 : blk 139 42 = some (l139_42, 46) := rfl
theorem b139_46 : blk 139 46 = some (l139_46, 50) := rfl
theorem b139_50 : blk 139 50 = some (l139_50, 51) := rfl
theorem b139_51 : blk 139 51 = some (l139_51, 59) := rfl
theorem b139_59 : blk 139 59 = some (l139_59, 69) := rfl
theorem b139_69 : blk 139 69 = some (l139_69, 70) := rfl
theorem b139_70 : blk 139 70 = some (l139_70, 78) := rfl
theorem b139_78 : blk 139 78 = some (l139_78, 80) := rfl
theorem bo140 : bkOf 140 = bk140 := rfl
theorem b140_0 : blk 140 0 = some (l140_0, 4) := rfl
theorem b140_4 : blk 140 4 = some (l140_4, 19) := rfl
theorem b140_19 : blk 140 19 = some (l140_19, 25) := rfl
theorem b140_25 : blk 140 25 = some (l140_25, 32) := rfl
theorem b140_32 : blk 140 32 = some (l140_32, 33) := rfl
theorem b140_33 : blk 140 33 = some (l140_33, 41) := rfl
theorem b140_41 : blk 140 41 = some (l140_41, 43) := rfl
theorem bo141 : bkOf 141 = bk141 := rfl
theorem b141_0 : blk 141 0 = some (l141_0, 5) := rfl
theorem b141_5 : blk 141 5 = some (l141_5, 10) := rfl
theorem b141_10 : blk 141 10 = some (l141_10, 40) := rfl
theorem b141_40 : blk 141 40 = some (l141_40, 45) := rfl
theorem b141_45 : blk 141 45 = some (l141_45, 46) := rfl
theorem b141_46 : blk 141 46 = some (l141_46, 51) := rfl
theorem b141_51 : blk 141 51 = some (l141_51, 52) := rfl
theorem b141_52 : blk 141 52 = some (l141_52, 57) := rfl
theorem b141_57 : blk 141 57 = some (l141_57, 58) := rfl
theorem b141_58 : blk 141 58 = some (l141_58, 63) := rfl
theorem b141_63 : blk 141 63 = some (l141_63, 64) := rfl
theorem b141_64 : blk 141 64 = some (l141_64, 67) := rfl
theorem bo142 : bkOf 142 = bk142 := rfl
theorem b142_0 : blk 142 0 = some (l142_0, 5) := rfl
theorem b142_5 : blk 142 5 = some (l142_5, 10) := rfl
theorem b142_10 : blk 142 10 = some (l142_10, 20) := rfl
theorem b142_20 : blk 142 20 = some (l142_20, 27) := rfl
theorem b142_27 : blk 142 27 = some (l142_27, 28) := rfl
theorem b142_28 : blk 142 28 = some (l142_28, 29) := rfl
theorem b142_29 : blk 142 29 = some (l142_29, 34) := rfl
theorem b142_34 : blk 142 34 = some (l142_34, 80) := rfl
theorem b142_80 : blk 142 80 = some (l142_80, 85) := rfl
theorem b142_85 : blk 142 85 = some (l142_85, 86) := rfl
theorem b142_86 : blk 142 86 = some (l142_86, 91) := rfl
theorem b142_91 : blk 142 91 = some (l142_91, 92) := rfl
theorem b142_92 : blk 142 92 = some (l142_92, 97) := rfl
theorem b142_97 : blk 142 97 = some (l142_97, 104) := rfl
theorem b142_104 : blk 142 104 = some (l142_104, 105) := rfl
theorem b142_105 : blk 142 105 = some (l142_105, 106) := rfl
theorem b142_106 : blk 142 106 = some (l142_106, 111) := rfl
theorem b142_111 : blk 142 111 = some (l142_111, 112) := rfl
theorem b142_112 : blk 142 112 = some (l142_112, 116) := rfl
theorem b142_116 : blk 142 116 = some (l142_116, 117) := rfl
theorem b142_117 : blk 142 117 = some (l142_117, 122) := rfl
theorem b142_122 : blk 142 122 = some (l142_122, 123) := rfl
theorem b142_123 : blk 142 123 = some (l142_123, 130) := rfl
theorem b142_130 : blk 142 130 = some (l142_130, 133) := rfl
theorem bo143 : bkOf 143 = bk143 := rfl
theorem b143_0 : blk 143 0 = some (l143_0, 4) := rfl
theorem b143_4 : blk 143 4 = some (l143_4, 20) := rfl
theorem b143_20 : blk 143 20 = some (l143_20, 29) := rfl
theorem b143_29 : blk 143 29 = some (l143_29, 30) := rfl
theorem b143_30 : blk 143 30 = some (l143_30, 38) := rfl
theorem b143_38 : blk 143 38 = some (l143_38, 40) := rfl
theorem bo144 : bkOf 144 = bk144 := rfl
theorem b144_0 : blk 144 0 = some (l144_0, 8) := rfl
theorem b144_8 : blk 144 8 = some (l144_8, 23) := rfl
theorem b144_23 : blk 144 23 = some (l144_23, 28) := rfl
theorem b144_28 : blk 144 28 = some (l144_28, 40) := rfl
theorem b144_40 : blk 144 40 = some (l144_40, 41) := rfl
theorem b144_41 : blk 144 41 = some (l144_41, 53) := rfl
theorem b144_53 : blk 144 53 = some (l144_53, 54) := rfl
theorem b144_54 : blk 144 54 = some (l144_54, 61) := rfl
theorem b144_61 : blk 144 61 = some (l144_61, 63) := rfl
theorem bo145 : bkOf 145 = bk145 := rfl
theorem b145_0 : blk 145 0 = some (l145_0, 52) := rfl
theorem b145_52 : blk 145 52 = some (l145_52, 59) := rfl
theorem b145_59 : blk 145 59 = some (l145_59, 69) := rfl
theorem b145_69 : blk 145 69 = some (l145_69, 70) := rfl
theorem b145_70 : blk 145 70 = some (l145_70, 74) := rfl
theorem b145_74 : blk 145 74 = some (l145_74, 75) := rfl
theorem b145_75 : blk 145 75 = some (l145_75, 82) := rfl
theorem b145_82 : blk 145 82 = some (l145_82, 89) := rfl
theorem b145_89 : blk 145 89 = some (l145_89, 93) := rfl
theorem b145_93 : blk 145 93 = some (l145_93, 94) := rfl
theorem b145_94 : blk 145 94 = some (l145_94, 98) := rfl
theorem b145_98 : blk 145 98 = some (l145_98, 99) := rfl
theorem b145_99 : blk 145 99 = some (l145_99, 104) := rfl
theorem b145_104 : blk 145 104 = some (l145_104, 109) := rfl
theorem b145_109 : blk 145 109 = some (l145_109, 112) := rfl
theorem bo146 : bkOf 146 = bk146 := rfl
theorem b146_0 : blk 146 0 = some (l146_0, 5) := rfl
theorem b146_5 : blk 146 5 = some (l146_5, 10) := rfl
theorem b146_10 : blk 146 10 = some (l146_10, 15) := rfl
theorem b146_15 : blk 146 15 = some (l146_15, 28) := rfl
theorem b146_28 : blk 146 28 = some (l146_28, 44) := rfl
theorem b146_44 : blk 146 44 = some (l146_44, 45) := rfl
theorem b146_45 : blk 146 45 = some (l146_45, 46) := rfl
theorem bo147 : bkOf 147 = bk147 := rfl
theorem b147_0 : blk 147 0 = some (l147_0, 5) := rfl
theorem b147_5 : blk 147 5 = some (l147_5, 10) := rfl
theorem b147_10 : blk 147 10 = some (l147_10, 18) := rfl
theorem b147_18 : blk 147 18 = some (l147_18, 24) := rfl
theorem b147_24 : blk 147 24 = some (l147_24, 29) := rfl
theorem b147_29 : blk 147 29 = some (l147_29, 37) := rfl
theorem b147_37 : blk 147 37 = some (l147_37, 88) := rfl
theorem b147_88 : blk 147 88 = some (l147_88, 94) := rfl
theorem b147_94 : blk 147 94 = some (l147_94, 97) := rfl
theorem bo148 : bkOf 148 = bk148 := rfl
theorem b148_0 : blk 148 0 = some (l148_0, 9) := rfl
theorem b148_9 : blk 148 9 = some (l148_9, 59) := rfl
theorem b148_59 : blk 148 59 = some (l148_59, 100) := rfl
theorem b148_100 : blk 148 100 = some (l148_100, 102) := rfl
theorem bo149 : bkOf 149 = bk149 := rfl
theorem b149_0 : blk 149 0 = some (l149_0, 4) := rfl
theorem b149_4 : blk 149 4 = some (l149_4, 28) := rfl
theorem b149_28 : blk 149 28 = some (l149_28, 30) := rfl
theorem bo150 : bkOf 150 = bk150 := rfl
theorem b150_0 : blk 150 0 = some (l150_0, 5) := rfl
theorem b150_5 : blk 150 5 = some (l150_5, 10) := rfl
theorem b150_10 : blk 150 10 = some (l150_10, 18) := rfl
theorem b150_18 : blk 150 18 = some (l150_18, 27) := rfl
theorem b150_27 : blk 150 27 = some (l150_27, 30) := rfl
theorem b150_30 : blk 150 30 = some (l150_30, 33) := rfl
theorem b150_33 : blk 150 33 = some (l150_33, 38) := rfl
theorem b150_38 : blk 150 38 = some (l150_38, 43) := rfl
theorem b150_43 : blk 150 43 = some (l150_43, 49) := rfl
theorem b150_49 : blk 150 49 = some (l150_49, 65) := rfl
theorem b150_65 : blk 150 65 = some (l150_65, 74) := rfl
theorem b150_74 : blk 150 74 = some (l150_74, 75) := rfl
theorem b150_75 : blk 150 75 = some (l150_75, 103) := rfl
theorem b150_103 : blk 150 103 = some (l150_103, 108) := rfl
theorem b150_108 : blk 150 108 = some (l150_108, 120) := rfl
theorem b150_120 : blk 150 120 = some (l150_120, 128) := rfl
theorem b150_128 : blk 150 128 = some (l150_128, 129) := rfl
theorem bo151 : bkOf 151 = bk151 := rfl
theorem b151_0 : blk 151 0 = some (l151_0, 5) := rfl
theorem b151_5 : blk 151 5 = some (l151_5, 10) := rfl
theorem b151_10 : blk 151 10 = some (l151_10, 15) := rfl
theorem b151_15 : blk 151 15 = some (l151_15, 23) := rfl
theorem b151_23 : blk 151 23 = some (l151_23, 73) := rfl
theorem b151_73 : blk 151 73 = some (l151_73, 105) := rfl
theorem b151_105 : blk 151 105 = some (l151_105, 107) := rfl
theorem bo152 : bkOf 152 = bk152 := rfl
theorem b152_0 : blk 152 0 = some (l152_0, 5) := rfl
theorem b152_5 : blk 152 5 = some (l152_5, 10) := rfl
theorem b152_10 : blk 152 10 = some (l152_10, 18) := rfl
theorem b152_18 : blk 152 18 = some (l152_18, 24) := rfl
theorem b152_24 : blk 152 24 = some (l152_24, 29) := rfl
theorem b152_29 : blk 152 29 = some (l152_29, 35) := rfl
theorem b152_35 : blk 152 35 = some (l152_35, 99) := rfl
theorem b152_99 : blk 152 99 = some (l152_99, 101) := rfl
theorem b152_101 : blk 152 101 = some (l152_101, 102) := rfl
theorem b152_102 : blk 152 102 = some (l152_102, 124) := rfl
theorem b152_124 : blk 152 124 = some (l152_124, 127) := rfl
theorem bo153 : bkOf 153 = bk153 := rfl
theorem b153_0 : blk 153 0 = some (l153_0, 5) := rfl
theorem b153_5 : blk 153 5 = some (l153_5, 10) := rfl
theorem b153_10 : blk 153 10 = some (l153_10, 16) := rfl
theorem b153_16 : blk 153 16 = some (l153_16, 33) := rfl
theorem b153_33 : blk 153 33 = some (l153_33, 43) := rfl
theorem b153_43 : blk 153 43 = some (l153_43, 48) := rfl
theorem b153_48 : blk 153 48 = some (l153_48, 59) := rfl
theorem b153_59 : blk 153 59 = some (l153_59, 63) := rfl
theorem b153_63 : blk 153 63 = some (l153_63, 64) := rfl
theorem b153_64 : blk 153 64 = some (l153_64, 65) := rfl
theorem bo154 : bkOf 154 = bk154 := rfl
theorem b154_0 : blk 154 0 = some (l154_0, 5) := rfl
theorem b154_5 : blk 154 5 = some (l154_5, 13) := rfl
theorem b154_13 : blk 154 13 = some (l154_13, 16) := rfl
theorem b154_16 : blk 154 16 = some (l154_16, 18) := rfl
theorem b154_18 : blk 154 18 = some (l154_18, 26) := rfl
theorem b154_26 : blk 154 26 = some (l154_26, 32) := rfl
theorem b154_32 : blk 154 32 = some (l154_32, 38) := rfl
theorem b154_38 : blk 154 38 = some (l154_38, 46) := rfl
theorem b154_46 : blk 154 46 = some (l154_46, 58) := rfl
theorem b154_58 : blk 154 58 = some (l154_58, 61) := rfl
theorem b154_61 : blk 154 61 = some (l154_61, 76) := rfl
theorem b154_76 : blk 154 76 = some (l154_76, 81) := rfl
theorem b154_81 : blk 154 81 = some (l154_81, 82) := rfl
theorem bo155 : bkOf 155 = bk155 := rfl
theorem b155_0 : blk 155 0 = some (l155_0, 4) := rfl
theorem b155_4 : blk 155 4 = some (l155_4, 19) := rfl
theorem b155_19 : blk 155 19 = some (l155_19, 25) := rfl
theorem b155_25 : blk 155 25 = some (l155_25, 33) := rfl
theorem b155_33 : blk 155 33 = some (l155_33, 35) := rfl
theorem bo156 : bkOf 156 = bk156 := rfl
theorem b156_0 : blk 156 0 = some (l156_0, 6) := rfl
theorem b156_6 : blk 156 6 = some (l156_6, 13) := rfl
theorem b156_13 : blk 156 13 = some (l156_13, 17) := rfl
theorem b156_17 : blk 156 17 = some (l156_17, 25) := rfl
theorem b156_25 : blk 156 25 = some (l156_25, 29) := rfl
theorem b156_29 : blk 156 29 = some (l156_29, 36) := rfl
theorem b156_36 : blk 156 36 = some (l156_36, 46) := rfl
theorem bo157 : bkOf 157 = bk157 := rfl
theorem b157_0 : blk 157 0 = some (l157_0, 5) := rfl
theorem b157_5 : blk 157 5 = some (l157_5, 10) := rfl
theorem b157_10 : blk 157 10 = some (l157_10, 16) := rfl
theorem b157_16 : blk 157 16 = some (l157_16, 22) := rfl
theorem b157_22 : blk 157 22 = some (l157_22, 32) := rfl
theorem b157_32 : blk 157 32 = some (l157_32, 49) := rfl
theorem b157_49 : blk 157 49 = some (l157_49, 60) := rfl
theorem b157_60 : blk 157 60 = some (l157_60, 65) := rfl
theorem b157_65 : blk 157 65 = some (l157_65, 73) := rfl
theorem b157_73 : blk 157 73 = some (l157_73, 85) := rfl
theorem b157_85 : blk 157 85 = some (l157_85, 86) := rfl
theorem b157_86 : blk 157 86 = some (l157_86, 99) := rfl
theorem b157_99 : blk 157 99 = some (l157_99, 101) := rfl
theorem b157_101 : blk 157 101 = some (l157_101, 103) := rfl
theorem b157_103 : blk 157 103 = some (l157_103, 109) := rfl
theorem b157_109 : blk 157 109 = some (l157_109, 117) := rfl
theorem b157_117 : blk 157 117 = some (l157_117, 119) := rfl
theorem b157_119 : blk 157 119 = some (l157_119, 120) := rfl
theorem bo158 : bkOf 158 = bk158 := rfl
theorem b158_0 : blk 158 0 = some (l158_0, 5) := rfl
theorem b158_5 : blk 158 5 = some (l158_5, 10) := rfl
theorem b158_10 : blk 158 10 = some (l158_10, 18) := rfl
theorem b158_18 : blk 158 18 = some (l158_18, 22) := rfl
theorem b158_22 : blk 158 22 = some (l158_22, 25) := rfl
theorem b158_25 : blk 158 25 = some (l158_25, 38) := rfl
theorem b158_38 : blk 158 38 = some (l158_38, 42) := rfl
theorem b158_42 : blk 158 42 = some (l158_42, 48) := rfl
theorem b158_48 : blk 158 48 = some (l158_48, 54) := rfl
theorem b158_54 : blk 158 54 = some (l158_54, 58) := rfl
theorem bo159 : bkOf 159 = bk159 := rfl
theorem b159_0 : blk 159 0 = some (l159_0, 8) := rfl
theorem b159_8 : blk 159 8 = some (l159_8, 34) := rfl
theorem b159_34 : blk 159 34 = some (l159_34, 49) := rfl
theorem b159_49 : blk 159 49 = some (l159_49, 58) := rfl
theorem b159_58 : blk 159 58 = some (l159_58, 61) := rfl
theorem b159_61 : blk 159 61 = some (l159_61, 75) := rfl
theorem b159_75 : blk 159 75 = some (l159_75, 80) := rfl
theorem b159_80 : blk 159 80 = some (l159_80, 123) := rfl
theorem b159_123 : blk 159 123 = some (l159_123, 128) := rfl
theorem bo160 : bkOf 160 = bk160 := rfl
theorem b160_0 : blk 160 0 = some (l160_0, 12) := rfl
theorem bo161 : bkOf 161 = bk161 := rfl
theorem b161_0 : blk 161 0 = some (l161_0, 31) := rfl
theorem b161_31 : blk 161 31 = some (l161_31, 35) := rfl
theorem b161_35 : blk 161 35 = some (l161_35, 36) := rfl
theorem b161_36 : blk 161 36 = some (l161_36, 54) := rfl
theorem b161_54 : blk 161 54 = some (l161_54, 55) := rfl
theorem b161_55 : blk 161 55 = some (l161_55, 89) := rfl
theorem b161_89 : blk 161 89 = some (l161_89, 92) := rfl
theorem b161_92 : blk 161 92 = some (l161_92, 118) := rfl
theorem b161_118 : blk 161 118 = some (l161_118, 119) := rfl
theorem b161_119 : blk 161 119 = some (l161_119, 127) := rfl
theorem b161_127 : blk 161 127 = some (l161_127, 152) := rfl
theorem b161_152 : blk 161 152 = some (l161_152, 155) := rfl
theorem b161_155 : blk 161 155 = some (l161_155, 157) := rfl
theorem b161_157 : blk 161 157 = some (l161_157, 186) := rfl
theorem bo162 : bkOf 162 = bk162 := rfl
theorem b162_0 : blk 162 0 = some (l162_0, 19) := rfl
theorem b162_19 : blk 162 19 = some (l162_19, 37) := rfl
theorem b162_37 : blk 162 37 = some (l162_37, 42) := rfl
theorem b162_42 : blk 162 42 = some (l162_42, 48) := rfl
theorem b162_48 : blk 162 48 = some (l162_48, 71) := rfl
theorem b162_71 : blk 162 71 = some (l162_71, 76) := rfl
theorem b162_76 : blk 162 76 = some (l162_76, 80) := rfl
theorem b162_80 : blk 162 80 = some (l162_80, 81) := rfl
theorem bo163 : bkOf 163 = bk163 := rfl
theorem b163_0 : blk 163 0 = some (l163_0, 4) := rfl
theorem b163_4 : blk 163 4 = some (l163_4, 5) := rfl
theorem bo164 : bkOf 164 = bk164 := rfl
theorem b164_0 : blk 164 0 = some (l164_0, 17) := rfl
theorem b164_17 : blk 164 17 = some (l164_17, 18) := rfl
theorem b164_18 : blk 164 18 = some (l164_18, 21) := rfl
theorem b164_21 : blk 164 21 = some (l164_21, 31) := rfl
theorem b164_31 : blk 164 31 = some (l164_31, 61) := rfl
theorem b164_61 : blk 164 61 = some (l164_61, 68) := rfl
theorem b164_68 : blk 164 68 = some (l164_68, 69) := rfl
theorem b164_69 : blk 164 69 = some (l164_69, 76) := rfl
theorem b164_76 : blk 164 76 = some (l164_76, 82) := rfl
theorem b164_82 : blk 164 82 = some (l164_82, 84) := rfl
theorem bo165 : bkOf 165 = bk165 := rfl
theorem b165_0 : blk 165 0 = some (l165_0, 4) := rfl
theorem b165_4 : blk 165 4 = some (l165_4, 12) := rfl
theorem b165_12 : blk 165 12 = some (l165_12, 16) := rfl
theorem b165_16 : blk 165 16 = some (l165_16, 21) := rfl
theorem b165_21 : blk 165 21 = some (l165_21, 25) := rfl
theorem b165_25 : blk 165 25 = some (l165_25, 27) := rfl
theorem b165_27 : blk 165 27 = some (l165_27, 40) := rfl
theorem b165_40 : blk 165 40 = some (l165_40, 43) := rfl
theorem b165_43 : blk 165 43 = some (l165_43, 70) := rfl
theorem b165_70 : blk 165 70 = some (l165_70, 76) := rfl
theorem b165_76 : blk 165 76 = some (l165_76, 82) := rfl
theorem b165_82 : blk 165 82 = some (l165_82, 92) := rfl
end
section
/-! A SMALL MACHINE over the same instructions: ints are integers, a reference is the number of a cell, the heap is a function from cell and place to an integer; pointers never change (layout 'lay'). -/
abbrev MV : Type := Sum Int (Sum Int64 Nat)
abbrev vI (x : Int) : MV := Sum.inl x
abbrev vL (x : Int64) : MV := Sum.inr (Sum.inl x)
abbrev vR (k : Nat) : MV := Sum.inr (Sum.inr k)
abbrev Mem : Type := Nat → Nat → Int
abbrev Ls : Type := List (Option MV)
/-- how many cells are made, which pointers are set -/
abbrev Sg : Type := Nat × (Nat → Nat → Bool)
def inR (x : Int) : Prop := -2147483648 ≤ x ∧ x ≤ 2147483647
def ms (μ : Mem) (k j : Nat) (v : Int) : Mem := fun k' j' => if k' = k ∧ j' = j then v else μ k' j'
def mcp (μ : Mem) (k0 sp k1 dp n : Nat) : Mem := fun k j => if k = k1 ∧ dp ≤ j ∧ j < dp + n then μ k0 (sp + (j - dp)) else μ k j
-- the layout: kind and size of each cell; kinds 0 to 7 objects (the class), 100 int[], 101 char[], 102 boolean[], 103 Hearing[], 104 State[] of the history, 105 State[] of the slots
def layS : List (Nat × Nat) := [(4, 4), (100, 24), (100, 24), (100, 24)]
def layH : List (Nat × Nat) := [(1, 3), (4, 4), (100, 24), (100, 24), (100, 24), (100, 24), (100, 24)]
def layT : List (Nat × Nat) := [(5, 12), (4, 4), (100, 24), (100, 24), (100, 24), (100, 24), (100, 96), (100, 8), (100, 8), (100, 6), (100, 6), (102, 6), (103, 6)] ++ (layH ++ (layH ++ (layH ++ (layH ++ (layH ++ layH)))))
def lay : List (Nat × Nat) := [(6, 7)] ++ (layT ++ ([(2, 3), (104, 6)] ++ (layT ++ (layT ++ (layT ++ (layT ++ (layT ++ (layT ++ ([(105, 2), (102, 2), (3, 2), (101, 60), (0, 6)] ++ (layH ++ (layT ++ (layT ++ [(7, 14), (100, 956), (100, 5736), (100, 1912), (102, 2), (101, 60), (100, 121), (100, 120)]))))))))))))
def shp (σ : Sg) (k : Nat) : Nat × Nat := if k < σ.1 then lay.getD k (999, 0) else (999, 0)
/-- an object's fields: 0 int, 1 boolean, n + 2 a pointer to the cell n further on -/
def fks (c : Nat) : List Nat := match c with
  | 0 => [0, 0, 0, 0, 0, 0]
  | 1 => [3, 7, 8]
  | 2 => [3, 0, 0]
  | 3 => [3, 0]
  | 4 => [3, 4, 5, 0]
  | 5 => [3, 7, 8, 9, 10, 11, 12, 13, 14, 0, 0, 0]
  | 6 => [3, 58, 390, 391, 392, 394, 395]
  | 7 => [3, 4, 5, 6, 0, 7, 0, 8, 0, 0, 0, 9, 0, 1]
  | _ => []
/-- an array of references: the cell that its place i points to is so much further on -/
def aks (c : Nat) : Nat × Nat := match c with
  | 103 => (1, 7)
  | 104 => (1, 55)
  | _ => (12, 55)
-- operands
def p1 (st : List MV) (f : Int → List MV → Prop) : Prop := match st with | .inl x :: r => f x r | _ => False
def p2 (st : List MV) (f : Int → Int → List MV → Prop) : Prop := match st with | .inl y :: .inl x :: r => f x y r | _ => False
def pR (st : List MV) (f : Nat → List MV → Prop) : Prop := match st with | .inr (.inr k) :: r => f k r | _ => False
def pA (st : List MV) (f : Nat → Int → List MV → Prop) : Prop := match st with | .inl i :: .inr (.inr k) :: r => f k i r | _ => False
def pAS (st : List MV) (f : Nat → Int → Int → List MV → Prop) : Prop := match st with | .inl v :: .inl i :: .inr (.inr k) :: r => f k i v r | _ => False
def pL (st : List MV) (f : Int64 → List MV → Prop) : Prop := match st with | .inr (.inl x) :: r => f x r | _ => False
def pLL (st : List MV) (f : Int64 → Int64 → List MV → Prop) : Prop := match st with | .inr (.inl y) :: .inr (.inl x) :: r => f x y r | _ => False
def pLI (st : List MV) (f : Int64 → Int → List MV → Prop) : Prop := match st with | .inl y :: .inr (.inl x) :: r => f x y r | _ => False
def pD (st : List MV) (f : MV → List MV → Prop) : Prop := match st with | .inl x :: r => f (.inl x) r | .inr (.inr k) :: r => f (.inr (.inr k)) r | _ => False
def pC (st : List MV) (f : Nat → Int → Nat → Int → Int → List MV → Prop) : Prop := match st with | .inl n :: .inl dp :: .inr (.inr k1) :: .inl sp :: .inr (.inr k0) :: r => f k0 sp k1 dp n r | _ => False
-- locals
def ldI : Ls → Nat → (Int → Prop) → Prop
  | [], _, _ => False
  | h :: _, 0, f => (match h with | some (.inl x) => f x | _ => False)
  | _ :: t, n + 1, f => ldI t n f
def ldL : Ls → Nat → (Int64 → Prop) → Prop
  | [], _, _ => False
  | h :: _, 0, f => (match h with | some (.inr (.inl x)) => f x | _ => False)
  | _ :: t, n + 1, f => ldL t n f
def ldR : Ls → Nat → (Nat → Prop) → Prop
  | [], _, _ => False
  | h :: _, 0, f => (match h with | some (.inr (.inr x)) => f x | _ => False)
  | _ :: t, n + 1, f => ldR t n f
def stL : Ls → Nat → Option MV → Ls
  | _ :: t, 0, v => v :: t
  | h :: t, n + 1, v => h :: stL t n v
  | [], _, _ => []
def nLg : Option MV → Prop
  | some (.inr (.inl _)) => False
  | _ => True
/-- a store at place n of one word: there is such a place, and no long ends there -/
def okS : Ls → Nat → Prop
  | _ :: _, 0 => True
  | h :: _ :: _, 1 => nLg h
  | _ :: t, n + 2 => okS t (n + 1)
  | _, _ => False
def okS2 : Ls → Nat → Prop
  | _ :: _ :: _, 0 => True
  | h :: _ :: _ :: _, 1 => nLg h
  | _ :: t, n + 2 => okS2 t (n + 1)
  | _, _ => False
-- arithmetic that is not the integers' own
def iAnd (x y : Int) : Int := (Int32.ofInt x &&& Int32.ofInt y).toInt
def iOr (x y : Int) : Int := (Int32.ofInt x ||| Int32.ofInt y).toInt
def iShl (x y : Int) : Int := (Int32.ofInt x <<< (Int32.ofInt y &&& 31)).toInt
def iShr (x y : Int) : Int := (Int32.ofInt x >>> (Int32.ofInt y &&& 31)).toInt
def iI2c (x : Int) : Int := ((Int32.ofInt x).toUInt32 % 65536).toInt32.toInt
def lUshr (x : Int64) (y : Int) : Int64 := (x.toUInt64 >>> ((Int32.ofInt y).toInt64.toUInt64 &&& Int64.toUInt64 63)).toInt64
def lCmp (x y : Int64) : Int := (lg_cmp x y).toInt
/-- the stack below a call's arguments is short -/
def len4 : List MV → Prop
  | [] => True
  | [_] => True
  | [_, _] => True
  | [_, _, _] => True
  | [_, _, _, _] => True
  | _ => False
-- branches
def cEq (x y : Int) (a b : Prop) : Prop := (x = y → a) ∧ (x ≠ y → inR x ∧ inR y ∧ b)
def cLt (x y : Int) (a b : Prop) : Prop := inR x ∧ inR y ∧ (x < y → a) ∧ (y ≤ x → b)
def cnd (c : ClassFile.Cond) (x y : Int) (a b : Prop) : Prop := match c with
  | .eq => cEq x y a b
  | .ne => cEq x y b a
  | .lt => cLt x y a b
  | .ge => cLt x y b a
  | .gt => cLt y x a b
  | .le => cLt y x b a
/-- a switch by its rows: at value v goes to pc + o -/
def swc (pc : Nat) (K : Nat → Prop) (x : Int) : Int → List Int → Prop
  | _, [] => True
  | v, o :: os => (x = v → K ((pc : Int) + o).toNat) ∧ swc pc K x (v + 1) os
def tk (n : Nat) (st : List MV) (f : List MV → List MV → Prop) : Prop := match n, st with
  | 0, r => f [] r
  | 1, a :: r => f [a] r
  | 2, b :: a :: r => f [a, b] r
  | 3, c :: b :: a :: r => f [a, b, c] r
  | 4, d :: c :: b :: a :: r => f [a, b, c, d] r
  | _, _ => False
abbrev PT : Type := Nat → Ls → List MV → Mem → Prop
abbrev QT : Type := MV → Mem → Prop
abbrev CT : Type := Nat → List MV → Mem → QT → Prop
/-- what a call pushes: nothing of a void method -/
def psh (k : Nat) (v : MV) (r : List MV) : List MV := if k = 0 then r else v :: r
/-- what may be put into a field: a boolean is 0 or 1 -/
def pfv (c : Nat) (v : Int) : Prop := match c with
  | 0 => True
  | 1 => v = 0 ∨ v = 1
  | _ => False
/-- the receiver is an object of class e -/
def rcv (σ : Sg) (e : Nat) : List MV → Prop
  | .inr (.inr k) :: _ => (shp σ k).1 = e
  | _ => False
def stp (σ : Sg) (P : PT) (call : CT) (Q : QT) (pc : Nat) (i : Instr) (a b c x1 : Nat) (k : Ls → List MV → Mem → Prop) (ls : Ls) (st : List MV) (μ : Mem) : Prop := match i with
  | .iconst n => k ls (.inl n :: st) μ
  | .bipush n => k ls (.inl n :: st) μ
  | .sipush n => k ls (.inl n :: st) μ
  | .lconst n => k ls (.inr (.inl (Int64.ofNat n.val)) :: st) μ
  | .ldc2_w _ => k ls (.inr (.inl (Int64.ofNat a)) :: st) μ
  | .iload n => ldI ls n fun x => k ls (.inl x :: st) μ
  | .iload_n n => ldI ls n.val fun x => k ls (.inl x :: st) μ
  | .lload n => ldL ls n fun x => k ls (.inr (.inl x) :: st) μ
  | .lload_n n => ldL ls n.val fun x => k ls (.inr (.inl x) :: st) μ
  | .aload n => ldR ls n fun x => k ls (.inr (.inr x) :: st) μ
  | .aload_n n => ldR ls n.val fun x => k ls (.inr (.inr x) :: st) μ
  | .istore n => p1 st fun x r => okS ls n ∧ k (stL ls n (some (.inl x))) r μ
  | .istore_n n => p1 st fun x r => okS ls n.val ∧ k (stL ls n.val (some (.inl x))) r μ
  | .astore n => pR st fun x r => okS ls n ∧ k (stL ls n (some (.inr (.inr x)))) r μ
  | .astore_n n => pR st fun x r => okS ls n.val ∧ k (stL ls n.val (some (.inr (.inr x)))) r μ
  | .lstore n => pL st fun x r => okS2 ls n ∧ k (stL (stL ls n (some (.inr (.inl x)))) (n + 1) none) r μ
  | .lstore_n n => pL st fun x r => okS2 ls n.val ∧ k (stL (stL ls n.val (some (.inr (.inl x)))) (n.val + 1) none) r μ
  | .iinc n d => ldI ls n fun x => okS ls n ∧ k (stL ls n (some (.inl (x + d)))) st μ
  | .iadd => p2 st fun x y r => k ls (.inl (x + y) :: r) μ
  | .isub => p2 st fun x y r => k ls (.inl (x - y) :: r) μ
  | .imul => p2 st fun x y r => k ls (.inl (x * y) :: r) μ
  | .iand => p2 st fun x y r => k ls (.inl (iAnd x y) :: r) μ
  | .ior => p2 st fun x y r => k ls (.inl (iOr x y) :: r) μ
  | .ishl => p2 st fun x y r => k ls (.inl (iShl x y) :: r) μ
  | .ishr => p2 st fun x y r => k ls (.inl (iShr x y) :: r) μ
  | .i2c => p1 st fun x r => k ls (.inl (iI2c x) :: r) μ
  | .i2l => p1 st fun x r => k ls (.inr (.inl (Int32.ofInt x).toInt64) :: r) μ
  | .l2i => pL st fun x r => k ls (.inl x.toInt32.toInt :: r) μ
  | .land => pLL st fun x y r => k ls (.inr (.inl (x &&& y)) :: r) μ
  | .lushr => pLI st fun x y r => k ls (.inr (.inl (lUshr x y)) :: r) μ
  | .lcmp => pLL st fun x y r => k ls (.inl (lCmp x y) :: r) μ
  | .dup => pD st fun v r => k ls (v :: v :: r) μ
  | .dup2 => pD st fun v r => pD r fun w r2 => k ls (v :: w :: v :: w :: r2) μ
  | .pop => pD st fun _ r => k ls r μ
  | .goto _ => P a ls st μ
  | .ifCond cc _ => p1 st fun x r => cnd cc x 0 (P a ls r μ) (k ls r μ)
  | .if_icmp cc _ => p2 st fun x y r => cnd cc x y (P a ls r μ) (k ls r μ)
  | .tableswitch d lo hi offs => p1 st fun x r => inR x ∧ swc pc (fun t => P t ls r μ) x lo offs.toList ∧ (x < lo ∨ hi < x → P ((pc : Int) + d).toNat ls r μ)
  | .getfield _ => pR st fun o r => (shp σ o).1 = a ∧ (match c with | 0 => k ls (.inl (μ o b) :: r) μ | 1 => k ls (.inl (μ o b) :: r) μ | n + 2 => σ.2 o b = true ∧ k ls (.inr (.inr (o + n)) :: r) μ)
  | .putfield _ => match st with
    | .inl v :: .inr (.inr o) :: r => (shp σ o).1 = a ∧ pfv c v ∧ k ls r (ms μ o b v)
    | _ => False
  | .iaload => pA st fun o i r => (shp σ o).1 = 100 ∧ 0 ≤ i ∧ i < ((shp σ o).2 : Int) ∧ k ls (.inl (μ o i.toNat) :: r) μ
  | .caload => pA st fun o i r => (shp σ o).1 = 101 ∧ 0 ≤ i ∧ i < ((shp σ o).2 : Int) ∧ k ls (.inl (μ o i.toNat) :: r) μ
  | .baload => pA st fun o i r => (shp σ o).1 = 102 ∧ 0 ≤ i ∧ i < ((shp σ o).2 : Int) ∧ k ls (.inl (μ o i.toNat) :: r) μ
  | .aaload => pA st fun o i r => (shp σ o).1 = a ∧ 0 ≤ i ∧ i < ((shp σ o).2 : Int) ∧ σ.2 o i.toNat = true ∧ k ls (.inr (.inr (o + b + c * i.toNat)) :: r) μ
  | .iastore => pAS st fun o i v r => (shp σ o).1 = 100 ∧ 0 ≤ i ∧ i < ((shp σ o).2 : Int) ∧ k ls r (ms μ o i.toNat v)
  | .castore => pAS st fun o i v r => (shp σ o).1 = 101 ∧ 0 ≤ i ∧ i < ((shp σ o).2 : Int) ∧ (0 ≤ v ∧ v < 65536) ∧ k ls r (ms μ o i.toNat v)
  | .bastore => pAS st fun o i v r => (shp σ o).1 = 102 ∧ 0 ≤ i ∧ i < ((shp σ o).2 : Int) ∧ (v = 0 ∨ v = 1) ∧ k ls r (ms μ o i.toNat v)
  | .ireturn => p1 st fun x r => r = [] ∧ (if a = 1 then x = 0 ∨ x = 1 else if a = 2 then 0 ≤ x ∧ x < 65536 else True) ∧ Q (.inl x) μ
  | .return_ => st = [] ∧ Q (.inl 0) μ
  | .areturn => pR st fun x r => r = [] ∧ Q (.inr (.inr x)) μ
  | .invokevirtual _ => tk b st fun vs r => len4 r ∧ rcv σ x1 vs ∧ call a vs μ fun v μ' => P (pc + 3) ls (psh c v r) μ'
  | .invokestatic _ => match c with
    | 10 => p2 st fun x y r => (len4 r ∧ inR x) ∧ inR y ∧ k ls (.inl (if y < x then y else x) :: r) μ
    | 11 => p2 st fun x y r => (len4 r ∧ inR x) ∧ inR y ∧ k ls (.inl (if x < y then y else x) :: r) μ
    | 12 => p1 st fun x r => (len4 r ∧ inR x) ∧ k ls (.inl (if 0 ≤ x then x else 0 - x) :: r) μ
    | 13 => pC st fun k0 sp k1 dp n r => (len4 r ∧ (shp σ k0).1 = 100 ∧ (shp σ k1).1 = 100) ∧ (0 ≤ sp ∧ 0 ≤ dp ∧ 0 ≤ n) ∧ (sp + n ≤ ((shp σ k0).2 : Int) ∧ dp + n ≤ ((shp σ k1).2 : Int)) ∧ k ls r (mcp μ k0 sp.toNat k1 dp.toNat n.toNat)
    | _ => tk b st fun vs r => len4 r ∧ call a vs μ fun v μ' => P (pc + 3) ls (v :: r) μ'
  | _ => False
def seg (σ : Sg) (P : PT) (call : CT) (Q : QT) : List Ent → Nat → Ls → List MV → Mem → Prop
  | [], nx, ls, st, μ => P nx ls st μ
  | (pc, i, a, b, c, x1) :: r, nx, ls, st, μ => stp σ P call Q pc i a b c x1 (fun ls st μ => seg σ P call Q r nx ls st μ) ls st μ
/-- from block to block: the least predicate that is closed under the blocks of method mi -/
def wp (σ : Sg) (call : CT) (mi : Nat) (Q : QT) (pc : Nat) (ls : Ls) (st : List MV) (μ : Mem) : Prop :=
  True ∧ ∀ P : PT, (∀ pc l nx ls st μ, blk mi pc = some (l, nx) → seg σ P call Q l nx ls st μ → P pc ls st μ) → P pc ls st μ
def argL : List MV → Ls
  | [] => []
  | .inr (.inl x) :: t => some (.inr (.inl x)) :: none :: argL t
  | v :: t => some v :: argL t
def iniL (mi : Nat) (vs : List MV) : Ls := argL vs ++ List.replicate (lM mi - (argL vs).length) none
/-- a call of method mi, at most d calls deep -/
def Call (σ : Sg) : Nat → CT
  | 0 => fun _ _ _ _ => False
  | d + 1 => fun mi vs μ Q => vs.length = nM mi ∧ (argL vs).length ≤ lM mi ∧ wp σ (Call σ d) mi Q 0 (iniL mi vs) [] μ
theorem sg_iconst {σ : Sg} {P : PT} {call : CT} {Q : QT} {pc a b c x1 nx : Nat} {r : List Ent} {ls : Ls} {st : List MV} {μ : Mem} {n : Int} : seg σ P call Q ((pc, .iconst n, a, b, c, x1) :: r) nx ls st μ = (seg σ P call Q r nx ls (Sum.inl n :: st) μ) := rfl
theorem sg_bipush {σ : Sg} {P : PT} {call : CT} {Q : QT} {pc a b c x1 nx : Nat} {r : List Ent} {ls : Ls} {st : List MV} {μ : Mem} {n : Int} : seg σ P call Q ((pc, .bipush n, a, b, c, x1) :: r) nx ls st μ = (seg σ P call Q r nx ls (Sum.inl n :: st) μ) := rfl
theorem sg_sipush {σ : Sg} {P : PT} {call : CT} {Q : QT} {pc a b c x1 nx : Nat} {r : List Ent} {ls : Ls} {st : List MV} {μ : Mem} {n : Int} : seg σ P call Q ((pc, .sipush n, a, b, c, x1) :: r) nx ls st μ = (seg σ P call Q r nx ls (Sum.inl n :: st) μ) := rfl
theorem sg_lconst {σ : Sg} {P : PT} {call : CT} {Q : QT} {pc a b c x1 nx : Nat} {r : List Ent} {ls : Ls} {st : List MV} {μ : Mem} {n : Fin 2} : seg σ P call Q ((pc, .lconst n, a, b, c, x1) :: r) nx ls st μ = (seg σ P call Q r nx ls (Sum.inr (Sum.inl (Int64.ofNat n.val)) :: st) μ) := rfl
theorem sg_ldc2 {σ : Sg} {P : PT} {call : CT} {Q : QT} {pc a b c x1 nx : Nat} {r : List Ent} {ls : Ls} {st : List MV} {μ : Mem} {n : Nat} : seg σ P call Q ((pc, .ldc2_w n, a, b, c, x1) :: r) nx ls st μ = (seg σ P call Q r nx ls (Sum.inr (Sum.inl (Int64.ofNat a)) :: st) μ) := rfl
theorem sg_iload_0 {σ : Sg} {P : PT} {call : CT} {Q : QT} {pc a b c x1 nx : Nat} {r : List Ent} {ls : Ls} {st : List MV} {μ : Mem} {t : Ls} {x : Int} : seg σ P call Q ((pc, .iload_n 0, a, b, c, x1) :: r) nx (some (Sum.inl x) :: t) st μ = (seg σ P call Q r nx (some (Sum.inl x) :: t) (Sum.inl x :: st) μ) := rfl
theorem sg_iload_1 {σ : Sg} {P : PT} {call : CT} {Q : QT} {pc a b c x1 nx : Nat} {r : List Ent} {ls : Ls} {st : List MV} {μ : Mem} {t : Ls} {x : Int} {h0 : Option MV} : seg σ P call Q ((pc, .iload_n 1, a, b, c, x1) :: r) nx (h0 :: some (Sum.inl x) :: t) st μ = (seg σ P call Q r nx (h0 :: some (Sum.inl x) :: t) (Sum.inl x :: st) μ) := rfl
theorem sg_iload_2 {σ : Sg} {P : PT} {call : CT} {Q : QT} {pc a b c x1 nx : Nat} {r : List Ent} {ls : Ls} {st : List MV} {μ : Mem} {t : Ls} {x : Int} {h0 : Option MV} {h1 : Option MV} : seg σ P call Q ((pc, .iload_n 2, a, b, c, x1) :: r) nx (h0 :: h1 :: some (Sum.inl x) :: t) st μ = (seg σ P call Q r nx (h0 :: h1 :: some (Sum.inl x) :: t) (Sum.inl x :: st) μ) := rfl
theorem sg_iload_3 {σ : Sg} {P : PT} {call : CT} {Q : QT} {pc a b c x1 nx : Nat} {r : List Ent} {ls : Ls} {st : List MV} {μ : Mem} {t : Ls} {x : Int} {h0 : Option MV} {h1 : Option MV} {h2 : Option MV} : seg σ P call Q ((pc, .iload_n 3, a, b, c, x1) :: r) nx (h0 :: h1 :: h2 :: some (Sum.inl x) :: t) st μ = (seg σ P call Q r nx (h0 :: h1 :: h2 :: some (Sum.inl x) :: t) (Sum.inl x :: st) μ) := rfl
theorem sg_aload_0 {σ : Sg} {P : PT} {call : CT} {Q : QT} {pc a b c x1 nx : Nat} {r : List Ent} {ls : Ls} {st : List MV} {μ : Mem} {t : Ls} {x : Nat} : seg σ P call Q ((pc, .aload_n 0, a, b, c, x1) :: r) nx (some (Sum.inr (Sum.inr x)) :: t) st μ = (seg σ P call Q r nx (some (Sum.inr (Sum.inr x)) :: t) (Sum.inr (Sum.inr x) :: st) μ) := rfl
theorem sg_aload_1 {σ : Sg} {P : PT} {call : CT} {Q : QT} {pc a b c x1 nx : Nat} {r : List Ent} {ls : Ls} {st : List MV} {μ : Mem} {t : Ls} {x : Nat} {h0 : Option MV} : seg σ P call Q ((pc, .aload_n 1, a, b, c, x1) :: r) nx (h0 :: some (Sum.inr (Sum.inr x)) :: t) st μ = (seg σ P call Q r nx (h0 :: some (Sum.inr (Sum.inr x)) :: t) (Sum.inr (Sum.inr x) :: st) μ) := rfl
theorem sg_aload_2 {σ : Sg} {P : PT} {call : CT} {Q : QT} {pc a b c x1 nx : Nat} {r : List Ent} {ls : Ls} {st : List MV} {μ : Mem} {t : Ls} {x : Nat} {h0 : Option MV} {h1 : Option MV} : seg σ P call Q ((pc, .aload_n 2, a, b, c, x1) :: r) nx (h0 :: h1 :: some (Sum.inr (Sum.inr x)) :: t) st μ = (seg σ P call Q r nx (h0 :: h1 :: some (Sum.inr (Sum.inr x)) :: t) (Sum.inr (Sum.inr x) :: st) μ) := rfl
theorem sg_aload_3 {σ : Sg} {P : PT} {call : CT} {Q : QT} {pc a b c x1 nx : Nat} {r : List Ent} {ls : Ls} {st : List MV} {μ : Mem} {t : Ls} {x : Nat} {h0 : Option MV} {h1 : Option MV} {h2 : Option MV} : seg σ P call Q ((pc, .aload_n 3, a, b, c, x1) :: r) nx (h0 :: h1 :: h2 :: some (Sum.inr (Sum.inr x)) :: t) st μ = (seg σ P call Q r nx (h0 :: h1 :: h2 :: some (Sum.inr (Sum.inr x)) :: t) (Sum.inr (Sum.inr x) :: st) μ) := rfl
theorem sg_lload_0 {σ : Sg} {P : PT} {call : CT} {Q : QT} {pc a b c x1 nx : Nat} {r : List Ent} {ls : Ls} {st : List MV} {μ : Mem} {t : Ls} {x : Int64} : seg σ P call Q ((pc, .lload_n 0, a, b, c, x1) :: r) nx (some (Sum.inr (Sum.inl x)) :: t) st μ = (seg σ P call Q r nx (some (Sum.inr (Sum.inl x)) :: t) (Sum.inr (Sum.inl x) :: st) μ) := rfl
theorem sg_lload_1 {σ : Sg} {P : PT} {call : CT} {Q : QT} {pc a b c x1 nx : Nat} {r : List Ent} {ls : Ls} {st : List MV} {μ : Mem} {t : Ls} {x : Int64} {h0 : Option MV} : seg σ P call Q ((pc, .lload_n 1, a, b, c, x1) :: r) nx (h0 :: some (Sum.inr (Sum.inl x)) :: t) st μ = (seg σ P call Q r nx (h0 :: some (Sum.inr (Sum.inl x)) :: t) (Sum.inr (Sum.inl x) :: st) μ) := rfl
theorem sg_lload_2 {σ : Sg} {P : PT} {call : CT} {Q : QT} {pc a b c x1 nx : Nat} {r : List Ent} {ls : Ls} {st : List MV} {μ : Mem} {t : Ls} {x : Int64} {h0 : Option MV} {h1 : Option MV} : seg σ P call Q ((pc, .lload_n 2, a, b, c, x1) :: r) nx (h0 :: h1 :: some (Sum.inr (Sum.inl x)) :: t) st μ = (seg σ P call Q r nx (h0 :: h1 :: some (Sum.inr (Sum.inl x)) :: t) (Sum.inr (Sum.inl x) :: st) μ) := rfl
theorem sg_lload_3 {σ : Sg} {P : PT} {call : CT} {Q : QT} {pc a b c x1 nx : Nat} {r : List Ent} {ls : Ls} {st : List MV} {μ : Mem} {t : Ls} {x : Int64} {h0 : Option MV} {h1 : Option MV} {h2 : Option MV} : seg σ P call Q ((pc, .lload_n 3, a, b, c, x1) :: r) nx (h0 :: h1 :: h2 :: some (Sum.inr (Sum.inl x)) :: t) st μ = (seg σ P call Q r nx (h0 :: h1 :: h2 :: some (Sum.inr (Sum.inl x)) :: t) (Sum.inr (Sum.inl x) :: st) μ) := rfl
theorem sg_iload {σ : Sg} {P : PT} {call : CT} {Q : QT} {pc a b c x1 nx : Nat} {r : List Ent} {ls : Ls} {st : List MV} {μ : Mem} {n : Nat} : seg σ P call Q ((pc, .iload n, a, b, c, x1) :: r) nx ls st μ = (ldI ls n fun x => seg σ P call Q r nx ls (Sum.inl x :: st) μ) := rfl
theorem sg_lload {σ : Sg} {P : PT} {call : CT} {Q : QT} {pc a b c x1 nx : Nat} {r : List Ent} {ls : Ls} {st : List MV} {μ : Mem} {n : Nat} : seg σ P call Q ((pc, .lload n, a, b, c, x1) :: r) nx ls st μ = (ldL ls n fun x => seg σ P call Q r nx ls (Sum.inr (Sum.inl x) :: st) μ) := rfl
theorem sg_aload {σ : Sg} {P : PT} {call : CT} {Q : QT} {pc a b c x1 nx : Nat} {r : List Ent} {ls : Ls} {st : List MV} {μ : Mem} {n : Nat} : seg σ P call Q ((pc, .aload n, a, b, c, x1) :: r) nx ls st μ = (ldR ls n fun x => seg σ P call Q r nx ls (Sum.inr (Sum.inr x) :: st) μ) := rfl
theorem sg_istore_0 {σ : Sg} {P : PT} {call : CT} {Q : QT} {pc a b c x1 nx : Nat} {r : List Ent} {ls : Ls} {st : List MV} {μ : Mem} {t : Ls} {x : Int} {h : Option MV} : seg σ P call Q ((pc, .istore_n 0, a, b, c, x1) :: r) nx (h :: t) (Sum.inl x :: st) μ = (True ∧ seg σ P call Q r nx (some (Sum.inl x) :: t) st μ) := rfl
theorem sg_istore_1 {σ : Sg} {P : PT} {call : CT} {Q : QT} {pc a b c x1 nx : Nat} {r : List Ent} {ls : Ls} {st : List MV} {μ : Mem} {t : Ls} {x : Int} {h : Option MV} {h0 : Option MV} : seg σ P call Q ((pc, .istore_n 1, a, b, c, x1) :: r) nx (h0 :: h :: t) (Sum.inl x :: st) μ = (nLg h0 ∧ seg σ P call Q r nx (h0 :: some (Sum.inl x) :: t) st μ) := rfl
theorem sg_istore_2 {σ : Sg} {P : PT} {call : CT} {Q : QT} {pc a b c x1 nx : Nat} {r : List Ent} {ls : Ls} {st : List MV} {μ : Mem} {t : Ls} {x : Int} {h : Option MV} {h0 : Option MV} {h1 : Option MV} : seg σ P call Q ((pc, .istore_n 2, a, b, c, x1) :: r) nx (h0 :: h1 :: h :: t) (Sum.inl x :: st) μ = (nLg h1 ∧ seg σ P call Q r nx (h0 :: h1 :: some (Sum.inl x) :: t) st μ) := rfl
theorem sg_istore_3 {σ : Sg} {P : PT} {call : CT} {Q : QT} {pc a b c x1 nx : Nat} {r : List Ent} {ls : Ls} {st : List MV} {μ : Mem} {t : Ls} {x : Int} {h : Option MV} {h0 : Option MV} {h1 : Option MV} {h2 : Option MV} : seg σ P call Q ((pc, .istore_n 3, a, b, c, x1) :: r) nx (h0 :: h1 :: h2 :: h :: t) (Sum.inl x :: st) μ = (nLg h2 ∧ seg σ P call Q r nx (h0 :: h1 :: h2 :: some (Sum.inl x) :: t) st μ) := rfl
theorem sg_istore {σ : Sg} {P : PT} {call : CT} {Q : QT} {pc a b c x1 nx : Nat} {r : List Ent} {ls : Ls} {st : List MV} {μ : Mem} {n : Nat} {x : Int} : seg σ P call Q ((pc, .istore n, a, b, c, x1) :: r) nx ls (Sum.inl x :: st) μ = (okS ls n ∧ seg σ P call Q r nx (stL ls n (some (Sum.inl x))) st μ) := rfl
theorem sg_astore_0 {σ : Sg} {P : PT} {call : CT} {Q : QT} {pc a b c x1 nx : Nat} {r : List Ent} {ls : Ls} {st : List MV} {μ : Mem} {t : Ls} {x : Nat} {h : Option MV} : seg σ P call Q ((pc, .astore_n 0, a, b, c, x1) :: r) nx (h :: t) (Sum.inr (Sum.inr x) :: st) μ = (True ∧ seg σ P call Q r nx (some (Sum.inr (Sum.inr x)) :: t) st μ) := rfl
theorem sg_astore_1 {σ : Sg} {P : PT} {call : CT} {Q : QT} {pc a b c x1 nx : Nat} {r : List Ent} {ls : Ls} {st : List MV} {μ : Mem} {t : Ls} {x : Nat} {h : Option MV} {h0 : Option MV} : seg σ P call Q ((pc, .astore_n 1, a, b, c, x1) :: r) nx (h0 :: h :: t) (Sum.inr (Sum.inr x) :: st) μ = (nLg h0 ∧ seg σ P call Q r nx (h0 :: some (Sum.inr (Sum.inr x)) :: t) st μ) := rfl
theorem sg_astore_2 {σ : Sg} {P : PT} {call : CT} {Q : QT} {pc a b c x1 nx : Nat} {r : List Ent} {ls : Ls} {st : List MV} {μ : Mem} {t : Ls} {x : Nat} {h : Option MV} {h0 : Option MV} {h1 : Option MV} : seg σ P call Q ((pc, .astore_n 2, a, b, c, x1) :: r) nx (h0 :: h1 :: h :: t) (Sum.inr (Sum.inr x) :: st) μ = (nLg h1 ∧ seg σ P call Q r nx (h0 :: h1 :: some (Sum.inr (Sum.inr x)) :: t) st μ) := rfl
theorem sg_astore_3 {σ : Sg} {P : PT} {call : CT} {Q : QT} {pc a b c x1 nx : Nat} {r : List Ent} {ls : Ls} {st : List MV} {μ : Mem} {t : Ls} {x : Nat} {h : Option MV} {h0 : Option MV} {h1 : Option MV} {h2 : Option MV} : seg σ P call Q ((pc, .astore_n 3, a, b, c, x1) :: r) nx (h0 :: h1 :: h2 :: h :: t) (Sum.inr (Sum.inr x) :: st) μ = (nLg h2 ∧ seg σ P call Q r nx (h0 :: h1 :: h2 :: some (Sum.inr (Sum.inr x)) :: t) st μ) := rfl
theorem sg_astore {σ : Sg} {P : PT} {call : CT} {Q : QT} {pc a b c x1 nx : Nat} {r : List Ent} {ls : Ls} {st : List MV} {μ : Mem} {n : Nat} {x : Nat} : seg σ P call Q ((pc, .astore n, a, b, c, x1) :: r) nx ls (Sum.inr (Sum.inr x) :: st) μ = (okS ls n ∧ seg σ P call Q r nx (stL ls n (some (Sum.inr (Sum.inr x)))) st μ) := rfl
theorem sg_lstore {σ : Sg} {P : PT} {call : CT} {Q : QT} {pc a b c x1 nx : Nat} {r : List Ent} {ls : Ls} {st : List MV} {μ : Mem} {n : Nat} {x : Int64} : seg σ P call Q ((pc, .lstore n, a, b, c, x1) :: r) nx ls (Sum.inr (Sum.inl x) :: st) μ = (okS2 ls n ∧ seg σ P call Q r nx (stL (stL ls n (some (Sum.inr (Sum.inl x)))) (n + 1) none) st μ) := rfl
theorem sg_lstore_n {σ : Sg} {P : PT} {call : CT} {Q : QT} {pc a b c x1 nx : Nat} {r : List Ent} {ls : Ls} {st : List MV} {μ : Mem} {n : Fin 4} {x : Int64} : seg σ P call Q ((pc, .lstore_n n, a, b, c, x1) :: r) nx ls (Sum.inr (Sum.inl x) :: st) μ = (okS2 ls n.val ∧ seg σ P call Q r nx (stL (stL ls n.val (some (Sum.inr (Sum.inl x)))) (n.val + 1) none) st μ) := rfl
theorem sg_iinc {σ : Sg} {P : PT} {call : CT} {Q : QT} {pc a b c x1 nx : Nat} {r : List Ent} {ls : Ls} {st : List MV} {μ : Mem} {n : Nat} {d : Int} : seg σ P call Q ((pc, .iinc n d, a, b, c, x1) :: r) nx ls st μ = (ldI ls n fun x => okS ls n ∧ seg σ P call Q r nx (stL ls n (some (Sum.inl (x + d)))) st μ) := rfl
theorem sg_iadd {σ : Sg} {P : PT} {call : CT} {Q : QT} {pc a b c x1 nx : Nat} {r : List Ent} {ls : Ls} {st : List MV} {μ : Mem} {x y : Int} : seg σ P call Q ((pc, .iadd, a, b, c, x1) :: r) nx ls (Sum.inl y :: Sum.inl x :: st) μ = (seg σ P call Q r nx ls (Sum.inl (x + y) :: st) μ) := rfl
theorem sg_isub {σ : Sg} {P : PT} {call : CT} {Q : QT} {pc a b c x1 nx : Nat} {r : List Ent} {ls : Ls} {st : List MV} {μ : Mem} {x y : Int} : seg σ P call Q ((pc, .isub, a, b, c, x1) :: r) nx ls (Sum.inl y :: Sum.inl x :: st) μ = (seg σ P call Q r nx ls (Sum.inl (x - y) :: st) μ) := rfl
theorem sg_imul {σ : Sg} {P : PT} {call : CT} {Q : QT} {pc a b c x1 nx : Nat} {r : List Ent} {ls : Ls} {st : List MV} {μ : Mem} {x y : Int} : seg σ P call Q ((pc, .imul, a, b, c, x1) :: r) nx ls (Sum.inl y :: Sum.inl x :: st) μ = (seg σ P call Q r nx ls (Sum.inl (x * y) :: st) μ) := rfl
theorem sg_iand {σ : Sg} {P : PT} {call : CT} {Q : QT} {pc a b c x1 nx : Nat} {r : List Ent} {ls : Ls} {st : List MV} {μ : Mem} {x y : Int} : seg σ P call Q ((pc, .iand, a, b, c, x1) :: r) nx ls (Sum.inl y :: Sum.inl x :: st) μ = (seg σ P call Q r nx ls (Sum.inl (iAnd x y) :: st) μ) := rfl
theorem sg_ior {σ : Sg} {P : PT} {call : CT} {Q : QT} {pc a b c x1 nx : Nat} {r : List Ent} {ls : Ls} {st : List MV} {μ : Mem} {x y : Int} : seg σ P call Q ((pc, .ior, a, b, c, x1) :: r) nx ls (Sum.inl y :: Sum.inl x :: st) μ = (seg σ P call Q r nx ls (Sum.inl (iOr x y) :: st) μ) := rfl
theorem sg_ishl {σ : Sg} {P : PT} {call : CT} {Q : QT} {pc a b c x1 nx : Nat} {r : List Ent} {ls : Ls} {st : List MV} {μ : Mem} {x y : Int} : seg σ P call Q ((pc, .ishl, a, b, c, x1) :: r) nx ls (Sum.inl y :: Sum.inl x :: st) μ = (seg σ P call Q r nx ls (Sum.inl (iShl x y) :: st) μ) := rfl
theorem sg_ishr {σ : Sg} {P : PT} {call : CT} {Q : QT} {pc a b c x1 nx : Nat} {r : List Ent} {ls : Ls} {st : List MV} {μ : Mem} {x y : Int} : seg σ P call Q ((pc, .ishr, a, b, c, x1) :: r) nx ls (Sum.inl y :: Sum.inl x :: st) μ = (seg σ P call Q r nx ls (Sum.inl (iShr x y) :: st) μ) := rfl
theorem sg_i2c {σ : Sg} {P : PT} {call : CT} {Q : QT} {pc a b c x1 nx : Nat} {r : List Ent} {ls : Ls} {st : List MV} {μ : Mem} {x : Int} : seg σ P call Q ((pc, .i2c, a, b, c, x1) :: r) nx ls (Sum.inl x :: st) μ = (seg σ P call Q r nx ls (Sum.inl (iI2c x) :: st) μ) := rfl
theorem sg_i2l {σ : Sg} {P : PT} {call : CT} {Q : QT} {pc a b c x1 nx : Nat} {r : List Ent} {ls : Ls} {st : List MV} {μ : Mem} {x : Int} : seg σ P call Q ((pc, .i2l, a, b, c, x1) :: r) nx ls (Sum.inl x :: st) μ = (seg σ P call Q r nx ls (Sum.inr (Sum.inl (Int32.ofInt x).toInt64) :: st) μ) := rfl
theorem sg_l2i {σ : Sg} {P : PT} {call : CT} {Q : QT} {pc a b c x1 nx : Nat} {r : List Ent} {ls : Ls} {st : List MV} {μ : Mem} {x : Int64} : seg σ P call Q ((pc, .l2i, a, b, c, x1) :: r) nx ls (Sum.inr (Sum.inl x) :: st) μ = (seg σ P call Q r nx ls (Sum.inl x.toInt32.toInt :: st) μ) := rfl
theorem sg_land {σ : Sg} {P : PT} {call : CT} {Q : QT} {pc a b c x1 nx : Nat} {r : List Ent} {ls : Ls} {st : List MV} {μ : Mem} {x y : Int64} : seg σ P call Q ((pc, .land, a, b, c, x1) :: r) nx ls (Sum.inr (Sum.inl y) :: Sum.inr (Sum.inl x) :: st) μ = (seg σ P call Q r nx ls (Sum.inr (Sum.inl (x &&& y)) :: st) μ) := rfl
theorem sg_lushr {σ : Sg} {P : PT} {call : CT} {Q : QT} {pc a b c x1 nx : Nat} {r : List Ent} {ls : Ls} {st : List MV} {μ : Mem} {x : Int64} {y : Int} : seg σ P call Q ((pc, .lushr, a, b, c, x1) :: r) nx ls (Sum.inl y :: Sum.inr (Sum.inl x) :: st) μ = (seg σ P call Q r nx ls (Sum.inr (Sum.inl (lUshr x y)) :: st) μ) := rfl
theorem sg_lcmp {σ : Sg} {P : PT} {call : CT} {Q : QT} {pc a b c x1 nx : Nat} {r : List Ent} {ls : Ls} {st : List MV} {μ : Mem} {x y : Int64} : seg σ P call Q ((pc, .lcmp, a, b, c, x1) :: r) nx ls (Sum.inr (Sum.inl y) :: Sum.inr (Sum.inl x) :: st) μ = (seg σ P call Q r nx ls (Sum.inl (lCmp x y) :: st) μ) := rfl
theorem sg_dup_i {σ : Sg} {P : PT} {call : CT} {Q : QT} {pc a b c x1 nx : Nat} {r : List Ent} {ls : Ls} {st : List MV} {μ : Mem} {x : Int} : seg σ P call Q ((pc, .dup, a, b, c, x1) :: r) nx ls (Sum.inl x :: st) μ = (seg σ P call Q r nx ls (Sum.inl x :: Sum.inl x :: st) μ) := rfl
theorem sg_dup_r {σ : Sg} {P : PT} {call : CT} {Q : QT} {pc a b c x1 nx : Nat} {r : List Ent} {ls : Ls} {st : List MV} {μ : Mem} {x : Nat} : seg σ P call Q ((pc, .dup, a, b, c, x1) :: r) nx ls (Sum.inr (Sum.inr x) :: st) μ = (seg σ P call Q r nx ls (Sum.inr (Sum.inr x) :: Sum.inr (Sum.inr x) :: st) μ) := rfl
theorem sg_dup2 {σ : Sg} {P : PT} {call : CT} {Q : QT} {pc a b c x1 nx : Nat} {r : List Ent} {ls : Ls} {st : List MV} {μ : Mem} {x : Nat} {y : Int} : seg σ P call Q ((pc, .dup2, a, b, c, x1) :: r) nx ls (Sum.inl y :: Sum.inr (Sum.inr x) :: st) μ = (seg σ P call Q r nx ls (Sum.inl y :: Sum.inr (Sum.inr x) :: Sum.inl y :: Sum.inr (Sum.inr x) :: st) μ) := rfl
theorem sg_pop_i {σ : Sg} {P : PT} {call : CT} {Q : QT} {pc a b c x1 nx : Nat} {r : List Ent} {ls : Ls} {st : List MV} {μ : Mem} {x : Int} : seg σ P call Q ((pc, .pop, a, b, c, x1) :: r) nx ls (Sum.inl x :: st) μ = (seg σ P call Q r nx ls st μ) := rfl
theorem sg_pop_r {σ : Sg} {P : PT} {call : CT} {Q : QT} {pc a b c x1 nx : Nat} {r : List Ent} {ls : Ls} {st : List MV} {μ : Mem} {x : Nat} : seg σ P call Q ((pc, .pop, a, b, c, x1) :: r) nx ls (Sum.inr (Sum.inr x) :: st) μ = (seg σ P call Q r nx ls st μ) := rfl
theorem sg_goto {σ : Sg} {P : PT} {call : CT} {Q : QT} {pc a b c x1 nx : Nat} {r : List Ent} {ls : Ls} {st : List MV} {μ : Mem} {n : Int} : seg σ P call Q ((pc, .goto n, a, b, c, x1) :: r) nx ls st μ = (P a ls st μ) := rfl
theorem sg_if_eq {σ : Sg} {P : PT} {call : CT} {Q : QT} {pc a b c x1 nx : Nat} {r : List Ent} {ls : Ls} {st : List MV} {μ : Mem} {n x : Int} : seg σ P call Q ((pc, .ifCond .eq n, a, b, c, x1) :: r) nx ls (Sum.inl x :: st) μ = ((x = 0 → P a ls st μ) ∧ (x ≠ 0 → inR x ∧ inR 0 ∧ seg σ P call Q r nx ls st μ)) := rfl
theorem sg_ic_eq {σ : Sg} {P : PT} {call : CT} {Q : QT} {pc a b c x1 nx : Nat} {r : List Ent} {ls : Ls} {st : List MV} {μ : Mem} {n x y : Int} : seg σ P call Q ((pc, .if_icmp .eq n, a, b, c, x1) :: r) nx ls (Sum.inl y :: Sum.inl x :: st) μ = ((x = y → P a ls st μ) ∧ (x ≠ y → inR x ∧ inR y ∧ seg σ P call Q r nx ls st μ)) := rfl
theorem sg_if_ne {σ : Sg} {P : PT} {call : CT} {Q : QT} {pc a b c x1 nx : Nat} {r : List Ent} {ls : Ls} {st : List MV} {μ : Mem} {n x : Int} : seg σ P call Q ((pc, .ifCond .ne n, a, b, c, x1) :: r) nx ls (Sum.inl x :: st) μ = ((x = 0 → seg σ P call Q r nx ls st μ) ∧ (x ≠ 0 → inR x ∧ inR 0 ∧ P a ls st μ)) := rfl
theorem sg_ic_ne {σ : Sg} {P : PT} {call : CT} {Q : QT} {pc a b c x1 nx : Nat} {r : List Ent} {ls : Ls} {st : List MV} {μ : Mem} {n x y : Int} : seg σ P call Q ((pc, .if_icmp .ne n, a, b, c, x1) :: r) nx ls (Sum.inl y :: Sum.inl x :: st) μ = ((x = y → seg σ P call Q r nx ls st μ) ∧ (x ≠ y → inR x ∧ inR y ∧ P a ls st μ)) := rfl
theorem sg_if_lt {σ : Sg} {P : PT} {call : CT} {Q : QT} {pc a b c x1 nx : Nat} {r : List Ent} {ls : Ls} {st : List MV} {μ : Mem} {n x : Int} : seg σ P call Q ((pc, .ifCond .lt n, a, b, c, x1) :: r) nx ls (Sum.inl x :: st) μ = (inR x ∧ inR 0 ∧ (x < 0 → P a ls st μ) ∧ (0 ≤ x → seg σ P call Q r nx ls st μ)) := rfl
theorem sg_ic_lt {σ : Sg} {P : PT} {call : CT} {Q : QT} {pc a b c x1 nx : Nat} {r : List Ent} {ls : Ls} {st : List MV} {μ : Mem} {n x y : Int} : seg σ P call Q ((pc, .if_icmp .lt n, a, b, c, x1) :: r) nx ls (Sum.inl y :: Sum.inl x :: st) μ = (inR x ∧ inR y ∧ (x < y → P a ls st μ) ∧ (y ≤ x → seg σ P call Q r nx ls st μ)) := rfl
theorem sg_if_ge {σ : Sg} {P : PT} {call : CT} {Q : QT} {pc a b c x1 nx : Nat} {r : List Ent} {ls : Ls} {st : List MV} {μ : Mem} {n x : Int} : seg σ P call Q ((pc, .ifCond .ge n, a, b, c, x1) :: r) nx ls (Sum.inl x :: st) μ = (inR x ∧ inR 0 ∧ (x < 0 → seg σ P call Q r nx ls st μ) ∧ (0 ≤ x → P a ls st μ)) := rfl
theorem sg_ic_ge {σ : Sg} {P : PT} {call : CT} {Q : QT} {pc a b c x1 nx : Nat} {r : List Ent} {ls : Ls} {st : List MV} {μ : Mem} {n x y : Int} : seg σ P call Q ((pc, .if_icmp .ge n, a, b, c, x1) :: r) nx ls (Sum.inl y :: Sum.inl x :: st) μ = (inR x ∧ inR y ∧ (x < y → seg σ P call Q r nx ls st μ) ∧ (y ≤ x → P a ls st μ)) := rfl
theorem sg_if_gt {σ : Sg} {P : PT} {call : CT} {Q : QT} {pc a b c x1 nx : Nat} {r : List Ent} {ls : Ls} {st : List MV} {μ : Mem} {n x : Int} : seg σ P call Q ((pc, .ifCond .gt n, a, b, c, x1) :: r) nx ls (Sum.inl x :: st) μ = (inR 0 ∧ inR x ∧ (0 < x → P a ls st μ) ∧ (x ≤ 0 → seg σ P call Q r nx ls st μ)) := rfl
theorem sg_ic_gt {σ : Sg} {P : PT} {call : CT} {Q : QT} {pc a b c x1 nx : Nat} {r : List Ent} {ls : Ls} {st : List MV} {μ : Mem} {n x y : Int} : seg σ P call Q ((pc, .if_icmp .gt n, a, b, c, x1) :: r) nx ls (Sum.inl y :: Sum.inl x :: st) μ = (inR y ∧ inR x ∧ (y < x → P a ls st μ) ∧ (x ≤ y → seg σ P call Q r nx ls st μ)) := rfl
theorem sg_if_le {σ : Sg} {P : PT} {call : CT} {Q : QT} {pc a b c x1 nx : Nat} {r : List Ent} {ls : Ls} {st : List MV} {μ : Mem} {n x : Int} : seg σ P call Q ((pc, .ifCond .le n, a, b, c, x1) :: r) nx ls (Sum.inl x :: st) μ = (inR 0 ∧ inR x ∧ (0 < x → seg σ P call Q r nx ls st μ) ∧ (x ≤ 0 → P a ls st μ)) := rfl
theorem sg_ic_le {σ : Sg} {P : PT} {call : CT} {Q : QT} {pc a b c x1 nx : Nat} {r : List Ent} {ls : Ls} {st : List MV} {μ : Mem} {n x y : Int} : seg σ P call Q ((pc, .if_icmp .le n, a, b, c, x1) :: r) nx ls (Sum.inl y :: Sum.inl x :: st) μ = (inR y ∧ inR x ∧ (y < x → seg σ P call Q r nx ls st μ) ∧ (x ≤ y → P a ls st μ)) := rfl
theorem sg_tsw {σ : Sg} {P : PT} {call : CT} {Q : QT} {pc a b c x1 nx : Nat} {r : List Ent} {ls : Ls} {st : List MV} {μ : Mem} {d lo hi x : Int} {offs : Array Int} : seg σ P call Q ((pc, .tableswitch d lo hi offs, a, b, c, x1) :: r) nx ls (Sum.inl x :: st) μ = (inR x ∧ swc pc (fun t => P t ls st μ) x lo offs.toList ∧ (x < lo ∨ hi < x → P ((pc : Int) + d).toNat ls st μ)) := rfl
theorem sg_getf0 {σ : Sg} {P : PT} {call : CT} {Q : QT} {pc a b c x1 nx : Nat} {r : List Ent} {ls : Ls} {st : List MV} {μ : Mem} {n o : Nat} : seg σ P call Q ((pc, .getfield n, a, b, 0, x1) :: r) nx ls (Sum.inr (Sum.inr o) :: st) μ = ((shp σ o).1 = a ∧ seg σ P call Q r nx ls (Sum.inl (μ o b) :: st) μ) := rfl
theorem sg_getf1 {σ : Sg} {P : PT} {call : CT} {Q : QT} {pc a b c x1 nx : Nat} {r : List Ent} {ls : Ls} {st : List MV} {μ : Mem} {n o : Nat} : seg σ P call Q ((pc, .getfield n, a, b, 1, x1) :: r) nx ls (Sum.inr (Sum.inr o) :: st) μ = ((shp σ o).1 = a ∧ seg σ P call Q r nx ls (Sum.inl (μ o b) :: st) μ) := rfl
theorem sg_getfp {σ : Sg} {P : PT} {call : CT} {Q : QT} {pc a b c x1 nx : Nat} {r : List Ent} {ls : Ls} {st : List MV} {μ : Mem} {n o w : Nat} : seg σ P call Q ((pc, .getfield n, a, b, w + 2, x1) :: r) nx ls (Sum.inr (Sum.inr o) :: st) μ = ((shp σ o).1 = a ∧ σ.2 o b = true ∧ seg σ P call Q r nx ls (Sum.inr (Sum.inr (o + w)) :: st) μ) := rfl
theorem sg_putf0 {σ : Sg} {P : PT} {call : CT} {Q : QT} {pc a b c x1 nx : Nat} {r : List Ent} {ls : Ls} {st : List MV} {μ : Mem} {n o : Nat} {v : Int} : seg σ P call Q ((pc, .putfield n, a, b, 0, x1) :: r) nx ls (Sum.inl v :: Sum.inr (Sum.inr o) :: st) μ = ((shp σ o).1 = a ∧ True ∧ seg σ P call Q r nx ls st (ms μ o b v)) := rfl
theorem sg_putf1 {σ : Sg} {P : PT} {call : CT} {Q : QT} {pc a b c x1 nx : Nat} {r : List Ent} {ls : Ls} {st : List MV} {μ : Mem} {n o : Nat} {v : Int} : seg σ P call Q ((pc, .putfield n, a, b, 1, x1) :: r) nx ls (Sum.inl v :: Sum.inr (Sum.inr o) :: st) μ = ((shp σ o).1 = a ∧ (v = 0 ∨ v = 1) ∧ seg σ P call Q r nx ls st (ms μ o b v)) := rfl
theorem sg_iaload {σ : Sg} {P : PT} {call : CT} {Q : QT} {pc a b c x1 nx : Nat} {r : List Ent} {ls : Ls} {st : List MV} {μ : Mem} {i : Int} {o : Nat} : seg σ P call Q ((pc, .iaload, a, b, c, x1) :: r) nx ls (Sum.inl i :: Sum.inr (Sum.inr o) :: st) μ = ((shp σ o).1 = 100 ∧ 0 ≤ i ∧ i < ((shp σ o).2 : Int) ∧ seg σ P call Q r nx ls (Sum.inl (μ o i.toNat) :: st) μ) := rfl
theorem sg_caload {σ : Sg} {P : PT} {call : CT} {Q : QT} {pc a b c x1 nx : Nat} {r : List Ent} {ls : Ls} {st : List MV} {μ : Mem} {i : Int} {o : Nat} : seg σ P call Q ((pc, .caload, a, b, c, x1) :: r) nx ls (Sum.inl i :: Sum.inr (Sum.inr o) :: st) μ = ((shp σ o).1 = 101 ∧ 0 ≤ i ∧ i < ((shp σ o).2 : Int) ∧ seg σ P call Q r nx ls (Sum.inl (μ o i.toNat) :: st) μ) := rfl
theorem sg_baload {σ : Sg} {P : PT} {call : CT} {Q : QT} {pc a b c x1 nx : Nat} {r : List Ent} {ls : Ls} {st : List MV} {μ : Mem} {i : Int} {o : Nat} : seg σ P call Q ((pc, .baload, a, b, c, x1) :: r) nx ls (Sum.inl i :: Sum.inr (Sum.inr o) :: st) μ = ((shp σ o).1 = 102 ∧ 0 ≤ i ∧ i < ((shp σ o).2 : Int) ∧ seg σ P call Q r nx ls (Sum.inl (μ o i.toNat) :: st) μ) := rfl
theorem sg_aaload {σ : Sg} {P : PT} {call : CT} {Q : QT} {pc a b c x1 nx : Nat} {r : List Ent} {ls : Ls} {st : List MV} {μ : Mem} {i : Int} {o : Nat} : seg σ P call Q ((pc, .aaload, a, b, c, x1) :: r) nx ls (Sum.inl i :: Sum.inr (Sum.inr o) :: st) μ = ((shp σ o).1 = a ∧ 0 ≤ i ∧ i < ((shp σ o).2 : Int) ∧ σ.2 o i.toNat = true ∧ seg σ P call Q r nx ls (Sum.inr (Sum.inr (o + b + c * i.toNat)) :: st) μ) := rfl
theorem sg_iastore {σ : Sg} {P : PT} {call : CT} {Q : QT} {pc a b c x1 nx : Nat} {r : List Ent} {ls : Ls} {st : List MV} {μ : Mem} {v i : Int} {o : Nat} : seg σ P call Q ((pc, .iastore, a, b, c, x1) :: r) nx ls (Sum.inl v :: Sum.inl i :: Sum.inr (Sum.inr o) :: st) μ = ((shp σ o).1 = 100 ∧ 0 ≤ i ∧ i < ((shp σ o).2 : Int) ∧ seg σ P call Q r nx ls st (ms μ o i.toNat v)) := rfl
theorem sg_castore {σ : Sg} {P : PT} {call : CT} {Q : QT} {pc a b c x1 nx : Nat} {r : List Ent} {ls : Ls} {st : List MV} {μ : Mem} {v i : Int} {o : Nat} : seg σ P call Q ((pc, .castore, a, b, c, x1) :: r) nx ls (Sum.inl v :: Sum.inl i :: Sum.inr (Sum.inr o) :: st) μ = ((shp σ o).1 = 101 ∧ 0 ≤ i ∧ i < ((shp σ o).2 : Int) ∧ (0 ≤ v ∧ v < 65536) ∧ seg σ P call Q r nx ls st (ms μ o i.toNat v)) := rfl
theorem sg_bastore {σ : Sg} {P : PT} {call : CT} {Q : QT} {pc a b c x1 nx : Nat} {r : List Ent} {ls : Ls} {st : List MV} {μ : Mem} {v i : Int} {o : Nat} : seg σ P call Q ((pc, .bastore, a, b, c, x1) :: r) nx ls (Sum.inl v :: Sum.inl i :: Sum.inr (Sum.inr o) :: st) μ = ((shp σ o).1 = 102 ∧ 0 ≤ i ∧ i < ((shp σ o).2 : Int) ∧ (v = 0 ∨ v = 1) ∧ seg σ P call Q r nx ls st (ms μ o i.toNat v)) := rfl
theorem sg_iret0 {σ : Sg} {P : PT} {call : CT} {Q : QT} {pc b c x1 nx : Nat} {r : List Ent} {ls : Ls} {μ : Mem} {x : Int} : seg σ P call Q ((pc, .ireturn, 0, b, c, x1) :: r) nx ls [Sum.inl x] μ = (Q (Sum.inl x) μ) := by
  show (([] : List MV) = [] ∧ (if 0 = 1 then x = 0 ∨ x = 1 else if 0 = 2 then 0 ≤ x ∧ x < 65536 else True) ∧ Q (.inl x) μ) = _
  simp
theorem sg_iret1 {σ : Sg} {P : PT} {call : CT} {Q : QT} {pc b c x1 nx : Nat} {r : List Ent} {ls : Ls} {μ : Mem} {x : Int} : seg σ P call Q ((pc, .ireturn, 1, b, c, x1) :: r) nx ls [Sum.inl x] μ = ((x = 0 ∨ x = 1) ∧ Q (Sum.inl x) μ) := by
  show (([] : List MV) = [] ∧ (if 1 = 1 then x = 0 ∨ x = 1 else if 1 = 2 then 0 ≤ x ∧ x < 65536 else True) ∧ Q (.inl x) μ) = _
  simp
theorem sg_iret2 {σ : Sg} {P : PT} {call : CT} {Q : QT} {pc b c x1 nx : Nat} {r : List Ent} {ls : Ls} {μ : Mem} {x : Int} : seg σ P call Q ((pc, .ireturn, 2, b, c, x1) :: r) nx ls [Sum.inl x] μ = ((0 ≤ x ∧ x < 65536) ∧ Q (Sum.inl x) μ) := by
  show (([] : List MV) = [] ∧ (if 2 = 1 then x = 0 ∨ x = 1 else if 2 = 2 then 0 ≤ x ∧ x < 65536 else True) ∧ Q (.inl x) μ) = _
  simp
theorem sg_ret {σ : Sg} {P : PT} {call : CT} {Q : QT} {pc a b c x1 nx : Nat} {r : List Ent} {ls : Ls} {μ : Mem} : seg σ P call Q ((pc, .return_, a, b, c, x1) :: r) nx ls [] μ = (Q (Sum.inl 0) μ) := by
  show (([] : List MV) = [] ∧ Q (.inl 0) μ) = _
  simp
theorem sg_aret {σ : Sg} {P : PT} {call : CT} {Q : QT} {pc a b c x1 nx : Nat} {r : List Ent} {ls : Ls} {μ : Mem} {x : Nat} : seg σ P call Q ((pc, .areturn, a, b, c, x1) :: r) nx ls [Sum.inr (Sum.inr x)] μ = (Q (Sum.inr (Sum.inr x)) μ) := by
  show (([] : List MV) = [] ∧ Q (.inr (.inr x)) μ) = _
  simp
theorem sg_iv1_v {σ : Sg} {P : PT} {call : CT} {Q : QT} {pc a b c x1 nx : Nat} {r : List Ent} {ls : Ls} {st : List MV} {μ : Mem} {n o : Nat} : seg σ P call Q ((pc, .invokevirtual n, a, 1, 0, x1) :: r) nx ls (Sum.inr (Sum.inr o) :: st) μ = (len4 st ∧ (shp σ o).1 = x1 ∧ call a [Sum.inr (Sum.inr o)] μ fun _ μ' => P (pc + 3) ls st μ') := rfl
theorem sg_iv1_i {σ : Sg} {P : PT} {call : CT} {Q : QT} {pc a b c x1 nx : Nat} {r : List Ent} {ls : Ls} {st : List MV} {μ : Mem} {n o : Nat} : seg σ P call Q ((pc, .invokevirtual n, a, 1, 1, x1) :: r) nx ls (Sum.inr (Sum.inr o) :: st) μ = (len4 st ∧ (shp σ o).1 = x1 ∧ call a [Sum.inr (Sum.inr o)] μ fun v μ' => P (pc + 3) ls (v :: st) μ') := rfl
theorem sg_iv1_r {σ : Sg} {P : PT} {call : CT} {Q : QT} {pc a b c x1 nx : Nat} {r : List Ent} {ls : Ls} {st : List MV} {μ : Mem} {n o : Nat} : seg σ P call Q ((pc, .invokevirtual n, a, 1, 2, x1) :: r) nx ls (Sum.inr (Sum.inr o) :: st) μ = (len4 st ∧ (shp σ o).1 = x1 ∧ call a [Sum.inr (Sum.inr o)] μ fun v μ' => P (pc + 3) ls (v :: st) μ') := rfl
theorem sg_is1_1 {σ : Sg} {P : PT} {call : CT} {Q : QT} {pc a b c x1 nx : Nat} {r : List Ent} {ls : Ls} {st : List MV} {μ : Mem} {n : Nat} {v0 : MV} : seg σ P call Q ((pc, .invokestatic n, a, 1, 1, x1) :: r) nx ls (v0 :: st) μ = (len4 st ∧ call a [v0] μ fun v μ' => P (pc + 3) ls (v :: st) μ') := rfl
theorem sg_is1_2 {σ : Sg} {P : PT} {call : CT} {Q : QT} {pc a b c x1 nx : Nat} {r : List Ent} {ls : Ls} {st : List MV} {μ : Mem} {n : Nat} {v0 : MV} : seg σ P call Q ((pc, .invokestatic n, a, 1, 2, x1) :: r) nx ls (v0 :: st) μ = (len4 st ∧ call a [v0] μ fun v μ' => P (pc + 3) ls (v :: st) μ') := rfl
theorem sg_iv2_v {σ : Sg} {P : PT} {call : CT} {Q : QT} {pc a b c x1 nx : Nat} {r : List Ent} {ls : Ls} {st : List MV} {μ : Mem} {n o : Nat} {v1 : MV} : seg σ P call Q ((pc, .invokevirtual n, a, 2, 0, x1) :: r) nx ls (v1 :: Sum.inr (Sum.inr o) :: st) μ = (len4 st ∧ (shp σ o).1 = x1 ∧ call a [Sum.inr (Sum.inr o), v1] μ fun _ μ' => P (pc + 3) ls st μ') := rfl
theorem sg_iv2_i {σ : Sg} {P : PT} {call : CT} {Q : QT} {pc a b c x1 nx : Nat} {r : List Ent} {ls : Ls} {st : List MV} {μ : Mem} {n o : Nat} {v1 : MV} : seg σ P call Q ((pc, .invokevirtual n, a, 2, 1, x1) :: r) nx ls (v1 :: Sum.inr (Sum.inr o) :: st) μ = (len4 st ∧ (shp σ o).1 = x1 ∧ call a [Sum.inr (Sum.inr o), v1] μ fun v μ' => P (pc + 3) ls (v :: st) μ') := rfl
theorem sg_iv2_r {σ : Sg} {P : PT} {call : CT} {Q : QT} {pc a b c x1 nx : Nat} {r : List Ent} {ls : Ls} {st : List MV} {μ : Mem} {n o : Nat} {v1 : MV} : seg σ P call Q ((pc, .invokevirtual n, a, 2, 2, x1) :: r) nx ls (v1 :: Sum.inr (Sum.inr o) :: st) μ = (len4 st ∧ (shp σ o).1 = x1 ∧ call a [Sum.inr (Sum.inr o), v1] μ fun v μ' => P (pc + 3) ls (v :: st) μ') := rfl
theorem sg_is2_1 {σ : Sg} {P : PT} {call : CT} {Q : QT} {pc a b c x1 nx : Nat} {r : List Ent} {ls : Ls} {st : List MV} {μ : Mem} {n : Nat} {v0 v1 : MV} : seg σ P call Q ((pc, .invokestatic n, a, 2, 1, x1) :: r) nx ls (v1 :: v0 :: st) μ = (len4 st ∧ call a [v0, v1] μ fun v μ' => P (pc + 3) ls (v :: st) μ') := rfl
theorem sg_is2_2 {σ : Sg} {P : PT} {call : CT} {Q : QT} {pc a b c x1 nx : Nat} {r : List Ent} {ls : Ls} {st : List MV} {μ : Mem} {n : Nat} {v0 v1 : MV} : seg σ P call Q ((pc, .invokestatic n, a, 2, 2, x1) :: r) nx ls (v1 :: v0 :: st) μ = (len4 st ∧ call a [v0, v1] μ fun v μ' => P (pc + 3) ls (v :: st) μ') := rfl
theorem sg_iv3_v {σ : Sg} {P : PT} {call : CT} {Q : QT} {pc a b c x1 nx : Nat} {r : List Ent} {ls : Ls} {st : List MV} {μ : Mem} {n o : Nat} {v1 v2 : MV} : seg σ P call Q ((pc, .invokevirtual n, a, 3, 0, x1) :: r) nx ls (v2 :: v1 :: Sum.inr (Sum.inr o) :: st) μ = (len4 st ∧ (shp σ o).1 = x1 ∧ call a [Sum.inr (Sum.inr o), v1, v2] μ fun _ μ' => P (pc + 3) ls st μ') := rfl
theorem sg_iv3_i {σ : Sg} {P : PT} {call : CT} {Q : QT} {pc a b c x1 nx : Nat} {r : List Ent} {ls : Ls} {st : List MV} {μ : Mem} {n o : Nat} {v1 v2 : MV} : seg σ P call Q ((pc, .invokevirtual n, a, 3, 1, x1) :: r) nx ls (v2 :: v1 :: Sum.inr (Sum.inr o) :: st) μ = (len4 st ∧ (shp σ o).1 = x1 ∧ call a [Sum.inr (Sum.inr o), v1, v2] μ fun v μ' => P (pc + 3) ls (v :: st) μ') := rfl
theorem sg_iv3_r {σ : Sg} {P : PT} {call : CT} {Q : QT} {pc a b c x1 nx : Nat} {r : List Ent} {ls : Ls} {st : List MV} {μ : Mem} {n o : Nat} {v1 v2 : MV} : seg σ P call Q ((pc, .invokevirtual n, a, 3, 2, x1) :: r) nx ls (v2 :: v1 :: Sum.inr (Sum.inr o) :: st) μ = (len4 st ∧ (shp σ o).1 = x1 ∧ call a [Sum.inr (Sum.inr o), v1, v2] μ fun v μ' => P (pc + 3) ls (v :: st) μ') := rfl
theorem sg_is3_1 {σ : Sg} {P : PT} {call : CT} {Q : QT} {pc a b c x1 nx : Nat} {r : List Ent} {ls : Ls} {st : List MV} {μ : Mem} {n : Nat} {v0 v1 v2 : MV} : seg σ P call Q ((pc, .invokestatic n, a, 3, 1, x1) :: r) nx ls (v2 :: v1 :: v0 :: st) μ = (len4 st ∧ call a [v0, v1, v2] μ fun v μ' => P (pc + 3) ls (v :: st) μ') := rfl
theorem sg_is3_2 {σ : Sg} {P : PT} {call : CT} {Q : QT} {pc a b c x1 nx : Nat} {r : List Ent} {ls : Ls} {st : List MV} {μ : Mem} {n : Nat} {v0 v1 v2 : MV} : seg σ P call Q ((pc, .invokestatic n, a, 3, 2, x1) :: r) nx ls (v2 :: v1 :: v0 :: st) μ = (len4 st ∧ call a [v0, v1, v2] μ fun v μ' => P (pc + 3) ls (v :: st) μ') := rfl
theorem sg_iv4_v {σ : Sg} {P : PT} {call : CT} {Q : QT} {pc a b c x1 nx : Nat} {r : List Ent} {ls : Ls} {st : List MV} {μ : Mem} {n o : Nat} {v1 v2 v3 : MV} : seg σ P call Q ((pc, .invokevirtual n, a, 4, 0, x1) :: r) nx ls (v3 :: v2 :: v1 :: Sum.inr (Sum.inr o) :: st) μ = (len4 st ∧ (shp σ o).1 = x1 ∧ call a [Sum.inr (Sum.inr o), v1, v2, v3] μ fun _ μ' => P (pc + 3) ls st μ') := rfl
theorem sg_iv4_i {σ : Sg} {P : PT} {call : CT} {Q : QT} {pc a b c x1 nx : Nat} {r : List Ent} {ls : Ls} {st : List MV} {μ : Mem} {n o : Nat} {v1 v2 v3 : MV} : seg σ P call Q ((pc, .invokevirtual n, a, 4, 1, x1) :: r) nx ls (v3 :: v2 :: v1 :: Sum.inr (Sum.inr o) :: st) μ = (len4 st ∧ (shp σ o).1 = x1 ∧ call a [Sum.inr (Sum.inr o), v1, v2, v3] μ fun v μ' => P (pc + 3) ls (v :: st) μ') := rfl
theorem sg_iv4_r {σ : Sg} {P : PT} {call : CT} {Q : QT} {pc a b c x1 nx : Nat} {r : List Ent} {ls : Ls} {st : List MV} {μ : Mem} {n o : Nat} {v1 v2 v3 : MV} : seg σ P call Q ((pc, .invokevirtual n, a, 4, 2, x1) :: r) nx ls (v3 :: v2 :: v1 :: Sum.inr (Sum.inr o) :: st) μ = (len4 st ∧ (shp σ o).1 = x1 ∧ call a [Sum.inr (Sum.inr o), v1, v2, v3] μ fun v μ' => P (pc + 3) ls (v :: st) μ') := rfl
theorem sg_min {σ : Sg} {P : PT} {call : CT} {Q : QT} {pc a b c x1 nx : Nat} {r : List Ent} {ls : Ls} {st : List MV} {μ : Mem} {n : Nat} {x y : Int} : seg σ P call Q ((pc, .invokestatic n, a, b, 10, x1) :: r) nx ls (Sum.inl y :: Sum.inl x :: st) μ = ((len4 st ∧ inR x) ∧ inR y ∧ seg σ P call Q r nx ls (Sum.inl (if y < x then y else x) :: st) μ) := rfl
theorem sg_max {σ : Sg} {P : PT} {call : CT} {Q : QT} {pc a b c x1 nx : Nat} {r : List Ent} {ls : Ls} {st : List MV} {μ : Mem} {n : Nat} {x y : Int} : seg σ P call Q ((pc, .invokestatic n, a, b, 11, x1) :: r) nx ls (Sum.inl y :: Sum.inl x :: st) μ = ((len4 st ∧ inR x) ∧ inR y ∧ seg σ P call Q r nx ls (Sum.inl (if x < y then y else x) :: st) μ) := rfl
theorem sg_abs {σ : Sg} {P : PT} {call : CT} {Q : QT} {pc a b c x1 nx : Nat} {r : List Ent} {ls : Ls} {st : List MV} {μ : Mem} {n : Nat} {x : Int} : seg σ P call Q ((pc, .invokestatic n, a, b, 12, x1) :: r) nx ls (Sum.inl x :: st) μ = ((len4 st ∧ inR x) ∧ seg σ P call Q r nx ls (Sum.inl (if 0 ≤ x then x else 0 - x) :: st) μ) := rfl
theorem sg_acopy {σ : Sg} {P : PT} {call : CT} {Q : QT} {pc a b c x1 nx : Nat} {r : List Ent} {ls : Ls} {st : List MV} {μ : Mem} {n k0 k1 : Nat} {n1 sp dp : Int} : seg σ P call Q ((pc, .invokestatic n, a, b, 13, x1) :: r) nx ls (Sum.inl n1 :: Sum.inl dp :: Sum.inr (Sum.inr k1) :: Sum.inl sp :: Sum.inr (Sum.inr k0) :: st) μ = ((len4 st ∧ (shp σ k0).1 = 100 ∧ (shp σ k1).1 = 100) ∧ (0 ≤ sp ∧ 0 ≤ dp ∧ 0 ≤ n1) ∧ (sp + n1 ≤ ((shp σ k0).2 : Int) ∧ dp + n1 ≤ ((shp σ k1).2 : Int)) ∧ seg σ P call Q r nx ls st (mcp μ k0 sp.toNat k1 dp.toNat n1.toNat)) := rfl
theorem sg_nil {σ : Sg} {P : PT} {call : CT} {Q : QT} {nx : Nat} {ls : Ls} {st : List MV} {μ : Mem} : seg σ P call Q [] nx ls st μ = P nx ls st μ := rfl
theorem ldI_z {x : Int} {t : Ls} {f : Int → Prop} : ldI (some (Sum.inl x) :: t) 0 f = f x := rfl
theorem ldI_s {h : Option MV} {t : Ls} {n : Nat} {f : Int → Prop} : ldI (h :: t) (n + 1) f = ldI t n f := by simp [ldI]
theorem ldL_z {x : Int64} {t : Ls} {f : Int64 → Prop} : ldL (some (Sum.inr (Sum.inl x)) :: t) 0 f = f x := rfl
theorem ldL_s {h : Option MV} {t : Ls} {n : Nat} {f : Int64 → Prop} : ldL (h :: t) (n + 1) f = ldL t n f := by simp [ldL]
theorem ldR_z {x : Nat} {t : Ls} {f : Nat → Prop} : ldR (some (Sum.inr (Sum.inr x)) :: t) 0 f = f x := rfl
theorem ldR_s {h : Option MV} {t : Ls} {n : Nat} {f : Nat → Prop} : ldR (h :: t) (n + 1) f = ldR t n f := by simp [ldR]
theorem stL_z {h v : Option MV} {t : Ls} : stL (h :: t) 0 v = v :: t := rfl
theorem stL_s {h v : Option MV} {t : Ls} {n : Nat} : stL (h :: t) (n + 1) v = h :: stL t n v := rfl
theorem nLg_n : nLg none = True := rfl
theorem nLg_i {x : Int} : nLg (some (Sum.inl x)) = True := rfl
theorem nLg_r {x : Nat} : nLg (some (Sum.inr (Sum.inr x))) = True := rfl
theorem okS_z {h : Option MV} {t : Ls} : okS (h :: t) 0 = True := rfl
theorem okS_1 {h h1 : Option MV} {t : Ls} : okS (h :: h1 :: t) 1 = nLg h := rfl
theorem okS_s {h : Option MV} {t : Ls} {n : Nat} : okS (h :: t) (n + 2) = okS t (n + 1) := by cases t <;> rfl
theorem okS2_z {h h1 : Option MV} {t : Ls} : okS2 (h :: h1 :: t) 0 = True := rfl
theorem okS2_1 {h h1 h2 : Option MV} {t : Ls} : okS2 (h :: h1 :: h2 :: t) 1 = nLg h := rfl
theorem okS2_s {h : Option MV} {t : Ls} {n : Nat} : okS2 (h :: t) (n + 2) = okS2 t (n + 1) := by cases t with | nil => rfl | cons a t => cases t <;> rfl
theorem swc_n {pc : Nat} {K : Nat → Prop} {x v : Int} : swc pc K x v [] = True := rfl
theorem swc_c {pc : Nat} {K : Nat → Prop} {x v o : Int} {os : List Int} : swc pc K x v (o :: os) = ((x = v → K ((pc : Int) + o).toNat) ∧ swc pc K x (v + 1) os) := rfl
theorem ms_at (μ : Mem) (k j : Nat) (v : Int) (k' j' : Nat) : ms μ k j v k' j' = if k' = k ∧ j' = j then v else μ k' j' := rfl
theorem mcp_at (μ : Mem) (k0 sp k1 dp n k j : Nat) : mcp μ k0 sp k1 dp n k j = if k = k1 ∧ dp ≤ j ∧ j < dp + n then μ k0 (sp + (j - dp)) else μ k j := rfl
theorem ldI_1 {h0 : Option MV} {x : Int} {t : Ls} {f : Int → Prop} : ldI (h0 :: some (Sum.inl x) :: t) 1 f = f x := rfl
theorem ldL_1 {h0 : Option MV} {x : Int64} {t : Ls} {f : Int64 → Prop} : ldL (h0 :: some (Sum.inr (Sum.inl x)) :: t) 1 f = f x := rfl
theorem ldR_1 {h0 : Option MV} {x : Nat} {t : Ls} {f : Nat → Prop} : ldR (h0 :: some (Sum.inr (Sum.inr x)) :: t) 1 f = f x := rfl
theorem stL_1 {h0 : Option MV} {h v : Option MV} {t : Ls} : stL (h0 :: h :: t) 1 v = h0 :: v :: t := rfl
theorem ldI_2 {h0 h1 : Option MV} {x : Int} {t : Ls} {f : Int → Prop} : ldI (h0 :: h1 :: some (Sum.inl x) :: t) 2 f = f x := rfl
theorem ldL_2 {h0 h1 : Option MV} {x : Int64} {t : Ls} {f : Int64 → Prop} : ldL (h0 :: h1 :: some (Sum.inr (Sum.inl x)) :: t) 2 f = f x := rfl
theorem ldR_2 {h0 h1 : Option MV} {x : Nat} {t : Ls} {f : Nat → Prop} : ldR (h0 :: h1 :: some (Sum.inr (Sum.inr x)) :: t) 2 f = f x := rfl
theorem stL_2 {h0 h1 : Option MV} {h v : Option MV} {t : Ls} : stL (h0 :: h1 :: h :: t) 2 v = h0 :: h1 :: v :: t := rfl
theorem okS_2 {h0 h1 : Option MV} {h : Option MV} {t : Ls} : okS (h0 :: h1 :: h :: t) 2 = nLg h1 := rfl
theorem okS2_2 {h0 h1 : Option MV} {h h' : Option MV} {t : Ls} : okS2 (h0 :: h1 :: h :: h' :: t) 2 = nLg h1 := rfl
theorem ldI_3 {h0 h1 h2 : Option MV} {x : Int} {t : Ls} {f : Int → Prop} : ldI (h0 :: h1 :: h2 :: some (Sum.inl x) :: t) 3 f = f x := rfl
theorem ldL_3 {h0 h1 h2 : Option MV} {x : Int64} {t : Ls} {f : Int64 → Prop} : ldL (h0 :: h1 :: h2 :: some (Sum.inr (Sum.inl x)) :: t) 3 f = f x := rfl
theorem ldR_3 {h0 h1 h2 : Option MV} {x : Nat} {t : Ls} {f : Nat → Prop} : ldR (h0 :: h1 :: h2 :: some (Sum.inr (Sum.inr x)) :: t) 3 f = f x := rfl
theorem stL_3 {h0 h1 h2 : Option MV} {h v : Option MV} {t : Ls} : stL (h0 :: h1 :: h2 :: h :: t) 3 v = h0 :: h1 :: h2 :: v :: t := rfl
theorem okS_3 {h0 h1 h2 : Option MV} {h : Option MV} {t : Ls} : okS (h0 :: h1 :: h2 :: h :: t) 3 = nLg h2 := rfl
theorem okS2_3 {h0 h1 h2 : Option MV} {h h' : Option MV} {t : Ls} : okS2 (h0 :: h1 :: h2 :: h :: h' :: t) 3 = nLg h2 := rfl
theorem ldI_4 {h0 h1 h2 h3 : Option MV} {x : Int} {t : Ls} {f : Int → Prop} : ldI (h0 :: h1 :: h2 :: h3 :: some (Sum.inl x) :: t) 4 f = f x := rfl
theorem ldL_4 {h0 h1 h2 h3 : Option MV} {x : Int64} {t : Ls} {f : Int64 → Prop} : ldL (h0 :: h1 :: h2 :: h3 :: some (Sum.inr (Sum.inl x)) :: t) 4 f = f x := rfl
theorem ldR_4 {h0 h1 h2 h3 : Option MV} {x : Nat} {t : Ls} {f : Nat → Prop} : ldR (h0 :: h1 :: h2 :: h3 :: some (Sum.inr (Sum.inr x)) :: t) 4 f = f x := rfl
theorem stL_4 {h0 h1 h2 h3 : Option MV} {h v : Option MV} {t : Ls} : stL (h0 :: h1 :: h2 :: h3 :: h :: t) 4 v = h0 :: h1 :: h2 :: h3 :: v :: t := rfl
theorem okS_4 {h0 h1 h2 h3 : Option MV} {h : Option MV} {t : Ls} : okS (h0 :: h1 :: h2 :: h3 :: h :: t) 4 = nLg h3 := rfl
theorem okS2_4 {h0 h1 h2 h3 : Option MV} {h h' : Option MV} {t : Ls} : okS2 (h0 :: h1 :: h2 :: h3 :: h :: h' :: t) 4 = nLg h3 := rfl
theorem ldI_5 {h0 h1 h2 h3 h4 : Option MV} {x : Int} {t : Ls} {f : Int → Prop} : ldI (h0 :: h1 :: h2 :: h3 :: h4 :: some (Sum.inl x) :: t) 5 f = f x := rfl
theorem ldL_5 {h0 h1 h2 h3 h4 : Option MV} {x : Int64} {t : Ls} {f : Int64 → Prop} : ldL (h0 :: h1 :: h2 :: h3 :: h4 :: some (Sum.inr (Sum.inl x)) :: t) 5 f = f x := rfl
theorem ldR_5 {h0 h1 h2 h3 h4 : Option MV} {x : Nat} {t : Ls} {f : Nat → Prop} : ldR (h0 :: h1 :: h2 :: h3 :: h4 :: some (Sum.inr (Sum.inr x)) :: t) 5 f = f x := rfl
theorem stL_5 {h0 h1 h2 h3 h4 : Option MV} {h v : Option MV} {t : Ls} : stL (h0 :: h1 :: h2 :: h3 :: h4 :: h :: t) 5 v = h0 :: h1 :: h2 :: h3 :: h4 :: v :: t := rfl
theorem okS_5 {h0 h1 h2 h3 h4 : Option MV} {h : Option MV} {t : Ls} : okS (h0 :: h1 :: h2 :: h3 :: h4 :: h :: t) 5 = nLg h4 := rfl
theorem okS2_5 {h0 h1 h2 h3 h4 : Option MV} {h h' : Option MV} {t : Ls} : okS2 (h0 :: h1 :: h2 :: h3 :: h4 :: h :: h' :: t) 5 = nLg h4 := rfl
theorem ldI_6 {h0 h1 h2 h3 h4 h5 : Option MV} {x : Int} {t : Ls} {f : Int → Prop} : ldI (h0 :: h1 :: h2 :: h3 :: h4 :: h5 :: some (Sum.inl x) :: t) 6 f = f x := rfl
theorem ldL_6 {h0 h1 h2 h3 h4 h5 : Option MV} {x : Int64} {t : Ls} {f : Int64 → Prop} : ldL (h0 :: h1 :: h2 :: h3 :: h4 :: h5 :: some (Sum.inr (Sum.inl x)) :: t) 6 f = f x := rfl
theorem ldR_6 {h0 h1 h2 h3 h4 h5 : Option MV} {x : Nat} {t : Ls} {f : Nat → Prop} : ldR (h0 :: h1 :: h2 :: h3 :: h4 :: h5 :: some (Sum.inr (Sum.inr x)) :: t) 6 f = f x := rfl
theorem stL_6 {h0 h1 h2 h3 h4 h5 : Option MV} {h v : Option MV} {t : Ls} : stL (h0 :: h1 :: h2 :: h3 :: h4 :: h5 :: h :: t) 6 v = h0 :: h1 :: h2 :: h3 :: h4 :: h5 :: v :: t := rfl
theorem okS_6 {h0 h1 h2 h3 h4 h5 : Option MV} {h : Option MV} {t : Ls} : okS (h0 :: h1 :: h2 :: h3 :: h4 :: h5 :: h :: t) 6 = nLg h5 := rfl
theorem okS2_6 {h0 h1 h2 h3 h4 h5 : Option MV} {h h' : Option MV} {t : Ls} : okS2 (h0 :: h1 :: h2 :: h3 :: h4 :: h5 :: h :: h' :: t) 6 = nLg h5 := rfl
theorem ldI_7 {h0 h1 h2 h3 h4 h5 h6 : Option MV} {x : Int} {t : Ls} {f : Int → Prop} : ldI (h0 :: h1 :: h2 :: h3 :: h4 :: h5 :: h6 :: some (Sum.inl x) :: t) 7 f = f x := rfl
theorem ldL_7 {h0 h1 h2 h3 h4 h5 h6 : Option MV} {x : Int64} {t : Ls} {f : Int64 → Prop} : ldL (h0 :: h1 :: h2 :: h3 :: h4 :: h5 :: h6 :: some (Sum.inr (Sum.inl x)) :: t) 7 f = f x := rfl
theorem ldR_7 {h0 h1 h2 h3 h4 h5 h6 : Option MV} {x : Nat} {t : Ls} {f : Nat → Prop} : ldR (h0 :: h1 :: h2 :: h3 :: h4 :: h5 :: h6 :: some (Sum.inr (Sum.inr x)) :: t) 7 f = f x := rfl
theorem stL_7 {h0 h1 h2 h3 h4 h5 h6 : Option MV} {h v : Option MV} {t : Ls} : stL (h0 :: h1 :: h2 :: h3 :: h4 :: h5 :: h6 :: h :: t) 7 v = h0 :: h1 :: h2 :: h3 :: h4 :: h5 :: h6 :: v :: t := rfl
theorem okS_7 {h0 h1 h2 h3 h4 h5 h6 : Option MV} {h : Option MV} {t : Ls} : okS (h0 :: h1 :: h2 :: h3 :: h4 :: h5 :: h6 :: h :: t) 7 = nLg h6 := rfl
theorem okS2_7 {h0 h1 h2 h3 h4 h5 h6 : Option MV} {h h' : Option MV} {t : Ls} : okS2 (h0 :: h1 :: h2 :: h3 :: h4 :: h5 :: h6 :: h :: h' :: t) 7 = nLg h6 := rfl
theorem ldI_8 {h0 h1 h2 h3 h4 h5 h6 h7 : Option MV} {x : Int} {t : Ls} {f : Int → Prop} : ldI (h0 :: h1 :: h2 :: h3 :: h4 :: h5 :: h6 :: h7 :: some (Sum.inl x) :: t) 8 f = f x := rfl
theorem ldL_8 {h0 h1 h2 h3 h4 h5 h6 h7 : Option MV} {x : Int64} {t : Ls} {f : Int64 → Prop} : ldL (h0 :: h1 :: h2 :: h3 :: h4 :: h5 :: h6 :: h7 :: some (Sum.inr (Sum.inl x)) :: t) 8 f = f x := rfl
theorem ldR_8 {h0 h1 h2 h3 h4 h5 h6 h7 : Option MV} {x : Nat} {t : Ls} {f : Nat → Prop} : ldR (h0 :: h1 :: h2 :: h3 :: h4 :: h5 :: h6 :: h7 :: some (Sum.inr (Sum.inr x)) :: t) 8 f = f x := rfl
theorem stL_8 {h0 h1 h2 h3 h4 h5 h6 h7 : Option MV} {h v : Option MV} {t : Ls} : stL (h0 :: h1 :: h2 :: h3 :: h4 :: h5 :: h6 :: h7 :: h :: t) 8 v = h0 :: h1 :: h2 :: h3 :: h4 :: h5 :: h6 :: h7 :: v :: t := rfl
theorem okS_8 {h0 h1 h2 h3 h4 h5 h6 h7 : Option MV} {h : Option MV} {t : Ls} : okS (h0 :: h1 :: h2 :: h3 :: h4 :: h5 :: h6 :: h7 :: h :: t) 8 = nLg h7 := rfl
theorem okS2_8 {h0 h1 h2 h3 h4 h5 h6 h7 : Option MV} {h h' : Option MV} {t : Ls} : okS2 (h0 :: h1 :: h2 :: h3 :: h4 :: h5 :: h6 :: h7 :: h :: h' :: t) 8 = nLg h7 := rfl
theorem ldI_9 {h0 h1 h2 h3 h4 h5 h6 h7 h8 : Option MV} {x : Int} {t : Ls} {f : Int → Prop} : ldI (h0 :: h1 :: h2 :: h3 :: h4 :: h5 :: h6 :: h7 :: h8 :: some (Sum.inl x) :: t) 9 f = f x := rfl
theorem ldL_9 {h0 h1 h2 h3 h4 h5 h6 h7 h8 : Option MV} {x : Int64} {t : Ls} {f : Int64 → Prop} : ldL (h0 :: h1 :: h2 :: h3 :: h4 :: h5 :: h6 :: h7 :: h8 :: some (Sum.inr (Sum.inl x)) :: t) 9 f = f x := rfl
theorem ldR_9 {h0 h1 h2 h3 h4 h5 h6 h7 h8 : Option MV} {x : Nat} {t : Ls} {f : Nat → Prop} : ldR (h0 :: h1 :: h2 :: h3 :: h4 :: h5 :: h6 :: h7 :: h8 :: some (Sum.inr (Sum.inr x)) :: t) 9 f = f x := rfl
theorem stL_9 {h0 h1 h2 h3 h4 h5 h6 h7 h8 : Option MV} {h v : Option MV} {t : Ls} : stL (h0 :: h1 :: h2 :: h3 :: h4 :: h5 :: h6 :: h7 :: h8 :: h :: t) 9 v = h0 :: h1 :: h2 :: h3 :: h4 :: h5 :: h6 :: h7 :: h8 :: v :: t := rfl
theorem okS_9 {h0 h1 h2 h3 h4 h5 h6 h7 h8 : Option MV} {h : Option MV} {t : Ls} : okS (h0 :: h1 :: h2 :: h3 :: h4 :: h5 :: h6 :: h7 :: h8 :: h :: t) 9 = nLg h8 := rfl
theorem okS2_9 {h0 h1 h2 h3 h4 h5 h6 h7 h8 : Option MV} {h h' : Option MV} {t : Ls} : okS2 (h0 :: h1 :: h2 :: h3 :: h4 :: h5 :: h6 :: h7 :: h8 :: h :: h' :: t) 9 = nLg h8 := rfl
theorem ldI_10 {h0 h1 h2 h3 h4 h5 h6 h7 h8 h9 : Option MV} {x : Int} {t : Ls} {f : Int → Prop} : ldI (h0 :: h1 :: h2 :: h3 :: h4 :: h5 :: h6 :: h7 :: h8 :: h9 :: some (Sum.inl x) :: t) 10 f = f x := rfl
theorem ldL_10 {h0 h1 h2 h3 h4 h5 h6 h7 h8 h9 : Option MV} {x : Int64} {t : Ls} {f : Int64 → Prop} : ldL (h0 :: h1 :: h2 :: h3 :: h4 :: h5 :: h6 :: h7 :: h8 :: h9 :: some (Sum.inr (Sum.inl x)) :: t) 10 f = f x := rfl
theorem ldR_10 {h0 h1 h2 h3 h4 h5 h6 h7 h8 h9 : Option MV} {x : Nat} {t : Ls} {f : Nat → Prop} : ldR (h0 :: h1 :: h2 :: h3 :: h4 :: h5 :: h6 :: h7 :: h8 :: h9 :: some (Sum.inr (Sum.inr x)) :: t) 10 f = f x := rfl
theorem stL_10 {h0 h1 h2 h3 h4 h5 h6 h7 h8 h9 : Option MV} {h v : Option MV} {t : Ls} : stL (h0 :: h1 :: h2 :: h3 :: h4 :: h5 :: h6 :: h7 :: h8 :: h9 :: h :: t) 10 v = h0 :: h1 :: h2 :: h3 :: h4 :: h5 :: h6 :: h7 :: h8 :: h9 :: v :: t := rfl
theorem okS_10 {h0 h1 h2 h3 h4 h5 h6 h7 h8 h9 : Option MV} {h : Option MV} {t : Ls} : okS (h0 :: h1 :: h2 :: h3 :: h4 :: h5 :: h6 :: h7 :: h8 :: h9 :: h :: t) 10 = nLg h9 := rfl
theorem okS2_10 {h0 h1 h2 h3 h4 h5 h6 h7 h8 h9 : Option MV} {h h' : Option MV} {t : Ls} : okS2 (h0 :: h1 :: h2 :: h3 :: h4 :: h5 :: h6 :: h7 :: h8 :: h9 :: h :: h' :: t) 10 = nLg h9 := rfl
theorem ldI_11 {h0 h1 h2 h3 h4 h5 h6 h7 h8 h9 h10 : Option MV} {x : Int} {t : Ls} {f : Int → Prop} : ldI (h0 :: h1 :: h2 :: h3 :: h4 :: h5 :: h6 :: h7 :: h8 :: h9 :: h10 :: some (Sum.inl x) :: t) 11 f = f x := rfl
theorem ldL_11 {h0 h1 h2 h3 h4 h5 h6 h7 h8 h9 h10 : Option MV} {x : Int64} {t : Ls} {f : Int64 → Prop} : ldL (h0 :: h1 :: h2 :: h3 :: h4 :: h5 :: h6 :: h7 :: h8 :: h9 :: h10 :: some (Sum.inr (Sum.inl x)) :: t) 11 f = f x := rfl
theorem ldR_11 {h0 h1 h2 h3 h4 h5 h6 h7 h8 h9 h10 : Option MV} {x : Nat} {t : Ls} {f : Nat → Prop} : ldR (h0 :: h1 :: h2 :: h3 :: h4 :: h5 :: h6 :: h7 :: h8 :: h9 :: h10 :: some (Sum.inr (Sum.inr x)) :: t) 11 f = f x := rfl
theorem stL_11 {h0 h1 h2 h3 h4 h5 h6 h7 h8 h9 h10 : Option MV} {h v : Option MV} {t : Ls} : stL (h0 :: h1 :: h2 :: h3 :: h4 :: h5 :: h6 :: h7 :: h8 :: h9 :: h10 :: h :: t) 11 v = h0 :: h1 :: h2 :: h3 :: h4 :: h5 :: h6 :: h7 :: h8 :: h9 :: h10 :: v :: t := rfl
theorem okS_11 {h0 h1 h2 h3 h4 h5 h6 h7 h8 h9 h10 : Option MV} {h : Option MV} {t : Ls} : okS (h0 :: h1 :: h2 :: h3 :: h4 :: h5 :: h6 :: h7 :: h8 :: h9 :: h10 :: h :: t) 11 = nLg h10 := rfl
theorem okS2_11 {h0 h1 h2 h3 h4 h5 h6 h7 h8 h9 h10 : Option MV} {h h' : Option MV} {t : Ls} : okS2 (h0 :: h1 :: h2 :: h3 :: h4 :: h5 :: h6 :: h7 :: h8 :: h9 :: h10 :: h :: h' :: t) 11 = nLg h10 := rfl
theorem len4_0 : len4 [] = True := rfl
theorem len4_1 {v0 : MV} : len4 [v0] = True := rfl
theorem len4_2 {v0 v1 : MV} : len4 [v0, v1] = True := rfl
theorem len4_3 {v0 v1 v2 : MV} : len4 [v0, v1, v2] = True := rfl
theorem len4_4 {v0 v1 v2 v3 : MV} : len4 [v0, v1, v2, v3] = True := rfl
theorem tc_c (a b : Nat) : (a : Int) + (b : Int) = ((a + b : Nat) : Int) := (Int.natCast_add a b).symm
theorem tc_l (a b : Nat) : (a : Int) + no_index (OfNat.ofNat b : Int) = ((a + OfNat.ofNat b : Nat) : Int) := rfl
theorem tc_r (a b : Nat) : no_index (OfNat.ofNat a : Int) + (b : Int) = ((OfNat.ofNat a + b : Nat) : Int) := (Int.natCast_add (OfNat.ofNat a) b).symm
theorem tc_m (a b : Nat) : (a : Int) * no_index (OfNat.ofNat b : Int) = ((a * OfNat.ofNat b : Nat) : Int) := rfl
theorem tc_n (a b : Nat) : no_index (OfNat.ofNat a : Int) * (b : Int) = ((OfNat.ofNat a * b : Nat) : Int) := rfl
theorem tc_o (n : Nat) : ((no_index (OfNat.ofNat n : Nat) : Nat) : Int) = (OfNat.ofNat n : Int) := rfl
theorem lit_a (a m n : Nat) : a + no_index (OfNat.ofNat m) + no_index (OfNat.ofNat n) = a + (OfNat.ofNat m + OfNat.ofNat n) := Nat.add_assoc _ _ _
theorem tc_0 (a : Nat) : (0 ≤ (a : Int)) = True := by simp
end
section
theorem p1_m {st : List MV} {f g : Int → List MV → Prop} (h : ∀ x r, f x r → g x r) : p1 st f → p1 st g := by
  unfold p1; split <;> first | exact h _ _ | exact id
theorem p2_m {st : List MV} {f g : Int → Int → List MV → Prop} (h : ∀ x y r, f x y r → g x y r) : p2 st f → p2 st g := by
  unfold p2; split <;> first | exact h _ _ _ | exact id
theorem pR_m {st : List MV} {f g : Nat → List MV → Prop} (h : ∀ x r, f x r → g x r) : pR st f → pR st g := by
  unfold pR; split <;> first | exact h _ _ | exact id
theorem pA_m {st : List MV} {f g : Nat → Int → List MV → Prop} (h : ∀ x y r, f x y r → g x y r) : pA st f → pA st g := by
  unfold pA; split <;> first | exact h _ _ _ | exact id
theorem pAS_m {st : List MV} {f g : Nat → Int → Int → List MV → Prop} (h : ∀ x y z r, f x y z r → g x y z r) : pAS st f → pAS st g := by
  unfold pAS; split <;> first | exact h _ _ _ _ | exact id
theorem pL_m {st : List MV} {f g : Int64 → List MV → Prop} (h : ∀ x r, f x r → g x r) : pL st f → pL st g := by
  unfold pL; split <;> first | exact h _ _ | exact id
theorem pLL_m {st : List MV} {f g : Int64 → Int64 → List MV → Prop} (h : ∀ x y r, f x y r → g x y r) : pLL st f → pLL st g := by
  unfold pLL; split <;> first | exact h _ _ _ | exact id
theorem pLI_m {st : List MV} {f g : Int64 → Int → List MV → Prop} (h : ∀ x y r, f x y r → g x y r) : pLI st f → pLI st g := by
  unfold pLI; split <;> first | exact h _ _ _ | exact id
theorem pD_m {st : List MV} {f g : MV → List MV → Prop} (h : ∀ x r, f x r → g x r) : pD st f → pD st g := by
  unfold pD; split <;> first | exact h _ _ | exact id
theorem pC_m {st : List MV} {f g : Nat → Int → Nat → Int → Int → List MV → Prop} (h : ∀ a b c d e r, f a b c d e r → g a b c d e r) : pC st f → pC st g := by
  unfold pC; split <;> first | exact h _ _ _ _ _ _ | exact id
theorem tk_m {n : Nat} {st : List MV} {f g : List MV → List MV → Prop} (h : ∀ x r, f x r → g x r) : tk n st f → tk n st g := by
  unfold tk; split <;> first | exact h _ _ | exact id
theorem ldI_m {ls : Ls} {f g : Int → Prop} (h : ∀ x, f x → g x) : ∀ {n : Nat}, ldI ls n f → ldI ls n g := by
  induction ls with
  | nil => intro n q; cases n <;> exact q
  | cons a t ih =>
    intro n q
    cases n with
    | zero => revert q; simp only [ldI]; split <;> first | exact h _ | exact id
    | succ n => exact ih (n := n) q
theorem ldL_m {ls : Ls} {f g : Int64 → Prop} (h : ∀ x, f x → g x) : ∀ {n : Nat}, ldL ls n f → ldL ls n g := by
  induction ls with
  | nil => intro n q; cases n <;> exact q
  | cons a t ih =>
    intro n q
    cases n with
    | zero => revert q; simp only [ldL]; split <;> first | exact h _ | exact id
    | succ n => exact ih (n := n) q
theorem ldR_m {ls : Ls} {f g : Nat → Prop} (h : ∀ x, f x → g x) : ∀ {n : Nat}, ldR ls n f → ldR ls n g := by
  induction ls with
  | nil => intro n q; cases n <;> exact q
  | cons a t ih =>
    intro n q
    cases n with
    | zero => revert q; simp only [ldR]; split <;> first | exact h _ | exact id
    | succ n => exact ih (n := n) q
theorem cEq_m {x y : Int} {a b a' b' : Prop} (h1 : a → a') (h2 : b → b') : cEq x y a b → cEq x y a' b' := fun h => ⟨fun q => h1 (h.1 q), fun q => ⟨(h.2 q).1, (h.2 q).2.1, h2 (h.2 q).2.2⟩⟩
theorem cLt_m {x y : Int} {a b a' b' : Prop} (h1 : a → a') (h2 : b → b') : cLt x y a b → cLt x y a' b' := fun h => ⟨h.1, h.2.1, fun q => h1 (h.2.2.1 q), fun q => h2 (h.2.2.2 q)⟩
theorem cnd_m {c : ClassFile.Cond} {x y : Int} {a b a' b' : Prop} (h1 : a → a') (h2 : b → b') : cnd c x y a b → cnd c x y a' b' := by
  cases c
  · exact cEq_m h1 h2
  · exact cEq_m h2 h1
  · exact cLt_m h1 h2
  · exact cLt_m h2 h1
  · exact cLt_m h1 h2
  · exact cLt_m h2 h1
theorem swc_m {pc : Nat} {K K' : Nat → Prop} {x : Int} (h : ∀ t, K t → K' t) : ∀ {os : List Int} {v : Int}, swc pc K x v os → swc pc K' x v os
  | [], _, _ => trivial
  | _ :: _, _, q => ⟨fun e => h _ (q.1 e), swc_m h q.2⟩
def CM (call : CT) : Prop := ∀ mi vs μ (Q Q' : QT), (∀ v μ, Q v μ → Q' v μ) → call mi vs μ Q → call mi vs μ Q'
theorem stp_m {σ : Sg} {P P' : PT} {call : CT} {Q Q' : QT} {pc a b c x1 : Nat} {k k' : Ls → List MV → Mem → Prop} (hP : ∀ pc ls st μ, P pc ls st μ → P' pc ls st μ) (hQ : ∀ v μ, Q v μ → Q' v μ) (hk : ∀ ls st μ, k ls st μ → k' ls st μ) (hc : CM call) {i : Instr} {ls : Ls} {st : List MV} {μ : Mem} :
    stp σ P call Q pc i a b c x1 k ls st μ → stp σ P' call Q' pc i a b c x1 k' ls st μ := by
  intro h
  cases i with
  | iconst n => exact hk _ _ _ h
  | bipush n => exact hk _ _ _ h
  | sipush n => exact hk _ _ _ h
  | lconst n => exact hk _ _ _ h
  | ldc2_w n => exact hk _ _ _ h
  | iload n => exact ldI_m (fun x h => hk _ _ _ h) h
  | iload_n n => exact ldI_m (fun x h => hk _ _ _ h) h
  | lload n => exact ldL_m (fun x h => hk _ _ _ h) h
  | lload_n n => exact ldL_m (fun x h => hk _ _ _ h) h
  | aload n => exact ldR_m (fun x h => hk _ _ _ h) h
  | aload_n n => exact ldR_m (fun x h => hk _ _ _ h) h
  | istore n => exact p1_m (fun x r h => ⟨h.1, hk _ _ _ h.2⟩) h
  | istore_n n => exact p1_m (fun x r h => ⟨h.1, hk _ _ _ h.2⟩) h
  | astore n => exact pR_m (fun x r h => ⟨h.1, hk _ _ _ h.2⟩) h
  | astore_n n => exact pR_m (fun x r h => ⟨h.1, hk _ _ _ h.2⟩) h
  | lstore n => exact pL_m (fun x r h => ⟨h.1, hk _ _ _ h.2⟩) h
  | lstore_n n => exact pL_m (fun x r h => ⟨h.1, hk _ _ _ h.2⟩) h
  | iinc n d => exact ldI_m (fun x h => ⟨h.1, hk _ _ _ h.2⟩) h
  | iadd => exact p2_m (fun x y r h => hk _ _ _ h) h
  | isub => exact p2_m (fun x y r h => hk _ _ _ h) h
  | imul => exact p2_m (fun x y r h => hk _ _ _ h) h
  | iand => exact p2_m (fun x y r h => hk _ _ _ h) h
  | ior => exact p2_m (fun x y r h => hk _ _ _ h) h
  | ishl => exact p2_m (fun x y r h => hk _ _ _ h) h
  | ishr => exact p2_m (fun x y r h => hk _ _ _ h) h
  | i2c => exact p1_m (fun x r h => hk _ _ _ h) h
  | i2l => exact p1_m (fun x r h => hk _ _ _ h) h
  | l2i => exact pL_m (fun x r h => hk _ _ _ h) h
  | land => exact pLL_m (fun x y r h => hk _ _ _ h) h
  | lushr => exact pLI_m (fun x y r h => hk _ _ _ h) h
  | lcmp => exact pLL_m (fun x y r h => hk _ _ _ h) h
  | dup => revert h; simp only [stp]; exact pD_m (fun x r h => hk _ _ _ h)
  | dup2 => revert h; simp only [stp]; exact pD_m (fun x r => pD_m (fun x r h => hk _ _ _ h))
  | pop => revert h; simp only [stp]; exact pD_m (fun x r h => hk _ _ _ h)
  | goto o => exact hP _ _ _ _ h
  | ifCond cc o => exact p1_m (fun x r h => cnd_m (hP _ _ _ _) (hk _ _ _) h) h
  | if_icmp cc o => exact p2_m (fun x y r h => cnd_m (hP _ _ _ _) (hk _ _ _) h) h
  | tableswitch d lo hi offs => exact p1_m (fun x r h => ⟨h.1, swc_m (fun t => hP _ _ _ _) h.2.1, fun q => hP _ _ _ _ (h.2.2 q)⟩) h
  | getfield n =>
    refine pR_m (fun o r h => ⟨h.1, ?_⟩) h
    have h2 := h.2
    revert h2
    split
    · exact hk _ _ _
    · exact hk _ _ _
    · exact fun q => ⟨q.1, hk _ _ _ q.2⟩
  | putfield n =>
    revert h
    simp only [stp]
    split
    · exact fun h => ⟨h.1, h.2.1, hk _ _ _ h.2.2⟩
    · exact id
  | iaload => exact pA_m (fun x y r h => ⟨h.1, h.2.1, h.2.2.1, hk _ _ _ h.2.2.2⟩) h
  | caload => exact pA_m (fun x y r h => ⟨h.1, h.2.1, h.2.2.1, hk _ _ _ h.2.2.2⟩) h
  | baload => exact pA_m (fun x y r h => ⟨h.1, h.2.1, h.2.2.1, hk _ _ _ h.2.2.2⟩) h
  | aaload => exact pA_m (fun x y r h => ⟨h.1, h.2.1, h.2.2.1, h.2.2.2.1, hk _ _ _ h.2.2.2.2⟩) h
  | iastore => exact pAS_m (fun x y z r h => ⟨h.1, h.2.1, h.2.2.1, hk _ _ _ h.2.2.2⟩) h
  | castore => exact pAS_m (fun x y z r h => ⟨h.1, h.2.1, h.2.2.1, h.2.2.2.1, hk _ _ _ h.2.2.2.2⟩) h
  | bastore => exact pAS_m (fun x y z r h => ⟨h.1, h.2.1, h.2.2.1, h.2.2.2.1, hk _ _ _ h.2.2.2.2⟩) h
  | ireturn => exact p1_m (fun x r h => ⟨h.1, h.2.1, hQ _ _ h.2.2⟩) h
  | return_ => exact ⟨h.1, hQ _ _ h.2⟩
  | areturn => exact pR_m (fun x r h => ⟨h.1, hQ _ _ h.2⟩) h
  | invokevirtual n => revert h; simp only [stp]; exact tk_m (fun vs r h => ⟨h.1, h.2.1, hc _ _ _ _ _ (fun v μ h => hP _ _ _ _ h) h.2.2⟩)
  | invokestatic n =>
    revert h
    simp only [stp]
    split
    · exact p2_m (fun x y r h => ⟨h.1, h.2.1, hk _ _ _ h.2.2⟩)
    · exact p2_m (fun x y r h => ⟨h.1, h.2.1, hk _ _ _ h.2.2⟩)
    · exact p1_m (fun x r h => ⟨h.1, hk _ _ _ h.2⟩)
    · exact pC_m (fun a b c d e r h => ⟨h.1, h.2.1, h.2.2.1, hk _ _ _ h.2.2.2⟩)
    · exact tk_m (fun vs r h => ⟨h.1, hc _ _ _ _ _ (fun v μ h => hP _ _ _ _ h) h.2⟩)
  | _ => exact (h : False).elim
theorem seg_m {σ : Sg} {P P' : PT} {call : CT} {Q Q' : QT} (hP : ∀ pc ls st μ, P pc ls st μ → P' pc ls st μ) (hQ : ∀ v μ, Q v μ → Q' v μ) (hc : CM call) : ∀ {l : List Ent} {nx : Nat} {ls : Ls} {st : List MV} {μ : Mem},
    seg σ P call Q l nx ls st μ → seg σ P' call Q' l nx ls st μ
  | [], _, _, _, _, h => hP _ _ _ _ h
  | (_, _, _, _, _, _) :: _, _, _, _, _, h => stp_m hP hQ (fun _ _ _ h => seg_m hP hQ hc h) hc h
theorem wp_m {σ : Sg} {call : CT} {mi : Nat} {Q Q' : QT} (hQ : ∀ v μ, Q v μ → Q' v μ) (hc : CM call) {pc : Nat} {ls : Ls} {st : List MV} {μ : Mem} (h : wp σ call mi Q pc ls st μ) : wp σ call mi Q' pc ls st μ :=
  ⟨trivial, fun P hP => h.2 P fun pc l nx ls st μ hb hs => hP pc l nx ls st μ hb (seg_m (fun _ _ _ _ h => h) hQ hc hs)⟩
theorem Call_m (σ : Sg) : ∀ d : Nat, CM (Call σ d)
  | 0, _, _, _, _, _, _, h => h
  | d + 1, _, _, _, _, _, hQ, h => ⟨h.1, h.2.1, wp_m hQ (Call_m σ d) h.2.2⟩
theorem wp_go {σ : Sg} {d mi : Nat} {Q : QT} {pc : Nat} {l : List Ent} {nx : Nat} {ls : Ls} {st : List MV} {μ : Mem} (hb : blk mi pc = some (l, nx)) (h : seg σ (wp σ (Call σ d) mi Q) (Call σ d) Q l nx ls st μ) : wp σ (Call σ d) mi Q pc ls st μ :=
  ⟨trivial, fun P hP => hP pc l nx ls st μ hb (seg_m (fun _ _ _ _ h => h.2 P hP) (fun _ _ h => h) (Call_m σ d) h)⟩
theorem Call_go {σ : Sg} {d mi : Nat} {vs : List MV} {Q : QT} {ls : Ls} {μ : Mem} (h1 : vs.length = nM mi) (h2 : (argL vs).length ≤ lM mi) (h3 : iniL mi vs = ls) (h : wp σ (Call σ d) mi Q 0 ls [] μ) : Call σ (d + 1) mi vs μ Q := ⟨h1, h2, by rw [h3]; exact h⟩
end
section
/-! the tables of the code against the bytes and the words -/
def ilen (i : Instr) : Nat := match i with
  | .iload _ => 2 | .lload _ => 2 | .aload _ => 2 | .istore _ => 2 | .lstore _ => 2 | .astore _ => 2 | .bipush _ => 2
  | .sipush _ => 3 | .ldc2_w _ => 3 | .iinc _ _ => 3 | .goto _ => 3 | .ifCond _ _ => 3 | .if_icmp _ _ => 3 | .getfield _ => 3 | .putfield _ => 3 | .invokevirtual _ => 3 | .invokestatic _ => 3
  | _ => 1
def isTsw (i : Instr) : Bool := match i with
  | .tableswitch _ _ _ _ => true
  | _ => false
def ckD (mi pc : Nat) (i : Instr) : Bool := match decode (bM mi) pc with
  | .ok (j, n) => decide (j = i) && (isTsw i || n == ilen i)
  | _ => false
def ckI (mi pc : Nat) (i : Instr) (a b c e np : Nat) : Bool := match i with
  | .bipush n => decide ((Int8.ofInt n).toInt32 = Int32.ofInt n) && np == pc + 2
  | .sipush n => decide ((Int16.ofInt n).toInt32 = Int32.ofInt n) && np == pc + 3
  | .goto o => decide ((pc : Int) + o = (a : Int))
  | .ifCond _ o => decide ((pc : Int) + o = (a : Int)) && np == pc + 3
  | .if_icmp _ o => decide ((pc : Int) + o = (a : Int)) && np == pc + 3
  | .tableswitch d lo hi offs => decide (0 ≤ (pc : Int) + d) && offs.toList.all (fun o => decide (0 ≤ (pc : Int) + o)) && decide (lo + offs.size = hi + 1)
  | .getfield x => flt.contains (oM mi, x, a, b) && decide (a < 8) && decide (b < NX a) && decide ((fks a)[b]? = some c) && np == pc + 3
  | .putfield x => flt.contains (oM mi, x, a, b) && decide (a < 8) && decide (b < NX a) && decide ((fks a)[b]? = some c) && np == pc + 3 && decide (((TX a) b).2.2.2 = false) && decide (((TX a) b).2.2.1 = (if c = 0 then "I" else "Z"))
  | .aaload => [(103, 1, 7), (104, 1, 55), (105, 12, 55)].contains (a, b, c) && np == pc + 1
  | .ireturn => if a = 0 then decide (rM mi = some .int) else if a = 1 then decide (rM mi = some .boolean) else decide (a = 2) && decide (rM mi = some .char)
  | .return_ => decide (rM mi = none)
  | .areturn => decide (rM mi = some (.object RX1))
  | .invokevirtual x => cltV.contains (oM mi, x, a) && mVs.contains a && b == nM a && c == kM a && e == oM a && np == pc + 3
  | .invokestatic x => (match c with
    | 10 => clt4.contains (oM mi, x, c)
    | 11 => clt4.contains (oM mi, x, c)
    | 12 => clt4.contains (oM mi, x, c)
    | 13 => clt4.contains (oM mi, x, c)
    | 1 => cltS.contains (oM mi, x, a) && mSs.contains a && b == nM a && kM a == 1
    | 2 => cltN.contains (oM mi, x, a) && mSs.contains a && b == nM a && kM a == 1
    | _ => false) && np == pc + 3
  | .ldc2_w x => cklt.contains (oM mi, x, a) && np == pc + 3
  | i => np == pc + ilen i
def hpc : List Ent → Nat → Nat
  | [], nx => nx
  | q :: _, _ => q.1
def ckL (mi : Nat) : List Ent → Nat → Bool
  | [], _ => true
  | (pc, i, a, b, c, e) :: r, nx => ckD mi pc i && ckI mi pc i a b c e (hpc r nx) && ckL mi r nx
def ckM (mi : Nat) : Bool := (bkOf mi).all (fun q => ckL mi q.2.1 q.2.2 && hpc q.2.1 q.2.2 == q.1)
theorem ck0 : ckM 0 = true := by decide +kernel
theorem ck1 : ckM 1 = true := by decide +kernel
theorem ck2 : ckM 2 = true := by decide +kernel
theorem ck3 : ckM 3 = true := by decide +kernel
theorem ck4 : ckM 4 = true := by decide +kernel
theorem ck5 : ckM 5 = true := by decide +kernel
theorem ck6 : ckM 6 = true := by decide +kernel
theorem ck7 : ckM 7 = true := by decide +kernel
theorem ck8 : ckM 8 = true := by decide +kernel
theorem ck9 : ckM 9 = true := by decide +kernel
theorem ck10 : ckM 10 = true := by decide +kernel
theorem ck11 : ckM 11 = true := by decide +kernel
theorem ck12 : ckM 12 = true := by decide +kernel
theorem ck13 : ckM 13 = true := by decide +kernel
theorem ck14 : ckM 14 = true := by decide +kernel
theorem ck15 : ckM 15 = true := by decide +kernel
theorem ck16 : ckM 16 = true := by decide +kernel
theorem ck17 : ckM 17 = true := by decide +kernel
theorem ck18 : ckM 18 = true := by decide +kernel
theorem ck19 : ckM 19 = true := by decide +kernel
theorem ck20 : ckM 20 = true := by decide +kernel
theorem ck21 : ckM 21 = true := by decide +kernel
theorem ck22 : ckM 22 = true := by decide +kernel
theorem ck23 : ckM 23 = true := by decide +kernel
theorem ck24 : ckM 24 = true := by decide +kernel
theorem ck25 : ckM 25 = true := by decide +kernel
theorem ck26 : ckM 26 = true := by decide +kernel
theorem ck27 : ckM 27 = true := by decide +kernel
theorem ck28 : ckM 28 = true := by decide +kernel
theorem ck29 : ckM 29 = true := by decide +kernel
theorem ck30 : ckM 30 = true := by decide +kernel
theorem ck31 : ckM 31 = true := by decide +kernel
theorem ck32 : ckM 32 = true := by decide +kernel
theorem ck33 : ckM 33 = true := by decide +kernel
theorem ck34 : ckM 34 = true := by decide +kernel
theorem ck35 : ckM 35 = true := by decide +kernel
theorem ck36 : ckM 36 = true := by decide +kernel
theorem ck37 : ckM 37 = true := by decide +kernel
theorem ck38 : ckM 38 = true := by decide +kernel
theorem ck39 : ckM 39 = true := by decide +kernel
theorem ck40 : ckM 40 = true := by decide +kernel
theorem ck41 : ckM 41 = true := by decide +kernel
theorem ck42 : ckM 42 = true := by decide +kernel
theorem ck43 : ckM 43 = true := by decide +kernel
theorem ck44 : ckM 44 = true := by decide +kernel
theorem ck45 : ckM 45 = true := by decide +kernel
theorem ck46 : ckM 46 = true := by decide +kernel
theorem ck47 : ckM 47 = true := by decide +kernel
theorem ck48 : ckM 48 = true := by decide +kernel
theorem ck49 : ckM 49 = true := by decide +kernel
theorem ck50 : ckM 50 = true := by decide +kernel
theorem ck51 : ckM 51 = true := by decide +kernel
theorem ck52 : ckM 52 = true := by decide +kernel
theorem ck53 : ckM 53 = true := by decide +kernel
theorem ck54 : ckM 54 = true := by decide +kernel
theorem ck55 : ckM 55 = true := by decide +kernel
theorem ck56 : ckM 56 = true := by decide +kernel
theorem ck57 : ckM 57 = true := by decide +kernel
theorem ck58 : ckM 58 = true := by decide +kernel
theorem ck59 : ckM 59 = true := by decide +kernel
theorem ck60 : ckM 60 = true := by decide +kernel
theorem ck61 : ckM 61 = true := by decide +kernel
theorem ck62 : ckM 62 = true := by decide +kernel
theorem ck63 : ckM 63 = true := by decide +kernel
theorem ck64 : ckM 64 = true := by decide +kernel
theorem ck65 : ckM 65 = true := by decide +kernel
theorem ck66 : ckM 66 = true := by decide +kernel
theorem ck67 : ckM 67 = true := by decide +kernel
theorem ck68 : ckM 68 = true := by decide +kernel
theorem ck69 : ckM 69 = true := by decide +kernel
theorem ck70 : ckM 70 = true := by decide +kernel
theorem ck71 : ckM 71 = true := by decide +kernel
theorem ck72 : ckM 72 = true := by decide +kernel
theorem ck73 : ckM 73 = true := by decide +kernel
theorem ck74 : ckM 74 = true := by decide +kernel
theorem ck75 : ckM 75 = true := by decide +kernel
theorem ck76 : ckM 76 = true := by decide +kernel
theorem ck77 : ckM 77 = true := by decide +kernel
theorem ck78 : ckM 78 = true := by decide +kernel
theorem ck79 : ckM 79 = true := by decide +kernel
theorem ck80 : ckM 80 = true := by decide +kernel
theorem ck81 : ckM 81 = true := by decide +kernel
theorem ck82 : ckM 82 = true := by decide +kernel
theorem ck83 : ckM 83 = true := by decide +kernel
theorem ck84 : ckM 84 = true := by decide +kernel
theorem ck85 : ckM 85 = true := by decide +kernel
theorem ck86 : ckM 86 = true := by decide +kernel
theorem ck87 : ckM 87 = true := by decide +kernel
theorem ck88 : ckM 88 = true := by decide +kernel
theorem ck89 : ckM 89 = true := by decide +kernel
theorem ck90 : ckM 90 = true := by decide +kernel
theorem ck91 : ckM 91 = true := by decide +kernel
theorem ck92 : ckM 92 = true := by decide +kernel
theorem ck93 : ckM 93 = true := by decide +kernel
theorem ck94 : ckM 94 = true := by decide +kernel
theorem ck95 : ckM 95 = true := by decide +kernel
theorem ck96 : ckM 96 = true := by decide +kernel
theorem ck97 : ckM 97 = true := by decide +kernel
theorem ck98 : ckM 98 = true := by decide +kernel
theorem ck99 : ckM 99 = true := by decide +kernel
theorem ck100 : ckM 100 = true := by decide +kernel
theorem ck101 : ckM 101 = true := by decide +kernel
theorem ck102 : ckM 102 = true := by decide +kernel
theorem ck103 : ckM 103 = true := by decide +kernel
theorem ck104 : ckM 104 = true := by decide +kernel
theorem ck105 : ckM 105 = true := by decide +kernel
theorem ck106 : ckM 106 = true := by decide +kernel
theorem ck107 : ckM 107 = true := by decide +kernel
theorem ck108 : ckM 108 = true := by decide +kernel
theorem ck109 : ckM 109 = true := by decide +kernel
theorem ck110 : ckM 110 = true := by decide +kernel
theorem ck111 : ckM 111 = true := by decide +kernel
theorem ck112 : ckM 112 = true := by decide +kernel
theorem ck113 : ckM 113 = true := by decide +kernel
theorem ck114 : ckM 114 = true := by decide +kernel
theorem ck115 : ckM 115 = true := by decide +kernel
theorem ck116 : ckM 116 = true := by decide +kernel
theorem ck117 : ckM 117 = true := by decide +kernel
theorem ck118 : ckM 118 = true := by decide +kernel
theorem ck119 : ckM 119 = true := by decide +kernel
theorem ck120 : ckM 120 = true := by decide +kernel
theorem ck121 : ckM 121 = true := by decide +kernel
theorem ck122 : ckM 122 = true := by decide +kernel
theorem ck123 : ckM 123 = true := by decide +kernel
theorem ck124 : ckM 124 = true := by decide +kernel
theorem ck125 : ckM 125 = true := by decide +kernel
theorem ck126 : ckM 126 = true := by decide +kernel
theorem ck127 : ckM 127 = true := by decide +kernel
theorem ck128 : ckM 128 = true := by decide +kernel
theorem ck129 : ckM 129 = true := by decide +kernel
theorem ck130 : ckM 130 = true := by decide +kernel
theorem ck131 : ckM 131 = true := by decide +kernel
theorem ck132 : ckM 132 = true := by decide +kernel
theorem ck133 : ckM 133 = true := by decide +kernel
theorem ck134 : ckM 134 = true := by decide +kernel
theorem ck135 : ckM 135 = true := by decide +kernel
theorem ck136 : ckM 136 = true := by decide +kernel
theorem ck137 : ckM 137 = true := by decide +kernel
theorem ck138 : ckM 138 = true := by decide +kernel
theorem ck139 : ckM 139 = true := by decide +kernel
theorem ck140 : ckM 140 = true := by decide +kernel
theorem ck141 : ckM 141 = true := by decide +kernel
theorem ck142 : ckM 142 = true := by decide +kernel
theorem ck143 : ckM 143 = true := by decide +kernel
theorem ck144 : ckM 144 = true := by decide +kernel
theorem ck145 : ckM 145 = true := by decide +kernel
theorem ck146 : ckM 146 = true := by decide +kernel
theorem ck147 : ckM 147 = true := by decide +kernel
theorem ck148 : ckM 148 = true := by decide +kernel
theorem ck149 : ckM 149 = true := by decide +kernel
theorem ck150 : ckM 150 = true := by decide +kernel
theorem ck151 : ckM 151 = true := by decide +kernel
theorem ck152 : ckM 152 = true := by decide +kernel
theorem ck153 : ckM 153 = true := by decide +kernel
theorem ck154 : ckM 154 = true := by decide +kernel
theorem ck155 : ckM 155 = true := by decide +kernel
theorem ck156 : ckM 156 = true := by decide +kernel
theorem ck157 : ckM 157 = true := by decide +kernel
theorem ck158 : ckM 158 = true := by decide +kernel
theorem ck159 : ckM 159 = true := by decide +kernel
theorem ck160 : ckM 160 = true := by decide +kernel
theorem ck161 : ckM 161 = true := by decide +kernel
theorem ck162 : ckM 162 = true := by decide +kernel
theorem ck163 : ckM 163 = true := by decide +kernel
theorem ck164 : ckM 164 = true := by decide +kernel
theorem ck165 : ckM 165 = true := by decide +kernel
theorem ck_all : ∀ k, k < 166 → ckM k = true := by
  intro k hk
  match k, hk with
  | 0, _ => exact ck0
  | 1, _ => exact ck1
  | 2, _ => exact ck2
  | 3, _ => exact ck3
  | 4, _ => exact ck4
  | 5, _ => exact ck5
  | 6, _ => exact ck6
  | 7, _ => exact ck7
  | 8, _ => exact ck8
  | 9, _ => exact ck9
  | 10, _ => exact ck10
  | 11, _ => exact ck11
  | 12, _ => exact ck12
  | 13, _ => exact ck13
  | 14, _ => exact ck14
  | 15, _ => exact ck15
  | 16, _ => exact ck16
  | 17, _ => exact ck17
  | 18, _ => exact ck18
  | 19, _ => exact ck19
  | 20, _ => exact ck20
  | 21, _ => exact ck21
  | 22, _ => exact ck22
  | 23, _ => exact ck23
  | 24, _ => exact ck24
  | 25, _ => exact ck25
  | 26, _ => exact ck26
  | 27, _ => exact ck27
  | 28, _ => exact ck28
  | 29, _ => exact ck29
  | 30, _ => exact ck30
  | 31, _ => exact ck31
  | 32, _ => exact ck32
  | 33, _ => exact ck33
  | 34, _ => exact ck34
  | 35, _ => exact ck35
  | 36, _ => exact ck36
  | 37, _ => exact ck37
  | 38, _ => exact ck38
  | 39, _ => exact ck39
  | 40, _ => exact ck40
  | 41, _ => exact ck41
  | 42, _ => exact ck42
  | 43, _ => exact ck43
  | 44, _ => exact ck44
  | 45, _ => exact ck45
  | 46, _ => exact ck46
  | 47, _ => exact ck47
  | 48, _ => exact ck48
  | 49, _ => exact ck49
  | 50, _ => exact ck50
  | 51, _ => exact ck51
  | 52, _ => exact ck52
  | 53, _ => exact ck53
  | 54, _ => exact ck54
  | 55, _ => exact ck55
  | 56, _ => exact ck56
  | 57, _ => exact ck57
  | 58, _ => exact ck58
  | 59, _ => exact ck59
  | 60, _ => exact ck60
  | 61, _ => exact ck61
  | 62, _ => exact ck62
  | 63, _ => exact ck63
  | 64, _ => exact ck64
  | 65, _ => exact ck65
  | 66, _ => exact ck66
  | 67, _ => exact ck67
  | 68, _ => exact ck68
  | 69, _ => exact ck69
  | 70, _ => exact ck70
  | 71, _ => exact ck71
  | 72, _ => exact ck72
  | 73, _ => exact ck73
  | 74, _ => exact ck74
  | 75, _ => exact ck75
  | 76, _ => exact ck76
  | 77, _ => exact ck77
  | 78, _ => exact ck78
  | 79, _ => exact ck79
  | 80, _ => exact ck80
  | 81, _ => exact ck81
  | 82, _ => exact ck82
  | 83, _ => exact ck83
  | 84, _ => exact ck84
  | 85, _ => exact ck85
  | 86, _ => exact ck86
  | 87, _ => exact ck87
  | 88, _ => exact ck88
  | 89, _ => exact ck89
  | 90, _ => exact ck90
  | 91, _ => exact ck91
  | 92, _ => exact ck92
  | 93, _ => exact ck93
  | 94, _ => exact ck94
  | 95, _ => exact ck95
  | 96, _ => exact ck96
  | 97, _ => exact ck97
  | 98, _ => exact ck98
  | 99, _ => exact ck99
  | 100, _ => exact ck100
  | 101, _ => exact ck101
  | 102, _ => exact ck102
  | 103, _ => exact ck103
  | 104, _ => exact ck104
  | 105, _ => exact ck105
  | 106, _ => exact ck106
  | 107, _ => exact ck107
  | 108, _ => exact ck108
  | 109, _ => exact ck109
  | 110, _ => exact ck110
  | 111, _ => exact ck111
  | 112, _ => exact ck112
  | 113, _ => exact ck113
  | 114, _ => exact ck114
  | 115, _ => exact ck115
  | 116, _ => exact ck116
  | 117, _ => exact ck117
  | 118, _ => exact ck118
  | 119, _ => exact ck119
  | 120, _ => exact ck120
  | 121, _ => exact ck121
  | 122, _ => exact ck122
  | 123, _ => exact ck123
  | 124, _ => exact ck124
  | 125, _ => exact ck125
  | 126, _ => exact ck126
  | 127, _ => exact ck127
  | 128, _ => exact ck128
  | 129, _ => exact ck129
  | 130, _ => exact ck130
  | 131, _ => exact ck131
  | 132, _ => exact ck132
  | 133, _ => exact ck133
  | 134, _ => exact ck134
  | 135, _ => exact ck135
  | 136, _ => exact ck136
  | 137, _ => exact ck137
  | 138, _ => exact ck138
  | 139, _ => exact ck139
  | 140, _ => exact ck140
  | 141, _ => exact ck141
  | 142, _ => exact ck142
  | 143, _ => exact ck143
  | 144, _ => exact ck144
  | 145, _ => exact ck145
  | 146, _ => exact ck146
  | 147, _ => exact ck147
  | 148, _ => exact ck148
  | 149, _ => exact ck149
  | 150, _ => exact ck150
  | 151, _ => exact ck151
  | 152, _ => exact ck152
  | 153, _ => exact ck153
  | 154, _ => exact ck154
  | 155, _ => exact ck155
  | 156, _ => exact ck156
  | 157, _ => exact ck157
  | 158, _ => exact ck158
  | 159, _ => exact ck159
  | 160, _ => exact ck160
  | 161, _ => exact ck161
  | 162, _ => exact ck162
  | 163, _ => exact ck163
  | 164, _ => exact ck164
  | 165, _ => exact ck165
  | n + 166, h => exact absurd h (by omega)
def ckMeth (k : Nat) : Bool := decide ((yM k).cls = RX (oM k)) && decide (plainName (yM k).cls = true) && decide ((yM k).cls ≠ "java/lang/invoke/MethodHandle") && decide ((yM k).cls ≠ "java/lang/invoke/VarHandle") && decide ((parseMethodDescriptor (yM k).desc).map (fun d => d.parameters.length) = some (if mSs.contains k then nM k else nM k - 1)) && decide (lM k ≤ 17) && decide (oM k < 8) && (if kM k = 0 then decide (rM k = none) else if kM k = 1 then decide (rM k = some .int) || decide (rM k = some .boolean) || decide (rM k = some .char) else decide (rM k = some (.object RX1)))
theorem meth_ok : (List.range 166).all ckMeth = true := by decide +kernel
end
section
/-! THE WORLD of the small machine as cells of the heap -/
def tr (base : Nat) : MV → Value
  | .inl x => .int (Int32.ofInt x)
  | .inr (.inl y) => .long y
  | .inr (.inr k) => .ref (base + k)
def fldV (base : Nat) (σ : Sg) (μ : Mem) (k j f : Nat) : Value := match f with
  | 0 => .int (Int32.ofInt (μ k j))
  | 1 => .int (Int32.ofInt (μ k j))
  | n + 2 => if σ.2 k j = true then .ref (base + (k + n)) else .null
def ptrs (base : Nat) (σ : Sg) (k b c : Nat) : Nat → Option Nat := fun j => if σ.2 k j = true then some (base + (k + b + c * j)) else none
def entV (base : Nat) (cA : Nat → ClassId) (σ : Sg) (μ : Mem) (k kd n : Nat) : va_E :=
  if kd = 100 then .inl (cA 0, n, .inl fun j => Int32.ofInt (μ k j))
  else if kd = 101 then .inl (cA 1, n, .inl fun j => Int32.ofInt (μ k j))
  else if kd = 102 then .inl (cA 2, n, .inl fun j => Int32.ofInt (μ k j))
  else if kd = 103 then .inl (cA 3, n, .inr (.inr (.inr (.inr (ptrs base σ k 1 7)))))
  else if kd = 104 then .inl (cA 4, n, .inr (.inr (.inr (.inr (ptrs base σ k 1 55)))))
  else if kd = 105 then .inl (cA 4, n, .inr (.inr (.inr (.inr (ptrs base σ k 12 55)))))
  else .inr (kd, (fks kd).mapIdx (fun j f => fldV base σ μ k j f))
def ent (base : Nat) (cA : Nat → ClassId) (σ : Sg) (μ : Mem) (k : Nat) : va_E := entV base cA σ μ k (lay.getD k (999, 0)).1 (lay.getD k (999, 0)).2
def wl (base : Nat) (cA : Nat → ClassId) (σ : Sg) (μ : Mem) : va_W := (List.range σ.1).map (fun k => (base + k, ent base cA σ μ k))
def tysA (cA : Nat → ClassId) : List (ClassId × FieldType) := [(cA 0, .int), (cA 1, .char), (cA 2, .boolean), (cA 3, .object RX1), (cA 4, .object RX5)]
def AA (base : Nat) : Nat → Prop := fun q => base ≤ q
theorem shp_of {σ : Sg} {k kd : Nat} (h : (shp σ k).1 = kd) (hk : kd ≠ 999) : k < σ.1 ∧ (lay.getD k (999, 0)).1 = kd ∧ (shp σ k).2 = (lay.getD k (999, 0)).2 := by
  unfold shp at h ⊢
  by_cases q : k < σ.1
  · rw [if_pos q] at h ⊢; exact ⟨q, h, rfl⟩
  · rw [if_neg q] at h; exact absurd h.symm hk
theorem wl_at {base : Nat} {cA : Nat → ClassId} {σ : Sg} {μ : Mem} {k : Nat} (hk : k < σ.1) : (wl base cA σ μ)[k]? = some (base + k, ent base cA σ μ k) := by
  simp [wl, hk]
theorem wl_of {base : Nat} {cA : Nat → ClassId} {σ : Sg} {μ : Mem} {k : Nat} {q : Nat × va_E} (h : (wl base cA σ μ)[k]? = some q) : k < σ.1 ∧ q = (base + k, ent base cA σ μ k) := by
  by_cases hk : k < σ.1
  · rw [wl_at hk] at h; exact ⟨hk, (Option.some.inj h).symm⟩
  · simp [wl, hk] at h
theorem ent_congr {base : Nat} {cA : Nat → ClassId} {σ : Sg} {μ μ' : Mem} {k : Nat} (h : μ' k = μ k) : ent base cA σ μ' k = ent base cA σ μ k := by
  simp only [ent, entV, fldV, h]
theorem wl_set {base : Nat} {cA : Nat → ClassId} {σ : Sg} {μ μ' : Mem} {k : Nat} {e' : va_E} (he : e' = ent base cA σ μ' k) (hne : ∀ i, i ≠ k → μ' i = μ i) : (wl base cA σ μ).set k (base + k, e') = wl base cA σ μ' := by
  apply List.ext_getElem?
  intro i
  by_cases hi : i < σ.1
  · by_cases hik : k = i
    · subst hik
      rw [List.getElem?_set_self (by simp [wl, hi]), wl_at hi, he]
    · rw [List.getElem?_set_ne hik, wl_at hi, wl_at hi, ent_congr (hne i (fun q => hik q.symm))]
  · have h1 : (wl base cA σ μ').length ≤ i := by simp [wl]; omega
    have h2 : ((wl base cA σ μ).set k (base + k, e')).length ≤ i := by simp [wl]; omega
    rw [List.getElem?_eq_none h1, List.getElem?_eq_none h2]
theorem wl_D {base : Nat} {cA : Nat → ClassId} {σ : Sg} {μ : Mem} : va_D (AA base) (wl base cA σ μ) := by
  refine ⟨fun i j p q hi hj hpq => ?_, fun k q hk => ?_⟩
  · obtain ⟨-, rfl⟩ := wl_of hi
    obtain ⟨-, rfl⟩ := wl_of hj
    have : base + i = base + j := hpq
    omega
  · obtain ⟨-, rfl⟩ := wl_of hk
    exact Nat.le_add_right _ _
theorem lay_small : ∀ q ∈ lay, q.2 < 6000 := by decide +kernel
theorem shp_small (σ : Sg) (k : Nat) : (shp σ k).2 < 6000 := by
  unfold shp
  split
  · by_cases hk : k < lay.length
    · have := lay_small (lay.getD k (999, 0)) (by simp [List.getD, hk])
      exact this
    · simp [List.getD, hk]
  · decide
theorem ms_ne {μ : Mem} {k j : Nat} {v : Int} : ∀ i, i ≠ k → ms μ k j v i = μ i := by
  intro i hi
  funext j'
  simp [ms, hi]
theorem mcp_ne {μ : Mem} {k0 sp k1 dp n : Nat} : ∀ i, i ≠ k1 → mcp μ k0 sp k1 dp n i = μ i := by
  intro i hi
  funext j'
  simp [mcp, hi]
-- numbers
theorem inR_toInt {x : Int} (h : inR x) : (Int32.ofInt x).toInt = x := Int32.toInt_ofInt_of_le h.1 (by have := h.2; omega)
theorem i32_lt {x y : Int} (hx : inR x) (hy : inR y) : Int32.ofInt x < Int32.ofInt y ↔ x < y := by
  rw [Int32.lt_iff_toInt_lt, inR_toInt hx, inR_toInt hy]
theorem i32_le {x y : Int} (hx : inR x) (hy : inR y) : Int32.ofInt x ≤ Int32.ofInt y ↔ x ≤ y := by
  rw [Int32.le_iff_toInt_le, inR_toInt hx, inR_toInt hy]
theorem i32_inj {x y : Int} (hx : inR x) (hy : inR y) (h : Int32.ofInt x = Int32.ofInt y) : x = y := by
  rw [← inR_toInt hx, ← inR_toInt hy, h]
theorem cEq_u {x y : Int} {a b : Prop} (h : cEq x y a b) : (Int32.ofInt x = Int32.ofInt y → a) ∧ (¬ Int32.ofInt x = Int32.ofInt y → b) := by
  by_cases e : x = y
  · exact ⟨fun _ => h.1 e, fun q => absurd (by rw [e]) q⟩
  · obtain ⟨h1, h2, h3⟩ := h.2 e
    exact ⟨fun q => absurd (i32_inj h1 h2 q) e, fun _ => h3⟩
theorem cLt_u {x y : Int} {a b : Prop} (h : cLt x y a b) : (Int32.ofInt x < Int32.ofInt y → a) ∧ (¬ Int32.ofInt x < Int32.ofInt y → b) :=
  ⟨fun q => h.2.2.1 ((i32_lt h.1 h.2.1).mp q), fun q => h.2.2.2 (Int.not_lt.mp (fun z => q ((i32_lt h.1 h.2.1).mpr z)))⟩
theorem cLt_v {x y : Int} {a b : Prop} (h : cLt x y a b) : (Int32.ofInt y ≤ Int32.ofInt x → b) ∧ (¬ Int32.ofInt y ≤ Int32.ofInt x → a) :=
  ⟨fun q => h.2.2.2 ((i32_le h.2.1 h.1).mp q), fun q => h.2.2.1 (Int.not_le.mp (fun z => q ((i32_le h.2.1 h.1).mpr z)))⟩
theorem clamp_i {i : Int} {n : Nat} (h0 : 0 ≤ i) (h1 : i < (n : Int)) (hn : n < 6000) : (Int32.ofInt i).toNatClampNeg = i.toNat := by
  have : (Int32.ofInt i).toInt = i := inR_toInt ⟨by omega, by omega⟩
  show (Int32.ofInt i).toInt.toNat = _
  rw [this]
theorem in_i {i : Int} {n : Nat} (h0 : 0 ≤ i) (h1 : i < (n : Int)) (hn : n < 6000) : vp_in (Int32.ofInt i) n := by
  rw [vp_in_iff, inR_toInt ⟨by omega, by omega⟩]
  exact ⟨h0, h1⟩
-- locals
def LR (base nL : Nat) (ls : Ls) (lsA : Array Slot) : Prop := lsA.size = nL ∧ lv_wf lsA ∧ ls.length = nL ∧ ∀ (i : Nat) (v : MV), ls[i]? = some (some v) → lsA[i]? = some (.val (tr base v))
def lpk (base : Nat) (ls : Ls) : List (Nat × Value) := (List.range ls.length).filterMap (fun i => (ls.getD i none).map (fun v => (i, tr base v)))
theorem lpk_mem {base : Nat} {ls : Ls} {i : Nat} {v : MV} (h : ls[i]? = some (some v)) : (i, tr base v) ∈ lpk base ls := by
  have hi : i < ls.length := (List.getElem?_eq_some_iff.mp h).1
  refine List.mem_filterMap.mpr ⟨i, List.mem_range.mpr hi, ?_⟩
  simp [List.getD, h]
theorem lpk_of {base : Nat} {ls : Ls} {q : Nat × Value} (h : q ∈ lpk base ls) : ∃ v, ls[q.1]? = some (some v) ∧ q.2 = tr base v := by
  obtain ⟨i, hi, h⟩ := List.mem_filterMap.mp h
  have hi := List.mem_range.mp hi
  cases e : ls.getD i none with
  | none => rw [e] at h; cases h
  | some v =>
    rw [e] at h
    cases h
    refine ⟨v, ?_, rfl⟩
    rw [← e]
    simp [List.getD, hi]
theorem LR.has {base nL : Nat} {ls : Ls} {lsA : Array Slot} (h : LR base nL ls lsA) : lv_has lsA nL (lpk base ls) := by
  refine ⟨h.1, h.2.1, fun q hq => ?_⟩
  obtain ⟨v, h1, h2⟩ := lpk_of hq
  rw [h2]
  exact h.2.2.2 _ v h1
theorem stL_len (x : Option MV) : ∀ (ls : Ls) (i : Nat), (stL ls i x).length = ls.length
  | [], i => by cases i <;> rfl
  | _ :: _, 0 => rfl
  | _ :: t, i + 1 => by show (stL t i x).length + 1 = t.length + 1; rw [stL_len x t i]
theorem stL_get (x : Option MV) : ∀ (ls : Ls) (i j : Nat), (stL ls i x)[j]? = if j = i ∧ i < ls.length then some x else ls[j]?
  | [], i, j => by cases i <;> simp [stL]
  | h :: t, 0, j => by cases j <;> simp [stL]
  | h :: t, i + 1, 0 => by simp [stL]
  | h :: t, i + 1, j + 1 => by
    show (stL t i x)[j]? = _
    rw [stL_get x t i j]
    simp
theorem okS_lt : ∀ (ls : Ls) (i : Nat), okS ls i → i < ls.length
  | [], i, h => by cases i with | zero => exact h.elim | succ i => cases i <;> exact h.elim
  | _ :: _, 0, _ => Nat.zero_lt_succ _
  | [_], 1, h => h.elim
  | _ :: _ :: _, 1, _ => by simp
  | h :: t, n + 2, q => by
    rw [okS_s] at q
    have := okS_lt t (n + 1) q
    simp only [List.length_cons]
    omega
theorem okS_get : ∀ (ls : Ls) (i : Nat) (o : Option MV), okS ls (i + 1) → ls[i]? = some o → nLg o
  | [], i, o, _, h => by simp at h
  | [_], 0, o, q, _ => q.elim
  | h :: _ :: _, 0, o, q, e => by
    have : h = o := by simpa using e
    rw [← this]; exact q
  | h :: t, n + 1, o, q, e => by
    rw [okS_s] at q
    exact okS_get t n o q (by simpa using e)
theorem okS2_lt : ∀ (ls : Ls) (i : Nat), okS2 ls i → i + 1 < ls.length
  | [], i, h => by cases i with | zero => exact h.elim | succ i => cases i <;> exact h.elim
  | [_], 0, h => h.elim
  | _ :: _ :: _, 0, _ => by simp
  | [_], 1, h => h.elim
  | [_, _], 1, h => h.elim
  | _ :: _ :: _ :: _, 1, _ => by simp
  | h :: t, n + 2, q => by
    rw [okS2_s] at q
    have := okS2_lt t (n + 1) q
    simp only [List.length_cons]
    omega
theorem okS2_get : ∀ (ls : Ls) (i : Nat) (o : Option MV), okS2 ls (i + 1) → ls[i]? = some o → nLg o
  | [], i, o, _, h => by simp at h
  | [_], 0, o, q, _ => q.elim
  | [_, _], 0, o, q, _ => q.elim
  | h :: _ :: _ :: _, 0, o, q, e => by
    have : h = o := by simpa using e
    rw [← this]; exact q
  | h :: t, n + 1, o, q, e => by
    rw [okS2_s] at q
    exact okS2_get t n o q (by simpa using e)
theorem nLg_cat {base : Nat} {v : MV} (h : nLg (some v)) : (tr base v).category = 1 := by
  rcases v with x | x | k
  · rfl
  · exact h.elim
  · rfl
theorem LR_st {base nL : Nat} {ls : Ls} {lsA : Array Slot} {i : Nat} {v : MV} (hok : okS ls i) (hlen : ls.length = nL)
    (h : lv_has lsA nL ((i, tr base v) :: (lpk base ls).filter (fun q => !(q.1 == i) && !(q.1 + 1 == i && q.2.category == 2)))) : LR base nL (stL ls i (some v)) lsA := by
  refine ⟨h.1, h.2.1, by rw [stL_len]; exact hlen, fun j w hj => ?_⟩
  rw [stL_get] at hj
  by_cases hji : j = i
  · rw [if_pos ⟨hji, okS_lt _ _ hok⟩] at hj
    have e : v = w := by simpa using hj
    rw [hji, ← e]
    exact h.2.2 _ List.mem_cons_self
  · rw [if_neg (fun q => hji q.1)] at hj
    refine h.2.2 (j, tr base w) (List.mem_cons_of_mem _ (List.mem_filter.mpr ⟨lpk_mem hj, ?_⟩))
    by_cases hj1 : j + 1 = i
    · subst hj1
      have := nLg_cat (base := base) (okS_get ls j _ hok hj)
      simp [this]
    · simp [hji, hj1]
theorem LR_st2 {base nL : Nat} {ls : Ls} {lsA : Array Slot} {i : Nat} {v : MV} (hok : okS2 ls i) (hlen : ls.length = nL)
    (h : lv_has lsA nL ((i, tr base v) :: (lpk base ls).filter (fun q => !(q.1 == i) && (!(q.1 == i + 1) && !(q.1 + 1 == i && q.2.category == 2))))) : LR base nL (stL (stL ls i (some v)) (i + 1) none) lsA := by
  refine ⟨h.1, h.2.1, by rw [stL_len, stL_len]; exact hlen, fun j w hj => ?_⟩
  rw [stL_get, stL_get, stL_len] at hj
  have hl := okS2_lt _ _ hok
  by_cases hj2 : j = i + 1
  · rw [if_pos ⟨hj2, hl⟩] at hj
    cases hj
  · rw [if_neg (fun q => hj2 q.1)] at hj
    by_cases hji : j = i
    · rw [if_pos ⟨hji, by omega⟩] at hj
      have e : v = w := by simpa using hj
      rw [hji, ← e]
      exact h.2.2 _ List.mem_cons_self
    · rw [if_neg (fun q => hji q.1)] at hj
      refine h.2.2 (j, tr base w) (List.mem_cons_of_mem _ (List.mem_filter.mpr ⟨lpk_mem hj, ?_⟩))
      by_cases hj1 : j + 1 = i
      · subst hj1
        have := nLg_cat (base := base) (okS2_get ls j _ hok hj)
        simp [this]
        omega
      · simp [hji, hj1, hj2]
-- what an operand's reading says
theorem p1_g {st : List MV} {f : Int → List MV → Prop} (h : p1 st f) : ∃ x r, st = .inl x :: r ∧ f x r := by
  unfold p1 at h; split at h
  · exact ⟨_, _, rfl, h⟩
  · exact h.elim
theorem p2_g {st : List MV} {f : Int → Int → List MV → Prop} (h : p2 st f) : ∃ x y r, st = .inl y :: .inl x :: r ∧ f x y r := by
  unfold p2 at h; split at h
  · exact ⟨_, _, _, rfl, h⟩
  · exact h.elim
theorem pR_g {st : List MV} {f : Nat → List MV → Prop} (h : pR st f) : ∃ x r, st = .inr (.inr x) :: r ∧ f x r := by
  unfold pR at h; split at h
  · exact ⟨_, _, rfl, h⟩
  · exact h.elim
theorem pA_g {st : List MV} {f : Nat → Int → List MV → Prop} (h : pA st f) : ∃ k i r, st = .inl i :: .inr (.inr k) :: r ∧ f k i r := by
  unfold pA at h; split at h
  · exact ⟨_, _, _, rfl, h⟩
  · exact h.elim
theorem pAS_g {st : List MV} {f : Nat → Int → Int → List MV → Prop} (h : pAS st f) : ∃ k i v r, st = .inl v :: .inl i :: .inr (.inr k) :: r ∧ f k i v r := by
  unfold pAS at h; split at h
  · exact ⟨_, _, _, _, rfl, h⟩
  · exact h.elim
theorem pL_g {st : List MV} {f : Int64 → List MV → Prop} (h : pL st f) : ∃ x r, st = .inr (.inl x) :: r ∧ f x r := by
  unfold pL at h; split at h
  · exact ⟨_, _, rfl, h⟩
  · exact h.elim
theorem pLL_g {st : List MV} {f : Int64 → Int64 → List MV → Prop} (h : pLL st f) : ∃ x y r, st = .inr (.inl y) :: .inr (.inl x) :: r ∧ f x y r := by
  unfold pLL at h; split at h
  · exact ⟨_, _, _, rfl, h⟩
  · exact h.elim
theorem pLI_g {st : List MV} {f : Int64 → Int → List MV → Prop} (h : pLI st f) : ∃ x y r, st = .inl y :: .inr (.inl x) :: r ∧ f x y r := by
  unfold pLI at h; split at h
  · exact ⟨_, _, _, rfl, h⟩
  · exact h.elim
theorem pD_g {st : List MV} {f : MV → List MV → Prop} (h : pD st f) : ∃ v r, st = v :: r ∧ nLg (some v) ∧ f v r := by
  unfold pD at h; split at h
  · exact ⟨_, _, rfl, trivial, h⟩
  · exact ⟨_, _, rfl, trivial, h⟩
  · exact h.elim
theorem pC_g {st : List MV} {f : Nat → Int → Nat → Int → Int → List MV → Prop} (h : pC st f) : ∃ k0 sp k1 dp n r, st = .inl n :: .inl dp :: .inr (.inr k1) :: .inl sp :: .inr (.inr k0) :: r ∧ f k0 sp k1 dp n r := by
  unfold pC at h; split at h
  · exact ⟨_, _, _, _, _, _, rfl, h⟩
  · exact h.elim
theorem tk_g {n : Nat} {st : List MV} {f : List MV → List MV → Prop} (h : tk n st f) : ∃ vs r, st = vs.reverse ++ r ∧ vs.length = n ∧ f vs r := by
  unfold tk at h; split at h
  · exact ⟨[], _, rfl, rfl, h⟩
  · exact ⟨[_], _, rfl, rfl, h⟩
  · exact ⟨[_, _], _, rfl, rfl, h⟩
  · exact ⟨[_, _, _], _, rfl, rfl, h⟩
  · exact ⟨[_, _, _, _], _, rfl, rfl, h⟩
  · exact h.elim
theorem ldI_g : ∀ {ls : Ls} {n : Nat} {f : Int → Prop}, ldI ls n f → ∃ x, ls[n]? = some (some (.inl x)) ∧ f x
  | [], n, f, h => by cases n <;> exact h.elim
  | a :: t, 0, f, h => by
    simp only [ldI] at h
    split at h
    · exact ⟨_, rfl, h⟩
    · exact h.elim
  | a :: t, n + 1, f, h => ldI_g (ls := t) (n := n) (by rw [ldI_s] at h; exact h)
theorem ldL_g : ∀ {ls : Ls} {n : Nat} {f : Int64 → Prop}, ldL ls n f → ∃ x, ls[n]? = some (some (.inr (.inl x))) ∧ f x
  | [], n, f, h => by cases n <;> exact h.elim
  | a :: t, 0, f, h => by
    simp only [ldL] at h
    split at h
    · exact ⟨_, rfl, h⟩
    · exact h.elim
  | a :: t, n + 1, f, h => ldL_g (ls := t) (n := n) (by rw [ldL_s] at h; exact h)
theorem ldR_g : ∀ {ls : Ls} {n : Nat} {f : Nat → Prop}, ldR ls n f → ∃ x, ls[n]? = some (some (.inr (.inr x))) ∧ f x
  | [], n, f, h => by cases n <;> exact h.elim
  | a :: t, 0, f, h => by
    simp only [ldR] at h
    split at h
    · exact ⟨_, rfl, h⟩
    · exact h.elim
  | a :: t, n + 1, f, h => ldR_g (ls := t) (n := n) (by rw [ldR_s] at h; exact h)
theorem len4_cat {base : Nat} : ∀ {r : List MV}, len4 r → ((r.map (tr base)).map fun v => v.category).sum ≤ 8 := by
  intro r h
  have h1 : ∀ v : MV, (tr base v).category ≤ 2 := fun v => by rcases v with x | x | k <;> simp [tr, Value.category]
  have h2 : r.length ≤ 4 := by unfold len4 at h; split at h <;> simp_all
  have h3 : ∀ r : List MV, ((r.map (tr base)).map fun v => v.category).sum ≤ 2 * r.length := by
    intro r
    induction r with
    | nil => simp
    | cons a t ih => simp only [List.map_cons, List.sum_cons, List.length_cons]; have := h1 a; omega
  have := h3 r
  omega
theorem swc_g {pc : Nat} {K : Nat → Prop} {x : Int} : ∀ {os : List Int} {v : Int} {i : Nat} {o : Int}, swc pc K x v os → os[i]? = some o → x = v + i → K ((pc : Int) + o).toNat
  | [], _, _, _, _, h, _ => by simp at h
  | a :: t, v, 0, o, q, h, e => by
    have : a = o := by simpa using h
    rw [← this]; exact q.1 (by omega)
  | a :: t, v, i + 1, o, q, h, e => swc_g (os := t) (v := v + 1) (i := i) q.2 (by simpa using h) (by omega)
end
section
/-! THE SMALL MACHINE IS SOUND: what it comes to, the machine comes to -/
def rmD (d : Nat) : Room := { frames := d, cells := 0, slots := 0, locals := 36 * d }
def WdH (D : va_G) (base : Nat) (cA : Nat → ClassId) (σ : Sg) (μ : Mem) (H : Heap) : Prop := va_P D vwCl (wl base cA σ μ) H
def WdK (D : va_G) (cA : Nat → ClassId) (U : State) : Prop := va_K D vwCl (tysA cA) U ∧ ∀ w ∈ nestW, va_Nw w U
def Wd (D : va_G) (base : Nat) (cA : Nat → ClassId) (σ : Sg) (μ : Mem) (U : State) : Prop := WdH D base cA σ μ U.heap ∧ WdK D cA U
def QcM (D : va_G) (base : Nat) (cA : Nat → ClassId) (σ : Sg) (mi : Nat) (Q : QT) : Array Value → State → Outcome → State → Prop :=
  if kM mi = 0 then va_Qv (fun u : Mem => Q (.inl 0) u) (fun u t => Wd D base cA σ u t) (AA base)
  else if kM mi = 1 then va_Qi (fun (r : Int32) (u : Int × Mem) => r = Int32.ofInt u.1 ∧ Q (.inl u.1) u.2) (fun u t => Wd D base cA σ u.2 t) (AA base)
  else va_Qr (fun u : Nat × Mem => Q (.inr (.inr u.1)) u.2) (fun u a t => a = base + u.1 ∧ Wd D base cA σ u.2 t) (AA base)
def MetOk (l : Launch) (D : va_G) (base : Nat) (cA : Nat → ClassId) (σ : Sg) (d : Nat) : Prop := ∀ (mi : Nat) (vs : List MV) (μ : Mem) (Q : QT), mi < 166 → Call σ d mi vs μ Q →
  Met l (yM mi) (wsM mi) (rmD d) (va_Pc (vs.map (tr base)) (Wd D base cA σ μ)) (QcM D base cA σ mi Q) 0 0 (AA base)
theorem nest_tab : ∀ w ∈ nestW, w.onTables = true := by decide +kernel
theorem WdK.moved {D : va_G} {cA : Nat → ClassId} {u U : State} (hvm : u.vm = U.vm) (h : WdK D cA u) : WdK D cA U :=
  ⟨va_K.moved (by rw [hvm]; exact Vm.Alike.refl _) h.1, fun w hw => va_Nw.same (nest_tab w hw) hvm (h.2 w hw)⟩
theorem WdK.warm {D : va_G} {cA : Nat → ClassId} {s U : State} (hW : s.WarmedH U.vm) (h : WdK D cA s) : WdK D cA U := by
  refine ⟨va_K.moved hW.alike h.1, fun w hw => ?_⟩
  obtain ⟨q, -, rfl⟩ := List.mem_map.mp hw
  exact va_Nw.warmM hW (h.2 _ hw)
theorem cls_ok : ∀ a, a < 8 → vwCl[a]? = some (RX a, TX a, NX a) ∧ (∀ w ∈ u_ws (RX a) (TX a) (NX a), w ∈ gW) ∧ (∃ ty : Nat → FieldType, ∀ k, k < NX a → parseFieldDescriptor ((TX a) k).2.2.1 = some (ty k)) ∧ ∀ x, x < NX a → ∀ y, y < NX a → x ≠ y → ((TX a) x).2.1 ≠ ((TX a) y).2.1
  | 0, _ => ⟨rfl, in_gLay0, ⟨tyX0, tyX0_ok⟩, nmX0⟩
  | 1, _ => ⟨rfl, in_gLay1, ⟨tyX1, tyX1_ok⟩, nmX1⟩
  | 2, _ => ⟨rfl, in_gLay2, ⟨tyX2, tyX2_ok⟩, nmX2⟩
  | 3, _ => ⟨rfl, in_gLay3, ⟨tyX3, tyX3_ok⟩, nmX3⟩
  | 4, _ => ⟨rfl, in_gLay4, ⟨tyX4, tyX4_ok⟩, nmX4⟩
  | 5, _ => ⟨rfl, in_gLay5, ⟨tyX5, tyX5_ok⟩, nmX5⟩
  | 6, _ => ⟨rfl, in_gLay6, ⟨tyX6, tyX6_ok⟩, nmX6⟩
  | 7, _ => ⟨rfl, in_gLay7, ⟨tyX7, tyX7_ok⟩, nmX7⟩
  | n + 8, h => absurd h (by omega)
theorem in_gW_ws {mi : Nat} {w : Cond} (h : w ∈ gW) : w ∈ wsM mi := List.mem_cons_of_mem _ h
theorem meth_at {a : Nat} (h : a < 166) : ckMeth a = true := List.all_eq_true.mp meth_ok a (List.mem_range.mpr h)
theorem mt_len : mt.length = 166 := by decide +kernel
theorem code_in {a : Nat} (h : a < 166) : Cond.code (yM a) (bM a) (lM a) (rM a) ∈ gW := by
  refine in_gCode _ (List.mem_map.mpr ⟨mrow a, ?_, rfl⟩)
  have hl : a < mt.length := by rw [mt_len]; exact h
  have e : mrow a = mt[a] := by simp [mrow, List.getD, hl]
  rw [e]
  exact List.getElem_mem hl
theorem ws_good {mi a : Nat} (h : a < 166) : GoodIn (wsM mi) (wsM a) := by
  intro w hw
  rcases List.mem_cons.mp hw with rfl | hw
  · exact ⟨in_gW_ws (code_in h), gW_gd (code_in h)⟩
  · exact ⟨in_gW_ws hw, gW_gd hw⟩
theorem ini_in {c : Nat} (h : c < 8) : Cond.initialized (RX c) ∈ gW := in_gIni _ (List.mem_map.mpr ⟨c, by
  match c, h with
  | 0, _ | 1, _ | 2, _ | 3, _ | 4, _ | 5, _ | 6, _ | 7, _ => decide
  | n + 8, h => exact absurd h (by omega), rfl⟩)
section SND
variable {p : Program} {l : Launch} {e : Env} {R : Room} {s : State} {m : MethodId} {args : Array Value} {below : List Frame} {meth : Method} {c : Code} {cells slots : Nat} {Qf : State → Prop} {D : va_G} {base : Nat} {cA : Nat → ClassId} {σ : Sg} {nL mi d : Nat}
def PS (p : Program) (l : Launch) (e : Env) (R : Room) (s : State) (m : MethodId) (args : Array Value) (below : List Frame) (meth : Method) (c : Code) (cells slots : Nat) (Qf : State → Prop) (D : va_G) (base : Nat) (cA : Nat → ClassId) (σ : Sg) (nL : Nat) : PT :=
  fun pc ls st μ => ∀ (H : Heap) (locs : List Loc) (lsA : Array Slot), va_P D vwCl (wl base cA σ μ) H → va_S (AA base) s.heap H locs → LR base nL ls lsA →
    W p l e R s m args below meth c H locs cells slots Qf (F0 m pc lsA (st.map (tr base)))
/-- what holds through the whole of a method -/
def Fx (p : Program) (s : State) (m : MethodId) (args : Array Value) (c : Code) (cells slots : Nat) (R : Room) (D : va_G) (base : Nat) (cA : Nat → ClassId) (nL mi d : Nat) : Prop :=
  p.tables.exec = Jvm.exec ∧ c.code = bM mi ∧ c.maxLocals = nL ∧ s.vm.findClass (RX (oM mi)) = some m.cls ∧ (∀ w ∈ wsM mi, w.before args s = true) ∧ WdK D cA s ∧ d + 1 ≤ R.frames ∧ 36 * d + 36 ≤ R.locals ∧ cells ≤ R.cells ∧ slots ≤ R.slots
theorem s_getf (F : Fx p s m args c cells slots R D base cA nL mi d) {pc x a b c1 o : Nat} {H : Heap} {locs : List Loc} {lsA : Array Slot} {μ : Mem} {rest : List Value}
    (hf : (oM mi, x, a, b) ∈ flt) (ha : a < 8) (hb : b < NX a) (hk : (fks a)[b]? = some c1) (hd : decode (bM mi) pc = .ok (.getfield x, 3)) (ho : (shp σ o).1 = a)
    (hP : va_P D vwCl (wl base cA σ μ) H)
    (kk : W p l e R s m args below meth c H locs cells slots Qf (F0 m (pc + 3) lsA (fldV base σ μ o b c1 :: rest))) :
    W p l e R s m args below meth c H locs cells slots Qf (F0 m pc lsA (.ref (base + o) :: rest)) := by
  obtain ⟨hx, hbc, hml, hown, hts, ⟨hK, hN⟩, hr⟩ := F
  obtain ⟨hc, hu, -, -⟩ := cls_ok a ha
  obtain ⟨h1, h2, -⟩ := shp_of ho (by omega)
  have he : (wl base cA σ μ)[o]? = some (base + o, .inr (a, (fks a).mapIdx (fun j f => fldV base σ μ o j f))) := by
    rw [wl_at h1]
    unfold ent entV
    rw [h2, if_neg (by omega), if_neg (by omega), if_neg (by omega), if_neg (by omega), if_neg (by omega), if_neg (by omega)]
  have hlink : (Cond.fieldLink (RX (oM mi)) x ((TX a) b).1 ((TX a) b).2.1 ((TX a) b).2.2.1).before args s = true := hts _ (in_gW_ws (in_gFld _ (List.mem_map.mpr ⟨_, hf, rfl⟩)))
  exact va_get (own := RX (oM mi)) hx hbc hts (fun w hw => in_gW_ws (hu w hw)) hown hK hP o he hc b hb hlink (fun _ h => h) (by rw [List.getElem?_mapIdx, hk]; rfl) hd kk
theorem s_putf (F : Fx p s m args c cells slots R D base cA nL mi d) {pc x a b c1 o : Nat} {v : Int} {H : Heap} {locs : List Loc} {lsA : Array Slot} {μ : Mem} {rest : List Value}
    (hf : (oM mi, x, a, b) ∈ flt) (ha : a < 8) (hb : b < NX a) (hk : (fks a)[b]? = some c1) (hfin : ((TX a) b).2.2.2 = false) (hty : ((TX a) b).2.2.1 = (if c1 = 0 then "I" else "Z")) (hv : pfv c1 v)
    (hd : decode (bM mi) pc = .ok (.putfield x, 3)) (ho : (shp σ o).1 = a)
    (hP : va_P D vwCl (wl base cA σ μ) H) (hS : va_S (AA base) s.heap H locs)
    (kk : ∀ (H1 : Heap) (locs1 : List Loc), va_P D vwCl (wl base cA σ (ms μ o b v)) H1 → va_S (AA base) s.heap H1 locs1 → W p l e R s m args below meth c H1 locs1 cells slots Qf (F0 m (pc + 3) lsA rest)) :
    W p l e R s m args below meth c H locs cells slots Qf (F0 m pc lsA (.int (Int32.ofInt v) :: .ref (base + o) :: rest)) := by
  obtain ⟨hx, hbc, hml, hown, hts, ⟨hK, hN⟩, hr⟩ := F
  obtain ⟨hc, hu, ⟨ty, hty0⟩, hnm⟩ := cls_ok a ha
  obtain ⟨h1, h2, -⟩ := shp_of ho (by omega)
  have hent : ∀ ν : Mem, ent base cA σ ν o = .inr (a, (fks a).mapIdx (fun j f => fldV base σ ν o j f)) := by
    intro ν
    unfold ent entV
    rw [h2, if_neg (by omega), if_neg (by omega), if_neg (by omega), if_neg (by omega), if_neg (by omega), if_neg (by omega)]
  have he : (wl base cA σ μ)[o]? = some (base + o, .inr (a, (fks a).mapIdx (fun j f => fldV base σ μ o j f))) := by rw [wl_at h1, hent]
  have hlink : (Cond.fieldLink (RX (oM mi)) x ((TX a) b).1 ((TX a) b).2.1 ((TX a) b).2.2.1).before args s = true := hts _ (in_gW_ws (in_gFld _ (List.mem_map.mpr ⟨_, hf, rfl⟩)))
  have hbl : b < (fks a).length := (List.getElem?_eq_some_iff.mp hk).1
  have hset : ((fks a).mapIdx (fun j f => fldV base σ μ o j f)).set b (.int (Int32.ofInt v)) = (fks a).mapIdx (fun j f => fldV base σ (ms μ o b v) o j f) := by
    apply List.ext_getElem?
    intro i
    by_cases hib : b = i
    · subst hib
      rw [List.getElem?_set_self (by simpa using hbl), List.getElem?_mapIdx, hk]
      rcases c1 with _ | _ | n
      · simp [fldV, ms]
      · simp [fldV, ms]
      · exact hv.elim
    · rw [List.getElem?_set_ne hib, List.getElem?_mapIdx, List.getElem?_mapIdx]
      cases (fks a)[i]? with
      | none => rfl
      | some f =>
        have hib' : ¬ i = b := fun q => hib q.symm
        match f with
        | 0 => simp [fldV, ms, hib']
        | 1 => simp [fldV, ms, hib']
        | n + 2 => simp [fldV]
  have fin : ∀ (t : FieldType), parseFieldDescriptor ((TX a) b).2.2.1 = some t → narrow t (.int (Int32.ofInt v)) = .int (Int32.ofInt v) → fits t (.int (Int32.ofInt v)) = true →
      W p l e R s m args below meth c H locs cells slots Qf (F0 m pc lsA (.int (Int32.ofInt v) :: .ref (base + o) :: rest)) := by
    intro t ht hn hfit
    refine va_put (own := RX (oM mi)) hx hbc hts (fun w hw => in_gW_ws (hu w hw)) ty hty0 hnm hown hK hP wl_D hS o he hc b hb hlink (fun _ h => h) hfin ht hn hfit (by simpa using hbl) hd (fun H1 locs1 q1 q2 q3 => ?_)
    rw [hset, wl_set (by rw [hent]) ms_ne] at q1
    exact kk H1 locs1 q1 q3
  rcases c1 with _ | _ | n
  · exact fin .int (by rw [hty]; decide +kernel) rfl rfl
  · rcases hv with rfl | rfl
    · exact fin .boolean (by rw [hty]; decide +kernel) rfl rfl
    · exact fin .boolean (by rw [hty]; decide +kernel) rfl rfl
  · exact hv.elim
theorem ent_a {k kd n : Nat} {μ : Mem} (h1 : (lay.getD k (999, 0)).1 = kd) (h2 : n = (lay.getD k (999, 0)).2) : ent base cA σ μ k = entV base cA σ μ k kd n := by
  unfold ent; rw [h1, h2]
theorem upd_ms {μ : Mem} {o : Nat} {i v : Int} {n : Nat} (h0 : 0 ≤ i) (h1 : i < (n : Int)) (hn : n < 6000) : upd (fun j => Int32.ofInt (μ o j)) (Int32.ofInt i).toNatClampNeg (Int32.ofInt v) = fun j => Int32.ofInt (ms μ o i.toNat v o j) := by
  funext j
  rw [clamp_i h0 h1 hn]
  unfold upd ms
  by_cases hj : j = i.toNat
  · simp [hj]
  · simp [hj]
theorem s_alen {o kd : Nat} (h : (shp σ o).1 = kd) (hk : kd ≠ 999) (μ : Mem) : (wl base cA σ μ)[o]? = some (base + o, entV base cA σ μ o kd (shp σ o).2) ∧ (shp σ o).2 < 6000 ∧ ent base cA σ μ o = entV base cA σ μ o kd (shp σ o).2 := by
  obtain ⟨h1, h2, h3⟩ := shp_of h hk
  exact ⟨by rw [wl_at h1, ent_a h2 h3], shp_small σ o, ent_a h2 h3⟩
theorem nar_c {v : Int} (h : 0 ≤ v ∧ v < 65536) : vp_nar .char (Int32.ofInt v) = Int32.ofInt v := by
  obtain ⟨n, rfl⟩ : ∃ n : Nat, v = (n : Int) := ⟨v.toNat, by omega⟩
  have hn : n < 65536 := by omega
  have e : Int32.ofInt (n : Int) = nI n := by unfold nI; exact (Int32.ofInt_eq_ofNat).symm ▸ rfl
  rw [e]
  have := (pk_charN hn).1
  unfold vp_nar
  rw [this]
theorem nar_z {v : Int} (h : v = 0 ∨ v = 1) : vp_nar .boolean (Int32.ofInt v) = Int32.ofInt v := by
  rcases h with rfl | rfl <;> rfl
end SND
end
section
section SN2
variable {p : Program} {l : Launch} {e : Env} {R : Room} {s : State} {m : MethodId} {args : Array Value} {below : List Frame} {meth : Method} {c : Code} {cells slots : Nat} {Qf : State → Prop} {D : va_G} {base : Nat} {cA : Nat → ClassId} {σ : Sg} {nL mi d : Nat}
theorem frb (vs : List MV) (μ : Mem) : FrameBlind (va_Pc (vs.map (tr base)) (Wd D base cA σ μ)) := fun a U g mk h => ⟨h.1, h.2.1, WdK.moved (u := U) (U := U.calling g mk a) rfl h.2.2⟩
/-- what comes behind a call -/
theorem s_back {pc : Nat} {a : Nat} {H : Heap} {locs : List Loc} {lsA : Array Slot} {ls : Ls} {as : Array Value} {st0 : List Value} {rs : List MV} {PP : PT}
    (hPP : PP = PS p l e R s m args below meth c cells slots Qf D base cA σ nL)
    (hr : va_Run p l e R s m args below meth c H locs cells slots 0 0 (F0 m pc lsA st0) (rs.map (tr base)) (QcM D base cA σ a (fun v μ' => PP (pc + 3) ls (psh (kM a) v rs) μ') as) (AA base))
    (hk : kM a < 3) (hS : va_S (AA base) s.heap H locs) (hL : LR base nL ls lsA) : W p l e R s m args below meth c H locs cells slots Qf (F0 m pc lsA st0) := by
  subst hPP
  unfold QcM at hr
  rcases (show kM a = 0 ∨ kM a = 1 ∨ kM a = 2 by omega) with h0 | h0 | h0
  · rw [if_pos h0] at hr
    refine va_callv hr hS (fun q _ h => h) (fun q h => h) (fun u t H1 locs1 ht hvm hw hB hz1 hk1 hS1 => ?_)
    have := hw H1 locs1 lsA (by rw [← ht]; exact hB.1) hS1 hL
    unfold psh at this
    rw [if_pos h0] at this
    exact this
  · rw [if_neg (by omega), if_pos h0] at hr
    refine va_calli hr hS (fun q _ h => h) (fun q h => h) (fun r u t H1 locs1 ht hvm hw hB hz1 hk1 hS1 => ?_)
    obtain ⟨rfl, hw⟩ := hw
    have := hw H1 locs1 lsA (by rw [← ht]; exact hB.1) hS1 hL
    unfold psh at this
    rw [if_neg (by omega)] at this
    exact this
  · rw [if_neg (by omega), if_neg (by omega)] at hr
    refine va_callr hr hS (fun q _ h => h) (fun q h => h) (fun u ra t H1 locs1 ht hvm hw hB hz1 hk1 hS1 => ?_)
    obtain ⟨rfl, hB⟩ := hB
    have := hw H1 locs1 lsA (by rw [← ht]; exact hB.1) hS1 hL
    unfold psh at this
    rw [if_neg (by omega)] at this
    exact this
theorem meth_f {a : Nat} (h : a < 166) : (yM a).cls = RX (oM a) ∧ plainName (yM a).cls = true ∧ (yM a).cls ≠ "java/lang/invoke/MethodHandle" ∧ (yM a).cls ≠ "java/lang/invoke/VarHandle" ∧ (parseMethodDescriptor (yM a).desc).map (fun d => d.parameters.length) = some (if mSs.contains a then nM a else nM a - 1) ∧ lM a ≤ 17 ∧ oM a < 8 ∧ kM a < 3 ∧ (kM a = 0 → rM a = none) ∧ (kM a = 1 → rM a = some .int ∨ rM a = some .boolean ∨ rM a = some .char) ∧ (kM a = 2 → rM a = some (.object RX1)) := by
  have q := meth_at h
  unfold ckMeth at q
  simp only [Bool.and_eq_true, decide_eq_true_eq] at q
  obtain ⟨⟨⟨⟨⟨⟨⟨q1, q2⟩, q3⟩, q4⟩, q5⟩, q6⟩, q7⟩, q8⟩ := q
  have hk3 : kM a < 3 := by
    have : (List.range 166).all (fun a => decide (kM a < 3)) = true := by decide +kernel
    exact of_decide_eq_true (List.all_eq_true.mp this a (List.mem_range.mpr h))
  refine ⟨q1, q2, q3, q4, q5, q6, q7, hk3, fun z => ?_, fun z => ?_, fun z => ?_⟩
  · rw [if_pos z] at q8; exact of_decide_eq_true q8
  · rw [if_neg (by omega), if_pos z] at q8
    simp only [Bool.or_eq_true, decide_eq_true_eq] at q8
    rcases q8 with (q | q) | q
    · exact Or.inl q
    · exact Or.inr (Or.inl q)
    · exact Or.inr (Or.inr q)
  · rw [if_neg (by omega), if_neg (by omega)] at q8; exact of_decide_eq_true q8
theorem mV_lt : ∀ a, mVs.contains a = true → a < 166 ∧ mSs.contains a = false := by
  have h : mVs.all (fun a => decide (a < 166) && !mSs.contains a) = true := by decide +kernel
  intro a ha
  have := List.all_eq_true.mp h a (List.contains_iff_mem.mp ha)
  simp only [Bool.and_eq_true, decide_eq_true_eq, Bool.not_eq_true'] at this
  exact this
theorem mS_lt : ∀ a, mSs.contains a = true → a < 166 := by
  have h : mSs.all (fun a => decide (a < 166)) = true := by decide +kernel
  intro a ha
  exact of_decide_eq_true (List.all_eq_true.mp h a (List.contains_iff_mem.mp ha))
theorem s_callV (F : Fx p s m args c cells slots R D base cA nL mi d) (hM : MetOk l D base cA σ d) {pc x a k : Nat} {As rs : List MV} {H : Heap} {locs : List Loc} {lsA : Array Slot} {ls : Ls} {μ : Mem} {PP : PT}
    (hPP : PP = PS p l e R s m args below meth c cells slots Qf D base cA σ nL)
    (hf : (oM mi, x, a) ∈ cltV) (hm : mVs.contains a = true) (hn : As.length + 1 = nM a) (hd : decode (bM mi) pc = .ok (.invokevirtual x, 3)) (h4 : len4 rs) (hk : (shp σ k).1 = oM a)
    (hc : Call σ d a (.inr (.inr k) :: As) μ (fun v μ' => PP (pc + 3) ls (psh (kM a) v rs) μ'))
    (hP : va_P D vwCl (wl base cA σ μ) H) (hS : va_S (AA base) s.heap H locs) (hL : LR base nL ls lsA) :
    W p l e R s m args below meth c H locs cells slots Qf (F0 m pc lsA (((As.map (tr base)).reverse) ++ .ref (base + k) :: rs.map (tr base))) := by
  obtain ⟨ha, hns⟩ := mV_lt a hm
  obtain ⟨f1, f2, f3, f4, f5, f6, f7, f8, -⟩ := meth_f ha
  obtain ⟨hx, hbc, hml, hown, hts, hKN, hrf, hrl, hcl, hsl⟩ := F
  obtain ⟨cl1, cl2, cl3, cl4⟩ := cls_ok (oM a) f7
  obtain ⟨h1, h2, h3⟩ := shp_of hk (by omega)
  have he : (wl base cA σ μ)[k]? = some (base + k, .inr (oM a, (fks (oM a)).mapIdx (fun j f => fldV base σ μ k j f))) := by
    rw [wl_at h1]
    unfold ent entV
    rw [h2, if_neg (by omega), if_neg (by omega), if_neg (by omega), if_neg (by omega), if_neg (by omega), if_neg (by omega)]
  have hgood : GoodIn (wsM mi) (wsV (RX (oM mi)) x (yM a).cls (yM a) (wsM a)) := by
    intro w hw
    unfold wsV at hw
    rcases List.mem_append.mp hw with hw | hw
    · have : w ∈ gW := by
        have hma : a ∈ mVs := List.contains_iff_mem.mp hm
        simp only [List.mem_cons, List.not_mem_nil, or_false] at hw
        rcases hw with rfl | rfl | rfl | rfl
        · exact in_gCv1 _ (List.mem_map.mpr ⟨_, hf, rfl⟩)
        · exact in_gCv2 _ (List.mem_map.mpr ⟨_, hma, rfl⟩)
        · exact in_gCv3 _ (List.mem_map.mpr ⟨_, hma, rfl⟩)
        · rw [f1]; exact ini_in f7
      exact ⟨in_gW_ws this, gW_gd this⟩
    · exact ws_good ha w hw
  have hlen : (As.map (tr base)).length = nM a - 1 := by rw [List.length_map]; omega
  have hsz : lsA.size = nL := hL.1
  refine s_back (a := a) (rs := rs) (ls := ls) hPP (va_runV (As := As.map (tr base)) (rest := rs.map (tr base)) (C := (yM a).cls) (n := nM a - 1) ⟨hx, hbc, hml, hown, hts⟩ (hM a (.inr (.inr k) :: As) μ _ ha hc)
    (cwV (nM a - 1) hts hgood rfl rfl rfl ⟨rfl, f3, f4, by rw [f5, hns]; rfl⟩ ⟨hrf, by show 8 + (lM a + 11) + 36 * d ≤ R.locals; omega⟩)
    ⟨frb _ μ, ?_, fun U hU hW => ⟨rfl, (by unfold WdH; rw [hU]; exact hP), hKN.warm hW⟩⟩ rfl hlen hsz rfl (lv_room (len4_cat h4)) hd ⟨hcl, hsl⟩) f8 hS hL
  have := va_recv hKN.1 hP (ci := oM a) (q0 := k) cl1 he
  rw [f1]
  exact this
theorem s_callS (F : Fx p s m args c cells slots R D base cA nL mi d) (hM : MetOk l D base cA σ d) {pc x a : Nat} {As rs : List MV} {H : Heap} {locs : List Loc} {lsA : Array Slot} {ls : Ls} {μ : Mem} {PP : PT}
    (hPP : PP = PS p l e R s m args below meth c cells slots Qf D base cA σ nL)
    (hf : (oM mi, x, a) ∈ cltS ∨ (oM mi, x, a) ∈ cltN) (hm : mSs.contains a = true) (hn : As.length = nM a) (hd : decode (bM mi) pc = .ok (.invokestatic x, 3)) (h4 : len4 rs)
    (hc : Call σ d a As μ (fun v μ' => PP (pc + 3) ls (psh (kM a) v rs) μ'))
    (hP : va_P D vwCl (wl base cA σ μ) H) (hS : va_S (AA base) s.heap H locs) (hL : LR base nL ls lsA) :
    W p l e R s m args below meth c H locs cells slots Qf (F0 m pc lsA (((As.map (tr base)).reverse) ++ rs.map (tr base))) := by
  have ha := mS_lt a hm
  obtain ⟨f1, f2, f3, f4, f5, f6, f7, f8, -⟩ := meth_f ha
  obtain ⟨hx, hbc, hml, hown, hts, hKN, hrf, hrl, hcl, hsl⟩ := F
  have hlen : (As.map (tr base)).length = nM a := by rw [List.length_map]; omega
  have hsz : lsA.size = nL := hL.1
  have hini : (Cond.initialized (yM a).cls).before args s = true := by rw [f1]; exact hts _ (in_gW_ws (ini_in f7))
  have hst : (Cond.static (yM a)).before args s = true := hts _ (in_gW_ws (in_gCs2 _ (List.mem_map.mpr ⟨a, List.contains_iff_mem.mp hm, rfl⟩)))
  have hpar : (parseMethodDescriptor (yM a).desc).map (fun d => d.parameters.length) = some (nM a) := by rw [f5, hm]; rfl
  have hroom : (rmD d).frames + 1 ≤ R.frames ∧ 8 + (lM a + 11) + (rmD d).locals ≤ R.locals := ⟨hrf, by show 8 + (lM a + 11) + 36 * d ≤ R.locals; omega⟩
  rcases hf with hf | hf
  · have hl : (Cond.methodLink (RX (oM mi)) x (yM a)).before args s = true := hts _ (in_gW_ws (in_gCs1 _ (List.mem_map.mpr ⟨_, hf, rfl⟩)))
    exact s_back (a := a) (rs := rs) (ls := ls) hPP (va_runS (As := As.map (tr base)) (rest := rs.map (tr base)) (n := nM a) ⟨hx, hbc, hml, hown, hts⟩ (hM a As μ _ ha hc)
      ⟨callB_of (nM a) hts (ws_good ha) rfl rfl rfl hini hl ⟨f3, f4, hpar⟩ hroom, hst⟩
      ⟨frb _ μ, fun U hU hW => ⟨rfl, (by unfold WdH; rw [hU]; exact hP), hKN.warm hW⟩⟩ rfl hlen hsz rfl (lv_room (len4_cat h4)) hd ⟨hcl, hsl⟩) f8 hS hL
  · have hl : va_Nw (.methodLinkNest (RX (oM mi)) x (yM a) RX6) s := hKN.2 _ (List.mem_map.mpr ⟨_, hf, rfl⟩)
    exact s_back (a := a) (rs := rs) (ls := ls) hPP (va_runSN (As := As.map (tr base)) (rest := rs.map (tr base)) (n := nM a) ⟨hx, hbc, hml, hown, hts⟩ (hM a As μ _ ha hc)
      ⟨va_cnB (nM a) hts (ws_good ha) rfl rfl rfl hl hini ⟨f3, f4, hpar⟩ hroom, hst, trivial⟩
      ⟨frb _ μ, fun U hU hW => ⟨rfl, (by unfold WdH; rw [hU]; exact hP), hKN.warm hW⟩⟩ rfl hlen hsz rfl (lv_room (len4_cat h4)) hd ⟨hcl, hsl⟩) f8 hS hL
theorem min_i {x y : Int} (hx : inR x) (hy : inR y) : (if Int32.ofInt y < Int32.ofInt x then Int32.ofInt y else Int32.ofInt x) = Int32.ofInt (if y < x then y else x) := by
  by_cases h : y < x
  · rw [if_pos h, if_pos ((i32_lt hy hx).mpr h)]
  · rw [if_neg h, if_neg (fun q => h ((i32_lt hy hx).mp q))]
theorem max_i {x y : Int} (hx : inR x) (hy : inR y) : (if Int32.ofInt x < Int32.ofInt y then Int32.ofInt y else Int32.ofInt x) = Int32.ofInt (if x < y then y else x) := by
  by_cases h : x < y
  · rw [if_pos h, if_pos ((i32_lt hx hy).mpr h)]
  · rw [if_neg h, if_neg (fun q => h ((i32_lt hx hy).mp q))]
theorem i32_zero : Int32.ofInt 0 = 0 := rfl
theorem abs_i {x : Int} (hx : inR x) : (if 0 ≤ Int32.ofInt x then Int32.ofInt x else 0 - Int32.ofInt x) = Int32.ofInt (if 0 ≤ x then x else 0 - x) := by
  have h0 : inR 0 := ⟨by decide, by decide⟩
  by_cases h : 0 ≤ x
  · rw [if_pos h, if_pos (by have := (i32_le h0 hx).mpr h; rw [i32_zero] at this; exact this)]
  · rw [if_neg h, if_neg (fun q => h ((i32_le h0 hx).mp (by rw [i32_zero]; exact q))), Int32.ofInt_sub, i32_zero]
end SN2
end
section
section SN3
variable {p : Program} {l : Launch} {e : Env} {R : Room} {s : State} {m : MethodId} {args : Array Value} {below : List Frame} {meth : Method} {c : Code} {cells slots : Nat} {Qf : State → Prop} {D : va_G} {base : Nat} {cA : Nat → ClassId} {σ : Sg} {nL mi d : Nat}
def Rets (p : Program) (l : Launch) (e : Env) (R : Room) (s : State) (m : MethodId) (args : Array Value) (below : List Frame) (meth : Method) (c : Code) (cells slots : Nat) (Qf : State → Prop) (D : va_G) (base : Nat) (cA : Nat → ClassId) (σ : Sg) (mi : Nat) (Q : QT) : Prop :=
  ∀ (μ : Mem) (H : Heap) (locs : List Loc) (lsA : Array Slot) (pc : Nat), va_P D vwCl (wl base cA σ μ) H → va_S (AA base) s.heap H locs →
    (decode (bM mi) pc = .ok (.return_, 1) → rM mi = none → Q (.inl 0) μ → W p l e R s m args below meth c H locs cells slots Qf (F0 m pc lsA [])) ∧
    (∀ x : Nat, decode (bM mi) pc = .ok (.areturn, 1) → rM mi = some (.object RX1) → Q (.inr (.inr x)) μ → W p l e R s m args below meth c H locs cells slots Qf (F0 m pc lsA [.ref (base + x)])) ∧
    (∀ x : Int, decode (bM mi) pc = .ok (.ireturn, 1) → (rM mi = some .int ∨ (rM mi = some .boolean ∧ (x = 0 ∨ x = 1)) ∨ (rM mi = some .char ∧ 0 ≤ x ∧ x < 65536)) → Q (.inl x) μ → W p l e R s m args below meth c H locs cells slots Qf (F0 m pc lsA [.int (Int32.ofInt x)]))
theorem ckD_of {pc : Nat} {i : Instr} (h : ckD mi pc i = true) (ht : isTsw i = false) {n : Nat} (hn : ilen i = n) : decode (bM mi) pc = .ok (i, n) := by
  unfold ckD at h
  split at h
  · rename_i j n' hj
    simp only [ht, Bool.false_or, Bool.and_eq_true, decide_eq_true_eq, beq_iff_eq] at h
    rw [hj, h.1, h.2, hn]
  · cases h
theorem ckD_sw {pc : Nat} {i : Instr} (h : ckD mi pc i = true) : ∃ n, decode (bM mi) pc = .ok (i, n) := by
  unfold ckD at h
  split at h
  · rename_i j n' hj
    simp only [Bool.and_eq_true, decide_eq_true_eq] at h
    exact ⟨n', by rw [hj, h.1]⟩
  · cases h
theorem nat1 {a : Nat} {P : Prop} (h : (a == 1) = true ∧ P) : P := h.2
set_option maxHeartbeats 4000000 in
theorem stp_s (F : Fx p s m args c cells slots R D base cA nL mi d) (hM : MetOk l D base cA σ d) {Q : QT} (hret : Rets p l e R s m args below meth c cells slots Qf D base cA σ mi Q)
    {PP : PT} (hPP : PP = PS p l e R s m args below meth c cells slots Qf D base cA σ nL) {pc np a b c1 e1 : Nat} {i : Instr} {k : Ls → List MV → Mem → Prop} (hD : ckD mi pc i = true) (hC : ckI mi pc i a b c1 e1 np = true)
    (hk : ∀ ls st μ, k ls st μ → PP np ls st μ) {ls : Ls} {st : List MV} {μ : Mem} (h : stp σ PP (Call σ d) Q pc i a b c1 e1 k ls st μ) : PP pc ls st μ := by
  have hPP2 := hPP
  subst hPP
  have F' := F
  obtain ⟨hx, hb, hml, hown, hts, hKN, hrf, hrl, hcl, hsl⟩ := F
  intro H locs lsA hP hS hL
  have hll := hL.2.2.1
  have hsz : c.maxLocals = lsA.size := hml.trans hL.1.symm
  cases i with
  | iconst n =>
    simp only [stp] at h
    have hn := eq_of_beq (show (np == pc + 1) = true from hC); subst hn
    exact lv_iconst hx hb (ckD_of hD rfl rfl) rfl (hk _ _ _ h H locs lsA hP hS hL)
  | bipush n =>
    simp only [stp] at h
    simp only [ckI, Bool.and_eq_true, decide_eq_true_eq, beq_iff_eq] at hC
    obtain ⟨h1, hn⟩ := hC; subst hn
    exact lv_bipush hx hb (ckD_of hD rfl rfl) h1 (hk _ _ _ h H locs lsA hP hS hL)
  | sipush n =>
    simp only [stp] at h
    simp only [ckI, Bool.and_eq_true, decide_eq_true_eq, beq_iff_eq] at hC
    obtain ⟨h1, hn⟩ := hC; subst hn
    exact lv_sipush hx hb (ckD_of hD rfl rfl) h1 (hk _ _ _ h H locs lsA hP hS hL)
  | lconst n =>
    simp only [stp] at h
    have hn := eq_of_beq (show (np == pc + 1) = true from hC); subst hn
    exact lv_lconst hx hb (ckD_of hD rfl rfl) rfl (hk _ _ _ h H locs lsA hP hS hL)
  | ldc2_w n =>
    simp only [stp] at h
    simp only [ckI, Bool.and_eq_true, beq_iff_eq] at hC
    obtain ⟨h1, hn⟩ := hC; subst hn
    exact lv_ldc2 hx hb hown (hts _ (in_gW_ws (in_gCk _ (List.mem_map.mpr ⟨_, List.contains_iff_mem.mp h1, rfl⟩)))) (ckD_of hD rfl rfl) (hk _ _ _ h H locs lsA hP hS hL)
  | iload n =>
    simp only [stp] at h
    obtain ⟨x, e1, h⟩ := ldI_g h
    have hn := eq_of_beq (show (np == pc + 2) = true from hC); subst hn
    exact lv_iload hx hb (ckD_of hD rfl rfl) (hL.2.2.2 _ _ e1) (hk _ _ _ h H locs lsA hP hS hL)
  | iload_n n =>
    simp only [stp] at h
    obtain ⟨x, e1, h⟩ := ldI_g h
    have hn := eq_of_beq (show (np == pc + 1) = true from hC); subst hn
    exact lv_iload_n hx hb (ckD_of hD rfl rfl) rfl (hL.2.2.2 _ _ e1) (hk _ _ _ h H locs lsA hP hS hL)
  | lload n =>
    simp only [stp] at h
    obtain ⟨x, e1, h⟩ := ldL_g h
    have hn := eq_of_beq (show (np == pc + 2) = true from hC); subst hn
    exact lv_lload hx hb (ckD_of hD rfl rfl) (hL.2.2.2 _ _ e1) (hk _ _ _ h H locs lsA hP hS hL)
  | lload_n n =>
    simp only [stp] at h
    obtain ⟨x, e1, h⟩ := ldL_g h
    have hn := eq_of_beq (show (np == pc + 1) = true from hC); subst hn
    exact lv_lload_n hx hb (ckD_of hD rfl rfl) rfl (hL.2.2.2 _ _ e1) (hk _ _ _ h H locs lsA hP hS hL)
  | aload n =>
    simp only [stp] at h
    obtain ⟨x, e1, h⟩ := ldR_g h
    have hn := eq_of_beq (show (np == pc + 2) = true from hC); subst hn
    exact lv_aload hx hb (ckD_of hD rfl rfl) (hL.2.2.2 _ _ e1) (hk _ _ _ h H locs lsA hP hS hL)
  | aload_n n =>
    simp only [stp] at h
    obtain ⟨x, e1, h⟩ := ldR_g h
    have hn := eq_of_beq (show (np == pc + 1) = true from hC); subst hn
    exact lv_aload_n hx hb (ckD_of hD rfl rfl) rfl (hL.2.2.2 _ _ e1) (hk _ _ _ h H locs lsA hP hS hL)
  | istore n =>
    simp only [stp] at h
    obtain ⟨x, r, rfl, hok, h⟩ := p1_g h
    have hn := eq_of_beq (show (np == pc + 2) = true from hC); subst hn
    exact lv_istore hx hb (ckD_of hD rfl rfl) hL.has (hll ▸ okS_lt _ _ hok) rfl (fun ls' hl' => hk _ _ _ h H locs ls' hP hS (LR_st hok hll hl'))
  | istore_n n =>
    simp only [stp] at h
    obtain ⟨x, r, rfl, hok, h⟩ := p1_g h
    have hn := eq_of_beq (show (np == pc + 1) = true from hC); subst hn
    exact lv_istore_n hx hb (ckD_of hD rfl rfl) rfl hL.has (hll ▸ okS_lt _ _ hok) rfl (fun ls' hl' => hk _ _ _ h H locs ls' hP hS (LR_st hok hll hl'))
  | astore n =>
    simp only [stp] at h
    obtain ⟨x, r, rfl, hok, h⟩ := pR_g h
    have hn := eq_of_beq (show (np == pc + 2) = true from hC); subst hn
    exact lv_astore hx hb (ckD_of hD rfl rfl) hL.has (hll ▸ okS_lt _ _ hok) rfl (fun ls' hl' => hk _ _ _ h H locs ls' hP hS (LR_st (v := .inr (.inr x)) hok hll hl'))
  | astore_n n =>
    simp only [stp] at h
    obtain ⟨x, r, rfl, hok, h⟩ := pR_g h
    have hn := eq_of_beq (show (np == pc + 1) = true from hC); subst hn
    exact lv_astore_n hx hb (ckD_of hD rfl rfl) rfl hL.has (hll ▸ okS_lt _ _ hok) rfl (fun ls' hl' => hk _ _ _ h H locs ls' hP hS (LR_st (v := .inr (.inr x)) hok hll hl'))
  | lstore n =>
    simp only [stp] at h
    obtain ⟨x, r, rfl, hok, h⟩ := pL_g h
    have hn := eq_of_beq (show (np == pc + 2) = true from hC); subst hn
    exact lv_lstore hx hb (ckD_of hD rfl rfl) hL.has (hll ▸ okS2_lt _ _ hok) rfl (fun ls' hl' => hk _ _ _ h H locs ls' hP hS (LR_st2 (v := .inr (.inl x)) hok hll hl'))
  | lstore_n n =>
    simp only [stp] at h
    obtain ⟨x, r, rfl, hok, h⟩ := pL_g h
    have hn := eq_of_beq (show (np == pc + 1) = true from hC); subst hn
    exact lv_lstore_n hx hb (ckD_of hD rfl rfl) rfl hL.has (hll ▸ okS2_lt _ _ hok) rfl (fun ls' hl' => hk _ _ _ h H locs ls' hP hS (LR_st2 (v := .inr (.inl x)) hok hll hl'))
  | iinc n dd =>
    simp only [stp] at h
    obtain ⟨x, e1, hok, h⟩ := ldI_g h
    have hn := eq_of_beq (show (np == pc + 3) = true from hC); subst hn
    obtain ⟨kk, hkk⟩ := List.getElem?_of_mem (lpk_mem (base := base) e1)
    exact lv_iinc (v := Int32.ofInt (x + dd)) hx hb (ckD_of hD rfl rfl) hL.has hkk (Int32.ofInt_add x dd).symm (hll ▸ okS_lt _ _ hok) rfl (fun ls' hl' => hk _ _ _ h H locs ls' hP hS (LR_st (v := .inl (x + dd)) hok hll hl'))
  | iadd =>
    simp only [stp] at h
    obtain ⟨x, y, r, rfl, h⟩ := p2_g h
    have hn := eq_of_beq (show (np == pc + 1) = true from hC); subst hn
    refine lv_iadd hx hb (ckD_of hD rfl rfl) ?_
    rw [← Int32.ofInt_add]
    exact hk _ _ _ h H locs lsA hP hS hL
  | isub =>
    simp only [stp] at h
    obtain ⟨x, y, r, rfl, h⟩ := p2_g h
    have hn := eq_of_beq (show (np == pc + 1) = true from hC); subst hn
    refine lv_isub hx hb (ckD_of hD rfl rfl) ?_
    rw [← Int32.ofInt_sub]
    exact hk _ _ _ h H locs lsA hP hS hL
  | imul =>
    simp only [stp] at h
    obtain ⟨x, y, r, rfl, h⟩ := p2_g h
    have hn := eq_of_beq (show (np == pc + 1) = true from hC); subst hn
    refine lv_imul hx hb (ckD_of hD rfl rfl) ?_
    rw [← Int32.ofInt_mul]
    exact hk _ _ _ h H locs lsA hP hS hL
  | iand =>
    simp only [stp] at h
    obtain ⟨x, y, r, rfl, h⟩ := p2_g h
    have hn := eq_of_beq (show (np == pc + 1) = true from hC); subst hn
    refine lv_iand hx hb (ckD_of hD rfl rfl) ?_
    rw [← Int32.ofInt_toInt (Int32.ofInt x &&& Int32.ofInt y)]
    exact hk _ _ _ h H locs lsA hP hS hL
  | ior =>
    simp only [stp] at h
    obtain ⟨x, y, r, rfl, h⟩ := p2_g h
    have hn := eq_of_beq (show (np == pc + 1) = true from hC); subst hn
    refine lv_ior hx hb (ckD_of hD rfl rfl) ?_
    rw [← Int32.ofInt_toInt (Int32.ofInt x ||| Int32.ofInt y)]
    exact hk _ _ _ h H locs lsA hP hS hL
  | ishl =>
    simp only [stp] at h
    obtain ⟨x, y, r, rfl, h⟩ := p2_g h
    have hn := eq_of_beq (show (np == pc + 1) = true from hC); subst hn
    refine lv_ishl hx hb (ckD_of hD rfl rfl) ?_
    rw [← Int32.ofInt_toInt (Int32.ofInt x <<< (Int32.ofInt y &&& 31))]
    exact hk _ _ _ h H locs lsA hP hS hL
  | ishr =>
    simp only [stp] at h
    obtain ⟨x, y, r, rfl, h⟩ := p2_g h
    have hn := eq_of_beq (show (np == pc + 1) = true from hC); subst hn
    refine lv_ishr hx hb (ckD_of hD rfl rfl) ?_
    rw [← Int32.ofInt_toInt (Int32.ofInt x >>> (Int32.ofInt y &&& 31))]
    exact hk _ _ _ h H locs lsA hP hS hL
  | i2c =>
    simp only [stp] at h
    obtain ⟨x, r, rfl, h⟩ := p1_g h
    have hn := eq_of_beq (show (np == pc + 1) = true from hC); subst hn
    exact lv_i2c (v := Int32.ofInt (iI2c x)) hx hb (ckD_of hD rfl rfl) (Int32.ofInt_toInt _).symm (hk _ _ _ h H locs lsA hP hS hL)
  | i2l =>
    simp only [stp] at h
    obtain ⟨x, r, rfl, h⟩ := p1_g h
    have hn := eq_of_beq (show (np == pc + 1) = true from hC); subst hn
    exact lv_i2l hx hb (ckD_of hD rfl rfl) rfl (hk _ _ _ h H locs lsA hP hS hL)
  | l2i =>
    simp only [stp] at h
    obtain ⟨x, r, rfl, h⟩ := pL_g h
    have hn := eq_of_beq (show (np == pc + 1) = true from hC); subst hn
    exact lv_l2i (v := Int32.ofInt x.toInt32.toInt) hx hb (ckD_of hD rfl rfl) (Int32.ofInt_toInt _).symm (hk _ _ _ h H locs lsA hP hS hL)
  | land =>
    simp only [stp] at h
    obtain ⟨x, y, r, rfl, h⟩ := pLL_g h
    have hn := eq_of_beq (show (np == pc + 1) = true from hC); subst hn
    exact lv_land hx hb (ckD_of hD rfl rfl) (hk _ _ _ h H locs lsA hP hS hL)
  | lushr =>
    simp only [stp] at h
    obtain ⟨x, y, r, rfl, h⟩ := pLI_g h
    have hn := eq_of_beq (show (np == pc + 1) = true from hC); subst hn
    exact lv_lushr (v := lUshr x y) hx hb (ckD_of hD rfl rfl) rfl (hk _ _ _ h H locs lsA hP hS hL)
  | lcmp =>
    simp only [stp] at h
    obtain ⟨x, y, r, rfl, h⟩ := pLL_g h
    have hn := eq_of_beq (show (np == pc + 1) = true from hC); subst hn
    refine W.lcmp hx hb (ckD_of hD rfl rfl) ?_
    rw [← Int32.ofInt_toInt (lg_cmp x y)]
    exact hk _ _ _ h H locs lsA hP hS hL
  | dup =>
    simp only [stp] at h
    obtain ⟨v, r, rfl, hv, h⟩ := pD_g h
    have hn := eq_of_beq (show (np == pc + 1) = true from hC); subst hn
    exact lv_dup hx hb (ckD_of hD rfl rfl) (nLg_cat hv) (hk _ _ _ h H locs lsA hP hS hL)
  | dup2 =>
    simp only [stp] at h
    obtain ⟨v, r, rfl, hv, h⟩ := pD_g h
    obtain ⟨w, r2, rfl, hw, h⟩ := pD_g h
    have hn := eq_of_beq (show (np == pc + 1) = true from hC); subst hn
    exact lv_dup2_11 hx hb (ckD_of hD rfl rfl) (nLg_cat hv) (nLg_cat hw) (hk _ _ _ h H locs lsA hP hS hL)
  | pop =>
    simp only [stp] at h
    obtain ⟨v, r, rfl, hv, h⟩ := pD_g h
    have hn := eq_of_beq (show (np == pc + 1) = true from hC); subst hn
    exact lv_pop hx hb (ckD_of hD rfl rfl) (nLg_cat hv) (hk _ _ _ h H locs lsA hP hS hL)
  | goto o =>
    simp only [stp] at h
    simp only [ckI, decide_eq_true_eq] at hC
    exact lv_goto hx hb (ckD_of hD rfl rfl) hC (h H locs lsA hP hS hL)
  | ifCond cc o =>
    simp only [stp] at h
    obtain ⟨x, r, rfl, h⟩ := p1_g h
    simp only [ckI, Bool.and_eq_true, decide_eq_true_eq, beq_iff_eq] at hC
    obtain ⟨h1, hn⟩ := hC; subst hn
    cases cc with
    | eq => have q := cEq_u h; exact lv_if_eq hx hb (ckD_of hD rfl rfl) h1 (fun z => q.1 z H locs lsA hP hS hL) (fun z => hk _ _ _ (q.2 z) H locs lsA hP hS hL)
    | ne => have q := cEq_u h; exact lv_if_ne hx hb (ckD_of hD rfl rfl) h1 (fun z => q.2 z H locs lsA hP hS hL) (fun z => hk _ _ _ (q.1 z) H locs lsA hP hS hL)
    | lt => have q := cLt_u h; exact lv_if_lt hx hb (ckD_of hD rfl rfl) h1 (fun z => q.1 z H locs lsA hP hS hL) (fun z => hk _ _ _ (q.2 z) H locs lsA hP hS hL)
    | ge => have q := cLt_v h; exact lv_if_ge hx hb (ckD_of hD rfl rfl) h1 (fun z => q.1 z H locs lsA hP hS hL) (fun z => hk _ _ _ (q.2 z) H locs lsA hP hS hL)
    | gt => have q := cLt_u h; exact lv_if_gt hx hb (ckD_of hD rfl rfl) h1 (fun z => q.1 z H locs lsA hP hS hL) (fun z => hk _ _ _ (q.2 z) H locs lsA hP hS hL)
    | le => have q := cLt_v h; exact lv_if_le hx hb (ckD_of hD rfl rfl) h1 (fun z => q.1 z H locs lsA hP hS hL) (fun z => hk _ _ _ (q.2 z) H locs lsA hP hS hL)
  | if_icmp cc o =>
    simp only [stp] at h
    obtain ⟨x, y, r, rfl, h⟩ := p2_g h
    simp only [ckI, Bool.and_eq_true, decide_eq_true_eq, beq_iff_eq] at hC
    obtain ⟨h1, hn⟩ := hC; subst hn
    cases cc with
    | eq => have q := cEq_u h; exact lv_icmp_eq hx hb (ckD_of hD rfl rfl) h1 (fun z => q.1 z H locs lsA hP hS hL) (fun z => hk _ _ _ (q.2 z) H locs lsA hP hS hL)
    | ne => have q := cEq_u h; exact lv_icmp_ne hx hb (ckD_of hD rfl rfl) h1 (fun z => q.2 z H locs lsA hP hS hL) (fun z => hk _ _ _ (q.1 z) H locs lsA hP hS hL)
    | lt => have q := cLt_u h; exact lv_icmp_lt hx hb (ckD_of hD rfl rfl) h1 (fun z => q.1 z H locs lsA hP hS hL) (fun z => hk _ _ _ (q.2 z) H locs lsA hP hS hL)
    | ge => have q := cLt_v h; exact lv_icmp_ge hx hb (ckD_of hD rfl rfl) h1 (fun z => q.1 z H locs lsA hP hS hL) (fun z => hk _ _ _ (q.2 z) H locs lsA hP hS hL)
    | gt => have q := cLt_u h; exact lv_icmp_gt hx hb (ckD_of hD rfl rfl) h1 (fun z => q.1 z H locs lsA hP hS hL) (fun z => hk _ _ _ (q.2 z) H locs lsA hP hS hL)
    | le => have q := cLt_v h; exact lv_icmp_le hx hb (ckD_of hD rfl rfl) h1 (fun z => q.1 z H locs lsA hP hS hL) (fun z => hk _ _ _ (q.2 z) H locs lsA hP hS hL)
  | tableswitch dd lo hi offs =>
    simp only [stp] at h
    obtain ⟨x, r, rfl, hr, h2, h3⟩ := p1_g h
    simp only [ckI, Bool.and_eq_true, decide_eq_true_eq] at hC
    obtain ⟨⟨c1, c2⟩, c3⟩ := hC
    obtain ⟨len, hd⟩ := ckD_sw hD
    have hxi := inR_toInt hr
    by_cases hout : x < lo ∨ hi < x
    · exact lv_tableOut hx hb hd (by rw [hxi]; exact hout) (tgt := ((pc : Int) + dd).toNat) (by omega) (h3 hout H locs lsA hP hS hL)
    · have hi1 : (x - lo).toNat < offs.size := by omega
      obtain ⟨o, ho⟩ : ∃ o, offs[(x - lo).toNat]? = some o := ⟨_, Array.getElem?_eq_getElem hi1⟩
      have hol : offs.toList[(x - lo).toNat]? = some o := by rw [Array.getElem?_toList]; exact ho
      have c2' : 0 ≤ (pc : Int) + o := of_decide_eq_true (List.all_eq_true.mp c2 o (List.mem_of_getElem? hol))
      exact lv_tableIn hx hb hd (by rw [hxi]; omega) (by rw [hxi]; omega) (off := o) (by rw [hxi]; exact ho) (tgt := ((pc : Int) + o).toNat) (by omega)
        (swc_g h2 hol (by omega) H locs lsA hP hS hL)
  | getfield n =>
    simp only [stp] at h
    obtain ⟨o, r, rfl, ho, h⟩ := pR_g h
    simp only [ckI, Bool.and_eq_true, decide_eq_true_eq, beq_iff_eq] at hC
    obtain ⟨⟨⟨⟨h1, h2⟩, h3⟩, h4⟩, hn⟩ := hC; subst hn
    refine s_getf F' (List.contains_iff_mem.mp h1) h2 h3 h4 (ckD_of hD rfl rfl) ho hP ?_
    rcases c1 with _ | _ | w
    · exact hk _ _ _ h H locs lsA hP hS hL
    · exact hk _ _ _ h H locs lsA hP hS hL
    · have q := hk _ _ _ h.2 H locs lsA hP hS hL
      have e : fldV base σ μ o b (w + 2) = .ref (base + (o + w)) := by simp only [fldV]; rw [if_pos h.1]
      rw [e]
      exact q
  | putfield n =>
    simp only [stp] at h
    split at h
    · rename_i v o r
      obtain ⟨ho, hv, h⟩ := h
      simp only [ckI, Bool.and_eq_true, decide_eq_true_eq, beq_iff_eq] at hC
      obtain ⟨⟨⟨⟨⟨⟨h1, h2⟩, h3⟩, h4⟩, hn⟩, h5⟩, h6⟩ := hC; subst hn
      exact s_putf F' (List.contains_iff_mem.mp h1) h2 h3 h4 h5 h6 hv (ckD_of hD rfl rfl) ho hP hS (fun H1 locs1 q1 q2 => hk _ _ _ h H1 locs1 lsA q1 q2 hL)
    · exact h.elim
  | iaload =>
    simp only [stp] at h
    obtain ⟨o, i, r, rfl, ho, hi0, hi1, h⟩ := pA_g h
    have hn := eq_of_beq (show (np == pc + 1) = true from hC); subst hn
    obtain ⟨g1, g2, g3⟩ := s_alen (base := base) (cA := cA) ho (by decide) μ
    refine va_iald hx hb hKN.1 hP o 0 g1 rfl (in_i hi0 hi1 g2) (ckD_of hD rfl rfl) ?_
    rw [clamp_i hi0 hi1 g2]
    exact hk _ _ _ h H locs lsA hP hS hL
  | caload =>
    simp only [stp] at h
    obtain ⟨o, i, r, rfl, ho, hi0, hi1, h⟩ := pA_g h
    have hn := eq_of_beq (show (np == pc + 1) = true from hC); subst hn
    obtain ⟨g1, g2, g3⟩ := s_alen (base := base) (cA := cA) ho (by decide) μ
    refine va_cald hx hb hKN.1 hP o 1 g1 rfl (in_i hi0 hi1 g2) (ckD_of hD rfl rfl) ?_
    rw [clamp_i hi0 hi1 g2]
    exact hk _ _ _ h H locs lsA hP hS hL
  | baload =>
    simp only [stp] at h
    obtain ⟨o, i, r, rfl, ho, hi0, hi1, h⟩ := pA_g h
    have hn := eq_of_beq (show (np == pc + 1) = true from hC); subst hn
    obtain ⟨g1, g2, g3⟩ := s_alen (base := base) (cA := cA) ho (by decide) μ
    refine va_zald hx hb hKN.1 hP o 2 g1 rfl (in_i hi0 hi1 g2) (ckD_of hD rfl rfl) ?_
    rw [clamp_i hi0 hi1 g2]
    exact hk _ _ _ h H locs lsA hP hS hL
  | aaload =>
    simp only [stp] at h
    obtain ⟨o, i, r, rfl, ho, hi0, hi1, hs, h⟩ := pA_g h
    simp only [ckI, Bool.and_eq_true, beq_iff_eq] at hC
    obtain ⟨h1, hn⟩ := hC; subst hn
    have q := hk _ _ _ h H locs lsA hP hS hL
    have h1 := List.contains_iff_mem.mp h1
    simp only [List.mem_cons, List.not_mem_nil, or_false, Prod.mk.injEq] at h1
    rcases h1 with ⟨rfl, rfl, rfl⟩ | ⟨rfl, rfl, rfl⟩ | ⟨rfl, rfl, rfl⟩
    · obtain ⟨g1, g2, g3⟩ := s_alen (base := base) (cA := cA) ho (by decide) μ
      refine va_aldq hx hb hKN.1 hP o 3 g1 rfl (in_i hi0 hi1 g2) (ckD_of hD rfl rfl) ?_
      rw [clamp_i hi0 hi1 g2]; unfold ptrs; rw [if_pos hs]; exact q
    · obtain ⟨g1, g2, g3⟩ := s_alen (base := base) (cA := cA) ho (by decide) μ
      refine va_aldq hx hb hKN.1 hP o 4 g1 rfl (in_i hi0 hi1 g2) (ckD_of hD rfl rfl) ?_
      rw [clamp_i hi0 hi1 g2]; unfold ptrs; rw [if_pos hs]; exact q
    · obtain ⟨g1, g2, g3⟩ := s_alen (base := base) (cA := cA) ho (by decide) μ
      refine va_aldq hx hb hKN.1 hP o 4 g1 rfl (in_i hi0 hi1 g2) (ckD_of hD rfl rfl) ?_
      rw [clamp_i hi0 hi1 g2]; unfold ptrs; rw [if_pos hs]; exact q
  | iastore =>
    simp only [stp] at h
    obtain ⟨o, i, v, r, rfl, ho, hi0, hi1, h⟩ := pAS_g h
    have hn := eq_of_beq (show (np == pc + 1) = true from hC); subst hn
    obtain ⟨g1, g2, g3⟩ := s_alen (base := base) (cA := cA) ho (by decide) μ
    obtain ⟨-, -, g4⟩ := s_alen (base := base) (cA := cA) ho (by decide) (ms μ o i.toNat v)
    refine va_iast hx hb hKN.1 hP wl_D hS o 0 g1 rfl (in_i hi0 hi1 g2) (ckD_of hD rfl rfl) (fun H1 locs1 q1 q2 q3 => ?_)
    rw [upd_ms hi0 hi1 g2, wl_set (by rw [g4]; rfl) ms_ne] at q1
    exact hk _ _ _ h H1 locs1 lsA q1 q3 hL
  | castore =>
    simp only [stp] at h
    obtain ⟨o, i, v, r, rfl, ho, hi0, hi1, hv, h⟩ := pAS_g h
    have hn := eq_of_beq (show (np == pc + 1) = true from hC); subst hn
    obtain ⟨g1, g2, g3⟩ := s_alen (base := base) (cA := cA) ho (by decide) μ
    obtain ⟨-, -, g4⟩ := s_alen (base := base) (cA := cA) ho (by decide) (ms μ o i.toNat v)
    refine va_cast hx hb hKN.1 hP wl_D hS o 1 g1 rfl (in_i hi0 hi1 g2) (ckD_of hD rfl rfl) (fun H1 locs1 q1 q2 q3 => ?_)
    rw [nar_c hv, upd_ms hi0 hi1 g2, wl_set (by rw [g4]; rfl) ms_ne] at q1
    exact hk _ _ _ h H1 locs1 lsA q1 q3 hL
  | bastore =>
    simp only [stp] at h
    obtain ⟨o, i, v, r, rfl, ho, hi0, hi1, hv, h⟩ := pAS_g h
    have hn := eq_of_beq (show (np == pc + 1) = true from hC); subst hn
    obtain ⟨g1, g2, g3⟩ := s_alen (base := base) (cA := cA) ho (by decide) μ
    obtain ⟨-, -, g4⟩ := s_alen (base := base) (cA := cA) ho (by decide) (ms μ o i.toNat v)
    refine va_zast hx hb hKN.1 hP wl_D hS o 2 g1 rfl (in_i hi0 hi1 g2) (ckD_of hD rfl rfl) (fun H1 locs1 q1 q2 q3 => ?_)
    rw [nar_z hv, upd_ms hi0 hi1 g2, wl_set (by rw [g4]; rfl) ms_ne] at q1
    exact hk _ _ _ h H1 locs1 lsA q1 q3 hL
  | ireturn =>
    simp only [stp] at h
    obtain ⟨x, r, rfl, rfl, hx1, h⟩ := p1_g h
    simp only [ckI] at hC
    refine (hret μ H locs lsA pc hP hS).2.2 x (ckD_of hD rfl rfl) ?_ h
    by_cases h0 : a = 0
    · rw [if_pos h0] at hC
      exact Or.inl (of_decide_eq_true hC)
    · by_cases h1 : a = 1
      · rw [if_neg h0, if_pos h1] at hC
        rw [if_pos h1] at hx1
        exact Or.inr (Or.inl ⟨of_decide_eq_true hC, hx1⟩)
      · rw [if_neg h0, if_neg h1] at hC
        simp only [Bool.and_eq_true, decide_eq_true_eq] at hC
        rw [if_neg h1, if_pos hC.1] at hx1
        exact Or.inr (Or.inr ⟨hC.2, hx1⟩)
  | return_ =>
    simp only [stp] at h
    obtain ⟨rfl, h⟩ := h
    simp only [ckI, decide_eq_true_eq] at hC
    exact (hret μ H locs lsA pc hP hS).1 (ckD_of hD rfl rfl) hC h
  | areturn =>
    simp only [stp] at h
    obtain ⟨x, r, h0, h1, hq⟩ := pR_g h
    subst h1; subst h0
    simp only [ckI, decide_eq_true_eq] at hC
    exact (hret μ H locs lsA pc hP hS).2.1 x (ckD_of hD rfl rfl) hC hq
  | invokevirtual n =>
    simp only [stp] at h
    obtain ⟨vs, r, h0, hvl, h4, hrc, hq⟩ := tk_g h
    subst h0
    simp only [ckI, Bool.and_eq_true, beq_iff_eq] at hC
    obtain ⟨⟨⟨⟨⟨h1, h2⟩, h3⟩, h5⟩, h6⟩, hn⟩ := hC
    subst h5; subst h6
    rcases vs with _ | ⟨v0, As⟩
    · exact (hrc : False).elim
    · rcases v0 with x0 | x0 | kk
      · exact (hrc : False).elim
      · exact (hrc : False).elim
      · have q := s_callV (As := As) (rs := r) F' hM hPP2 (List.contains_iff_mem.mp h1) h2 (by rw [← h3, ← hvl]; rfl) (ckD_of hD rfl rfl) h4 hrc hq hP hS hL
        have e : List.map (tr base) ((Sum.inr (Sum.inr kk) :: As).reverse ++ r) = ((As.map (tr base)).reverse) ++ .ref (base + kk) :: r.map (tr base) := by
          simp [tr]
        rw [e]
        exact q
  | invokestatic n =>
    simp only [stp] at h
    simp only [ckI, Bool.and_eq_true, beq_iff_eq] at hC
    obtain ⟨hC, hn⟩ := hC; subst hn
    have hMi : (Cond.initialized "java/lang/Math").before args s = true := hts _ (in_gW_ws (in_gNa2 _ (List.mem_of_getElem? (i := 3) rfl)))
    split at h
    · obtain ⟨x, y, r, rfl, ⟨h4, h1⟩, h2, h⟩ := p2_g h
      refine va_mmin hx hb hsz hown (hts _ (in_gW_ws (in_gNat _ (List.mem_map.mpr ⟨_, List.contains_iff_mem.mp hC, rfl⟩)))) (hts _ (in_gW_ws (in_gNa2 _ (List.mem_of_getElem? (i := 0) rfl)))) hMi (hts _ (in_gW_ws (in_gNa2 _ (List.mem_of_getElem? (i := 4) rfl)))) (by omega) (by have := len4_cat (base := base) h4; omega) hcl hsl (ckD_of hD rfl rfl) ?_
      rw [min_i h1 h2]
      exact hk _ _ _ h H locs lsA hP hS hL
    · obtain ⟨x, y, r, rfl, ⟨h4, h1⟩, h2, h⟩ := p2_g h
      refine va_mmax hx hb hsz hown (hts _ (in_gW_ws (in_gNat _ (List.mem_map.mpr ⟨_, List.contains_iff_mem.mp hC, rfl⟩)))) (hts _ (in_gW_ws (in_gNa2 _ (List.mem_of_getElem? (i := 1) rfl)))) hMi (hts _ (in_gW_ws (in_gNa2 _ (List.mem_of_getElem? (i := 5) rfl)))) (by omega) (by have := len4_cat (base := base) h4; omega) hcl hsl (ckD_of hD rfl rfl) ?_
      rw [max_i h1 h2]
      exact hk _ _ _ h H locs lsA hP hS hL
    · obtain ⟨x, r, rfl, ⟨h4, h1⟩, h⟩ := p1_g h
      refine va_mabs hx hb hsz hown (hts _ (in_gW_ws (in_gNat _ (List.mem_map.mpr ⟨_, List.contains_iff_mem.mp hC, rfl⟩)))) (hts _ (in_gW_ws (in_gNa2 _ (List.mem_of_getElem? (i := 2) rfl)))) hMi (hts _ (in_gW_ws (in_gNa2 _ (List.mem_of_getElem? (i := 6) rfl)))) (by omega) (by have := len4_cat (base := base) h4; omega) hcl hsl (ckD_of hD rfl rfl) ?_
      rw [abs_i h1]
      exact hk _ _ _ h H locs lsA hP hS hL
    · obtain ⟨k0, sp, k1, dp, nn, r, rfl, ⟨h4, ho0, ho1⟩, ⟨hs0, hd0, hn0⟩, ⟨hs1, hd1⟩, h⟩ := pC_g h
      obtain ⟨g1, g2, g3⟩ := s_alen (base := base) (cA := cA) ho0 (by decide) μ
      obtain ⟨j1, j2, j3⟩ := s_alen (base := base) (cA := cA) ho1 (by decide) μ
      obtain ⟨-, -, g4⟩ := s_alen (base := base) (cA := cA) ho1 (by decide) (mcp μ k0 sp.toNat k1 dp.toNat nn.toNat)
      have rs : inR sp := ⟨by omega, by omega⟩
      have rd : inR dp := ⟨by omega, by omega⟩
      have rn : inR nn := ⟨by omega, by omega⟩
      have z0 : inR 0 := ⟨by decide, by decide⟩
      have cs : (Int32.ofInt sp).toNatClampNeg = sp.toNat := by show (Int32.ofInt sp).toInt.toNat = _; rw [inR_toInt rs]
      have cd : (Int32.ofInt dp).toNatClampNeg = dp.toNat := by show (Int32.ofInt dp).toInt.toNat = _; rw [inR_toInt rd]
      have cn : (Int32.ofInt nn).toNatClampNeg = nn.toNat := by show (Int32.ofInt nn).toInt.toNat = _; rw [inR_toInt rn]
      have neg : ∀ {x : Int}, inR x → 0 ≤ x → ¬ Int32.ofInt x < 0 := fun {x} hr h0 q => by
        rw [← i32_zero, i32_lt hr z0] at q; omega
      refine va_copyi hx hb hsz hown (hts _ (in_gW_ws (in_gNat _ (List.mem_map.mpr ⟨_, List.contains_iff_mem.mp hC, rfl⟩)))) (hts _ (in_gW_ws (in_gNa2 _ (List.mem_of_getElem? (i := 7) rfl)))) (hts _ (in_gW_ws (in_gNa2 _ (List.mem_of_getElem? (i := 8) rfl)))) (hts _ (in_gW_ws (in_gNa2 _ (List.mem_of_getElem? (i := 9) rfl))))
        hKN.1 hP wl_D hS k0 k1 0 0 g1 j1 rfl rfl rfl (neg rs hs0) (neg rd hd0) (neg rn hn0) (by rw [cs, cn]; omega) (by rw [cd, cn]; omega) (fun _ _ => rfl) (by omega) (by
          have := len4_cat (base := base) h4
          have e : nativeFrameWords "java/lang/System" "arraycopy" 5 = 7 := by decide
          rw [e]; omega) (ckD_of hD rfl rfl) (fun H1 locs1 q1 q2 q3 => ?_)
      rw [cs, cd, cn] at q1
      have e : va_cpy (fun j => Int32.ofInt (μ k0 j)) (fun j => Int32.ofInt (μ k1 j)) sp.toNat dp.toNat nn.toNat = fun j => Int32.ofInt (mcp μ k0 sp.toNat k1 dp.toNat nn.toNat k1 j) := by
        funext j
        unfold va_cpy mcp
        by_cases hj : dp.toNat ≤ j ∧ j < dp.toNat + nn.toNat
        · rw [if_pos hj, if_pos ⟨rfl, hj⟩]
        · rw [if_neg hj, if_neg (fun q => hj q.2)]
      rw [e, wl_set (by rw [g4]; rfl) mcp_ne] at q1
      exact hk _ _ _ h H1 locs1 lsA q1 q3 hL
    · obtain ⟨vs, r, rfl, hvl, h4, h⟩ := tk_g h
      rw [List.map_append, List.map_reverse]
      split at hC
      · exact absurd rfl (by assumption)
      · exact absurd rfl (by assumption)
      · exact absurd rfl (by assumption)
      · exact absurd rfl (by assumption)
      · simp only [Bool.and_eq_true, beq_iff_eq] at hC
        obtain ⟨⟨⟨h1, h2⟩, h3⟩, h5⟩ := hC
        exact s_callS (As := vs) (rs := r) F' hM hPP2 (Or.inl (List.contains_iff_mem.mp h1)) h2 (by rw [← h3, ← hvl]) (ckD_of hD rfl rfl) h4 (by rw [h5]; exact h) hP hS hL
      · simp only [Bool.and_eq_true, beq_iff_eq] at hC
        obtain ⟨⟨⟨h1, h2⟩, h3⟩, h5⟩ := hC
        exact s_callS (As := vs) (rs := r) F' hM hPP2 (Or.inr (List.contains_iff_mem.mp h1)) h2 (by rw [← h3, ← hvl]) (ckD_of hD rfl rfl) h4 (by rw [h5]; exact h) hP hS hL
      · cases hC
  | _ => exact (h : False).elim
end SN3
end
section
section SN4
variable {p : Program} {l : Launch} {e : Env} {R : Room} {s : State} {m : MethodId} {args : Array Value} {below : List Frame} {meth : Method} {c : Code} {cells slots : Nat} {Qf : State → Prop} {D : va_G} {base : Nat} {cA : Nat → ClassId} {σ : Sg} {nL mi d : Nat}
theorem seg_s (F : Fx p s m args c cells slots R D base cA nL mi d) (hM : MetOk l D base cA σ d) {Q : QT} (hret : Rets p l e R s m args below meth c cells slots Qf D base cA σ mi Q)
    {PP : PT} (hPP : PP = PS p l e R s m args below meth c cells slots Qf D base cA σ nL) {nx : Nat} : ∀ {L : List Ent}, ckL mi L nx = true → ∀ {ls : Ls} {st : List MV} {μ : Mem}, seg σ PP (Call σ d) Q L nx ls st μ → PP (hpc L nx) ls st μ
  | [], _, _, _, _, h => h
  | (pc, i, a, b, c1, e1) :: r, hc, _, _, _, h => by
    simp only [ckL, Bool.and_eq_true] at hc
    exact stp_s F hM hret hPP hc.1.1 hc.1.2 (fun _ _ _ h => seg_s F hM hret hPP hc.2 h) h
theorem wp_s (F : Fx p s m args c cells slots R D base cA nL mi d) (hM : MetOk l D base cA σ d) {Q : QT} (hret : Rets p l e R s m args below meth c cells slots Qf D base cA σ mi Q) (hmi : mi < 166)
    {pc : Nat} {ls : Ls} {st : List MV} {μ : Mem} (h : wp σ (Call σ d) mi Q pc ls st μ) : PS p l e R s m args below meth c cells slots Qf D base cA σ nL pc ls st μ := by
  refine h.2 _ (fun pc L nx ls st μ hb hs => ?_)
  unfold blk at hb
  cases hf : (bkOf mi).find? (fun b => b.1 == pc) with
  | none => rw [hf] at hb; cases hb
  | some q =>
    rw [hf] at hb
    have hq := List.mem_of_find?_eq_some hf
    have hp : q.1 = pc := by
      have := List.find?_some hf
      exact eq_of_beq this
    have e : q.2 = (L, nx) := Option.some.inj hb
    have hc := List.all_eq_true.mp (show (bkOf mi).all _ = true from ck_all mi hmi) q hq
    simp only [Bool.and_eq_true, beq_iff_eq, e] at hc
    have := seg_s F hM hret rfl hc.1 hs
    rw [hc.2, hp] at this
    exact this
theorem lg1 {v : Value} (h : v.category = 1) (t : List Value) : lg_sl (v :: t) = .val v :: lg_sl t := by simp [lg_sl, List.flatMap_cons, h]
theorem lg2 {v : Value} (h : v.category = 2) (t : List Value) : lg_sl (v :: t) = .val v :: .second :: lg_sl t := by simp [lg_sl, List.flatMap_cons, h]
theorem argL_sl : ∀ (vs : List MV), (lg_sl (vs.map (tr base))).length = (argL vs).length ∧ ∀ (i : Nat) (v : MV), (argL vs)[i]? = some (some v) → (lg_sl (vs.map (tr base)))[i]? = some (.val (tr base v))
  | [] => ⟨rfl, fun i v h => by simp [argL] at h⟩
  | a :: t => by
    have ih := argL_sl t
    have one : (tr base a).category = 1 → argL (a :: t) = some a :: argL t → (lg_sl ((a :: t).map (tr base))).length = (argL (a :: t)).length ∧ ∀ (i : Nat) (v : MV), (argL (a :: t))[i]? = some (some v) → (lg_sl ((a :: t).map (tr base)))[i]? = some (.val (tr base v)) := by
      intro h1 h2
      rw [h2, List.map_cons, lg1 h1]
      refine ⟨by rw [List.length_cons, List.length_cons, ih.1], fun i v h => ?_⟩
      cases i with
      | zero =>
        have e : a = v := by simpa using h
        rw [e]; rfl
      | succ i => simpa using ih.2 i v (by simpa using h)
    rcases a with x | x | k
    · exact one rfl rfl
    · have h2 : argL (Sum.inr (Sum.inl x) :: t) = some (Sum.inr (Sum.inl x)) :: none :: argL t := rfl
      rw [h2, List.map_cons, lg2 (v := tr base (Sum.inr (Sum.inl x))) rfl]
      refine ⟨by rw [List.length_cons, List.length_cons, List.length_cons, List.length_cons, ih.1], fun i v h => ?_⟩
      match i, h with
      | 0, h =>
        have e : Sum.inr (Sum.inl x) = v := by simpa using h
        rw [← e]; rfl
      | 1, h => simp at h
      | i + 2, h => simpa using ih.2 i v (by simpa using h)
    · exact one rfl rfl
theorem met_ok (l : Launch) (D : va_G) (base : Nat) (cA : Nat → ClassId) (σ : Sg) : ∀ d : Nat, MetOk l D base cA σ d
  | 0, _, _, _, _, _, h => h.elim
  | d + 1, mi, vs, μ, Q, hmi, h => by
    have hM := met_ok l D base cA σ d
    obtain ⟨h1, h2, h3⟩ := h
    obtain ⟨f1, f2, f3, f4, f5, f6, f7, f8, f9, f10, f11⟩ := meth_f hmi
    refine Met.ofW (cc := bM mi) (maxL := lM mi) (ret := rM mi) f2 rfl ?_
    intro p e s m args below meth c s₁ B hml hv
    obtain ⟨rfl, hP, hKN⟩ := hv
    have hx := B.exec
    have hb := B.bytes
    have hr := B.returns
    have hts := atoms_spec (ws := wsM mi) B.pre
    have hown : s.vm.findClass (RX (oM mi)) = some m.cls := by rw [← f1]; exact findClass_of_methodNamed B.named
    have hlocks := B.notSynchronized
    have F : Fx p s m (vs.map (tr base)).toArray c 0 0 (headSpec (wsM mi) (rmD (d + 1))).room D base cA (lM mi) mi d := ⟨hx, hb, hml, hown, hts, hKN, Nat.le_refl _, Nat.le_refl _, Nat.le_refl _, Nat.le_refl _⟩
    have hret : Rets p l e (headSpec (wsM mi) (rmD (d + 1))).room s m (vs.map (tr base)).toArray below meth c 0 0 (MQ below (QcM D base cA σ mi Q) (vs.map (tr base)).toArray s 0 0 (AA base)) D base cA σ mi Q := by
      intro ν H locs lsA pc hP2 hS
      refine ⟨fun hd hn hq => ?_, fun x hd hn hq => ?_, fun x hd hn hq => ?_⟩
      · have hk : kM mi = 0 := by
          rcases (show kM mi = 0 ∨ kM mi = 1 ∨ kM mi = 2 by omega) with h0 | h0 | h0
          · exact h0
          · rcases f10 h0 with q | q | q <;> rw [hn] at q <;> cases q
          · have := f11 h0; rw [hn] at this; cases this
        refine W.vret hx hb (hr.trans hn) (fun t ht hW => ?_) hS.2.2 hd
        unfold QcM
        rw [if_pos hk]
        exact ⟨⟨ν, rfl, hq, by unfold WdH; rw [ht]; exact hP2, hKN.warm hW⟩, hS.F ht⟩
      · have hk : kM mi = 2 := by
          rcases (show kM mi = 0 ∨ kM mi = 1 ∨ kM mi = 2 by omega) with h0 | h0 | h0
          · have := f9 h0; rw [hn] at this; cases this
          · rcases f10 h0 with q | q | q <;> rw [hn] at q <;> cases q
          · exact h0
        refine W.aret hx hb (hr.trans hn) (Or.inl ⟨_, rfl⟩) (Or.inr ⟨_, rfl⟩) (fun t ht hW => ?_) hS.2.2 hd
        unfold QcM
        rw [if_neg (by omega), if_neg (by omega)]
        exact ⟨⟨(x, ν), base + x, rfl, hq, rfl, by unfold WdH; rw [ht]; exact hP2, hKN.warm hW⟩, hS.F ht⟩
      · have hk : kM mi = 1 := by
          rcases (show kM mi = 0 ∨ kM mi = 1 ∨ kM mi = 2 by omega) with h0 | h0 | h0
          · have := f9 h0
            rcases hn with q | ⟨q, -⟩ | ⟨q, -⟩ <;> rw [this] at q <;> cases q
          · exact h0
          · have := f11 h0
            rcases hn with q | ⟨q, -⟩ | ⟨q, -⟩ <;> rw [this] at q <;> cases q
        have fin : ∀ t : State, t.heap = H → s.WarmedH t.vm → QcM D base cA σ mi Q (vs.map (tr base)).toArray s (.returned (some (.int (Int32.ofInt x)))) t := by
          intro t ht hW
          unfold QcM
          rw [if_neg (by omega), if_pos hk]
          exact ⟨⟨Int32.ofInt x, (x, ν), rfl, ⟨rfl, hq⟩, by unfold WdH; rw [ht]; exact hP2, hKN.warm hW⟩, hS.F ht⟩
        rcases hn with hn | ⟨hn, h0⟩ | ⟨hn, h0⟩
        · exact W.iret hx hb (hr.trans hn) fin hS.2.2 hd
        · exact W.zret hx hb (hr.trans hn) (by rcases h0 with rfl | rfl <;> rfl) fin hS.2.2 hd
        · refine W.zret hx hb (hr.trans hn) ?_ fin hS.2.2 hd
          obtain ⟨n, rfl⟩ : ∃ n : Nat, x = (n : Int) := ⟨x.toNat, by omega⟩
          have hn2 : n < 65536 := by omega
          have e : Int32.ofInt (n : Int) = nI n := by unfold nI; exact (Int32.ofInt_eq_ofNat).symm ▸ rfl
          rw [e]
          exact (pk_charN hn2).1
    have hle := lv_entry (vs.map (tr base)) (n := lM mi) (by rw [(argL_sl (base := base) vs).1]; exact h2)
    rw [lg_entry_eq]
    refine wp_s F hM hret hmi h3 s.heap [] _ hP va_S.rf ⟨hle.1, hle.2.1, ?_, fun i v hi => ?_⟩
    · unfold iniL
      rw [List.length_append, List.length_replicate]
      omega
    · unfold iniL at hi
      have hlt : i < (argL vs).length := by
        rcases Nat.lt_or_ge i (argL vs).length with q | q
        · exact q
        · rw [List.getElem?_append_right q] at hi
          rw [List.getElem?_replicate] at hi
          split at hi
          · cases hi
          · cases hi
      rw [List.getElem?_append_left hlt] at hi
      have q := (argL_sl (base := base) vs).2 i v hi
      show ((lg_sl (vs.map (tr base))) ++ _).toArray[i]? = _
      rw [List.getElem?_toArray, List.getElem?_append_left (by rw [(argL_sl (base := base) vs).1]; exact hlt)]
      exact q
end SN4
end
section
-- Cho.begin
theorem e_1 {σ : Sg} {d : Nat} {Q : QT} {μ : Mem} {a0 : Nat} {a1 : Int} {a2 : Int} (h : wp σ (Call σ d) 1 Q 0 [some (.inr (.inr a0)), some (.inl a1), some (.inl a2)] [] μ) : Call σ (d + 1) 1 [.inr (.inr a0), .inl a1, .inl a2] μ Q := Call_go rfl (Nat.le_of_ble_eq_true rfl) rfl h
-- Cho.choose
theorem e_2 {σ : Sg} {d : Nat} {Q : QT} {μ : Mem} {a0 : Nat} {a1 : Nat} {a2 : Int} (h : wp σ (Call σ d) 2 Q 0 [some (.inr (.inr a0)), some (.inr (.inr a1)), some (.inl a2), none, none, none] [] μ) : Call σ (d + 1) 2 [.inr (.inr a0), .inr (.inr a1), .inl a2] μ Q := Call_go rfl (Nat.le_of_ble_eq_true rfl) rfl h
-- Cho.isFor
theorem e_3 {σ : Sg} {d : Nat} {Q : QT} {μ : Mem} {a0 : Nat} {a1 : Nat} {a2 : Int} (h : wp σ (Call σ d) 3 Q 0 [some (.inr (.inr a0)), some (.inr (.inr a1)), some (.inl a2), none, none] [] μ) : Call σ (d + 1) 3 [.inr (.inr a0), .inr (.inr a1), .inl a2] μ Q := Call_go rfl (Nat.le_of_ble_eq_true rfl) rfl h
-- Hea.breakTime
theorem e_5 {σ : Sg} {d : Nat} {Q : QT} {μ : Mem} {a0 : Nat} {a1 : Int} (h : wp σ (Call σ d) 5 Q 0 [some (.inr (.inr a0)), some (.inl a1), none, none] [] μ) : Call σ (d + 1) 5 [.inr (.inr a0), .inl a1] μ Q := Call_go rfl (Nat.le_of_ble_eq_true rfl) rfl h
-- Hea.sentenceTime
theorem e_6 {σ : Sg} {d : Nat} {Q : QT} {μ : Mem} {a0 : Nat} {a1 : Int} (h : wp σ (Call σ d) 6 Q 0 [some (.inr (.inr a0)), some (.inl a1)] [] μ) : Call σ (d + 1) 6 [.inr (.inr a0), .inl a1] μ Q := Call_go rfl (Nat.le_of_ble_eq_true rfl) rfl h
-- Hea.total
theorem e_7 {σ : Sg} {d : Nat} {Q : QT} {μ : Mem} {a0 : Nat} (h : wp σ (Call σ d) 7 Q 0 [some (.inr (.inr a0))] [] μ) : Call σ (d + 1) 7 [.inr (.inr a0)] μ Q := Call_go rfl (Nat.le_of_ble_eq_true rfl) rfl h
-- Hea.noticeSeconds
theorem e_8 {σ : Sg} {d : Nat} {Q : QT} {μ : Mem} {a0 : Nat} (h : wp σ (Call σ d) 8 Q 0 [some (.inr (.inr a0))] [] μ) : Call σ (d + 1) 8 [.inr (.inr a0)] μ Q := Call_go rfl (Nat.le_of_ble_eq_true rfl) rfl h
-- Hea.countNotices
theorem e_9 {σ : Sg} {d : Nat} {Q : QT} {μ : Mem} {a0 : Nat} (h : wp σ (Call σ d) 9 Q 0 [some (.inr (.inr a0)), none, none] [] μ) : Call σ (d + 1) 9 [.inr (.inr a0)] μ Q := Call_go rfl (Nat.le_of_ble_eq_true rfl) rfl h
-- Hea.placeHeardAt
theorem e_10 {σ : Sg} {d : Nat} {Q : QT} {μ : Mem} {a0 : Nat} {a1 : Int} (h : wp σ (Call σ d) 10 Q 0 [some (.inr (.inr a0)), some (.inl a1), none, none] [] μ) : Call σ (d + 1) 10 [.inr (.inr a0), .inl a1] μ Q := Call_go rfl (Nat.le_of_ble_eq_true rfl) rfl h
-- Hea.copyFrom
theorem e_11 {σ : Sg} {d : Nat} {Q : QT} {μ : Mem} {a0 : Nat} {a1 : Nat} (h : wp σ (Call σ d) 11 Q 0 [some (.inr (.inr a0)), some (.inr (.inr a1))] [] μ) : Call σ (d + 1) 11 [.inr (.inr a0), .inr (.inr a1)] μ Q := Call_go rfl (Nat.le_of_ble_eq_true rfl) rfl h
-- Hea.isLike
theorem e_12 {σ : Sg} {d : Nat} {Q : QT} {μ : Mem} {a0 : Nat} {a1 : Nat} (h : wp σ (Call σ d) 12 Q 0 [some (.inr (.inr a0)), some (.inr (.inr a1)), none] [] μ) : Call σ (d + 1) 12 [.inr (.inr a0), .inr (.inr a1)] μ Q := Call_go rfl (Nat.le_of_ble_eq_true rfl) rfl h
-- His.keep
theorem e_14 {σ : Sg} {d : Nat} {Q : QT} {μ : Mem} {a0 : Nat} {a1 : Nat} (h : wp σ (Call σ d) 14 Q 0 [some (.inr (.inr a0)), some (.inr (.inr a1))] [] μ) : Call σ (d + 1) 14 [.inr (.inr a0), .inr (.inr a1)] μ Q := Call_go rfl (Nat.le_of_ble_eq_true rfl) rfl h
-- His.takeBack
theorem e_15 {σ : Sg} {d : Nat} {Q : QT} {μ : Mem} {a0 : Nat} {a1 : Nat} (h : wp σ (Call σ d) 15 Q 0 [some (.inr (.inr a0)), some (.inr (.inr a1))] [] μ) : Call σ (d + 1) 15 [.inr (.inr a0), .inr (.inr a1)] μ Q := Call_go rfl (Nat.le_of_ble_eq_true rfl) rfl h
-- Pad.isNotice
theorem e_17 {σ : Sg} {d : Nat} {Q : QT} {μ : Mem} {a0 : Int} (h : wp σ (Call σ d) 17 Q 0 [some (.inl a0)] [] μ) : Call σ (d + 1) 17 [.inl a0] μ Q := Call_go rfl (Nat.le_of_ble_eq_true rfl) rfl h
-- Pad.countCharacters
theorem e_18 {σ : Sg} {d : Nat} {Q : QT} {μ : Mem} {a0 : Int64} (h : wp σ (Call σ d) 18 Q 0 [some (.inr (.inl a0)), none, none, none] [] μ) : Call σ (d + 1) 18 [.inr (.inl a0)] μ Q := Call_go rfl (Nat.le_of_ble_eq_true rfl) rfl h
-- Pad.characterAt
theorem e_19 {σ : Sg} {d : Nat} {Q : QT} {μ : Mem} {a0 : Int64} {a1 : Int} (h : wp σ (Call σ d) 19 Q 0 [some (.inr (.inl a0)), none, some (.inl a1)] [] μ) : Call σ (d + 1) 19 [.inr (.inl a0), .inl a1] μ Q := Call_go rfl (Nat.le_of_ble_eq_true rfl) rfl h
-- Pad.append
theorem e_20 {σ : Sg} {d : Nat} {Q : QT} {μ : Mem} {a0 : Nat} {a1 : Int64} {a2 : Int} (h : wp σ (Call σ d) 20 Q 0 [some (.inr (.inr a0)), some (.inr (.inl a1)), none, some (.inl a2), none] [] μ) : Call σ (d + 1) 20 [.inr (.inr a0), .inr (.inl a1), .inl a2] μ Q := Call_go rfl (Nat.le_of_ble_eq_true rfl) rfl h
-- Pad.findFault
theorem e_21 {σ : Sg} {d : Nat} {Q : QT} {μ : Mem} {a0 : Nat} (h : wp σ (Call σ d) 21 Q 0 [some (.inr (.inr a0)), none, none, none, none, none] [] μ) : Call σ (d + 1) 21 [.inr (.inr a0)] μ Q := Call_go rfl (Nat.le_of_ble_eq_true rfl) rfl h
-- Pad.countRows
theorem e_22 {σ : Sg} {d : Nat} {Q : QT} {μ : Mem} {a0 : Nat} (h : wp σ (Call σ d) 22 Q 0 [some (.inr (.inr a0)), none, none] [] μ) : Call σ (d + 1) 22 [.inr (.inr a0)] μ Q := Call_go rfl (Nat.le_of_ble_eq_true rfl) rfl h
-- Pad.highestNotice
theorem e_23 {σ : Sg} {d : Nat} {Q : QT} {μ : Mem} {a0 : Nat} (h : wp σ (Call σ d) 23 Q 0 [some (.inr (.inr a0)), none, none] [] μ) : Call σ (d + 1) 23 [.inr (.inr a0)] μ Q := Call_go rfl (Nat.le_of_ble_eq_true rfl) rfl h
-- Sen.timeOf
theorem e_25 {σ : Sg} {d : Nat} {Q : QT} {μ : Mem} {a0 : Nat} {a1 : Int} (h : wp σ (Call σ d) 25 Q 0 [some (.inr (.inr a0)), some (.inl a1), none, none] [] μ) : Call σ (d + 1) 25 [.inr (.inr a0), .inl a1] μ Q := Call_go rfl (Nat.le_of_ble_eq_true rfl) rfl h
-- Sen.total
theorem e_26 {σ : Sg} {d : Nat} {Q : QT} {μ : Mem} {a0 : Nat} (h : wp σ (Call σ d) 26 Q 0 [some (.inr (.inr a0))] [] μ) : Call σ (d + 1) 26 [.inr (.inr a0)] μ Q := Call_go rfl (Nat.le_of_ble_eq_true rfl) rfl h
-- Sen.placeAtTime
theorem e_27 {σ : Sg} {d : Nat} {Q : QT} {μ : Mem} {a0 : Nat} {a1 : Int} (h : wp σ (Call σ d) 27 Q 0 [some (.inr (.inr a0)), some (.inl a1), none, none] [] μ) : Call σ (d + 1) 27 [.inr (.inr a0), .inl a1] μ Q := Call_go rfl (Nat.le_of_ble_eq_true rfl) rfl h
-- Sen.placeOf
theorem e_28 {σ : Sg} {d : Nat} {Q : QT} {μ : Mem} {a0 : Nat} {a1 : Int} (h : wp σ (Call σ d) 28 Q 0 [some (.inr (.inr a0)), some (.inl a1), none] [] μ) : Call σ (d + 1) 28 [.inr (.inr a0), .inl a1] μ Q := Call_go rfl (Nat.le_of_ble_eq_true rfl) rfl h
-- Sen.chapterOf
theorem e_29 {σ : Sg} {d : Nat} {Q : QT} {μ : Mem} {a0 : Nat} {a1 : Int} (h : wp σ (Call σ d) 29 Q 0 [some (.inr (.inr a0)), some (.inl a1), none, none] [] μ) : Call σ (d + 1) 29 [.inr (.inr a0), .inl a1] μ Q := Call_go rfl (Nat.le_of_ble_eq_true rfl) rfl h
-- Sen.chapters
theorem e_30 {σ : Sg} {d : Nat} {Q : QT} {μ : Mem} {a0 : Nat} (h : wp σ (Call σ d) 30 Q 0 [some (.inr (.inr a0))] [] μ) : Call σ (d + 1) 30 [.inr (.inr a0)] μ Q := Call_go rfl (Nat.le_of_ble_eq_true rfl) rfl h
-- Sen.firstOfChapter
theorem e_31 {σ : Sg} {d : Nat} {Q : QT} {μ : Mem} {a0 : Nat} {a1 : Int} (h : wp σ (Call σ d) 31 Q 0 [some (.inr (.inr a0)), some (.inl a1), none, none] [] μ) : Call σ (d + 1) 31 [.inr (.inr a0), .inl a1] μ Q := Call_go rfl (Nat.le_of_ble_eq_true rfl) rfl h
-- Sen.copyFrom
theorem e_32 {σ : Sg} {d : Nat} {Q : QT} {μ : Mem} {a0 : Nat} {a1 : Nat} (h : wp σ (Call σ d) 32 Q 0 [some (.inr (.inr a0)), some (.inr (.inr a1))] [] μ) : Call σ (d + 1) 32 [.inr (.inr a0), .inr (.inr a1)] μ Q := Call_go rfl (Nat.le_of_ble_eq_true rfl) rfl h
-- Sen.isLike
theorem e_33 {σ : Sg} {d : Nat} {Q : QT} {μ : Mem} {a0 : Nat} {a1 : Nat} (h : wp σ (Call σ d) 33 Q 0 [some (.inr (.inr a0)), some (.inr (.inr a1)), none] [] μ) : Call σ (d + 1) 33 [.inr (.inr a0), .inr (.inr a1)] μ Q := Call_go rfl (Nat.le_of_ble_eq_true rfl) rfl h
-- Sta.hasSentence
theorem e_35 {σ : Sg} {d : Nat} {Q : QT} {μ : Mem} {a0 : Nat} {a1 : Int} (h : wp σ (Call σ d) 35 Q 0 [some (.inr (.inr a0)), some (.inl a1)] [] μ) : Call σ (d + 1) 35 [.inr (.inr a0), .inl a1] μ Q := Call_go rfl (Nat.le_of_ble_eq_true rfl) rfl h
-- Sta.hasNotice
theorem e_36 {σ : Sg} {d : Nat} {Q : QT} {μ : Mem} {a0 : Nat} {a1 : Int} (h : wp σ (Call σ d) 36 Q 0 [some (.inr (.inr a0)), some (.inl a1)] [] μ) : Call σ (d + 1) 36 [.inr (.inr a0), .inl a1] μ Q := Call_go rfl (Nat.le_of_ble_eq_true rfl) rfl h
-- Sta.hasListener
theorem e_37 {σ : Sg} {d : Nat} {Q : QT} {μ : Mem} {a0 : Nat} {a1 : Int} (h : wp σ (Call σ d) 37 Q 0 [some (.inr (.inr a0)), some (.inl a1)] [] μ) : Call σ (d + 1) 37 [.inr (.inr a0), .inl a1] μ Q := Call_go rfl (Nat.le_of_ble_eq_true rfl) rfl h
-- Sta.isRowFull
theorem e_38 {σ : Sg} {d : Nat} {Q : QT} {μ : Mem} {a0 : Nat} {a1 : Int} (h : wp σ (Call σ d) 38 Q 0 [some (.inr (.inr a0)), some (.inl a1)] [] μ) : Call σ (d + 1) 38 [.inr (.inr a0), .inl a1] μ Q := Call_go rfl (Nat.le_of_ble_eq_true rfl) rfl h
-- Sta.inRow
theorem e_39 {σ : Sg} {d : Nat} {Q : QT} {μ : Mem} {a0 : Nat} {a1 : Int} {a2 : Int} (h : wp σ (Call σ d) 39 Q 0 [some (.inr (.inr a0)), some (.inl a1), some (.inl a2)] [] μ) : Call σ (d + 1) 39 [.inr (.inr a0), .inl a1, .inl a2] μ Q := Call_go rfl (Nat.le_of_ble_eq_true rfl) rfl h
-- Sta.appendToRow
theorem e_40 {σ : Sg} {d : Nat} {Q : QT} {μ : Mem} {a0 : Nat} {a1 : Int} {a2 : Int} (h : wp σ (Call σ d) 40 Q 0 [some (.inr (.inr a0)), some (.inl a1), some (.inl a2)] [] μ) : Call σ (d + 1) 40 [.inr (.inr a0), .inl a1, .inl a2] μ Q := Call_go rfl (Nat.le_of_ble_eq_true rfl) rfl h
-- Sta.dropFromRow
theorem e_41 {σ : Sg} {d : Nat} {Q : QT} {μ : Mem} {a0 : Nat} {a1 : Int} (h : wp σ (Call σ d) 41 Q 0 [some (.inr (.inr a0)), some (.inl a1)] [] μ) : Call σ (d + 1) 41 [.inr (.inr a0), .inl a1] μ Q := Call_go rfl (Nat.le_of_ble_eq_true rfl) rfl h
-- Sta.isInRow
theorem e_42 {σ : Sg} {d : Nat} {Q : QT} {μ : Mem} {a0 : Nat} {a1 : Int} {a2 : Int} (h : wp σ (Call σ d) 42 Q 0 [some (.inr (.inr a0)), some (.inl a1), some (.inl a2), none] [] μ) : Call σ (d + 1) 42 [.inr (.inr a0), .inl a1, .inl a2] μ Q := Call_go rfl (Nat.le_of_ble_eq_true rfl) rfl h
-- Sta.countBreaksWith
theorem e_43 {σ : Sg} {d : Nat} {Q : QT} {μ : Mem} {a0 : Nat} {a1 : Int} (h : wp σ (Call σ d) 43 Q 0 [some (.inr (.inr a0)), some (.inl a1), none, none] [] μ) : Call σ (d + 1) 43 [.inr (.inr a0), .inl a1] μ Q := Call_go rfl (Nat.le_of_ble_eq_true rfl) rfl h
-- Sta.insertSentence
theorem e_44 {σ : Sg} {d : Nat} {Q : QT} {μ : Mem} {a0 : Nat} {a1 : Int} {a2 : Int} (h : wp σ (Call σ d) 44 Q 0 [some (.inr (.inr a0)), some (.inl a1), some (.inl a2), none] [] μ) : Call σ (d + 1) 44 [.inr (.inr a0), .inl a1, .inl a2] μ Q := Call_go rfl (Nat.le_of_ble_eq_true rfl) rfl h
-- Sta.removeSentence
theorem e_45 {σ : Sg} {d : Nat} {Q : QT} {μ : Mem} {a0 : Nat} {a1 : Int} (h : wp σ (Call σ d) 45 Q 0 [some (.inr (.inr a0)), some (.inl a1), none] [] μ) : Call σ (d + 1) 45 [.inr (.inr a0), .inl a1] μ Q := Call_go rfl (Nat.le_of_ble_eq_true rfl) rfl h
-- Sta.moveSentence
theorem e_46 {σ : Sg} {d : Nat} {Q : QT} {μ : Mem} {a0 : Nat} {a1 : Int} {a2 : Int} (h : wp σ (Call σ d) 46 Q 0 [some (.inr (.inr a0)), some (.inl a1), some (.inl a2)] [] μ) : Call σ (d + 1) 46 [.inr (.inr a0), .inl a1, .inl a2] μ Q := Call_go rfl (Nat.le_of_ble_eq_true rfl) rfl h
-- Sta.copyFrom
theorem e_47 {σ : Sg} {d : Nat} {Q : QT} {μ : Mem} {a0 : Nat} {a1 : Nat} (h : wp σ (Call σ d) 47 Q 0 [some (.inr (.inr a0)), some (.inr (.inr a1)), none] [] μ) : Call σ (d + 1) 47 [.inr (.inr a0), .inr (.inr a1)] μ Q := Call_go rfl (Nat.le_of_ble_eq_true rfl) rfl h
-- NS.putIn
theorem e_49 {σ : Sg} {d : Nat} {Q : QT} {μ : Mem} {a0 : Nat} {a1 : Int} {a2 : Int} (h : wp σ (Call σ d) 49 Q 0 [some (.inr (.inr a0)), some (.inl a1), some (.inl a2)] [] μ) : Call σ (d + 1) 49 [.inr (.inr a0), .inl a1, .inl a2] μ Q := Call_go rfl (Nat.le_of_ble_eq_true rfl) rfl h
-- NS.cutOut
theorem e_50 {σ : Sg} {d : Nat} {Q : QT} {μ : Mem} {a0 : Nat} {a1 : Int} (h : wp σ (Call σ d) 50 Q 0 [some (.inr (.inr a0)), some (.inl a1), none] [] μ) : Call σ (d + 1) 50 [.inr (.inr a0), .inl a1] μ Q := Call_go rfl (Nat.le_of_ble_eq_true rfl) rfl h
-- NS.change
theorem e_51 {σ : Sg} {d : Nat} {Q : QT} {μ : Mem} {a0 : Nat} {a1 : Int} {a2 : Int} (h : wp σ (Call σ d) 51 Q 0 [some (.inr (.inr a0)), some (.inl a1), some (.inl a2), none] [] μ) : Call σ (d + 1) 51 [.inr (.inr a0), .inl a1, .inl a2] μ Q := Call_go rfl (Nat.le_of_ble_eq_true rfl) rfl h
-- NS.chapter
theorem e_52 {σ : Sg} {d : Nat} {Q : QT} {μ : Mem} {a0 : Nat} {a1 : Int} {a2 : Int} (h : wp σ (Call σ d) 52 Q 0 [some (.inr (.inr a0)), some (.inl a1), some (.inl a2), none] [] μ) : Call σ (d + 1) 52 [.inr (.inr a0), .inl a1, .inl a2] μ Q := Call_go rfl (Nat.le_of_ble_eq_true rfl) rfl h
-- NS.notice
theorem e_53 {σ : Sg} {d : Nat} {Q : QT} {μ : Mem} {a0 : Nat} {a1 : Int} {a2 : Int} (h : wp σ (Call σ d) 53 Q 0 [some (.inr (.inr a0)), some (.inl a1), some (.inl a2), none] [] μ) : Call σ (d + 1) 53 [.inr (.inr a0), .inl a1, .inl a2] μ Q := Call_go rfl (Nat.le_of_ble_eq_true rfl) rfl h
-- NS.book
theorem e_54 {σ : Sg} {d : Nat} {Q : QT} {μ : Mem} {a0 : Nat} {a1 : Int} {a2 : Int} (h : wp σ (Call σ d) 54 Q 0 [some (.inr (.inr a0)), some (.inl a1), some (.inl a2)] [] μ) : Call σ (d + 1) 54 [.inr (.inr a0), .inl a1, .inl a2] μ Q := Call_go rfl (Nat.le_of_ble_eq_true rfl) rfl h
-- NS.empty
theorem e_55 {σ : Sg} {d : Nat} {Q : QT} {μ : Mem} {a0 : Nat} {a1 : Int} (h : wp σ (Call σ d) 55 Q 0 [some (.inr (.inr a0)), some (.inl a1), none] [] μ) : Call σ (d + 1) 55 [.inr (.inr a0), .inl a1] μ Q := Call_go rfl (Nat.le_of_ble_eq_true rfl) rfl h
-- NS.read
theorem e_56 {σ : Sg} {d : Nat} {Q : QT} {μ : Mem} {a0 : Nat} (h : wp σ (Call σ d) 56 Q 0 [some (.inr (.inr a0)), none] [] μ) : Call σ (d + 1) 56 [.inr (.inr a0)] μ Q := Call_go rfl (Nat.le_of_ble_eq_true rfl) rfl h
-- NS.listener
theorem e_57 {σ : Sg} {d : Nat} {Q : QT} {μ : Mem} {a0 : Nat} {a1 : Int} {a2 : Int} (h : wp σ (Call σ d) 57 Q 0 [some (.inr (.inr a0)), some (.inl a1), some (.inl a2), none] [] μ) : Call σ (d + 1) 57 [.inr (.inr a0), .inl a1, .inl a2] μ Q := Call_go rfl (Nat.le_of_ble_eq_true rfl) rfl h
-- NS.load
theorem e_58 {σ : Sg} {d : Nat} {Q : QT} {μ : Mem} {a0 : Nat} {a1 : Int} {a2 : Int} (h : wp σ (Call σ d) 58 Q 0 [some (.inr (.inr a0)), some (.inl a1), some (.inl a2)] [] μ) : Call σ (d + 1) 58 [.inr (.inr a0), .inl a1, .inl a2] μ Q := Call_go rfl (Nat.le_of_ble_eq_true rfl) rfl h
-- NS.sentence
theorem e_59 {σ : Sg} {d : Nat} {Q : QT} {μ : Mem} {a0 : Nat} {a1 : Int} {a2 : Int} (h : wp σ (Call σ d) 59 Q 0 [some (.inr (.inr a0)), some (.inl a1), some (.inl a2)] [] μ) : Call σ (d + 1) 59 [.inr (.inr a0), .inl a1, .inl a2] μ Q := Call_go rfl (Nat.le_of_ble_eq_true rfl) rfl h
-- NS.marked
theorem e_60 {σ : Sg} {d : Nat} {Q : QT} {μ : Mem} {a0 : Nat} {a1 : Int} (h : wp σ (Call σ d) 60 Q 0 [some (.inr (.inr a0)), some (.inl a1)] [] μ) : Call σ (d + 1) 60 [.inr (.inr a0), .inl a1] μ Q := Call_go rfl (Nat.le_of_ble_eq_true rfl) rfl h
-- NS.booked
theorem e_61 {σ : Sg} {d : Nat} {Q : QT} {μ : Mem} {a0 : Nat} {a1 : Int} {a2 : Int} (h : wp σ (Call σ d) 61 Q 0 [some (.inr (.inr a0)), some (.inl a1), some (.inl a2)] [] μ) : Call σ (d + 1) 61 [.inr (.inr a0), .inl a1, .inl a2] μ Q := Call_go rfl (Nat.le_of_ble_eq_true rfl) rfl h
-- NS.ofNotice
theorem e_62 {σ : Sg} {d : Nat} {Q : QT} {μ : Mem} {a0 : Nat} {a1 : Int} {a2 : Int} (h : wp σ (Call σ d) 62 Q 0 [some (.inr (.inr a0)), some (.inl a1), some (.inl a2)] [] μ) : Call σ (d + 1) 62 [.inr (.inr a0), .inl a1, .inl a2] μ Q := Call_go rfl (Nat.le_of_ble_eq_true rfl) rfl h
-- NS.of
theorem e_63 {σ : Sg} {d : Nat} {Q : QT} {μ : Mem} {a0 : Nat} {a1 : Int} {a2 : Int} (h : wp σ (Call σ d) 63 Q 0 [some (.inr (.inr a0)), some (.inl a1), some (.inl a2)] [] μ) : Call σ (d + 1) 63 [.inr (.inr a0), .inl a1, .inl a2] μ Q := Call_go rfl (Nat.le_of_ble_eq_true rfl) rfl h
-- NS.count
theorem e_64 {σ : Sg} {d : Nat} {Q : QT} {μ : Mem} {a0 : Nat} {a1 : Int} (h : wp σ (Call σ d) 64 Q 0 [some (.inr (.inr a0)), some (.inl a1)] [] μ) : Call σ (d + 1) 64 [.inr (.inr a0), .inl a1] μ Q := Call_go rfl (Nat.le_of_ble_eq_true rfl) rfl h
-- NS.heard
theorem e_65 {σ : Sg} {d : Nat} {Q : QT} {μ : Mem} {a0 : Nat} {a1 : Int} {a2 : Int} (h : wp σ (Call σ d) 65 Q 0 [some (.inr (.inr a0)), some (.inl a1), some (.inl a2), none] [] μ) : Call σ (d + 1) 65 [.inr (.inr a0), .inl a1, .inl a2] μ Q := Call_go rfl (Nat.le_of_ble_eq_true rfl) rfl h
-- NS.whenHeard
theorem e_66 {σ : Sg} {d : Nat} {Q : QT} {μ : Mem} {a0 : Nat} {a1 : Int} {a2 : Int} (h : wp σ (Call σ d) 66 Q 0 [some (.inr (.inr a0)), some (.inl a1), some (.inl a2), none, none] [] μ) : Call σ (d + 1) 66 [.inr (.inr a0), .inl a1, .inl a2] μ Q := Call_go rfl (Nat.le_of_ble_eq_true rfl) rfl h
-- NS.heardAt
theorem e_67 {σ : Sg} {d : Nat} {Q : QT} {μ : Mem} {a0 : Nat} {a1 : Int} {a2 : Int} {a3 : Int} (h : wp σ (Call σ d) 67 Q 0 [some (.inr (.inr a0)), some (.inl a1), some (.inl a2), some (.inl a3), none, none, none, none] [] μ) : Call σ (d + 1) 67 [.inr (.inr a0), .inl a1, .inl a2, .inl a3] μ Q := Call_go rfl (Nat.le_of_ble_eq_true rfl) rfl h
-- NS.chapterAt
theorem e_68 {σ : Sg} {d : Nat} {Q : QT} {μ : Mem} {a0 : Nat} {a1 : Int} {a2 : Int} (h : wp σ (Call σ d) 68 Q 0 [some (.inr (.inr a0)), some (.inl a1), some (.inl a2), none] [] μ) : Call σ (d + 1) 68 [.inr (.inr a0), .inl a1, .inl a2] μ Q := Call_go rfl (Nat.le_of_ble_eq_true rfl) rfl h
-- NS.open
theorem e_69 {σ : Sg} {d : Nat} {Q : QT} {μ : Mem} {a0 : Nat} {a1 : Int} {a2 : Int} {a3 : Int} (h : wp σ (Call σ d) 69 Q 0 [some (.inr (.inr a0)), some (.inl a1), some (.inl a2), some (.inl a3), none, none] [] μ) : Call σ (d + 1) 69 [.inr (.inr a0), .inl a1, .inl a2, .inl a3] μ Q := Call_go rfl (Nat.le_of_ble_eq_true rfl) rfl h
-- NS.wrongAt
theorem e_70 {σ : Sg} {d : Nat} {Q : QT} {μ : Mem} {a0 : Nat} {a1 : Int} {a2 : Int} {a3 : Int} (h : wp σ (Call σ d) 70 Q 0 [some (.inr (.inr a0)), some (.inl a1), some (.inl a2), some (.inl a3), none, none] [] μ) : Call σ (d + 1) 70 [.inr (.inr a0), .inl a1, .inl a2, .inl a3] μ Q := Call_go rfl (Nat.le_of_ble_eq_true rfl) rfl h
-- NS.ifBooked
theorem e_71 {σ : Sg} {d : Nat} {Q : QT} {μ : Mem} {a0 : Nat} {a1 : Int} {a2 : Int} (h : wp σ (Call σ d) 71 Q 0 [some (.inr (.inr a0)), some (.inl a1), some (.inl a2), none, none] [] μ) : Call σ (d + 1) 71 [.inr (.inr a0), .inl a1, .inl a2] μ Q := Call_go rfl (Nat.le_of_ble_eq_true rfl) rfl h
-- NS.bestBreak
theorem e_72 {σ : Sg} {d : Nat} {Q : QT} {μ : Mem} {a0 : Nat} {a1 : Int} {a2 : Int} (h : wp σ (Call σ d) 72 Q 0 [some (.inr (.inr a0)), some (.inl a1), some (.inl a2), none, none, none, none] [] μ) : Call σ (d + 1) 72 [.inr (.inr a0), .inl a1, .inl a2] μ Q := Call_go rfl (Nat.le_of_ble_eq_true rfl) rfl h
-- NS.enough
theorem e_73 {σ : Sg} {d : Nat} {Q : QT} {μ : Mem} {a0 : Nat} {a1 : Int} (h : wp σ (Call σ d) 73 Q 0 [some (.inr (.inr a0)), some (.inl a1), none, none, none] [] μ) : Call σ (d + 1) 73 [.inr (.inr a0), .inl a1] μ Q := Call_go rfl (Nat.le_of_ble_eq_true rfl) rfl h
-- NS.put
theorem e_74 {σ : Sg} {d : Nat} {Q : QT} {μ : Mem} {a0 : Nat} {a1 : Int64} (h : wp σ (Call σ d) 74 Q 0 [some (.inr (.inr a0)), some (.inr (.inl a1)), none, none] [] μ) : Call σ (d + 1) 74 [.inr (.inr a0), .inr (.inl a1)] μ Q := Call_go rfl (Nat.le_of_ble_eq_true rfl) rfl h
-- NS.wipe
theorem e_75 {σ : Sg} {d : Nat} {Q : QT} {μ : Mem} {a0 : Nat} (h : wp σ (Call σ d) 75 Q 0 [some (.inr (.inr a0)), none] [] μ) : Call σ (d + 1) 75 [.inr (.inr a0)] μ Q := Call_go rfl (Nat.le_of_ble_eq_true rfl) rfl h
-- NS.fault
theorem e_76 {σ : Sg} {d : Nat} {Q : QT} {μ : Mem} {a0 : Nat} (h : wp σ (Call σ d) 76 Q 0 [some (.inr (.inr a0))] [] μ) : Call σ (d + 1) 76 [.inr (.inr a0)] μ Q := Call_go rfl (Nat.le_of_ble_eq_true rfl) rfl h
-- NS.undo
theorem e_77 {σ : Sg} {d : Nat} {Q : QT} {μ : Mem} {a0 : Nat} (h : wp σ (Call σ d) 77 Q 0 [some (.inr (.inr a0))] [] μ) : Call σ (d + 1) 77 [.inr (.inr a0)] μ Q := Call_go rfl (Nat.le_of_ble_eq_true rfl) rfl h
-- NS.save
theorem e_78 {σ : Sg} {d : Nat} {Q : QT} {μ : Mem} {a0 : Nat} {a1 : Int} (h : wp σ (Call σ d) 78 Q 0 [some (.inr (.inr a0)), some (.inl a1)] [] μ) : Call σ (d + 1) 78 [.inr (.inr a0), .inl a1] μ Q := Call_go rfl (Nat.le_of_ble_eq_true rfl) rfl h
-- NS.restore
theorem e_79 {σ : Sg} {d : Nat} {Q : QT} {μ : Mem} {a0 : Nat} {a1 : Int} (h : wp σ (Call σ d) 79 Q 0 [some (.inr (.inr a0)), some (.inl a1)] [] μ) : Call σ (d + 1) 79 [.inr (.inr a0), .inl a1] μ Q := Call_go rfl (Nat.le_of_ble_eq_true rfl) rfl h
-- NS.isWithin
theorem e_80 {σ : Sg} {d : Nat} {Q : QT} {μ : Mem} {a0 : Int} {a1 : Int} {a2 : Int} (h : wp σ (Call σ d) 80 Q 0 [some (.inl a0), some (.inl a1), some (.inl a2)] [] μ) : Call σ (d + 1) 80 [.inl a0, .inl a1, .inl a2] μ Q := Call_go rfl (Nat.le_of_ble_eq_true rfl) rfl h
-- NS.asNumber
theorem e_81 {σ : Sg} {d : Nat} {Q : QT} {μ : Mem} {a0 : Int} (h : wp σ (Call σ d) 81 Q 0 [some (.inl a0)] [] μ) : Call σ (d + 1) 81 [.inl a0] μ Q := Call_go rfl (Nat.le_of_ble_eq_true rfl) rfl h
-- NS.takeRows
theorem e_82 {σ : Sg} {d : Nat} {Q : QT} {μ : Mem} {a0 : Nat} (h : wp σ (Call σ d) 82 Q 0 [some (.inr (.inr a0)), none, none, none] [] μ) : Call σ (d + 1) 82 [.inr (.inr a0)] μ Q := Call_go rfl (Nat.le_of_ble_eq_true rfl) rfl h
-- NS.hearingOf
theorem e_83 {σ : Sg} {d : Nat} {Q : QT} {μ : Mem} {a0 : Nat} {a1 : Int} (h : wp σ (Call σ d) 83 Q 0 [some (.inr (.inr a0)), some (.inl a1)] [] μ) : Call σ (d + 1) 83 [.inr (.inr a0), .inl a1] μ Q := Call_go rfl (Nat.le_of_ble_eq_true rfl) rfl h
-- NS.hearNow
theorem e_84 {σ : Sg} {d : Nat} {Q : QT} {μ : Mem} {a0 : Nat} {a1 : Int} {a2 : Nat} (h : wp σ (Call σ d) 84 Q 0 [some (.inr (.inr a0)), some (.inl a1), some (.inr (.inr a2)), none, none] [] μ) : Call σ (d + 1) 84 [.inr (.inr a0), .inl a1, .inr (.inr a2)] μ Q := Call_go rfl (Nat.le_of_ble_eq_true rfl) rfl h
-- NS.isOutOfDate
theorem e_85 {σ : Sg} {d : Nat} {Q : QT} {μ : Mem} {a0 : Nat} {a1 : Int} (h : wp σ (Call σ d) 85 Q 0 [some (.inr (.inr a0)), some (.inl a1)] [] μ) : Call σ (d + 1) 85 [.inr (.inr a0), .inl a1] μ Q := Call_go rfl (Nat.le_of_ble_eq_true rfl) rfl h
-- NS.outOfDateListeners
theorem e_86 {σ : Sg} {d : Nat} {Q : QT} {μ : Mem} {a0 : Nat} (h : wp σ (Call σ d) 86 Q 0 [some (.inr (.inr a0)), none, none] [] μ) : Call σ (d + 1) 86 [.inr (.inr a0)] μ Q := Call_go rfl (Nat.le_of_ble_eq_true rfl) rfl h
-- NS.longestListener
theorem e_87 {σ : Sg} {d : Nat} {Q : QT} {μ : Mem} {a0 : Nat} (h : wp σ (Call σ d) 87 Q 0 [some (.inr (.inr a0)), none, none, none, none] [] μ) : Call σ (d + 1) 87 [.inr (.inr a0)] μ Q := Call_go rfl (Nat.le_of_ble_eq_true rfl) rfl h
-- NS.momentNow
theorem e_88 {σ : Sg} {d : Nat} {Q : QT} {μ : Mem} {a0 : Nat} {a1 : Int} {a2 : Int} (h : wp σ (Call σ d) 88 Q 0 [some (.inr (.inr a0)), some (.inl a1), some (.inl a2), none, none, none] [] μ) : Call σ (d + 1) 88 [.inr (.inr a0), .inl a1, .inl a2] μ Q := Call_go rfl (Nat.le_of_ble_eq_true rfl) rfl h
-- NS.chooseAll
theorem e_89 {σ : Sg} {d : Nat} {Q : QT} {μ : Mem} {a0 : Nat} {a1 : Int} {a2 : Int} (h : wp σ (Call σ d) 89 Q 0 [some (.inr (.inr a0)), some (.inl a1), some (.inl a2), none] [] μ) : Call σ (d + 1) 89 [.inr (.inr a0), .inl a1, .inl a2] μ Q := Call_go rfl (Nat.le_of_ble_eq_true rfl) rfl h
-- NS.secondsOfAll
theorem e_90 {σ : Sg} {d : Nat} {Q : QT} {μ : Mem} {a0 : Nat} (h : wp σ (Call σ d) 90 Q 0 [some (.inr (.inr a0)), none, none] [] μ) : Call σ (d + 1) 90 [.inr (.inr a0)] μ Q := Call_go rfl (Nat.le_of_ble_eq_true rfl) rfl h
-- NS.countHearers
theorem e_91 {σ : Sg} {d : Nat} {Q : QT} {μ : Mem} {a0 : Nat} {a1 : Int} (h : wp σ (Call σ d) 91 Q 0 [some (.inr (.inr a0)), some (.inl a1), none, none] [] μ) : Call σ (d + 1) 91 [.inr (.inr a0), .inl a1] μ Q := Call_go rfl (Nat.le_of_ble_eq_true rfl) rfl h
-- NS.hearersIfBooked
theorem e_92 {σ : Sg} {d : Nat} {Q : QT} {μ : Mem} {a0 : Nat} {a1 : Int} {a2 : Int} (h : wp σ (Call σ d) 92 Q 0 [some (.inr (.inr a0)), some (.inl a1), some (.inl a2), none] [] μ) : Call σ (d + 1) 92 [.inr (.inr a0), .inl a1, .inl a2] μ Q := Call_go rfl (Nat.le_of_ble_eq_true rfl) rfl h
-- Mo.in
theorem e_94 {σ : Sg} {d : Nat} {Q : QT} {μ : Mem} {a0 : Int} {a1 : Int} {a2 : Int} (h : wp σ (Call σ d) 94 Q 0 [some (.inl a0), some (.inl a1), some (.inl a2)] [] μ) : Call σ (d + 1) 94 [.inl a0, .inl a1, .inl a2] μ Q := Call_go rfl (Nat.le_of_ble_eq_true rfl) rfl h
-- Mo.isSentence
theorem e_95 {σ : Sg} {d : Nat} {Q : QT} {μ : Mem} {a0 : Nat} {a1 : Int} (h : wp σ (Call σ d) 95 Q 0 [some (.inr (.inr a0)), some (.inl a1)] [] μ) : Call σ (d + 1) 95 [.inr (.inr a0), .inl a1] μ Q := Call_go rfl (Nat.le_of_ble_eq_true rfl) rfl h
-- Mo.isNotice
theorem e_96 {σ : Sg} {d : Nat} {Q : QT} {μ : Mem} {a0 : Nat} {a1 : Int} (h : wp σ (Call σ d) 96 Q 0 [some (.inr (.inr a0)), some (.inl a1)] [] μ) : Call σ (d + 1) 96 [.inr (.inr a0), .inl a1] μ Q := Call_go rfl (Nat.le_of_ble_eq_true rfl) rfl h
-- Mo.isListener
theorem e_97 {σ : Sg} {d : Nat} {Q : QT} {μ : Mem} {a0 : Nat} {a1 : Int} (h : wp σ (Call σ d) 97 Q 0 [some (.inr (.inr a0)), some (.inl a1)] [] μ) : Call σ (d + 1) 97 [.inr (.inr a0), .inl a1] μ Q := Call_go rfl (Nat.le_of_ble_eq_true rfl) rfl h
-- Mo.its
theorem e_98 {σ : Sg} {d : Nat} {Q : QT} {μ : Mem} {a0 : Nat} {a1 : Int} {a2 : Int} (h : wp σ (Call σ d) 98 Q 0 [some (.inr (.inr a0)), some (.inl a1), some (.inl a2)] [] μ) : Call σ (d + 1) 98 [.inr (.inr a0), .inl a1, .inl a2] μ Q := Call_go rfl (Nat.le_of_ble_eq_true rfl) rfl h
-- Mo.inBreak
theorem e_99 {σ : Sg} {d : Nat} {Q : QT} {μ : Mem} {a0 : Nat} {a1 : Int} (h : wp σ (Call σ d) 99 Q 0 [some (.inr (.inr a0)), some (.inl a1)] [] μ) : Call σ (d + 1) 99 [.inr (.inr a0), .inl a1] μ Q := Call_go rfl (Nat.le_of_ble_eq_true rfl) rfl h
-- Mo.inRow
theorem e_100 {σ : Sg} {d : Nat} {Q : QT} {μ : Mem} {a0 : Nat} {a1 : Int} {a2 : Int} (h : wp σ (Call σ d) 100 Q 0 [some (.inr (.inr a0)), some (.inl a1), some (.inl a2)] [] μ) : Call σ (d + 1) 100 [.inr (.inr a0), .inl a1, .inl a2] μ Q := Call_go rfl (Nat.le_of_ble_eq_true rfl) rfl h
-- Mo.lengthOf
theorem e_101 {σ : Sg} {d : Nat} {Q : QT} {μ : Mem} {a0 : Nat} {a1 : Int} (h : wp σ (Call σ d) 101 Q 0 [some (.inr (.inr a0)), some (.inl a1)] [] μ) : Call σ (d + 1) 101 [.inr (.inr a0), .inl a1] μ Q := Call_go rfl (Nat.le_of_ble_eq_true rfl) rfl h
-- Mo.groupsOf
theorem e_102 {σ : Sg} {d : Nat} {Q : QT} {μ : Mem} {a0 : Nat} {a1 : Int} (h : wp σ (Call σ d) 102 Q 0 [some (.inr (.inr a0)), some (.inl a1)] [] μ) : Call σ (d + 1) 102 [.inr (.inr a0), .inl a1] μ Q := Call_go rfl (Nat.le_of_ble_eq_true rfl) rfl h
-- Mo.groupOf
theorem e_103 {σ : Sg} {d : Nat} {Q : QT} {μ : Mem} {a0 : Nat} {a1 : Int} (h : wp σ (Call σ d) 103 Q 0 [some (.inr (.inr a0)), some (.inl a1)] [] μ) : Call σ (d + 1) 103 [.inr (.inr a0), .inl a1] μ Q := Call_go rfl (Nat.le_of_ble_eq_true rfl) rfl h
-- Mo.boundOf
theorem e_104 {σ : Sg} {d : Nat} {Q : QT} {μ : Mem} {a0 : Nat} {a1 : Int} (h : wp σ (Call σ d) 104 Q 0 [some (.inr (.inr a0)), some (.inl a1)] [] μ) : Call σ (d + 1) 104 [.inr (.inr a0), .inl a1] μ Q := Call_go rfl (Nat.le_of_ble_eq_true rfl) rfl h
-- Mo.hasFile
theorem e_105 {σ : Sg} {d : Nat} {Q : QT} {μ : Mem} {a0 : Nat} {a1 : Int} (h : wp σ (Call σ d) 105 Q 0 [some (.inr (.inr a0)), some (.inl a1)] [] μ) : Call σ (d + 1) 105 [.inr (.inr a0), .inl a1] μ Q := Call_go rfl (Nat.le_of_ble_eq_true rfl) rfl h
-- Mo.record
theorem e_106 {σ : Sg} {d : Nat} {Q : QT} {μ : Mem} {a0 : Nat} (h : wp σ (Call σ d) 106 Q 0 [some (.inr (.inr a0)), none] [] μ) : Call σ (d + 1) 106 [.inr (.inr a0)] μ Q := Call_go rfl (Nat.le_of_ble_eq_true rfl) rfl h
-- Mo.undo
theorem e_107 {σ : Sg} {d : Nat} {Q : QT} {μ : Mem} {a0 : Nat} (h : wp σ (Call σ d) 107 Q 0 [some (.inr (.inr a0)), none] [] μ) : Call σ (d + 1) 107 [.inr (.inr a0)] μ Q := Call_go rfl (Nat.le_of_ble_eq_true rfl) rfl h
-- Mo.save
theorem e_108 {σ : Sg} {d : Nat} {Q : QT} {μ : Mem} {a0 : Nat} {a1 : Int} (h : wp σ (Call σ d) 108 Q 0 [some (.inr (.inr a0)), some (.inl a1), none] [] μ) : Call σ (d + 1) 108 [.inr (.inr a0), .inl a1] μ Q := Call_go rfl (Nat.le_of_ble_eq_true rfl) rfl h
-- Mo.restore
theorem e_109 {σ : Sg} {d : Nat} {Q : QT} {μ : Mem} {a0 : Nat} {a1 : Int} (h : wp σ (Call σ d) 109 Q 0 [some (.inr (.inr a0)), some (.inl a1), none] [] μ) : Call σ (d + 1) 109 [.inr (.inr a0), .inl a1] μ Q := Call_go rfl (Nat.le_of_ble_eq_true rfl) rfl h
-- Mo.layWith
theorem e_110 {σ : Sg} {d : Nat} {Q : QT} {μ : Mem} {a0 : Nat} {a1 : Int} {a2 : Int} (h : wp σ (Call σ d) 110 Q 0 [some (.inr (.inr a0)), some (.inl a1), some (.inl a2), none, none, none, none, none, none, none] [] μ) : Call σ (d + 1) 110 [.inr (.inr a0), .inl a1, .inl a2] μ Q := Call_go rfl (Nat.le_of_ble_eq_true rfl) rfl h
-- Mo.layNow
theorem e_111 {σ : Sg} {d : Nat} {Q : QT} {μ : Mem} {a0 : Nat} {a1 : Int} (h : wp σ (Call σ d) 111 Q 0 [some (.inr (.inr a0)), some (.inl a1)] [] μ) : Call σ (d + 1) 111 [.inr (.inr a0), .inl a1] μ Q := Call_go rfl (Nat.le_of_ble_eq_true rfl) rfl h
-- Mo.lay
theorem e_112 {σ : Sg} {d : Nat} {Q : QT} {μ : Mem} {a0 : Nat} {a1 : Int} (h : wp σ (Call σ d) 112 Q 0 [some (.inr (.inr a0)), some (.inl a1), none] [] μ) : Call σ (d + 1) 112 [.inr (.inr a0), .inl a1] μ Q := Call_go rfl (Nat.le_of_ble_eq_true rfl) rfl h
-- Mo.isOld
theorem e_113 {σ : Sg} {d : Nat} {Q : QT} {μ : Mem} {a0 : Nat} {a1 : Int} (h : wp σ (Call σ d) 113 Q 0 [some (.inr (.inr a0)), some (.inl a1), none, none] [] μ) : Call σ (d + 1) 113 [.inr (.inr a0), .inl a1] μ Q := Call_go rfl (Nat.le_of_ble_eq_true rfl) rfl h
-- Mo.seconds
theorem e_114 {σ : Sg} {d : Nat} {Q : QT} {μ : Mem} {a0 : Nat} {a1 : Int} (h : wp σ (Call σ d) 114 Q 0 [some (.inr (.inr a0)), some (.inl a1), none, none] [] μ) : Call σ (d + 1) 114 [.inr (.inr a0), .inl a1] μ Q := Call_go rfl (Nat.le_of_ble_eq_true rfl) rfl h
-- Mo.notices
theorem e_115 {σ : Sg} {d : Nat} {Q : QT} {μ : Mem} {a0 : Nat} (h : wp σ (Call σ d) 115 Q 0 [some (.inr (.inr a0)), none, none] [] μ) : Call σ (d + 1) 115 [.inr (.inr a0)] μ Q := Call_go rfl (Nat.le_of_ble_eq_true rfl) rfl h
-- Mo.hasHeard
theorem e_116 {σ : Sg} {d : Nat} {Q : QT} {μ : Mem} {a0 : Nat} {a1 : Int} (h : wp σ (Call σ d) 116 Q 0 [some (.inr (.inr a0)), some (.inl a1), none, none] [] μ) : Call σ (d + 1) 116 [.inr (.inr a0), .inl a1] μ Q := Call_go rfl (Nat.le_of_ble_eq_true rfl) rfl h
-- Mo.exchange
theorem e_117 {σ : Sg} {d : Nat} {Q : QT} {μ : Mem} {a0 : Nat} {a1 : Int} {a2 : Int} (h : wp σ (Call σ d) 117 Q 0 [some (.inr (.inr a0)), some (.inl a1), some (.inl a2), none, none] [] μ) : Call σ (d + 1) 117 [.inr (.inr a0), .inl a1, .inl a2] μ Q := Call_go rfl (Nat.le_of_ble_eq_true rfl) rfl h
-- Mo.exchangeSentences
theorem e_118 {σ : Sg} {d : Nat} {Q : QT} {μ : Mem} {a0 : Nat} {a1 : Int} (h : wp σ (Call σ d) 118 Q 0 [some (.inr (.inr a0)), some (.inl a1)] [] μ) : Call σ (d + 1) 118 [.inr (.inr a0), .inl a1] μ Q := Call_go rfl (Nat.le_of_ble_eq_true rfl) rfl h
-- Mo.clearSentence
theorem e_119 {σ : Sg} {d : Nat} {Q : QT} {μ : Mem} {a0 : Nat} {a1 : Int} (h : wp σ (Call σ d) 119 Q 0 [some (.inr (.inr a0)), some (.inl a1), none] [] μ) : Call σ (d + 1) 119 [.inr (.inr a0), .inl a1] μ Q := Call_go rfl (Nat.le_of_ble_eq_true rfl) rfl h
-- Mo.putIn
theorem e_120 {σ : Sg} {d : Nat} {Q : QT} {μ : Mem} {a0 : Nat} {a1 : Int} {a2 : Int} (h : wp σ (Call σ d) 120 Q 0 [some (.inr (.inr a0)), some (.inl a1), some (.inl a2), none, none] [] μ) : Call σ (d + 1) 120 [.inr (.inr a0), .inl a1, .inl a2] μ Q := Call_go rfl (Nat.le_of_ble_eq_true rfl) rfl h
-- Mo.cutOut
theorem e_121 {σ : Sg} {d : Nat} {Q : QT} {μ : Mem} {a0 : Nat} {a1 : Int} (h : wp σ (Call σ d) 121 Q 0 [some (.inr (.inr a0)), some (.inl a1), none, none] [] μ) : Call σ (d + 1) 121 [.inr (.inr a0), .inl a1] μ Q := Call_go rfl (Nat.le_of_ble_eq_true rfl) rfl h
-- Mo.change
theorem e_122 {σ : Sg} {d : Nat} {Q : QT} {μ : Mem} {a0 : Nat} {a1 : Int} {a2 : Int} (h : wp σ (Call σ d) 122 Q 0 [some (.inr (.inr a0)), some (.inl a1), some (.inl a2), none] [] μ) : Call σ (d + 1) 122 [.inr (.inr a0), .inl a1, .inl a2] μ Q := Call_go rfl (Nat.le_of_ble_eq_true rfl) rfl h
-- Mo.chapters
theorem e_123 {σ : Sg} {d : Nat} {Q : QT} {μ : Mem} {a0 : Nat} (h : wp σ (Call σ d) 123 Q 0 [some (.inr (.inr a0)), none, none] [] μ) : Call σ (d + 1) 123 [.inr (.inr a0)] μ Q := Call_go rfl (Nat.le_of_ble_eq_true rfl) rfl h
-- Mo.chapter
theorem e_124 {σ : Sg} {d : Nat} {Q : QT} {μ : Mem} {a0 : Nat} {a1 : Int} {a2 : Int} (h : wp σ (Call σ d) 124 Q 0 [some (.inr (.inr a0)), some (.inl a1), some (.inl a2)] [] μ) : Call σ (d + 1) 124 [.inr (.inr a0), .inl a1, .inl a2] μ Q := Call_go rfl (Nat.le_of_ble_eq_true rfl) rfl h
-- Mo.notice
theorem e_125 {σ : Sg} {d : Nat} {Q : QT} {μ : Mem} {a0 : Nat} {a1 : Int} {a2 : Int} (h : wp σ (Call σ d) 125 Q 0 [some (.inr (.inr a0)), some (.inl a1), some (.inl a2)] [] μ) : Call σ (d + 1) 125 [.inr (.inr a0), .inl a1, .inl a2] μ Q := Call_go rfl (Nat.le_of_ble_eq_true rfl) rfl h
-- Mo.bookIt
theorem e_126 {σ : Sg} {d : Nat} {Q : QT} {μ : Mem} {a0 : Nat} {a1 : Int} {a2 : Int} (h : wp σ (Call σ d) 126 Q 0 [some (.inr (.inr a0)), some (.inl a1), some (.inl a2)] [] μ) : Call σ (d + 1) 126 [.inr (.inr a0), .inl a1, .inl a2] μ Q := Call_go rfl (Nat.le_of_ble_eq_true rfl) rfl h
-- Mo.unbookLast
theorem e_127 {σ : Sg} {d : Nat} {Q : QT} {μ : Mem} {a0 : Nat} {a1 : Int} (h : wp σ (Call σ d) 127 Q 0 [some (.inr (.inr a0)), some (.inl a1)] [] μ) : Call σ (d + 1) 127 [.inr (.inr a0), .inl a1] μ Q := Call_go rfl (Nat.le_of_ble_eq_true rfl) rfl h
-- Mo.whyNotBook
theorem e_128 {σ : Sg} {d : Nat} {Q : QT} {μ : Mem} {a0 : Nat} {a1 : Int} {a2 : Int} (h : wp σ (Call σ d) 128 Q 0 [some (.inr (.inr a0)), some (.inl a1), some (.inl a2)] [] μ) : Call σ (d + 1) 128 [.inr (.inr a0), .inl a1, .inl a2] μ Q := Call_go rfl (Nat.le_of_ble_eq_true rfl) rfl h
-- Mo.book
theorem e_129 {σ : Sg} {d : Nat} {Q : QT} {μ : Mem} {a0 : Nat} {a1 : Int} {a2 : Int} (h : wp σ (Call σ d) 129 Q 0 [some (.inr (.inr a0)), some (.inl a1), some (.inl a2), none] [] μ) : Call σ (d + 1) 129 [.inr (.inr a0), .inl a1, .inl a2] μ Q := Call_go rfl (Nat.le_of_ble_eq_true rfl) rfl h
-- Mo.emptyIt
theorem e_130 {σ : Sg} {d : Nat} {Q : QT} {μ : Mem} {a0 : Nat} {a1 : Int} (h : wp σ (Call σ d) 130 Q 0 [some (.inr (.inr a0)), some (.inl a1), none, none] [] μ) : Call σ (d + 1) 130 [.inr (.inr a0), .inl a1] μ Q := Call_go rfl (Nat.le_of_ble_eq_true rfl) rfl h
-- Mo.empty
theorem e_131 {σ : Sg} {d : Nat} {Q : QT} {μ : Mem} {a0 : Nat} {a1 : Int} (h : wp σ (Call σ d) 131 Q 0 [some (.inr (.inr a0)), some (.inl a1)] [] μ) : Call σ (d + 1) 131 [.inr (.inr a0), .inl a1] μ Q := Call_go rfl (Nat.le_of_ble_eq_true rfl) rfl h
-- Mo.listener
theorem e_132 {σ : Sg} {d : Nat} {Q : QT} {μ : Mem} {a0 : Nat} {a1 : Int} {a2 : Int} (h : wp σ (Call σ d) 132 Q 0 [some (.inr (.inr a0)), some (.inl a1), some (.inl a2), none] [] μ) : Call σ (d + 1) 132 [.inr (.inr a0), .inl a1, .inl a2] μ Q := Call_go rfl (Nat.le_of_ble_eq_true rfl) rfl h
-- Mo.load
theorem e_133 {σ : Sg} {d : Nat} {Q : QT} {μ : Mem} {a0 : Nat} {a1 : Int} {a2 : Int} (h : wp σ (Call σ d) 133 Q 0 [some (.inr (.inr a0)), some (.inl a1), some (.inl a2), none] [] μ) : Call σ (d + 1) 133 [.inr (.inr a0), .inl a1, .inl a2] μ Q := Call_go rfl (Nat.le_of_ble_eq_true rfl) rfl h
-- Mo.timeOf
theorem e_134 {σ : Sg} {d : Nat} {Q : QT} {μ : Mem} {a0 : Nat} {a1 : Int} (h : wp σ (Call σ d) 134 Q 0 [some (.inr (.inr a0)), some (.inl a1), none, none] [] μ) : Call σ (d + 1) 134 [.inr (.inr a0), .inl a1] μ Q := Call_go rfl (Nat.le_of_ble_eq_true rfl) rfl h
-- Mo.chapterOf
theorem e_135 {σ : Sg} {d : Nat} {Q : QT} {μ : Mem} {a0 : Nat} {a1 : Int} (h : wp σ (Call σ d) 135 Q 0 [some (.inr (.inr a0)), some (.inl a1), none, none] [] μ) : Call σ (d + 1) 135 [.inr (.inr a0), .inl a1] μ Q := Call_go rfl (Nat.le_of_ble_eq_true rfl) rfl h
-- Mo.sentence
theorem e_136 {σ : Sg} {d : Nat} {Q : QT} {μ : Mem} {a0 : Nat} {a1 : Int} {a2 : Int} (h : wp σ (Call σ d) 136 Q 0 [some (.inr (.inr a0)), some (.inl a1), some (.inl a2)] [] μ) : Call σ (d + 1) 136 [.inr (.inr a0), .inl a1, .inl a2] μ Q := Call_go rfl (Nat.le_of_ble_eq_true rfl) rfl h
-- Mo.marked
theorem e_137 {σ : Sg} {d : Nat} {Q : QT} {μ : Mem} {a0 : Nat} {a1 : Int} (h : wp σ (Call σ d) 137 Q 0 [some (.inr (.inr a0)), some (.inl a1), none] [] μ) : Call σ (d + 1) 137 [.inr (.inr a0), .inl a1] μ Q := Call_go rfl (Nat.le_of_ble_eq_true rfl) rfl h
-- Mo.booked
theorem e_138 {σ : Sg} {d : Nat} {Q : QT} {μ : Mem} {a0 : Nat} {a1 : Int} {a2 : Int} (h : wp σ (Call σ d) 138 Q 0 [some (.inr (.inr a0)), some (.inl a1), some (.inl a2)] [] μ) : Call σ (d + 1) 138 [.inr (.inr a0), .inl a1, .inl a2] μ Q := Call_go rfl (Nat.le_of_ble_eq_true rfl) rfl h
-- Mo.breaksWith
theorem e_139 {σ : Sg} {d : Nat} {Q : QT} {μ : Mem} {a0 : Nat} {a1 : Int} (h : wp σ (Call σ d) 139 Q 0 [some (.inr (.inr a0)), some (.inl a1), none, none, none, none] [] μ) : Call σ (d + 1) 139 [.inr (.inr a0), .inl a1] μ Q := Call_go rfl (Nat.le_of_ble_eq_true rfl) rfl h
-- Mo.hearers
theorem e_140 {σ : Sg} {d : Nat} {Q : QT} {μ : Mem} {a0 : Nat} {a1 : Int} (h : wp σ (Call σ d) 140 Q 0 [some (.inr (.inr a0)), some (.inl a1), none, none] [] μ) : Call σ (d + 1) 140 [.inr (.inr a0), .inl a1] μ Q := Call_go rfl (Nat.le_of_ble_eq_true rfl) rfl h
-- Mo.ofNotice
theorem e_141 {σ : Sg} {d : Nat} {Q : QT} {μ : Mem} {a0 : Nat} {a1 : Int} {a2 : Int} (h : wp σ (Call σ d) 141 Q 0 [some (.inr (.inr a0)), some (.inl a1), some (.inl a2)] [] μ) : Call σ (d + 1) 141 [.inr (.inr a0), .inl a1, .inl a2] μ Q := Call_go rfl (Nat.le_of_ble_eq_true rfl) rfl h
-- Mo.of
theorem e_142 {σ : Sg} {d : Nat} {Q : QT} {μ : Mem} {a0 : Nat} {a1 : Int} {a2 : Int} (h : wp σ (Call σ d) 142 Q 0 [some (.inr (.inr a0)), some (.inl a1), some (.inl a2)] [] μ) : Call σ (d + 1) 142 [.inr (.inr a0), .inl a1, .inl a2] μ Q := Call_go rfl (Nat.le_of_ble_eq_true rfl) rfl h
-- Mo.oldOnes
theorem e_143 {σ : Sg} {d : Nat} {Q : QT} {μ : Mem} {a0 : Nat} (h : wp σ (Call σ d) 143 Q 0 [some (.inr (.inr a0)), none, none] [] μ) : Call σ (d + 1) 143 [.inr (.inr a0)] μ Q := Call_go rfl (Nat.le_of_ble_eq_true rfl) rfl h
-- Mo.longest
theorem e_144 {σ : Sg} {d : Nat} {Q : QT} {μ : Mem} {a0 : Nat} (h : wp σ (Call σ d) 144 Q 0 [some (.inr (.inr a0)), none, none, none, none] [] μ) : Call σ (d + 1) 144 [.inr (.inr a0)] μ Q := Call_go rfl (Nat.le_of_ble_eq_true rfl) rfl h
-- Mo.count
theorem e_145 {σ : Sg} {d : Nat} {Q : QT} {μ : Mem} {a0 : Nat} {a1 : Int} (h : wp σ (Call σ d) 145 Q 0 [some (.inr (.inr a0)), some (.inl a1)] [] μ) : Call σ (d + 1) 145 [.inr (.inr a0), .inl a1] μ Q := Call_go rfl (Nat.le_of_ble_eq_true rfl) rfl h
-- Mo.heard
theorem e_146 {σ : Sg} {d : Nat} {Q : QT} {μ : Mem} {a0 : Nat} {a1 : Int} {a2 : Int} (h : wp σ (Call σ d) 146 Q 0 [some (.inr (.inr a0)), some (.inl a1), some (.inl a2)] [] μ) : Call σ (d + 1) 146 [.inr (.inr a0), .inl a1, .inl a2] μ Q := Call_go rfl (Nat.le_of_ble_eq_true rfl) rfl h
-- Mo.whenHeard
theorem e_147 {σ : Sg} {d : Nat} {Q : QT} {μ : Mem} {a0 : Nat} {a1 : Int} {a2 : Int} (h : wp σ (Call σ d) 147 Q 0 [some (.inr (.inr a0)), some (.inl a1), some (.inl a2), none, none, none] [] μ) : Call σ (d + 1) 147 [.inr (.inr a0), .inl a1, .inl a2] μ Q := Call_go rfl (Nat.le_of_ble_eq_true rfl) rfl h
-- Mo.find
theorem e_148 {σ : Sg} {d : Nat} {Q : QT} {μ : Mem} {a0 : Nat} {a1 : Int} (h : wp σ (Call σ d) 148 Q 0 [some (.inr (.inr a0)), some (.inl a1), none, none] [] μ) : Call σ (d + 1) 148 [.inr (.inr a0), .inl a1] μ Q := Call_go rfl (Nat.le_of_ble_eq_true rfl) rfl h
-- Mo.heardChapter
theorem e_149 {σ : Sg} {d : Nat} {Q : QT} {μ : Mem} {a0 : Nat} {a1 : Int} (h : wp σ (Call σ d) 149 Q 0 [some (.inr (.inr a0)), some (.inl a1), none, none] [] μ) : Call σ (d + 1) 149 [.inr (.inr a0), .inl a1] μ Q := Call_go rfl (Nat.le_of_ble_eq_true rfl) rfl h
-- Mo.heardAt
theorem e_150 {σ : Sg} {d : Nat} {Q : QT} {μ : Mem} {a0 : Nat} {a1 : Int} {a2 : Int} {a3 : Int} (h : wp σ (Call σ d) 150 Q 0 [some (.inr (.inr a0)), some (.inl a1), some (.inl a2), some (.inl a3)] [] μ) : Call σ (d + 1) 150 [.inr (.inr a0), .inl a1, .inl a2, .inl a3] μ Q := Call_go rfl (Nat.le_of_ble_eq_true rfl) rfl h
-- Mo.chapterAt
theorem e_151 {σ : Sg} {d : Nat} {Q : QT} {μ : Mem} {a0 : Nat} {a1 : Int} {a2 : Int} (h : wp σ (Call σ d) 151 Q 0 [some (.inr (.inr a0)), some (.inl a1), some (.inl a2), none, none, none] [] μ) : Call σ (d + 1) 151 [.inr (.inr a0), .inl a1, .inl a2] μ Q := Call_go rfl (Nat.le_of_ble_eq_true rfl) rfl h
-- Mo.open
theorem e_152 {σ : Sg} {d : Nat} {Q : QT} {μ : Mem} {a0 : Nat} {a1 : Int} {a2 : Int} {a3 : Int} (h : wp σ (Call σ d) 152 Q 0 [some (.inr (.inr a0)), some (.inl a1), some (.inl a2), some (.inl a3), none, none] [] μ) : Call σ (d + 1) 152 [.inr (.inr a0), .inl a1, .inl a2, .inl a3] μ Q := Call_go rfl (Nat.le_of_ble_eq_true rfl) rfl h
-- Mo.momentAt
theorem e_153 {σ : Sg} {d : Nat} {Q : QT} {μ : Mem} {a0 : Nat} {a1 : Int} {a2 : Int} (h : wp σ (Call σ d) 153 Q 0 [some (.inr (.inr a0)), some (.inl a1), some (.inl a2), none] [] μ) : Call σ (d + 1) 153 [.inr (.inr a0), .inl a1, .inl a2] μ Q := Call_go rfl (Nat.le_of_ble_eq_true rfl) rfl h
-- Mo.wrongAt
theorem e_154 {σ : Sg} {d : Nat} {Q : QT} {μ : Mem} {a0 : Nat} {a1 : Int} {a2 : Int} {a3 : Int} (h : wp σ (Call σ d) 154 Q 0 [some (.inr (.inr a0)), some (.inl a1), some (.inl a2), some (.inl a3), none, none] [] μ) : Call σ (d + 1) 154 [.inr (.inr a0), .inl a1, .inl a2, .inl a3] μ Q := Call_go rfl (Nat.le_of_ble_eq_true rfl) rfl h
-- Mo.allSeconds
theorem e_155 {σ : Sg} {d : Nat} {Q : QT} {μ : Mem} {a0 : Nat} (h : wp σ (Call σ d) 155 Q 0 [some (.inr (.inr a0)), none, none] [] μ) : Call σ (d + 1) 155 [.inr (.inr a0)] μ Q := Call_go rfl (Nat.le_of_ble_eq_true rfl) rfl h
-- Mo.ifBooked
theorem e_156 {σ : Sg} {d : Nat} {Q : QT} {μ : Mem} {a0 : Nat} {a1 : Int} {a2 : Int} (h : wp σ (Call σ d) 156 Q 0 [some (.inr (.inr a0)), some (.inl a1), some (.inl a2), none, none, none] [] μ) : Call σ (d + 1) 156 [.inr (.inr a0), .inl a1, .inl a2] μ Q := Call_go rfl (Nat.le_of_ble_eq_true rfl) rfl h
-- Mo.bestBreak
theorem e_157 {σ : Sg} {d : Nat} {Q : QT} {μ : Mem} {a0 : Nat} {a1 : Int} {a2 : Int} (h : wp σ (Call σ d) 157 Q 0 [some (.inr (.inr a0)), some (.inl a1), some (.inl a2), none, none, none, none] [] μ) : Call σ (d + 1) 157 [.inr (.inr a0), .inl a1, .inl a2] μ Q := Call_go rfl (Nat.le_of_ble_eq_true rfl) rfl h
-- Mo.enough
theorem e_158 {σ : Sg} {d : Nat} {Q : QT} {μ : Mem} {a0 : Nat} {a1 : Int} (h : wp σ (Call σ d) 158 Q 0 [some (.inr (.inr a0)), some (.inl a1), none, none] [] μ) : Call σ (d + 1) 158 [.inr (.inr a0), .inl a1] μ Q := Call_go rfl (Nat.le_of_ble_eq_true rfl) rfl h
-- Mo.put
theorem e_159 {σ : Sg} {d : Nat} {Q : QT} {μ : Mem} {a0 : Nat} {a1 : Int64} (h : wp σ (Call σ d) 159 Q 0 [some (.inr (.inr a0)), some (.inr (.inl a1)), none, none, none, none, none, none] [] μ) : Call σ (d + 1) 159 [.inr (.inr a0), .inr (.inl a1)] μ Q := Call_go rfl (Nat.le_of_ble_eq_true rfl) rfl h
-- Mo.wipe
theorem e_160 {σ : Sg} {d : Nat} {Q : QT} {μ : Mem} {a0 : Nat} (h : wp σ (Call σ d) 160 Q 0 [some (.inr (.inr a0)), none] [] μ) : Call σ (d + 1) 160 [.inr (.inr a0)] μ Q := Call_go rfl (Nat.le_of_ble_eq_true rfl) rfl h
-- Mo.stands
theorem e_161 {σ : Sg} {d : Nat} {Q : QT} {μ : Mem} {a0 : Nat} {a1 : Int} (h : wp σ (Call σ d) 161 Q 0 [some (.inr (.inr a0)), some (.inl a1), none, none, none] [] μ) : Call σ (d + 1) 161 [.inr (.inr a0), .inl a1] μ Q := Call_go rfl (Nat.le_of_ble_eq_true rfl) rfl h
-- Mo.readPad
theorem e_162 {σ : Sg} {d : Nat} {Q : QT} {μ : Mem} {a0 : Nat} (h : wp σ (Call σ d) 162 Q 0 [some (.inr (.inr a0)), none] [] μ) : Call σ (d + 1) 162 [.inr (.inr a0)] μ Q := Call_go rfl (Nat.le_of_ble_eq_true rfl) rfl h
-- Mo.fault
theorem e_163 {σ : Sg} {d : Nat} {Q : QT} {μ : Mem} {a0 : Nat} (h : wp σ (Call σ d) 163 Q 0 [some (.inr (.inr a0))] [] μ) : Call σ (d + 1) 163 [.inr (.inr a0)] μ Q := Call_go rfl (Nat.le_of_ble_eq_true rfl) rfl h
-- Mo.areRows
theorem e_164 {σ : Sg} {d : Nat} {Q : QT} {μ : Mem} {a0 : Nat} (h : wp σ (Call σ d) 164 Q 0 [some (.inr (.inr a0)), none, none, none] [] μ) : Call σ (d + 1) 164 [.inr (.inr a0)] μ Q := Call_go rfl (Nat.le_of_ble_eq_true rfl) rfl h
-- Mo.read
theorem e_165 {σ : Sg} {d : Nat} {Q : QT} {μ : Mem} {a0 : Nat} (h : wp σ (Call σ d) 165 Q 0 [some (.inr (.inr a0)), none, none] [] μ) : Call σ (d + 1) 165 [.inr (.inr a0)] μ Q := Call_go rfl (Nat.le_of_ble_eq_true rfl) rfl h
end
section
/-! sums, first places -/
def sm (f : Nat → Int) : Nat → Int
  | 0 => 0
  | n + 1 => sm f n + f n
theorem sm_s (f : Nat → Int) (n : Nat) : sm f (n + 1) = sm f n + f n := rfl
theorem sm_0 (f : Nat → Int) : sm f 0 = 0 := rfl
theorem sm_c {f g : Nat → Int} : ∀ {n : Nat}, (∀ i, i < n → f i = g i) → sm f n = sm g n
  | 0, _ => rfl
  | n + 1, h => by rw [sm_s, sm_s, sm_c (fun i hi => h i (by omega)), h n (by omega)]
theorem sm_b {f : Nat → Int} {b : Int} : ∀ {n : Nat}, (∀ i, i < n → 0 ≤ f i ∧ f i ≤ b) → 0 ≤ sm f n ∧ sm f n ≤ b * n
  | 0, _ => ⟨Int.le_refl 0, by simp [sm]⟩
  | n + 1, h => by
    have h1 := sm_b (n := n) (fun i hi => h i (by omega))
    have h2 := h n (by omega)
    rw [sm_s, Int.natCast_succ, Int.mul_add]
    omega
theorem sm_a (f g : Nat → Int) : ∀ n : Nat, sm (fun i => f i + g i) n = sm f n + sm g n
  | 0 => rfl
  | n + 1 => by rw [sm_s, sm_s, sm_s, sm_a f g n]; omega
theorem sm_mono {f : Nat → Int} {m n : Nat} (hmn : m ≤ n) (h : ∀ i, i < n → 0 ≤ f i) : sm f m ≤ sm f n := by
  induction n with
  | zero => have : m = 0 := by omega
            rw [this]; exact Int.le_refl _
  | succ n ih =>
    rcases Nat.lt_or_ge m (n + 1) with q | q
    · have h1 := ih (by omega) (fun i hi => h i (by omega))
      have h2 := h n (by omega)
      rw [sm_s]
      omega
    · have : m = n + 1 := by omega
      rw [this]; exact Int.le_refl _
/-- the first place below n where p holds, else e -/
def fsI (p : Nat → Bool) (e : Int) (n : Nat) : Int := match (List.range n).find? p with
  | some i => (i : Int)
  | none => e
theorem fsI_s {p : Nat → Bool} {e : Int} {n i : Nat} (hi : i < n) (hp : p i = true) (hm : ∀ j, j < i → p j = false) : fsI p e n = (i : Int) := by
  have : (List.range n).find? p = some i := by
    rw [List.find?_range_eq_some]
    exact ⟨hp, List.mem_range.mpr hi, fun j hj => by rw [hm j hj]; rfl⟩
  unfold fsI
  rw [this]
theorem fsI_n {p : Nat → Bool} {e : Int} {n : Nat} (hm : ∀ j, j < n → p j = false) : fsI p e n = e := by
  have : (List.range n).find? p = none := by
    rw [List.find?_eq_none]
    intro j hj
    rw [hm j (List.mem_range.mp hj)]
    decide
  unfold fsI
  rw [this]
theorem fsI_c {p q : Nat → Bool} {e : Int} {n : Nat} (h : ∀ i, i < n → p i = q i) : fsI p e n = fsI q e n := by
  by_cases hx : ∃ i, i < n ∧ p i = true ∧ ∀ j, j < i → p j = false
  · obtain ⟨i, h1, h2, h3⟩ := hx
    rw [fsI_s h1 h2 h3, fsI_s h1 (by rw [← h i h1]; exact h2) (fun j hj => by rw [← h j (by omega)]; exact h3 j hj)]
  · have hn : ∀ j, j < n → p j = false := by
      intro j
      induction j using Nat.strongRecOn with
      | ind j ih =>
        intro hj
        cases hp : p j with
        | false => rfl
        | true => exact absurd ⟨j, hj, hp, fun k hk => ih k hk (by omega)⟩ hx
    rw [fsI_n hn, fsI_n (fun j hj => by rw [← h j hj]; exact hn j hj)]
theorem ne_a (a n : Nat) : (a = a + (n + 1)) = False := by simp
theorem ne_b (a n : Nat) : (a + (n + 1) = a) = False := by simp
-- the layout around an object
def iSen (σ : Sg) (s : Nat) : Prop := (shp σ s).1 = 4 ∧ shp σ (s + 1) = (100, 24) ∧ shp σ (s + 2) = (100, 24) ∧ shp σ (s + 3) = (100, 24) ∧ σ.2 s 0 = true ∧ σ.2 s 1 = true ∧ σ.2 s 2 = true
def iHea (σ : Sg) (h : Nat) : Prop := (shp σ h).1 = 1 ∧ iSen σ (h + 1) ∧ shp σ (h + 5) = (100, 24) ∧ shp σ (h + 6) = (100, 24) ∧ σ.2 h 0 = true ∧ σ.2 h 1 = true ∧ σ.2 h 2 = true
def iSta (σ : Sg) (S : Nat) : Prop := (shp σ S).1 = 5 ∧ iSen σ (S + 1) ∧ (shp σ (S + 5) = (100, 24) ∧ shp σ (S + 6) = (100, 96) ∧ shp σ (S + 7) = (100, 8) ∧ shp σ (S + 8) = (100, 8) ∧ shp σ (S + 9) = (100, 6) ∧ shp σ (S + 10) = (100, 6) ∧ shp σ (S + 11) = (102, 6) ∧ shp σ (S + 12) = (103, 6)) ∧ (∀ l, l < 6 → iHea σ (S + 13 + 7 * l)) ∧ (∀ j, j < 9 → σ.2 S j = true) ∧ ∀ l, l < 6 → σ.2 (S + 12) l = true
def iCho (σ : Sg) (c : Nat) : Prop := (shp σ c).1 = 0
def iHis (σ : Sg) (c : Nat) : Prop := (shp σ c).1 = 2 ∧ shp σ (c + 1) = (104, 6) ∧ σ.2 c 0 = true ∧ ∀ l, l < 6 → σ.2 (c + 1) l = true ∧ iSta σ (c + 2 + 55 * l)
def iPad (σ : Sg) (c : Nat) : Prop := (shp σ c).1 = 3 ∧ shp σ (c + 1) = (101, 60) ∧ σ.2 c 0 = true
def bI (p : Prop) [Decidable p] : Int := if p then 1 else 0
end
section
-- Sen.timeOf: blocks [0, 4, 24]
theorem k_Sen_timeOf {σ : Sg} {d : Nat} {Q : QT} {μ : Mem} {S p : Nat} (hS : iSen σ S) (hp : p ≤ 24) (h : Q (.inl (sm (μ (S + 2)) p)) μ) : Call σ (d + 1) 25 [.inr (.inr S), .inl (p : Int)] μ Q := by
  refine e_25 ?_
  obtain ⟨s0, s1, s2, s3, q0, q1, q2⟩ := hS
  have loop : ∀ k i : Nat, i + k = p → wp σ (Call σ d) 25 Q 4 [some (.inr (.inr S)), some (.inl (p : Int)), some (.inl (sm (μ (S + 2)) i)), some (.inl (i : Int))] [] μ := by
    intro k
    induction k with
    | zero =>
      intro i hi
      obtain rfl : i = p := by omega
      refine wp_go b25_4 ?_; simp only [l25_4, sg_iload_3, sg_iload_1, sg_ic_ge, sg_iload_2, sg_aload_0, sg_getfp, sg_iaload, sg_iadd, sg_istore_2, sg_iinc, ldI_3, okS_3, stL_3, sg_goto, nLg_n, nLg_i, nLg_r, tc_c, tc_l, tc_r, tc_m, tc_n, tc_o, tc_0, inR, true_and, and_true, ne_eq, not_true_eq_false, not_false_eq_true, true_imp_iff, false_imp_iff, Int.toNat_natCast, lit_a, Nat.reduceAdd, or_true, true_or, or_false, false_or, Int.reduceEq, Int.reduceNe, Int.reduceLT, Int.reduceLE, Int.reduceNeg, sg_nil]
      repeat' (first | with_reducible apply And.intro | intro _)
      all_goals (try omega)
      refine wp_go b25_24 ?_; simp only [l25_24, sg_iload_2, sg_iret0, nLg_n, nLg_i, nLg_r, tc_c, tc_l, tc_r, tc_m, tc_n, tc_o, tc_0, inR, true_and, and_true, ne_eq, not_true_eq_false, not_false_eq_true, true_imp_iff, false_imp_iff, Int.toNat_natCast, lit_a, Nat.reduceAdd, or_true, true_or, or_false, false_or, Int.reduceEq, Int.reduceNe, Int.reduceLT, Int.reduceLE, Int.reduceNeg, sg_nil]
      exact h
    | succ k ih =>
      intro i hi
      refine wp_go b25_4 ?_; simp only [l25_4, sg_iload_3, sg_iload_1, sg_ic_ge, sg_iload_2, sg_aload_0, sg_getfp, sg_iaload, sg_iadd, sg_istore_2, sg_iinc, ldI_3, okS_3, stL_3, sg_goto, nLg_n, nLg_i, nLg_r, tc_c, tc_l, tc_r, tc_m, tc_n, tc_o, tc_0, inR, true_and, and_true, ne_eq, not_true_eq_false, not_false_eq_true, true_imp_iff, false_imp_iff, Int.toNat_natCast, lit_a, Nat.reduceAdd, or_true, true_or, or_false, false_or, Int.reduceEq, Int.reduceNe, Int.reduceLT, Int.reduceLE, Int.reduceNeg, sg_nil, s0, s1, s2, s3, q0, q1, q2]
      repeat' (first | with_reducible apply And.intro | intro _)
      all_goals (try omega)
      exact ih (i + 1) (by omega)
  refine wp_go b25_0 ?_; simp only [l25_0, sg_iconst, sg_istore_2, sg_istore_3, nLg_n, nLg_i, nLg_r, tc_c, tc_l, tc_r, tc_m, tc_n, tc_o, tc_0, inR, true_and, and_true, ne_eq, not_true_eq_false, not_false_eq_true, true_imp_iff, false_imp_iff, Int.toNat_natCast, lit_a, Nat.reduceAdd, or_true, true_or, or_false, false_or, Int.reduceEq, Int.reduceNe, Int.reduceLT, Int.reduceLE, Int.reduceNeg, sg_nil]
  exact loop p 0 (by omega)
-- Sen.total: blocks [0, 8]
theorem k_Sen_total {σ : Sg} {d : Nat} {Q : QT} {μ : Mem} {S n : Nat} (hS : iSen σ S) (hn : μ S 3 = n) (hp : n ≤ 24) (h : Q (.inl (sm (μ (S + 2)) n)) μ) : Call σ (d + 2) 26 [.inr (.inr S)] μ Q := by
  refine e_26 ?_
  obtain ⟨s0, s1, s2, s3, q0, q1, q2⟩ := id hS
  refine wp_go b26_0 ?_; simp only [l26_0, sg_aload_0, sg_getf0, sg_iv2_i, len4_0, len4_1, len4_2, len4_3, len4_4, nLg_n, nLg_i, nLg_r, tc_c, tc_l, tc_r, tc_m, tc_n, tc_o, tc_0, inR, true_and, and_true, ne_eq, not_true_eq_false, not_false_eq_true, true_imp_iff, false_imp_iff, Int.toNat_natCast, lit_a, Nat.reduceAdd, or_true, true_or, or_false, false_or, Int.reduceEq, Int.reduceNe, Int.reduceLT, Int.reduceLE, Int.reduceNeg, sg_nil, s0, hn]
  refine k_Sen_timeOf hS hp ?_
  refine wp_go b26_8 ?_; simp only [l26_8, sg_iret0, nLg_n, nLg_i, nLg_r, tc_c, tc_l, tc_r, tc_m, tc_n, tc_o, tc_0, inR, true_and, and_true, ne_eq, not_true_eq_false, not_false_eq_true, true_imp_iff, false_imp_iff, Int.toNat_natCast, lit_a, Nat.reduceAdd, or_true, true_or, or_false, false_or, Int.reduceEq, Int.reduceNe, Int.reduceLT, Int.reduceLE, Int.reduceNeg, sg_nil]
  exact h
-- Sen.placeAtTime: blocks [0, 4, 28, 34]
theorem k_Sen_placeAtTime {σ : Sg} {d : Nat} {Q : QT} {μ : Mem} {S n : Nat} {t : Int} (hS : iSen σ S) (hn : μ S 3 = n) (hp : n ≤ 24) (hb : ∀ i, i < n → 0 ≤ μ (S + 2) i ∧ μ (S + 2) i ≤ 300) (ht : inR t) (h : Q (.inl (fsI (fun i => decide (t < sm (μ (S + 2)) (i + 1))) (-6) n)) μ) : Call σ (d + 1) 27 [.inr (.inr S), .inl t] μ Q := by
  refine e_27 ?_
  obtain ⟨s0, s1, s2, s3, q0, q1, q2⟩ := hS
  have ht2 := ht
  unfold inR at ht2
  have loop : ∀ k i : Nat, i + k = n → (∀ j, j < i → ¬ t < sm (μ (S + 2)) (j + 1)) → wp σ (Call σ d) 27 Q 4 [some (.inr (.inr S)), some (.inl t), some (.inl (sm (μ (S + 2)) i)), some (.inl (i : Int))] [] μ := by
    intro k
    induction k with
    | zero =>
      intro i hi hm
      obtain rfl : i = n := by omega
      rw [fsI_n (fun j hj => decide_eq_false (hm j hj))] at h
      refine wp_go b27_4 ?_; simp only [l27_4, sg_iload_3, sg_aload_0, sg_getf0, sg_ic_ge, sg_iload_2, sg_getfp, sg_iaload, sg_iadd, sg_istore_2, sg_iload_1, sg_iret0, nLg_n, nLg_i, nLg_r, tc_c, tc_l, tc_r, tc_m, tc_n, tc_o, tc_0, inR, true_and, and_true, ne_eq, not_true_eq_false, not_false_eq_true, true_imp_iff, false_imp_iff, Int.toNat_natCast, lit_a, Nat.reduceAdd, or_true, true_or, or_false, false_or, Int.reduceEq, Int.reduceNe, Int.reduceLT, Int.reduceLE, Int.reduceNeg, sg_nil, s0, hn]
      repeat' (first | with_reducible apply And.intro | (intro _) | ((first | refine wp_go b27_0 ?_ | refine wp_go b27_28 ?_ | refine wp_go b27_34 ?_); simp only [l27_0, l27_28, l27_34, sg_iconst, sg_istore_2, sg_istore_3, sg_iinc, ldI_3, okS_3, stL_3, sg_goto, sg_bipush, sg_iret0, nLg_n, nLg_i, nLg_r, tc_c, tc_l, tc_r, tc_m, tc_n, tc_o, tc_0, inR, true_and, and_true, ne_eq, not_true_eq_false, not_false_eq_true, true_imp_iff, false_imp_iff, Int.toNat_natCast, lit_a, Nat.reduceAdd, or_true, true_or, or_false, false_or, Int.reduceEq, Int.reduceNe, Int.reduceLT, Int.reduceLE, Int.reduceNeg, sg_nil]))
      all_goals (try omega)
    | succ k ih =>
      intro i hi hm
      have b1 := sm_b (f := μ (S + 2)) (n := i + 1) (fun j hj => hb j (by omega))
      rw [sm_s] at b1
      refine wp_go b27_4 ?_; simp only [l27_4, sg_iload_3, sg_aload_0, sg_getf0, sg_ic_ge, sg_iload_2, sg_getfp, sg_iaload, sg_iadd, sg_istore_2, sg_iload_1, sg_iret0, nLg_n, nLg_i, nLg_r, tc_c, tc_l, tc_r, tc_m, tc_n, tc_o, tc_0, inR, true_and, and_true, ne_eq, not_true_eq_false, not_false_eq_true, true_imp_iff, false_imp_iff, Int.toNat_natCast, lit_a, Nat.reduceAdd, or_true, true_or, or_false, false_or, Int.reduceEq, Int.reduceNe, Int.reduceLT, Int.reduceLE, Int.reduceNeg, sg_nil, s0, s1, s2, s3, q0, q1, q2, hn]
      repeat' (first | with_reducible apply And.intro | (intro _) | ((first | refine wp_go b27_0 ?_ | refine wp_go b27_28 ?_ | refine wp_go b27_34 ?_); simp only [l27_0, l27_28, l27_34, sg_iconst, sg_istore_2, sg_istore_3, sg_iinc, ldI_3, okS_3, stL_3, sg_goto, sg_bipush, sg_iret0, nLg_n, nLg_i, nLg_r, tc_c, tc_l, tc_r, tc_m, tc_n, tc_o, tc_0, inR, true_and, and_true, ne_eq, not_true_eq_false, not_false_eq_true, true_imp_iff, false_imp_iff, Int.toNat_natCast, lit_a, Nat.reduceAdd, or_true, true_or, or_false, false_or, Int.reduceEq, Int.reduceNe, Int.reduceLT, Int.reduceLE, Int.reduceNeg, sg_nil]))
      all_goals (try omega)
      · rw [fsI_s (i := i) (by omega) (decide_eq_true (by rw [sm_s]; assumption)) (fun j hj => decide_eq_false (hm j hj))] at h
        exact h
      · exact ih (i + 1) (by omega) (fun j hj => by
          rcases Nat.lt_or_ge j i with q | q
          · exact hm j q
          · have : j = i := by omega
            subst this; rw [sm_s]; omega)
  refine wp_go b27_0 ?_; simp only [l27_0, sg_iconst, sg_istore_2, sg_istore_3, nLg_n, nLg_i, nLg_r, tc_c, tc_l, tc_r, tc_m, tc_n, tc_o, tc_0, inR, true_and, and_true, ne_eq, not_true_eq_false, not_false_eq_true, true_imp_iff, false_imp_iff, Int.toNat_natCast, lit_a, Nat.reduceAdd, or_true, true_or, or_false, false_or, Int.reduceEq, Int.reduceNe, Int.reduceLT, Int.reduceLE, Int.reduceNeg, sg_nil]
  exact loop n 0 (by omega) (fun j hj => absurd hj (by omega))
-- Sen.placeOf: blocks [0, 2, 22, 28]
theorem k_Sen_placeOf {σ : Sg} {d : Nat} {Q : QT} {μ : Mem} {S n : Nat} {t : Int} (hS : iSen σ S) (hn : μ S 3 = n) (hp : n ≤ 24) (hb : ∀ i, i < n → inR (μ (S + 1) i)) (ht : inR t) (h : Q (.inl (fsI (fun i => decide (μ (S + 1) i = t)) (-1) n)) μ) : Call σ (d + 1) 28 [.inr (.inr S), .inl t] μ Q := by
  refine e_28 ?_
  obtain ⟨s0, s1, s2, s3, q0, q1, q2⟩ := hS
  have ht2 := ht
  unfold inR at ht2
  have loop : ∀ k i : Nat, i + k = n → (∀ j, j < i → ¬ μ (S + 1) j = t) → wp σ (Call σ d) 28 Q 2 [some (.inr (.inr S)), some (.inl t), some (.inl (i : Int))] [] μ := by
    intro k
    induction k with
    | zero =>
      intro i hi hm
      obtain rfl : i = n := by omega
      rw [fsI_n (fun j hj => decide_eq_false (hm j hj))] at h
      refine wp_go b28_2 ?_; simp only [l28_2, sg_iload_2, sg_aload_0, sg_getf0, sg_ic_ge, sg_getfp, sg_iaload, sg_iload_1, sg_ic_ne, sg_iret0, nLg_n, nLg_i, nLg_r, tc_c, tc_l, tc_r, tc_m, tc_n, tc_o, tc_0, inR, true_and, and_true, ne_eq, not_true_eq_false, not_false_eq_true, true_imp_iff, false_imp_iff, Int.toNat_natCast, lit_a, Nat.reduceAdd, or_true, true_or, or_false, false_or, Int.reduceEq, Int.reduceNe, Int.reduceLT, Int.reduceLE, Int.reduceNeg, sg_nil, s0, hn]
      repeat' (first | with_reducible apply And.intro | (intro _) | ((first | refine wp_go b28_0 ?_ | refine wp_go b28_22 ?_ | refine wp_go b28_28 ?_); simp only [l28_0, l28_22, l28_28, sg_iconst, sg_istore_2, sg_iinc, ldI_2, okS_2, stL_2, sg_goto, sg_iret0, nLg_n, nLg_i, nLg_r, tc_c, tc_l, tc_r, tc_m, tc_n, tc_o, tc_0, inR, true_and, and_true, ne_eq, not_true_eq_false, not_false_eq_true, true_imp_iff, false_imp_iff, Int.toNat_natCast, lit_a, Nat.reduceAdd, or_true, true_or, or_false, false_or, Int.reduceEq, Int.reduceNe, Int.reduceLT, Int.reduceLE, Int.reduceNeg, sg_nil]))
      all_goals (try omega)
    | succ k ih =>
      intro i hi hm
      have b1 := hb i (by omega)
      unfold inR at b1
      refine wp_go b28_2 ?_; simp only [l28_2, sg_iload_2, sg_aload_0, sg_getf0, sg_ic_ge, sg_getfp, sg_iaload, sg_iload_1, sg_ic_ne, sg_iret0, nLg_n, nLg_i, nLg_r, tc_c, tc_l, tc_r, tc_m, tc_n, tc_o, tc_0, inR, true_and, and_true, ne_eq, not_true_eq_false, not_false_eq_true, true_imp_iff, false_imp_iff, Int.toNat_natCast, lit_a, Nat.reduceAdd, or_true, true_or, or_false, false_or, Int.reduceEq, Int.reduceNe, Int.reduceLT, Int.reduceLE, Int.reduceNeg, sg_nil, s0, s1, s2, s3, q0, q1, q2, hn]
      repeat' (first | with_reducible apply And.intro | (intro _) | ((first | refine wp_go b28_0 ?_ | refine wp_go b28_22 ?_ | refine wp_go b28_28 ?_); simp only [l28_0, l28_22, l28_28, sg_iconst, sg_istore_2, sg_iinc, ldI_2, okS_2, stL_2, sg_goto, sg_iret0, nLg_n, nLg_i, nLg_r, tc_c, tc_l, tc_r, tc_m, tc_n, tc_o, tc_0, inR, true_and, and_true, ne_eq, not_true_eq_false, not_false_eq_true, true_imp_iff, false_imp_iff, Int.toNat_natCast, lit_a, Nat.reduceAdd, or_true, true_or, or_false, false_or, Int.reduceEq, Int.reduceNe, Int.reduceLT, Int.reduceLE, Int.reduceNeg, sg_nil]))
      all_goals (try omega)
      · rw [fsI_s (i := i) (by omega) (decide_eq_true (by assumption)) (fun j hj => decide_eq_false (hm j hj))] at h
        exact h
      · exact ih (i + 1) (by omega) (fun j hj => by
          rcases Nat.lt_or_ge j i with q | q
          · exact hm j q
          · have : j = i := by omega
            subst this; assumption)
  refine wp_go b28_0 ?_; simp only [l28_0, sg_iconst, sg_istore_2, nLg_n, nLg_i, nLg_r, tc_c, tc_l, tc_r, tc_m, tc_n, tc_o, tc_0, inR, true_and, and_true, ne_eq, not_true_eq_false, not_false_eq_true, true_imp_iff, false_imp_iff, Int.toNat_natCast, lit_a, Nat.reduceAdd, or_true, true_or, or_false, false_or, Int.reduceEq, Int.reduceNe, Int.reduceLT, Int.reduceLE, Int.reduceNeg, sg_nil]
  exact loop n 0 (by omega) (fun j hj => absurd hj (by omega))
-- Sen.chapterOf: blocks [0, 4, 24]
theorem k_Sen_chapterOf {σ : Sg} {d : Nat} {Q : QT} {μ : Mem} {S p : Nat} (hS : iSen σ S) (hp : p < 24) (h : Q (.inl (sm (fun i => μ (S + 3) (i + 1)) p)) μ) : Call σ (d + 1) 29 [.inr (.inr S), .inl (p : Int)] μ Q := by
  refine e_29 ?_
  obtain ⟨s0, s1, s2, s3, q0, q1, q2⟩ := hS
  have loop : ∀ k i : Nat, i + k = p → wp σ (Call σ d) 29 Q 4 [some (.inr (.inr S)), some (.inl (p : Int)), some (.inl (sm (fun i => μ (S + 3) (i + 1)) i)), some (.inl ((i + 1 : Nat) : Int))] [] μ := by
    intro k
    induction k with
    | zero =>
      intro i hi
      obtain rfl : i = p := by omega
      refine wp_go b29_4 ?_; simp only [l29_4, sg_iload_3, sg_iload_1, sg_ic_gt, sg_iload_2, sg_aload_0, sg_getfp, sg_iaload, sg_iadd, sg_istore_2, sg_iinc, ldI_3, okS_3, stL_3, sg_goto, nLg_n, nLg_i, nLg_r, tc_c, tc_l, tc_r, tc_m, tc_n, tc_o, tc_0, inR, true_and, and_true, ne_eq, not_true_eq_false, not_false_eq_true, true_imp_iff, false_imp_iff, Int.toNat_natCast, lit_a, Nat.reduceAdd, or_true, true_or, or_false, false_or, Int.reduceEq, Int.reduceNe, Int.reduceLT, Int.reduceLE, Int.reduceNeg, sg_nil]
      repeat' (first | with_reducible apply And.intro | (intro _) | ((first | refine wp_go b29_0 ?_ | refine wp_go b29_24 ?_); simp only [l29_0, l29_24, sg_iconst, sg_istore_2, sg_istore_3, sg_iload_2, sg_iret0, nLg_n, nLg_i, nLg_r, tc_c, tc_l, tc_r, tc_m, tc_n, tc_o, tc_0, inR, true_and, and_true, ne_eq, not_true_eq_false, not_false_eq_true, true_imp_iff, false_imp_iff, Int.toNat_natCast, lit_a, Nat.reduceAdd, or_true, true_or, or_false, false_or, Int.reduceEq, Int.reduceNe, Int.reduceLT, Int.reduceLE, Int.reduceNeg, sg_nil]))
      all_goals (try omega)
    | succ k ih =>
      intro i hi
      refine wp_go b29_4 ?_; simp only [l29_4, sg_iload_3, sg_iload_1, sg_ic_gt, sg_iload_2, sg_aload_0, sg_getfp, sg_iaload, sg_iadd, sg_istore_2, sg_iinc, ldI_3, okS_3, stL_3, sg_goto, nLg_n, nLg_i, nLg_r, tc_c, tc_l, tc_r, tc_m, tc_n, tc_o, tc_0, inR, true_and, and_true, ne_eq, not_true_eq_false, not_false_eq_true, true_imp_iff, false_imp_iff, Int.toNat_natCast, lit_a, Nat.reduceAdd, or_true, true_or, or_false, false_or, Int.reduceEq, Int.reduceNe, Int.reduceLT, Int.reduceLE, Int.reduceNeg, sg_nil, s0, s1, s2, s3, q0, q1, q2]
      repeat' (first | with_reducible apply And.intro | (intro _) | ((first | refine wp_go b29_0 ?_ | refine wp_go b29_24 ?_); simp only [l29_0, l29_24, sg_iconst, sg_istore_2, sg_istore_3, sg_iload_2, sg_iret0, nLg_n, nLg_i, nLg_r, tc_c, tc_l, tc_r, tc_m, tc_n, tc_o, tc_0, inR, true_and, and_true, ne_eq, not_true_eq_false, not_false_eq_true, true_imp_iff, false_imp_iff, Int.toNat_natCast, lit_a, Nat.reduceAdd, or_true, true_or, or_false, false_or, Int.reduceEq, Int.reduceNe, Int.reduceLT, Int.reduceLE, Int.reduceNeg, sg_nil]))
      all_goals (try omega)
      exact ih (i + 1) (by omega)
  refine wp_go b29_0 ?_; simp only [l29_0, sg_iconst, sg_istore_2, sg_istore_3, nLg_n, nLg_i, nLg_r, tc_c, tc_l, tc_r, tc_m, tc_n, tc_o, tc_0, inR, true_and, and_true, ne_eq, not_true_eq_false, not_false_eq_true, true_imp_iff, false_imp_iff, Int.toNat_natCast, lit_a, Nat.reduceAdd, or_true, true_or, or_false, false_or, Int.reduceEq, Int.reduceNe, Int.reduceLT, Int.reduceLE, Int.reduceNeg, sg_nil]
  exact loop p 0 (by omega)
-- Sen.chapters: blocks [0, 10]
theorem k_Sen_chapters {σ : Sg} {d : Nat} {Q : QT} {μ : Mem} {S n : Nat} (hS : iSen σ S) (hn : μ S 3 = ((n + 1 : Nat) : Int)) (hp : n < 24) (h : Q (.inl (sm (fun i => μ (S + 3) (i + 1)) n + 1)) μ) : Call σ (d + 2) 30 [.inr (.inr S)] μ Q := by
  refine e_30 ?_
  obtain ⟨s0, s1, s2, s3, q0, q1, q2⟩ := id hS
  have e : ((n + 1 : Nat) : Int) - 1 = (n : Int) := by omega
  refine wp_go b30_0 ?_; simp only [l30_0, sg_aload_0, sg_getf0, sg_iconst, sg_isub, sg_iv2_i, len4_0, len4_1, len4_2, len4_3, len4_4, nLg_n, nLg_i, nLg_r, tc_c, tc_l, tc_r, tc_m, tc_n, tc_o, tc_0, inR, true_and, and_true, ne_eq, not_true_eq_false, not_false_eq_true, true_imp_iff, false_imp_iff, Int.toNat_natCast, lit_a, Nat.reduceAdd, or_true, true_or, or_false, false_or, Int.reduceEq, Int.reduceNe, Int.reduceLT, Int.reduceLE, Int.reduceNeg, sg_nil, s0, hn, e]
  refine k_Sen_chapterOf hS hp ?_
  refine wp_go b30_10 ?_; simp only [l30_10, sg_iconst, sg_iadd, sg_iret0, nLg_n, nLg_i, nLg_r, tc_c, tc_l, tc_r, tc_m, tc_n, tc_o, tc_0, inR, true_and, and_true, ne_eq, not_true_eq_false, not_false_eq_true, true_imp_iff, false_imp_iff, Int.toNat_natCast, lit_a, Nat.reduceAdd, or_true, true_or, or_false, false_or, Int.reduceEq, Int.reduceNe, Int.reduceLT, Int.reduceLE, Int.reduceNeg, sg_nil]
  exact h
-- Sen.firstOfChapter: blocks [0, 4, 28, 34]
theorem k_Sen_firstOfChapter {σ : Sg} {d : Nat} {Q : QT} {μ : Mem} {S n : Nat} {t : Int} (hS : iSen σ S) (hn : μ S 3 = n) (hp : n ≤ 24) (hb : ∀ i, i < n → 0 ≤ μ (S + 3) i ∧ μ (S + 3) i ≤ 1) (ht : inR t) (h : Q (.inl (fsI (fun i => decide (t < sm (μ (S + 3)) (i + 1))) 0 n)) μ) : Call σ (d + 1) 31 [.inr (.inr S), .inl t] μ Q := by
  refine e_31 ?_
  obtain ⟨s0, s1, s2, s3, q0, q1, q2⟩ := hS
  have ht2 := ht
  unfold inR at ht2
  have loop : ∀ k i : Nat, i + k = n → (∀ j, j < i → ¬ t < sm (μ (S + 3)) (j + 1)) → wp σ (Call σ d) 31 Q 4 [some (.inr (.inr S)), some (.inl t), some (.inl (sm (μ (S + 3)) i)), some (.inl (i : Int))] [] μ := by
    intro k
    induction k with
    | zero =>
      intro i hi hm
      obtain rfl : i = n := by omega
      rw [fsI_n (fun j hj => decide_eq_false (hm j hj))] at h
      refine wp_go b31_4 ?_; simp only [l31_4, sg_iload_3, sg_aload_0, sg_getf0, sg_ic_ge, sg_iload_2, sg_getfp, sg_iaload, sg_iadd, sg_istore_2, sg_iload_1, sg_ic_le, sg_iret0, nLg_n, nLg_i, nLg_r, tc_c, tc_l, tc_r, tc_m, tc_n, tc_o, tc_0, inR, true_and, and_true, ne_eq, not_true_eq_false, not_false_eq_true, true_imp_iff, false_imp_iff, Int.toNat_natCast, lit_a, Nat.reduceAdd, or_true, true_or, or_false, false_or, Int.reduceEq, Int.reduceNe, Int.reduceLT, Int.reduceLE, Int.reduceNeg, sg_nil, s0, hn]
      repeat' (first | with_reducible apply And.intro | (intro _) | ((first | refine wp_go b31_0 ?_ | refine wp_go b31_28 ?_ | refine wp_go b31_34 ?_); simp only [l31_0, l31_28, l31_34, sg_iconst, sg_istore_2, sg_istore_3, sg_iinc, ldI_3, okS_3, stL_3, sg_goto, sg_iret0, nLg_n, nLg_i, nLg_r, tc_c, tc_l, tc_r, tc_m, tc_n, tc_o, tc_0, inR, true_and, and_true, ne_eq, not_true_eq_false, not_false_eq_true, true_imp_iff, false_imp_iff, Int.toNat_natCast, lit_a, Nat.reduceAdd, or_true, true_or, or_false, false_or, Int.reduceEq, Int.reduceNe, Int.reduceLT, Int.reduceLE, Int.reduceNeg, sg_nil]))
      all_goals (try omega)
    | succ k ih =>
      intro i hi hm
      have b1 := sm_b (f := μ (S + 3)) (n := i + 1) (fun j hj => hb j (by omega))
      rw [sm_s] at b1
      refine wp_go b31_4 ?_; simp only [l31_4, sg_iload_3, sg_aload_0, sg_getf0, sg_ic_ge, sg_iload_2, sg_getfp, sg_iaload, sg_iadd, sg_istore_2, sg_iload_1, sg_ic_le, sg_iret0, nLg_n, nLg_i, nLg_r, tc_c, tc_l, tc_r, tc_m, tc_n, tc_o, tc_0, inR, true_and, and_true, ne_eq, not_true_eq_false, not_false_eq_true, true_imp_iff, false_imp_iff, Int.toNat_natCast, lit_a, Nat.reduceAdd, or_true, true_or, or_false, false_or, Int.reduceEq, Int.reduceNe, Int.reduceLT, Int.reduceLE, Int.reduceNeg, sg_nil, s0, s1, s2, s3, q0, q1, q2, hn]
      repeat' (first | with_reducible apply And.intro | (intro _) | ((first | refine wp_go b31_0 ?_ | refine wp_go b31_28 ?_ | refine wp_go b31_34 ?_); simp only [l31_0, l31_28, l31_34, sg_iconst, sg_istore_2, sg_istore_3, sg_iinc, ldI_3, okS_3, stL_3, sg_goto, sg_iret0, nLg_n, nLg_i, nLg_r, tc_c, tc_l, tc_r, tc_m, tc_n, tc_o, tc_0, inR, true_and, and_true, ne_eq, not_true_eq_false, not_false_eq_true, true_imp_iff, false_imp_iff, Int.toNat_natCast, lit_a, Nat.reduceAdd, or_true, true_or, or_false, false_or, Int.reduceEq, Int.reduceNe, Int.reduceLT, Int.reduceLE, Int.reduceNeg, sg_nil]))
      all_goals (try omega)
      · rw [fsI_s (i := i) (by omega) (decide_eq_true (by rw [sm_s]; assumption)) (fun j hj => decide_eq_false (hm j hj))] at h
        exact h
      · exact ih (i + 1) (by omega) (fun j hj => by
          rcases Nat.lt_or_ge j i with q | q
          · exact hm j q
          · have : j = i := by omega
            subst this; rw [sm_s]; omega)
  refine wp_go b31_0 ?_; simp only [l31_0, sg_iconst, sg_istore_2, sg_istore_3, nLg_n, nLg_i, nLg_r, tc_c, tc_l, tc_r, tc_m, tc_n, tc_o, tc_0, inR, true_and, and_true, ne_eq, not_true_eq_false, not_false_eq_true, true_imp_iff, false_imp_iff, Int.toNat_natCast, lit_a, Nat.reduceAdd, or_true, true_or, or_false, false_or, Int.reduceEq, Int.reduceNe, Int.reduceLT, Int.reduceLE, Int.reduceNeg, sg_nil]
  exact loop n 0 (by omega) (fun j hj => absurd hj (by omega))
-- Sen.copyFrom: blocks [0]
theorem k_Sen_copyFrom {σ : Sg} {d : Nat} {Q : QT} {μ : Mem} {S o n : Nat} (hS : iSen σ S) (hO : iSen σ o) (hd : S + 4 ≤ o ∨ o + 4 ≤ S) (hn : μ o 3 = n) (hp : n ≤ 24)
    (h : ∀ μ' : Mem, (∀ k, k < S ∨ S + 4 ≤ k → μ' k = μ k) → μ' S 3 = n → (∀ i, i < n → μ' (S + 1) i = μ (o + 1) i ∧ μ' (S + 2) i = μ (o + 2) i ∧ μ' (S + 3) i = μ (o + 3) i) → Q (.inl 0) μ') : Call σ (d + 1) 32 [.inr (.inr S), .inr (.inr o)] μ Q := by
  refine e_32 ?_
  obtain ⟨s0, s1, s2, s3, q0, q1, q2⟩ := hS
  obtain ⟨o0, o1, o2, o3, p0, p1, p2⟩ := hO
  refine wp_go b32_0 ?_; simp only [l32_0, sg_aload_0, sg_aload_1, sg_getf0, sg_putf0, sg_getfp, sg_iconst, len4_0, len4_1, len4_2, len4_3, len4_4, sg_acopy, sg_ret, nLg_n, nLg_i, nLg_r, tc_c, tc_l, tc_r, tc_m, tc_n, tc_o, tc_0, inR, true_and, and_true, ne_eq, not_true_eq_false, not_false_eq_true, true_imp_iff, false_imp_iff, Int.toNat_natCast, lit_a, Nat.reduceAdd, or_true, true_or, or_false, false_or, Int.reduceEq, Int.reduceNe, Int.reduceLT, Int.reduceLE, Int.reduceNeg, sg_nil, s0, s1, s2, s3, q0, q1, q2, o0, o1, o2, o3, p0, p1, p2, hn, ms_at, mcp_at, ne_a, ne_b, false_and, if_false, if_true, and_self, Int.toNat_zero, Nat.add_left_cancel_iff, Nat.reduceEqDiff]
  repeat' (first | with_reducible apply And.intro | (intro _) | ((first | refine wp_go b32_0 ?_); simp only [l32_0, sg_aload_0, sg_aload_1, sg_getf0, sg_putf0, sg_getfp, sg_iconst, len4_0, len4_1, len4_2, len4_3, len4_4, sg_acopy, sg_ret, nLg_n, nLg_i, nLg_r, tc_c, tc_l, tc_r, tc_m, tc_n, tc_o, tc_0, inR, true_and, and_true, ne_eq, not_true_eq_false, not_false_eq_true, true_imp_iff, false_imp_iff, Int.toNat_natCast, lit_a, Nat.reduceAdd, or_true, true_or, or_false, false_or, Int.reduceEq, Int.reduceNe, Int.reduceLT, Int.reduceLE, Int.reduceNeg, sg_nil]))
  all_goals (try omega)
  refine h _ (fun k hk => ?_) ?_ (fun i hi => ⟨?_, ?_, ?_⟩)
  · funext j
    simp only [mcp_at, ms_at]
    repeat rw [if_neg (by omega)]
  all_goals simp only [mcp_at, ms_at, Nat.zero_add, Nat.sub_zero, true_and, and_true, if_true]
  all_goals repeat (first | rw [if_neg (by omega)] | rw [if_pos (by omega)])
-- Sen.isLike: blocks [0, 13, 15, 68, 70, 76]
theorem k_Sen_isLike {σ : Sg} {d : Nat} {Q : QT} {μ : Mem} {S o n n' : Nat} (hS : iSen σ S) (hO : iSen σ o) (hn : μ S 3 = n) (hn' : μ o 3 = n') (hp : n ≤ 24) (hp' : n' ≤ 24)
    (hr : ∀ i, i < n → inR (μ (S + 1) i) ∧ inR (μ (S + 2) i) ∧ inR (μ (S + 3) i)) (hr' : ∀ i, i < n' → inR (μ (o + 1) i) ∧ inR (μ (o + 2) i) ∧ inR (μ (o + 3) i))
    (h1 : n = n' → (∀ i, i < n → μ (S + 1) i = μ (o + 1) i ∧ μ (S + 2) i = μ (o + 2) i ∧ μ (S + 3) i = μ (o + 3) i) → Q (.inl 1) μ)
    (h0 : ¬ (n = n' ∧ ∀ i, i < n → μ (S + 1) i = μ (o + 1) i ∧ μ (S + 2) i = μ (o + 2) i ∧ μ (S + 3) i = μ (o + 3) i) → Q (.inl 0) μ) : Call σ (d + 1) 33 [.inr (.inr S), .inr (.inr o)] μ Q := by
  refine e_33 ?_
  obtain ⟨s0, s1, s2, s3, q0, q1, q2⟩ := hS
  obtain ⟨o0, o1, o2, o3, p0, p1, p2⟩ := hO
  have loop : n = n' → ∀ k i : Nat, i + k = n → (∀ j, j < i → μ (S + 1) j = μ (o + 1) j ∧ μ (S + 2) j = μ (o + 2) j ∧ μ (S + 3) j = μ (o + 3) j) → wp σ (Call σ d) 33 Q 15 [some (.inr (.inr S)), some (.inr (.inr o)), some (.inl (i : Int))] [] μ := by
    intro hnn k
    induction k with
    | zero =>
      intro i hi hm
      obtain rfl : i = n := by omega
      have h1 := h1 hnn hm
      refine wp_go b33_15 ?_; simp only [l33_15, sg_iload_2, sg_aload_0, sg_getf0, sg_ic_ge, sg_getfp, sg_iaload, sg_aload_1, sg_ic_ne, sg_ic_eq, nLg_n, nLg_i, nLg_r, tc_c, tc_l, tc_r, tc_m, tc_n, tc_o, tc_0, inR, true_and, and_true, ne_eq, not_true_eq_false, not_false_eq_true, true_imp_iff, false_imp_iff, Int.toNat_natCast, lit_a, Nat.reduceAdd, or_true, true_or, or_false, false_or, Int.reduceEq, Int.reduceNe, Int.reduceLT, Int.reduceLE, Int.reduceNeg, sg_nil, s0, hn]
      repeat' (first | with_reducible apply And.intro | (intro _) | ((first | refine wp_go b33_0 ?_ | refine wp_go b33_13 ?_ | refine wp_go b33_68 ?_ | refine wp_go b33_70 ?_ | refine wp_go b33_76 ?_); simp only [l33_0, l33_13, l33_68, l33_70, l33_76, sg_aload_0, sg_getf0, sg_aload_1, sg_ic_eq, sg_iconst, sg_iret1, sg_istore_2, sg_iinc, ldI_2, okS_2, stL_2, sg_goto, nLg_n, nLg_i, nLg_r, tc_c, tc_l, tc_r, tc_m, tc_n, tc_o, tc_0, inR, true_and, and_true, ne_eq, not_true_eq_false, not_false_eq_true, true_imp_iff, false_imp_iff, Int.toNat_natCast, lit_a, Nat.reduceAdd, or_true, true_or, or_false, false_or, Int.reduceEq, Int.reduceNe, Int.reduceLT, Int.reduceLE, Int.reduceNeg, sg_nil]))
      all_goals (try omega)
    | succ k ih =>
      intro i hi hm
      obtain ⟨r1, r2, r3⟩ := hr i (by omega)
      obtain ⟨r4, r5, r6⟩ := hr' i (by omega)
      unfold inR at r1 r2 r3 r4 r5 r6
      refine wp_go b33_15 ?_; simp only [l33_15, sg_iload_2, sg_aload_0, sg_getf0, sg_ic_ge, sg_getfp, sg_iaload, sg_aload_1, sg_ic_ne, sg_ic_eq, nLg_n, nLg_i, nLg_r, tc_c, tc_l, tc_r, tc_m, tc_n, tc_o, tc_0, inR, true_and, and_true, ne_eq, not_true_eq_false, not_false_eq_true, true_imp_iff, false_imp_iff, Int.toNat_natCast, lit_a, Nat.reduceAdd, or_true, true_or, or_false, false_or, Int.reduceEq, Int.reduceNe, Int.reduceLT, Int.reduceLE, Int.reduceNeg, sg_nil, s0, s1, s2, s3, q0, q1, q2, o0, o1, o2, o3, p0, p1, p2, hn]
      repeat' (first | with_reducible apply And.intro | (intro _) | ((first | refine wp_go b33_0 ?_ | refine wp_go b33_13 ?_ | refine wp_go b33_68 ?_ | refine wp_go b33_70 ?_ | refine wp_go b33_76 ?_); simp only [l33_0, l33_13, l33_68, l33_70, l33_76, sg_aload_0, sg_getf0, sg_aload_1, sg_ic_eq, sg_iconst, sg_iret1, sg_istore_2, sg_iinc, ldI_2, okS_2, stL_2, sg_goto, nLg_n, nLg_i, nLg_r, tc_c, tc_l, tc_r, tc_m, tc_n, tc_o, tc_0, inR, true_and, and_true, ne_eq, not_true_eq_false, not_false_eq_true, true_imp_iff, false_imp_iff, Int.toNat_natCast, lit_a, Nat.reduceAdd, or_true, true_or, or_false, false_or, Int.reduceEq, Int.reduceNe, Int.reduceLT, Int.reduceLE, Int.reduceNeg, sg_nil]))
      all_goals (try omega)
      all_goals first
        | exact ih (i + 1) (by omega) (fun j hj => by
            rcases Nat.lt_or_ge j i with q | q
            · exact hm j q
            · have : j = i := by omega
              subst this; exact ⟨by omega, by omega, by omega⟩)
        | exact h0 (fun q => by have := q.2 i (by omega); omega)
  refine wp_go b33_0 ?_; simp only [l33_0, sg_aload_0, sg_getf0, sg_aload_1, sg_ic_eq, sg_iconst, sg_iret1, nLg_n, nLg_i, nLg_r, tc_c, tc_l, tc_r, tc_m, tc_n, tc_o, tc_0, inR, true_and, and_true, ne_eq, not_true_eq_false, not_false_eq_true, true_imp_iff, false_imp_iff, Int.toNat_natCast, lit_a, Nat.reduceAdd, or_true, true_or, or_false, false_or, Int.reduceEq, Int.reduceNe, Int.reduceLT, Int.reduceLE, Int.reduceNeg, sg_nil, s0, o0, hn, hn']
  repeat' (first | with_reducible apply And.intro | (intro _) | ((first | refine wp_go b33_0 ?_ | refine wp_go b33_13 ?_ | refine wp_go b33_68 ?_ | refine wp_go b33_70 ?_ | refine wp_go b33_76 ?_); simp only [l33_0, l33_13, l33_68, l33_70, l33_76, sg_aload_0, sg_getf0, sg_aload_1, sg_ic_eq, sg_iconst, sg_iret1, sg_istore_2, sg_iinc, ldI_2, okS_2, stL_2, sg_goto, nLg_n, nLg_i, nLg_r, tc_c, tc_l, tc_r, tc_m, tc_n, tc_o, tc_0, inR, true_and, and_true, ne_eq, not_true_eq_false, not_false_eq_true, true_imp_iff, false_imp_iff, Int.toNat_natCast, lit_a, Nat.reduceAdd, or_true, true_or, or_false, false_or, Int.reduceEq, Int.reduceNe, Int.reduceLT, Int.reduceLE, Int.reduceNeg, sg_nil]))
  all_goals (try omega)
  · exact loop (by omega) n 0 (by omega) (fun j hj => absurd hj (by omega))
  · exact h0 (fun q => by omega)
end
section
/-! THE ABSTRACT STATE: a row z of numbers (n, next mark, notices, listeners; sentences at 4 + 3i: mark, length, begins; rows at 76 + 5i: how many, then the notices; notices at 196 + 2i: length, groups; listeners at 212 + 3l: group, bound, file; files at 230 + 121l), a hearing w (how many; at 5i + 1: notice, its length, mark, length, begins) -/
abbrev Rw : Type := Nat → Int
def fw (z : Rw) (l : Nat) : Rw := fun k => z (230 + 121 * l + k)
def HR (w : Rw) (μ : Mem) (h : Nat) : Prop := μ (h + 1) 3 = w 0 ∧ ∀ i : Nat, (i : Int) < w 0 → μ (h + 2) i = w (5 * i + 3) ∧ μ (h + 3) i = w (5 * i + 4) ∧ μ (h + 4) i = w (5 * i + 5) ∧ μ (h + 5) i = w (5 * i + 1) ∧ μ (h + 6) i = w (5 * i + 2)
def RC (z : Rw) (μ : Mem) (S : Nat) : Prop :=
  (μ (S + 1) 3 = z 0 ∧ μ S 9 = z 1 ∧ μ S 10 = z 2 ∧ μ S 11 = z 3) ∧
  (∀ i : Nat, (i : Int) < z 0 → μ (S + 2) i = z (4 + 3 * i) ∧ μ (S + 3) i = z (5 + 3 * i) ∧ μ (S + 4) i = z (6 + 3 * i) ∧ μ (S + 5) i = z (76 + 5 * i) ∧ ∀ j : Nat, (j : Int) < z (76 + 5 * i) → μ (S + 6) (4 * i + j) = z (77 + 5 * i + j)) ∧
  (∀ i : Nat, (i : Int) < z 2 → μ (S + 7) i = z (196 + 2 * i) ∧ μ (S + 8) i = z (197 + 2 * i)) ∧
  (∀ l : Nat, (l : Int) < z 3 → μ (S + 9) l = z (212 + 3 * l) ∧ μ (S + 10) l = z (213 + 3 * l) ∧ μ (S + 11) l = z (214 + 3 * l) ∧ (z (214 + 3 * l) = 1 → HR (fw z l) μ (S + 13 + 7 * l)))
def WH (w : Rw) : Prop := (1 ≤ w 0 ∧ w 0 ≤ 24) ∧ (∀ i : Nat, (i : Int) < w 0 → (0 ≤ w (5 * i + 3) ∧ w (5 * i + 3) ≤ 99) ∧ (1 ≤ w (5 * i + 4) ∧ w (5 * i + 4) ≤ 300) ∧ (0 ≤ w (5 * i + 5) ∧ w (5 * i + 5) ≤ 1) ∧ ((w (5 * i + 1) = -6 ∧ w (5 * i + 2) = 0) ∨ (0 ≤ w (5 * i + 1) ∧ w (5 * i + 1) ≤ 7 ∧ 1 ≤ w (5 * i + 2) ∧ w (5 * i + 2) ≤ 120))) ∧ w 5 = 1 ∧ ∀ k : Nat, 5 * w 0 + 1 ≤ (k : Int) → k < 121 → w k = 0
def IZ (z : Rw) : Prop := (1 ≤ z 0 ∧ z 0 ≤ 24 ∧ 1 ≤ z 1 ∧ z 1 ≤ 100 ∧ 0 ≤ z 2 ∧ z 2 ≤ 8 ∧ 0 ≤ z 3 ∧ z 3 ≤ 6) ∧
  (∀ i : Nat, (i : Int) < z 0 → (0 ≤ z (4 + 3 * i) ∧ z (4 + 3 * i) ≤ 99) ∧ (1 ≤ z (5 + 3 * i) ∧ z (5 + 3 * i) ≤ 300) ∧ (0 ≤ z (6 + 3 * i) ∧ z (6 + 3 * i) ≤ 1) ∧ (0 ≤ z (76 + 5 * i) ∧ z (76 + 5 * i) ≤ 4) ∧ ∀ j : Nat, (j : Int) < z (76 + 5 * i) → 0 ≤ z (77 + 5 * i + j) ∧ z (77 + 5 * i + j) < z 2) ∧
  z 6 = 1 ∧
  (∀ i : Nat, (i : Int) < z 2 → (1 ≤ z (196 + 2 * i) ∧ z (196 + 2 * i) ≤ 120) ∧ (1 ≤ z (197 + 2 * i) ∧ z (197 + 2 * i) ≤ 63)) ∧
  (∀ l : Nat, (l : Int) < z 3 → (0 ≤ z (212 + 3 * l) ∧ z (212 + 3 * l) ≤ 5) ∧ (0 ≤ z (213 + 3 * l) ∧ z (213 + 3 * l) ≤ 600) ∧ (0 ≤ z (214 + 3 * l) ∧ z (214 + 3 * l) ≤ 1) ∧ (z (214 + 3 * l) = 1 → WH (fw z l)))
-- what is heard
def bit (x k : Int) : Int := iAnd (iShr x k) 1
def okN (z : Rw) (g b set sec n : Int) : Bool := decide (bit (z (197 + 2 * n.toNat)) g = 1 ∧ bit set n ≠ 1 ∧ sec + z (196 + 2 * n.toNat) ≤ b)
def pickR (f : Nat → Int) (ok : Int → Bool) : Nat → Nat → Int
  | 0, _ => -6
  | k + 1, j => if ok (f j) = true then f j else pickR f ok k (j + 1)
def chs (z : Rw) (g b : Int) (q : Int × Int) (s : Nat) : Int := pickR (fun j => z (77 + 5 * s + j)) (okN z g b q.1 q.2) (z (76 + 5 * s)).toNat 0
def nxt (z : Rw) (q : Int × Int) (n : Int) : Int × Int := if n = -6 then q else (iOr q.1 (iShl 1 n), q.2 + z (196 + 2 * n.toNat))
def rn (z : Rw) (g b : Int) : Nat → Int × Int
  | 0 => (0, 0)
  | s + 1 => nxt z (rn z g b s) (chs z g b (rn z g b s) s)
def ch (z : Rw) (g b : Int) (s : Nat) : Int := chs z g b (rn z g b s) s
def cl (z : Rw) (n : Int) : Int := if n = -6 then 0 else z (196 + 2 * n.toNat)
/-- what a listener of group g with bound b would hear now -/
def hr (z : Rw) (g b : Int) : Rw := fun k => if k = 0 then z 0 else if (((k - 1) / 5 : Nat) : Int) < z 0 then (match (k - 1) % 5 with | 0 => ch z g b ((k - 1) / 5) | 1 => cl z (ch z g b ((k - 1) / 5)) | 2 => z (4 + 3 * ((k - 1) / 5)) | 3 => z (5 + 3 * ((k - 1) / 5)) | _ => z (6 + 3 * ((k - 1) / 5))) else 0
def hrL (z : Rw) (l : Nat) : Rw := hr z (z (212 + 3 * l)) (z (213 + 3 * l))
/-- what listener l hears: of the file, if there is one -/
def wO (z : Rw) (l : Nat) : Rw := if z (214 + 3 * l) = 1 then fw z l else hrL z l
theorem hr_0 (z : Rw) (g b : Int) : hr z g b 0 = z 0 := rfl
theorem hr_1 {z : Rw} {g b : Int} {i : Nat} (h : (i : Int) < z 0) : hr z g b (5 * i + 1) = ch z g b i := by
  have e1 : (5 * i + 1 - 1) / 5 = i := by omega
  have e2 : (5 * i + 1 - 1) % 5 = 0 := by omega
  unfold hr; rw [if_neg (by omega), e1, if_pos h, e2]; rfl
theorem hr_2 {z : Rw} {g b : Int} {i : Nat} (h : (i : Int) < z 0) : hr z g b (5 * i + 2) = cl z (ch z g b i) := by
  have e1 : (5 * i + 2 - 1) / 5 = i := by omega
  have e2 : (5 * i + 2 - 1) % 5 = 1 := by omega
  unfold hr; rw [if_neg (by omega), e1, if_pos h, e2]; rfl
theorem hr_3 {z : Rw} {g b : Int} {i : Nat} (h : (i : Int) < z 0) : hr z g b (5 * i + 3) = z (4 + 3 * i) := by
  have e1 : (5 * i + 3 - 1) / 5 = i := by omega
  have e2 : (5 * i + 3 - 1) % 5 = 2 := by omega
  unfold hr; rw [if_neg (by omega), e1, if_pos h, e2]; rfl
theorem hr_4 {z : Rw} {g b : Int} {i : Nat} (h : (i : Int) < z 0) : hr z g b (5 * i + 4) = z (5 + 3 * i) := by
  have e1 : (5 * i + 4 - 1) / 5 = i := by omega
  have e2 : (5 * i + 4 - 1) % 5 = 3 := by omega
  unfold hr; rw [if_neg (by omega), e1, if_pos h, e2]; rfl
theorem hr_5 {z : Rw} {g b : Int} {i : Nat} (h : (i : Int) < z 0) : hr z g b (5 * i + 5) = z (6 + 3 * i) := by
  have e1 : (5 * i + 5 - 1) / 5 = i := by omega
  have e2 : (5 * i + 5 - 1) % 5 = 4 := by omega
  unfold hr; rw [if_neg (by omega), e1, if_pos h, e2]; rfl
theorem hr_z {z : Rw} {g b : Int} {k : Nat} (h : 5 * z 0 + 1 ≤ (k : Int)) (h0 : 0 ≤ z 0) : hr z g b k = 0 := by
  unfold hr; rw [if_neg (by omega), if_neg (by omega)]
theorem pickR_in {f : Nat → Int} {ok : Int → Bool} : ∀ (k j : Nat), pickR f ok k j = -6 ∨ ∃ i, j ≤ i ∧ i < j + k ∧ pickR f ok k j = f i ∧ ok (f i) = true
  | 0, j => Or.inl rfl
  | k + 1, j => by
    unfold pickR
    split
    · rename_i h; exact Or.inr ⟨j, by omega, by omega, rfl, h⟩
    · rcases pickR_in (f := f) (ok := ok) k (j + 1) with h | ⟨i, h1, h2, h3, h4⟩
      · exact Or.inl h
      · exact Or.inr ⟨i, by omega, by omega, h3, h4⟩
theorem iAnd_r (x y : Int) : inR (iAnd x y) := ⟨Int32.le_toInt _, by have := Int32.toInt_lt (Int32.ofInt x &&& Int32.ofInt y); unfold iAnd; omega⟩
theorem iOr_r (x y : Int) : inR (iOr x y) := ⟨Int32.le_toInt _, by have := Int32.toInt_lt (Int32.ofInt x ||| Int32.ofInt y); unfold iOr; omega⟩
theorem bit_r (x y : Int) : inR (bit x y) := iAnd_r _ _
theorem bit_01 (x k : Int) : bit x k = 0 ∨ bit x k = 1 := by
  unfold bit iAnd
  have e : Int32.ofInt 1 = nI (2 ^ 1 - 1) := rfl
  obtain ⟨j, hj, h⟩ := pk_andE (Int32.ofInt (iShr x k)) (m := Int32.ofInt 1) 1 (by decide)
  rw [h]
  rw [nI_toInt (by omega)]
  omega
/-- a choice in a break is a notice that there is, or none -/
theorem chs_in {z : Rw} {g b : Int} {q : Int × Int} {s : Nat} (hz : IZ z) (hs : (s : Int) < z 0) : chs z g b q s = -6 ∨ (0 ≤ chs z g b q s ∧ chs z g b q s < z 2 ∧ okN z g b q.1 q.2 (chs z g b q s) = true) := by
  unfold chs
  rcases pickR_in (f := fun j => z (77 + 5 * s + j)) (ok := okN z g b q.1 q.2) (z (76 + 5 * s)).toNat 0 with h | ⟨i, h1, h2, h3, h4⟩
  · exact Or.inl h
  · refine Or.inr ?_
    have q1 := hz.2.1 s hs
    have q2 := q1.2.2.2.2 i (by have := q1.2.2.2.1; omega)
    rw [h3]
    exact ⟨q2.1, q2.2, h4⟩
theorem ch_in {z : Rw} {g b : Int} {s : Nat} (hz : IZ z) (hs : (s : Int) < z 0) : ch z g b s = -6 ∨ (0 ≤ ch z g b s ∧ ch z g b s < z 2) := by
  rcases chs_in (g := g) (b := b) (q := rn z g b s) hz hs with h | h
  · exact Or.inl h
  · exact Or.inr ⟨h.1, h.2.1⟩
theorem hr_W {z : Rw} {g b : Int} (hz : IZ z) : WH (hr z g b) := by
  obtain ⟨⟨n1, n2, -, -, n3, n4, -, -⟩, hs, h6, hn, hl⟩ := id hz
  refine ⟨by rw [hr_0]; exact ⟨n1, n2⟩, fun i hi => ?_, ?_, fun k h1 h2 => ?_⟩
  · rw [hr_0] at hi
    rw [hr_1 hi, hr_2 hi, hr_3 hi, hr_4 hi, hr_5 hi]
    obtain ⟨a1, a2, a3, -⟩ := hs i hi
    refine ⟨a1, a2, a3, ?_⟩
    rcases ch_in (g := g) (b := b) hz hi with h | ⟨h1, h2⟩
    · left; rw [h]; exact ⟨rfl, rfl⟩
    · right
      have q := (hn (ch z g b i).toNat (by omega)).1
      unfold cl
      rw [if_neg (by omega)]
      exact ⟨h1, by omega, q.1, q.2⟩
  · have := hr_5 (z := z) (g := g) (b := b) (i := 0) (by omega)
    exact this.trans h6
  · rw [hr_0] at h1
    exact hr_z h1 (by omega)
theorem wO_W {z : Rw} {l : Nat} (hz : IZ z) (hl : (l : Int) < z 3) : WH (wO z l) := by
  unfold wO
  split
  · rename_i h; exact (hz.2.2.2.2 l hl).2.2.2 h
  · exact hr_W hz
def bt (w : Rw) (p : Nat) : Int := sm (fun i => w (5 * i + 4)) p + sm (fun i => w (5 * i + 2)) p
/-- the sum up to a place of what is heard -/
def ht (w : Rw) (p : Nat) : Int := sm (fun i => w (5 * i + 2) + w (5 * i + 4)) p
theorem ht_bt (w : Rw) (p : Nat) : ht w p = bt w p := by
  unfold ht bt; rw [sm_a]; omega
theorem HR.n {w : Rw} {μ : Mem} {h : Nat} (hw : WH w) : ∃ n : Nat, w 0 = (n : Int) ∧ 1 ≤ n ∧ n ≤ 24 := ⟨(w 0).toNat, by have := hw.1; omega, by have := hw.1; omega, by have := hw.1; omega⟩
theorem WH.nt {w : Rw} (hw : WH w) {i : Nat} (hi : (i : Int) < w 0) : 0 ≤ w (5 * i + 2) ∧ w (5 * i + 2) ≤ 120 := by
  have := (hw.2.1 i hi).2.2.2
  omega
theorem WH.no {w : Rw} (hw : WH w) {i : Nat} (hi : (i : Int) < w 0) : -6 ≤ w (5 * i + 1) ∧ w (5 * i + 1) ≤ 7 := by
  have := (hw.2.1 i hi).2.2.2
  omega
theorem HR_f {w : Rw} {μ μ' : Mem} {h : Nat} (hf : ∀ k, h ≤ k → k < h + 7 → μ' k = μ k) (H : HR w μ h) : HR w μ' h := by
  unfold HR at H ⊢
  rw [hf (h + 1) (by omega) (by omega), hf (h + 2) (by omega) (by omega), hf (h + 3) (by omega) (by omega), hf (h + 4) (by omega) (by omega), hf (h + 5) (by omega) (by omega), hf (h + 6) (by omega) (by omega)]
  exact H
theorem RC_f {z : Rw} {μ μ' : Mem} {S : Nat} (hz : z 3 ≤ 6) (hf : ∀ k, S ≤ k → k < S + 55 → μ' k = μ k) (H : RC z μ S) : RC z μ' S := by
  obtain ⟨h1, h2, h3, h4⟩ := H
  unfold RC
  rw [hf S (by omega) (by omega), hf (S + 1) (by omega) (by omega), hf (S + 2) (by omega) (by omega), hf (S + 3) (by omega) (by omega), hf (S + 4) (by omega) (by omega), hf (S + 5) (by omega) (by omega), hf (S + 6) (by omega) (by omega), hf (S + 7) (by omega) (by omega), hf (S + 8) (by omega) (by omega), hf (S + 9) (by omega) (by omega), hf (S + 10) (by omega) (by omega), hf (S + 11) (by omega) (by omega)]
  refine ⟨h1, h2, h3, fun l hl => ?_⟩
  obtain ⟨a1, a2, a3, a4⟩ := h4 l hl
  exact ⟨a1, a2, a3, fun h => HR_f (fun k hk1 hk2 => hf k (by omega) (by omega)) (a4 h)⟩
/-- of a state's cells: sentences, rows and notices alone -/
def R0 (z : Rw) (μ : Mem) (S : Nat) : Prop :=
  (∀ i : Nat, (i : Int) < z 0 → μ (S + 2) i = z (4 + 3 * i) ∧ μ (S + 3) i = z (5 + 3 * i) ∧ μ (S + 4) i = z (6 + 3 * i) ∧ μ (S + 5) i = z (76 + 5 * i) ∧ ∀ j : Nat, (j : Int) < z (76 + 5 * i) → μ (S + 6) (4 * i + j) = z (77 + 5 * i + j)) ∧
  (∀ i : Nat, (i : Int) < z 2 → μ (S + 7) i = z (196 + 2 * i) ∧ μ (S + 8) i = z (197 + 2 * i))
theorem RC.r0 {z : Rw} {μ : Mem} {S : Nat} (h : RC z μ S) : R0 z μ S := ⟨h.2.1, h.2.2.1⟩
theorem R0_f {z : Rw} {μ μ' : Mem} {S : Nat} (hf : ∀ k, S + 2 ≤ k → k < S + 9 → μ' k = μ k) (H : R0 z μ S) : R0 z μ' S := by
  unfold R0
  rw [hf (S + 2) (by omega) (by omega), hf (S + 3) (by omega) (by omega), hf (S + 4) (by omega) (by omega), hf (S + 5) (by omega) (by omega), hf (S + 6) (by omega) (by omega), hf (S + 7) (by omega) (by omega), hf (S + 8) (by omega) (by omega)]
  exact H
end
section
-- NS.isWithin: blocks [0, 14, 15]
theorem k_NS_isWithin {σ : Sg} {d : Nat} {Q : QT} {μ : Mem} {v a b : Int} (hv : inR v) (ha : inR a) (hb : inR b) (h1 : a ≤ v → v ≤ b → Q (.inl 1) μ) (h0 : (v < a ∨ b < v) → Q (.inl 0) μ) : Call σ (d + 1) 80 [.inl v, .inl a, .inl b] μ Q := by
  refine e_80 ?_
  unfold inR at hv ha hb
  repeat' (first | with_reducible apply And.intro | (intro _) | ((first | refine wp_go b80_0 ?_ | refine wp_go b80_14 ?_ | refine wp_go b80_15 ?_); simp only [l80_0, l80_14, l80_15, sg_iload_0, sg_iload_1, sg_ic_lt, sg_iload_2, sg_ic_gt, sg_iconst, sg_goto, sg_iret1, nLg_n, nLg_i, nLg_r, tc_c, tc_l, tc_r, tc_m, tc_n, tc_o, tc_0, inR, true_and, and_true, ne_eq, not_true_eq_false, not_false_eq_true, true_imp_iff, false_imp_iff, Int.toNat_natCast, lit_a, Nat.reduceAdd, or_true, true_or, or_false, false_or, Int.reduceEq, Int.reduceNe, Int.reduceLT, Int.reduceLE, Int.reduceNeg, sg_nil]))
  all_goals (try omega)
  all_goals first | exact h1 (by omega) (by omega) | exact h0 (by omega)
-- NS.asNumber: blocks [0, 8, 9]
theorem k_NS_asNumber {σ : Sg} {d : Nat} {Q : QT} {μ : Mem} {b : Int} (hb : b = 0 ∨ b = 1) (h : Q (.inl b) μ) : Call σ (d + 1) 81 [.inl b] μ Q := by
  refine e_81 ?_
  rcases hb with rfl | rfl
  · repeat' (first | with_reducible apply And.intro | (intro _) | ((first | refine wp_go b81_0 ?_ | refine wp_go b81_8 ?_ | refine wp_go b81_9 ?_); simp only [l81_0, l81_8, l81_9, sg_iload_0, sg_if_eq, sg_iconst, sg_goto, sg_iret0, nLg_n, nLg_i, nLg_r, tc_c, tc_l, tc_r, tc_m, tc_n, tc_o, tc_0, inR, true_and, and_true, ne_eq, not_true_eq_false, not_false_eq_true, true_imp_iff, false_imp_iff, Int.toNat_natCast, lit_a, Nat.reduceAdd, or_true, true_or, or_false, false_or, Int.reduceEq, Int.reduceNe, Int.reduceLT, Int.reduceLE, Int.reduceNeg, sg_nil]))
    all_goals (try omega)
  · repeat' (first | with_reducible apply And.intro | (intro _) | ((first | refine wp_go b81_0 ?_ | refine wp_go b81_8 ?_ | refine wp_go b81_9 ?_); simp only [l81_0, l81_8, l81_9, sg_iload_0, sg_if_eq, sg_iconst, sg_goto, sg_iret0, nLg_n, nLg_i, nLg_r, tc_c, tc_l, tc_r, tc_m, tc_n, tc_o, tc_0, inR, true_and, and_true, ne_eq, not_true_eq_false, not_false_eq_true, true_imp_iff, false_imp_iff, Int.toNat_natCast, lit_a, Nat.reduceAdd, or_true, true_or, or_false, false_or, Int.reduceEq, Int.reduceNe, Int.reduceLT, Int.reduceLE, Int.reduceNeg, sg_nil]))
    all_goals (try omega)
theorem heaF {σ : Sg} {h : Nat} (H : iHea σ h) : (shp σ h).1 = 1 ∧ (shp σ (h + 1)).1 = 4 ∧ shp σ (h + 2) = (100, 24) ∧ shp σ (h + 3) = (100, 24) ∧ shp σ (h + 4) = (100, 24) ∧ shp σ (h + 5) = (100, 24) ∧ shp σ (h + 6) = (100, 24) ∧ σ.2 h 0 = true ∧ σ.2 h 1 = true ∧ σ.2 h 2 = true ∧ σ.2 (h + 1) 0 = true ∧ σ.2 (h + 1) 1 = true ∧ σ.2 (h + 1) 2 = true := by
  obtain ⟨a0, ⟨b0, b1, b2, b3, b4, b5, b6⟩, a1, a2, a3, a4, a5⟩ := H
  exact ⟨a0, b0, b1, b2, b3, a1, a2, a3, a4, a5, b4, b5, b6⟩
-- Hea.breakTime: blocks [0, 8, 11, 31]
theorem k_Hea_breakTime {σ : Sg} {d : Nat} {Q : QT} {μ : Mem} {h p : Nat} {w : Rw} (hH : iHea σ h) (hw : HR w μ h) (hn : w 0 ≤ 24) (hp : (p : Int) ≤ w 0) (hq : Q (.inl (bt w p)) μ) : Call σ (d + 2) 5 [.inr (.inr h), .inl (p : Int)] μ Q := by
  refine e_5 ?_
  obtain ⟨a0, a1, a2, a3, a4, a5, a6, p0, p1, p2, p3, p4, p5⟩ := heaF hH
  refine wp_go b5_0 ?_; simp only [l5_0, sg_aload_0, sg_getfp, sg_iload_1, sg_iv2_i, len4_0, len4_1, len4_2, len4_3, len4_4, nLg_n, nLg_i, nLg_r, tc_c, tc_l, tc_r, tc_m, tc_n, tc_o, tc_0, inR, true_and, and_true, ne_eq, not_true_eq_false, not_false_eq_true, true_imp_iff, false_imp_iff, Int.toNat_natCast, lit_a, Nat.reduceAdd, or_true, true_or, or_false, false_or, Int.reduceEq, Int.reduceNe, Int.reduceLT, Int.reduceLE, Int.reduceNeg, sg_nil, a0, a1, a2, a3, a4, a5, a6, p0, p1, p2, p3, p4, p5]
  repeat' (first | with_reducible apply And.intro | (intro _) | ((first | refine wp_go b5_0 ?_ | refine wp_go b5_8 ?_ | refine wp_go b5_31 ?_); simp only [l5_0, l5_8, l5_31, sg_aload_0, sg_getfp, sg_iload_1, sg_iv2_i, len4_0, len4_1, len4_2, len4_3, len4_4, sg_istore_2, sg_iconst, sg_istore_3, sg_iload_2, sg_iret0, nLg_n, nLg_i, nLg_r, tc_c, tc_l, tc_r, tc_m, tc_n, tc_o, tc_0, inR, true_and, and_true, ne_eq, not_true_eq_false, not_false_eq_true, true_imp_iff, false_imp_iff, Int.toNat_natCast, lit_a, Nat.reduceAdd, or_true, true_or, or_false, false_or, Int.reduceEq, Int.reduceNe, Int.reduceLT, Int.reduceLE, Int.reduceNeg, sg_nil]))
  all_goals (try omega)
  refine k_Sen_timeOf hH.2.1 (by omega) ?_
  have e1 : sm (μ (h + 1 + 2)) p = sm (fun i => w (5 * i + 4)) p := sm_c (fun i hi => (hw.2 i (by omega)).2.1)
  rw [e1]
  have loop : ∀ k i : Nat, i + k = p → wp σ (Call σ (d + 1)) 5 Q 11 [some (.inr (.inr h)), some (.inl (p : Int)), some (.inl (sm (fun i => w (5 * i + 4)) p + sm (fun i => w (5 * i + 2)) i)), some (.inl (i : Int))] [] μ := by
    intro k
    induction k with
    | zero =>
      intro i hi
      obtain rfl : i = p := by omega
      refine wp_go b5_11 ?_; simp only [l5_11, sg_iload_3, sg_iload_1, sg_ic_ge, sg_iload_2, sg_aload_0, sg_getfp, sg_iaload, sg_iadd, sg_istore_2, sg_iinc, ldI_3, okS_3, stL_3, sg_goto, nLg_n, nLg_i, nLg_r, tc_c, tc_l, tc_r, tc_m, tc_n, tc_o, tc_0, inR, true_and, and_true, ne_eq, not_true_eq_false, not_false_eq_true, true_imp_iff, false_imp_iff, Int.toNat_natCast, lit_a, Nat.reduceAdd, or_true, true_or, or_false, false_or, Int.reduceEq, Int.reduceNe, Int.reduceLT, Int.reduceLE, Int.reduceNeg, sg_nil]
      repeat' (first | with_reducible apply And.intro | (intro _) | ((first | refine wp_go b5_0 ?_ | refine wp_go b5_8 ?_ | refine wp_go b5_31 ?_); simp only [l5_0, l5_8, l5_31, sg_aload_0, sg_getfp, sg_iload_1, sg_iv2_i, len4_0, len4_1, len4_2, len4_3, len4_4, sg_istore_2, sg_iconst, sg_istore_3, sg_iload_2, sg_iret0, nLg_n, nLg_i, nLg_r, tc_c, tc_l, tc_r, tc_m, tc_n, tc_o, tc_0, inR, true_and, and_true, ne_eq, not_true_eq_false, not_false_eq_true, true_imp_iff, false_imp_iff, Int.toNat_natCast, lit_a, Nat.reduceAdd, or_true, true_or, or_false, false_or, Int.reduceEq, Int.reduceNe, Int.reduceLT, Int.reduceLE, Int.reduceNeg, sg_nil]))
      all_goals (try omega)
      all_goals exact hq
    | succ k ih =>
      intro i hi
      refine wp_go b5_11 ?_; simp only [l5_11, sg_iload_3, sg_iload_1, sg_ic_ge, sg_iload_2, sg_aload_0, sg_getfp, sg_iaload, sg_iadd, sg_istore_2, sg_iinc, ldI_3, okS_3, stL_3, sg_goto, nLg_n, nLg_i, nLg_r, tc_c, tc_l, tc_r, tc_m, tc_n, tc_o, tc_0, inR, true_and, and_true, ne_eq, not_true_eq_false, not_false_eq_true, true_imp_iff, false_imp_iff, Int.toNat_natCast, lit_a, Nat.reduceAdd, or_true, true_or, or_false, false_or, Int.reduceEq, Int.reduceNe, Int.reduceLT, Int.reduceLE, Int.reduceNeg, sg_nil, a0, a1, a2, a3, a4, a5, a6, p0, p1, p2, p3, p4, p5]
      repeat' (first | with_reducible apply And.intro | (intro _) | ((first | refine wp_go b5_0 ?_ | refine wp_go b5_8 ?_ | refine wp_go b5_31 ?_); simp only [l5_0, l5_8, l5_31, sg_aload_0, sg_getfp, sg_iload_1, sg_iv2_i, len4_0, len4_1, len4_2, len4_3, len4_4, sg_istore_2, sg_iconst, sg_istore_3, sg_iload_2, sg_iret0, nLg_n, nLg_i, nLg_r, tc_c, tc_l, tc_r, tc_m, tc_n, tc_o, tc_0, inR, true_and, and_true, ne_eq, not_true_eq_false, not_false_eq_true, true_imp_iff, false_imp_iff, Int.toNat_natCast, lit_a, Nat.reduceAdd, or_true, true_or, or_false, false_or, Int.reduceEq, Int.reduceNe, Int.reduceLT, Int.reduceLE, Int.reduceNeg, sg_nil]))
      all_goals (try omega)
      rw [(hw.2 i (by omega)).2.2.2.2, Int.add_assoc]
      exact ih (i + 1) (by omega)
  have l0 := loop p 0 (by omega)
  rw [sm_0, Int.add_zero] at l0
  refine wp_go b5_8 ?_; simp only [l5_8, sg_istore_2, sg_iconst, sg_istore_3, nLg_n, nLg_i, nLg_r, tc_c, tc_l, tc_r, tc_m, tc_n, tc_o, tc_0, inR, true_and, and_true, ne_eq, not_true_eq_false, not_false_eq_true, true_imp_iff, false_imp_iff, Int.toNat_natCast, lit_a, Nat.reduceAdd, or_true, true_or, or_false, false_or, Int.reduceEq, Int.reduceNe, Int.reduceLT, Int.reduceLE, Int.reduceNeg, sg_nil]
  exact l0
-- Hea.sentenceTime: blocks [0, 5]
theorem k_Hea_sentenceTime {σ : Sg} {d : Nat} {Q : QT} {μ : Mem} {h p : Nat} {w : Rw} (hH : iHea σ h) (hw : HR w μ h) (hn : w 0 ≤ 24) (hp : (p : Int) < w 0) (hq : Q (.inl (bt w p + w (5 * p + 2))) μ) : Call σ (d + 3) 6 [.inr (.inr h), .inl (p : Int)] μ Q := by
  refine e_6 ?_
  obtain ⟨a0, a1, a2, a3, a4, a5, a6, p0, p1, p2, p3, p4, p5⟩ := heaF hH
  refine wp_go b6_0 ?_; simp only [l6_0, sg_aload_0, sg_iload_1, sg_iv2_i, len4_0, len4_1, len4_2, len4_3, len4_4, nLg_n, nLg_i, nLg_r, tc_c, tc_l, tc_r, tc_m, tc_n, tc_o, tc_0, inR, true_and, and_true, ne_eq, not_true_eq_false, not_false_eq_true, true_imp_iff, false_imp_iff, Int.toNat_natCast, lit_a, Nat.reduceAdd, or_true, true_or, or_false, false_or, Int.reduceEq, Int.reduceNe, Int.reduceLT, Int.reduceLE, Int.reduceNeg, sg_nil, a0, a1, a2, a3, a4, a5, a6, p0, p1, p2, p3, p4, p5]
  refine k_Hea_breakTime hH hw hn (by omega) ?_
  refine wp_go b6_5 ?_; simp only [l6_5, sg_aload_0, sg_getfp, sg_iload_1, sg_iaload, sg_iadd, sg_iret0, nLg_n, nLg_i, nLg_r, tc_c, tc_l, tc_r, tc_m, tc_n, tc_o, tc_0, inR, true_and, and_true, ne_eq, not_true_eq_false, not_false_eq_true, true_imp_iff, false_imp_iff, Int.toNat_natCast, lit_a, Nat.reduceAdd, or_true, true_or, or_false, false_or, Int.reduceEq, Int.reduceNe, Int.reduceLT, Int.reduceLE, Int.reduceNeg, sg_nil, a0, a1, a2, a3, a4, a5, a6, p0, p1, p2, p3, p4, p5]
  repeat' (first | with_reducible apply And.intro | (intro _) | ((first | refine wp_go b6_0 ?_ | refine wp_go b6_5 ?_); simp only [l6_0, l6_5, sg_aload_0, sg_iload_1, sg_iv2_i, len4_0, len4_1, len4_2, len4_3, len4_4, sg_getfp, sg_iaload, sg_iadd, sg_iret0, nLg_n, nLg_i, nLg_r, tc_c, tc_l, tc_r, tc_m, tc_n, tc_o, tc_0, inR, true_and, and_true, ne_eq, not_true_eq_false, not_false_eq_true, true_imp_iff, false_imp_iff, Int.toNat_natCast, lit_a, Nat.reduceAdd, or_true, true_or, or_false, false_or, Int.reduceEq, Int.reduceNe, Int.reduceLT, Int.reduceLE, Int.reduceNeg, sg_nil]))
  all_goals (try omega)
  rw [(hw.2 p hp).2.2.2.2]
  exact hq
-- Hea.total: blocks [0, 11]
theorem k_Hea_total {σ : Sg} {d : Nat} {Q : QT} {μ : Mem} {h n : Nat} {w : Rw} (hH : iHea σ h) (hw : HR w μ h) (hn : w 0 ≤ 24) (hp : w 0 = (n : Int)) (hq : Q (.inl (bt w n)) μ) : Call σ (d + 3) 7 [.inr (.inr h)] μ Q := by
  refine e_7 ?_
  obtain ⟨a0, a1, a2, a3, a4, a5, a6, p0, p1, p2, p3, p4, p5⟩ := heaF hH
  refine wp_go b7_0 ?_; simp only [l7_0, sg_aload_0, sg_getfp, sg_getf0, sg_iv2_i, len4_0, len4_1, len4_2, len4_3, len4_4, nLg_n, nLg_i, nLg_r, tc_c, tc_l, tc_r, tc_m, tc_n, tc_o, tc_0, inR, true_and, and_true, ne_eq, not_true_eq_false, not_false_eq_true, true_imp_iff, false_imp_iff, Int.toNat_natCast, lit_a, Nat.reduceAdd, or_true, true_or, or_false, false_or, Int.reduceEq, Int.reduceNe, Int.reduceLT, Int.reduceLE, Int.reduceNeg, sg_nil, a0, a1, a2, a3, a4, a5, a6, p0, p1, p2, p3, p4, p5, hw.1, hp]
  repeat' (first | with_reducible apply And.intro | (intro _) | ((first | refine wp_go b7_0 ?_ | refine wp_go b7_11 ?_); simp only [l7_0, l7_11, sg_aload_0, sg_getfp, sg_getf0, sg_iv2_i, len4_0, len4_1, len4_2, len4_3, len4_4, sg_iret0, nLg_n, nLg_i, nLg_r, tc_c, tc_l, tc_r, tc_m, tc_n, tc_o, tc_0, inR, true_and, and_true, ne_eq, not_true_eq_false, not_false_eq_true, true_imp_iff, false_imp_iff, Int.toNat_natCast, lit_a, Nat.reduceAdd, or_true, true_or, or_false, false_or, Int.reduceEq, Int.reduceNe, Int.reduceLT, Int.reduceLE, Int.reduceNeg, sg_nil]))
  all_goals (try omega)
  refine k_Hea_breakTime hH hw hn (by omega) ?_
  refine wp_go b7_11 ?_; simp only [l7_11, sg_iret0, nLg_n, nLg_i, nLg_r, tc_c, tc_l, tc_r, tc_m, tc_n, tc_o, tc_0, inR, true_and, and_true, ne_eq, not_true_eq_false, not_false_eq_true, true_imp_iff, false_imp_iff, Int.toNat_natCast, lit_a, Nat.reduceAdd, or_true, true_or, or_false, false_or, Int.reduceEq, Int.reduceNe, Int.reduceLT, Int.reduceLE, Int.reduceNeg, sg_nil]
  exact hq
-- Hea.noticeSeconds: blocks [0, 4, 11]
theorem k_Hea_noticeSeconds {σ : Sg} {d : Nat} {Q : QT} {μ : Mem} {h n : Nat} {w : Rw} (hH : iHea σ h) (hw : HR w μ h) (hn : w 0 ≤ 24) (hp : w 0 = (n : Int)) (hq : Q (.inl (sm (fun i => w (5 * i + 2)) n)) μ) : Call σ (d + 4) 8 [.inr (.inr h)] μ Q := by
  refine e_8 ?_
  obtain ⟨a0, a1, a2, a3, a4, a5, a6, p0, p1, p2, p3, p4, p5⟩ := heaF hH
  refine wp_go b8_0 ?_; simp only [l8_0, sg_aload_0, sg_iv1_i, len4_0, len4_1, len4_2, len4_3, len4_4, nLg_n, nLg_i, nLg_r, tc_c, tc_l, tc_r, tc_m, tc_n, tc_o, tc_0, inR, true_and, and_true, ne_eq, not_true_eq_false, not_false_eq_true, true_imp_iff, false_imp_iff, Int.toNat_natCast, lit_a, Nat.reduceAdd, or_true, true_or, or_false, false_or, Int.reduceEq, Int.reduceNe, Int.reduceLT, Int.reduceLE, Int.reduceNeg, sg_nil, a0, a1, a2, a3, a4, a5, a6, p0, p1, p2, p3, p4, p5]
  refine k_Hea_total hH hw hn hp ?_
  refine wp_go b8_4 ?_; simp only [l8_4, sg_aload_0, sg_getfp, sg_iv1_i, len4_0, len4_1, len4_2, len4_3, len4_4, nLg_n, nLg_i, nLg_r, tc_c, tc_l, tc_r, tc_m, tc_n, tc_o, tc_0, inR, true_and, and_true, ne_eq, not_true_eq_false, not_false_eq_true, true_imp_iff, false_imp_iff, Int.toNat_natCast, lit_a, Nat.reduceAdd, or_true, true_or, or_false, false_or, Int.reduceEq, Int.reduceNe, Int.reduceLT, Int.reduceLE, Int.reduceNeg, sg_nil, a0, a1, a2, a3, a4, a5, a6, p0, p1, p2, p3, p4, p5]
  refine k_Sen_total hH.2.1 (n := n) (by have := hw.1; omega) (by omega) ?_
  have e1 : sm (μ (h + 1 + 2)) n = sm (fun i => w (5 * i + 4)) n := sm_c (fun i hi => (hw.2 i (by omega)).2.1)
  rw [e1]
  have e2 : bt w n - sm (fun i => w (5 * i + 4)) n = sm (fun i => w (5 * i + 2)) n := by unfold bt; omega
  refine wp_go b8_11 ?_; simp only [l8_11, sg_isub, sg_iret0, nLg_n, nLg_i, nLg_r, tc_c, tc_l, tc_r, tc_m, tc_n, tc_o, tc_0, inR, true_and, and_true, ne_eq, not_true_eq_false, not_false_eq_true, true_imp_iff, false_imp_iff, Int.toNat_natCast, lit_a, Nat.reduceAdd, or_true, true_or, or_false, false_or, Int.reduceEq, Int.reduceNe, Int.reduceLT, Int.reduceLE, Int.reduceNeg, sg_nil, e2]
  exact hq
-- Hea.countNotices: blocks [0, 4, 31, 32, 35, 43]
theorem k_Hea_countNotices {σ : Sg} {d : Nat} {Q : QT} {μ : Mem} {h n : Nat} {w : Rw} (hH : iHea σ h) (hw : HR w μ h) (hW : WH w) (hp : w 0 = (n : Int)) (hq : Q (.inl (sm (fun i => bI (w (5 * i + 1) ≠ -6)) n)) μ) : Call σ (d + 2) 9 [.inr (.inr h)] μ Q := by
  refine e_9 ?_
  obtain ⟨a0, a1, a2, a3, a4, a5, a6, p0, p1, p2, p3, p4, p5⟩ := heaF hH
  have hn := hW.1.2
  have loop : ∀ k i : Nat, i + k = n → wp σ (Call σ (d + 1)) 9 Q 4 [some (.inr (.inr h)), some (.inl (sm (fun i => bI (w (5 * i + 1) ≠ -6)) i)), some (.inl (i : Int))] [] μ := by
    intro k
    induction k with
    | zero =>
      intro i hi
      obtain rfl : i = n := by omega
      refine wp_go b9_4 ?_; simp only [l9_4, sg_iload_2, sg_aload_0, sg_getfp, sg_getf0, sg_ic_ge, sg_iload_1, sg_iaload, sg_bipush, sg_ic_eq, sg_iconst, sg_goto, nLg_n, nLg_i, nLg_r, tc_c, tc_l, tc_r, tc_m, tc_n, tc_o, tc_0, inR, true_and, and_true, ne_eq, not_true_eq_false, not_false_eq_true, true_imp_iff, false_imp_iff, Int.toNat_natCast, lit_a, Nat.reduceAdd, or_true, true_or, or_false, false_or, Int.reduceEq, Int.reduceNe, Int.reduceLT, Int.reduceLE, Int.reduceNeg, sg_nil, a0, a1, a2, a3, a4, a5, a6, p0, p1, p2, p3, p4, p5, hw.1, hp]
      repeat' (first | with_reducible apply And.intro | (intro _) | ((first | refine wp_go b9_0 ?_ | refine wp_go b9_31 ?_ | refine wp_go b9_32 ?_ | refine wp_go b9_35 ?_ | refine wp_go b9_43 ?_); simp only [l9_0, l9_31, l9_32, l9_35, l9_43, sg_iconst, sg_istore_1, sg_istore_2, len4_0, len4_1, len4_2, len4_3, len4_4, sg_is1_2, sg_iadd, sg_iinc, ldI_2, okS_2, stL_2, sg_goto, sg_iload_1, sg_iret0, nLg_n, nLg_i, nLg_r, tc_c, tc_l, tc_r, tc_m, tc_n, tc_o, tc_0, inR, true_and, and_true, ne_eq, not_true_eq_false, not_false_eq_true, true_imp_iff, false_imp_iff, Int.toNat_natCast, lit_a, Nat.reduceAdd, or_true, true_or, or_false, false_or, Int.reduceEq, Int.reduceNe, Int.reduceLT, Int.reduceLE, Int.reduceNeg, sg_nil]))
      all_goals (try omega)
      all_goals exact hq
    | succ k ih =>
      intro i hi
      have e1 := (hw.2 i (by omega)).2.2.2.1
      have r1 := hW.no (i := i) (by omega)
      have ih1 := ih (i + 1) (by omega)
      rw [sm_s] at ih1
      refine wp_go b9_4 ?_; simp only [l9_4, sg_iload_2, sg_aload_0, sg_getfp, sg_getf0, sg_ic_ge, sg_iload_1, sg_iaload, sg_bipush, sg_ic_eq, sg_iconst, sg_goto, nLg_n, nLg_i, nLg_r, tc_c, tc_l, tc_r, tc_m, tc_n, tc_o, tc_0, inR, true_and, and_true, ne_eq, not_true_eq_false, not_false_eq_true, true_imp_iff, false_imp_iff, Int.toNat_natCast, lit_a, Nat.reduceAdd, or_true, true_or, or_false, false_or, Int.reduceEq, Int.reduceNe, Int.reduceLT, Int.reduceLE, Int.reduceNeg, sg_nil, a0, a1, a2, a3, a4, a5, a6, p0, p1, p2, p3, p4, p5, hw.1, hp, e1]
      repeat' (first | with_reducible apply And.intro | (intro _) | refine k_NS_asNumber (Or.inl rfl) ?_ | refine k_NS_asNumber (Or.inr rfl) ?_ | ((first | refine wp_go b9_0 ?_ | refine wp_go b9_31 ?_ | refine wp_go b9_32 ?_ | refine wp_go b9_35 ?_ | refine wp_go b9_43 ?_); simp only [l9_0, l9_31, l9_32, l9_35, l9_43, sg_iconst, sg_istore_1, sg_istore_2, len4_0, len4_1, len4_2, len4_3, len4_4, sg_is1_2, sg_iadd, sg_iinc, ldI_2, okS_2, stL_2, sg_goto, sg_iload_1, sg_iret0, nLg_n, nLg_i, nLg_r, tc_c, tc_l, tc_r, tc_m, tc_n, tc_o, tc_0, inR, true_and, and_true, ne_eq, not_true_eq_false, not_false_eq_true, true_imp_iff, false_imp_iff, Int.toNat_natCast, lit_a, Nat.reduceAdd, or_true, true_or, or_false, false_or, Int.reduceEq, Int.reduceNe, Int.reduceLT, Int.reduceLE, Int.reduceNeg, sg_nil]))
      all_goals (try omega)
      · rename_i q; rw [show bI (w (5 * i + 1) ≠ -6) = 0 from by unfold bI; rw [if_neg (by omega)]] at ih1; exact ih1
      · rename_i q; rw [show bI (w (5 * i + 1) ≠ -6) = 1 from by unfold bI; rw [if_pos (by omega)]] at ih1; exact ih1
  refine wp_go b9_0 ?_; simp only [l9_0, sg_iconst, sg_istore_1, sg_istore_2, nLg_n, nLg_i, nLg_r, tc_c, tc_l, tc_r, tc_m, tc_n, tc_o, tc_0, inR, true_and, and_true, ne_eq, not_true_eq_false, not_false_eq_true, true_imp_iff, false_imp_iff, Int.toNat_natCast, lit_a, Nat.reduceAdd, or_true, true_or, or_false, false_or, Int.reduceEq, Int.reduceNe, Int.reduceLT, Int.reduceLE, Int.reduceNeg, sg_nil]
  exact loop n 0 (by omega)
-- Hea.placeHeardAt: blocks [0, 4, 41, 47]
theorem k_Hea_placeHeardAt {σ : Sg} {d : Nat} {Q : QT} {μ : Mem} {h n : Nat} {t : Int} {w : Rw} (hH : iHea σ h) (hw : HR w μ h) (hW : WH w) (hp : w 0 = (n : Int)) (ht1 : inR t) (hq : Q (.inl (fsI (fun i => decide (t < ht w (i + 1))) (-6) n)) μ) : Call σ (d + 1) 10 [.inr (.inr h), .inl t] μ Q := by
  refine e_10 ?_
  obtain ⟨a0, a1, a2, a3, a4, a5, a6, p0, p1, p2, p3, p4, p5⟩ := heaF hH
  have hn := hW.1.2
  have ht2 := ht1
  unfold inR at ht2
  have loop : ∀ k i : Nat, i + k = n → (∀ j, j < i → ¬ t < ht w (j + 1)) → wp σ (Call σ d) 10 Q 4 [some (.inr (.inr h)), some (.inl t), some (.inl (ht w i)), some (.inl (i : Int))] [] μ := by
    intro k
    induction k with
    | zero =>
      intro i hi hm
      obtain rfl : i = n := by omega
      rw [fsI_n (fun j hj => decide_eq_false (hm j hj))] at hq
      refine wp_go b10_4 ?_; simp only [l10_4, sg_iload_3, sg_aload_0, sg_getfp, sg_getf0, sg_ic_ge, sg_iload_2, sg_iaload, sg_iadd, sg_istore_2, sg_iload_1, sg_iret0, nLg_n, nLg_i, nLg_r, tc_c, tc_l, tc_r, tc_m, tc_n, tc_o, tc_0, inR, true_and, and_true, ne_eq, not_true_eq_false, not_false_eq_true, true_imp_iff, false_imp_iff, Int.toNat_natCast, lit_a, Nat.reduceAdd, or_true, true_or, or_false, false_or, Int.reduceEq, Int.reduceNe, Int.reduceLT, Int.reduceLE, Int.reduceNeg, sg_nil, a0, a1, a2, a3, a4, a5, a6, p0, p1, p2, p3, p4, p5, hw.1, hp]
      repeat' (first | with_reducible apply And.intro | (intro _) | ((first | refine wp_go b10_0 ?_ | refine wp_go b10_41 ?_ | refine wp_go b10_47 ?_); simp only [l10_0, l10_41, l10_47, sg_iconst, sg_istore_2, sg_istore_3, sg_iinc, ldI_3, okS_3, stL_3, sg_goto, sg_bipush, sg_iret0, nLg_n, nLg_i, nLg_r, tc_c, tc_l, tc_r, tc_m, tc_n, tc_o, tc_0, inR, true_and, and_true, ne_eq, not_true_eq_false, not_false_eq_true, true_imp_iff, false_imp_iff, Int.toNat_natCast, lit_a, Nat.reduceAdd, or_true, true_or, or_false, false_or, Int.reduceEq, Int.reduceNe, Int.reduceLT, Int.reduceLE, Int.reduceNeg, sg_nil]))
      all_goals (try omega)
      all_goals exact hq
    | succ k ih =>
      intro i hi hm
      have b1 := sm_b (f := fun i => w (5 * i + 2) + w (5 * i + 4)) (b := 420) (n := i + 1) (fun j hj => by
        have q1 := hW.nt (i := j) (by omega)
        have q2 := (hW.2.1 j (by omega)).2.1
        omega)
      have e1 := (hw.2 i (by omega)).2.1
      have e2 := (hw.2 i (by omega)).2.2.2.2
      have hs : ht w (i + 1) = ht w i + (w (5 * i + 2) + w (5 * i + 4)) := rfl
      have b1 : 0 ≤ ht w (i + 1) ∧ ht w (i + 1) ≤ 420 * ((i + 1 : Nat) : Int) := b1
      rw [hs] at b1
      refine wp_go b10_4 ?_; simp only [l10_4, sg_iload_3, sg_aload_0, sg_getfp, sg_getf0, sg_ic_ge, sg_iload_2, sg_iaload, sg_iadd, sg_istore_2, sg_iload_1, sg_iret0, nLg_n, nLg_i, nLg_r, tc_c, tc_l, tc_r, tc_m, tc_n, tc_o, tc_0, inR, true_and, and_true, ne_eq, not_true_eq_false, not_false_eq_true, true_imp_iff, false_imp_iff, Int.toNat_natCast, lit_a, Nat.reduceAdd, or_true, true_or, or_false, false_or, Int.reduceEq, Int.reduceNe, Int.reduceLT, Int.reduceLE, Int.reduceNeg, sg_nil, a0, a1, a2, a3, a4, a5, a6, p0, p1, p2, p3, p4, p5, hw.1, hp, e1, e2]
      repeat' (first | with_reducible apply And.intro | (intro _) | ((first | refine wp_go b10_0 ?_ | refine wp_go b10_41 ?_ | refine wp_go b10_47 ?_); simp only [l10_0, l10_41, l10_47, sg_iconst, sg_istore_2, sg_istore_3, sg_iinc, ldI_3, okS_3, stL_3, sg_goto, sg_bipush, sg_iret0, nLg_n, nLg_i, nLg_r, tc_c, tc_l, tc_r, tc_m, tc_n, tc_o, tc_0, inR, true_and, and_true, ne_eq, not_true_eq_false, not_false_eq_true, true_imp_iff, false_imp_iff, Int.toNat_natCast, lit_a, Nat.reduceAdd, or_true, true_or, or_false, false_or, Int.reduceEq, Int.reduceNe, Int.reduceLT, Int.reduceLE, Int.reduceNeg, sg_nil]))
      all_goals (try omega)
      all_goals first
        | exact ih (i + 1) (by omega) (fun j hj => by
            rcases Nat.lt_or_ge j i with q | q
            · exact hm j q
            · have : j = i := by omega
              subst this; rw [hs]; omega)
        | (rw [fsI_s (i := i) (by omega) (decide_eq_true (by rw [hs]; omega)) (fun j hj => decide_eq_false (hm j hj))] at hq
           exact hq)
  refine wp_go b10_0 ?_; simp only [l10_0, sg_iconst, sg_istore_2, sg_istore_3, nLg_n, nLg_i, nLg_r, tc_c, tc_l, tc_r, tc_m, tc_n, tc_o, tc_0, inR, true_and, and_true, ne_eq, not_true_eq_false, not_false_eq_true, true_imp_iff, false_imp_iff, Int.toNat_natCast, lit_a, Nat.reduceAdd, or_true, true_or, or_false, false_or, Int.reduceEq, Int.reduceNe, Int.reduceLT, Int.reduceLE, Int.reduceNeg, sg_nil]
  exact loop n 0 (by omega) (fun j hj => absurd hj (by omega))
-- Hea.copyFrom: blocks [0, 11]
theorem k_Hea_copyFrom {σ : Sg} {d : Nat} {Q : QT} {μ : Mem} {h o : Nat} {w : Rw} (hH : iHea σ h) (hO : iHea σ o) (hd : h + 7 ≤ o ∨ o + 7 ≤ h) (hw : HR w μ o) (hn : 0 ≤ w 0) (hn2 : w 0 ≤ 24)
    (hq : ∀ μ' : Mem, (∀ k, k < h ∨ h + 7 ≤ k → μ' k = μ k) → HR w μ' h → Q (.inl 0) μ') : Call σ (d + 2) 11 [.inr (.inr h), .inr (.inr o)] μ Q := by
  refine e_11 ?_
  obtain ⟨a0, a1, a2, a3, a4, a5, a6, p0, p1, p2, p3, p4, p5⟩ := heaF hH
  obtain ⟨b0, b1, b2, b3, b4, b5, b6, r0, r1, r2, r3, r4, r5⟩ := heaF hO
  obtain ⟨n, hp⟩ : ∃ n : Nat, w 0 = (n : Int) := ⟨(w 0).toNat, by omega⟩
  refine wp_go b11_0 ?_; simp only [l11_0, sg_aload_0, sg_getfp, sg_aload_1, sg_iv2_v, len4_0, len4_1, len4_2, len4_3, len4_4, nLg_n, nLg_i, nLg_r, tc_c, tc_l, tc_r, tc_m, tc_n, tc_o, tc_0, inR, true_and, and_true, ne_eq, not_true_eq_false, not_false_eq_true, true_imp_iff, false_imp_iff, Int.toNat_natCast, lit_a, Nat.reduceAdd, or_true, true_or, or_false, false_or, Int.reduceEq, Int.reduceNe, Int.reduceLT, Int.reduceLE, Int.reduceNeg, sg_nil, a0, a1, a2, a3, a4, a5, a6, p0, p1, p2, p3, p4, p5, b0, b1, b2, b3, b4, b5, b6, r0, r1, r2, r3, r4, r5]
  refine k_Sen_copyFrom hH.2.1 hO.2.1 (by omega) (n := n) (by rw [hw.1]; exact hp) (by omega) (fun μ1 f1 n1 c1 => ?_)
  refine wp_go b11_11 ?_; simp only [l11_11, sg_aload_1, sg_getfp, sg_iconst, sg_aload_0, sg_getf0, len4_0, len4_1, len4_2, len4_3, len4_4, sg_acopy, sg_ret, nLg_n, nLg_i, nLg_r, tc_c, tc_l, tc_r, tc_m, tc_n, tc_o, tc_0, inR, true_and, and_true, ne_eq, not_true_eq_false, not_false_eq_true, true_imp_iff, false_imp_iff, Int.toNat_natCast, lit_a, Nat.reduceAdd, or_true, true_or, or_false, false_or, Int.reduceEq, Int.reduceNe, Int.reduceLT, Int.reduceLE, Int.reduceNeg, sg_nil, a0, a1, a2, a3, a4, a5, a6, p0, p1, p2, p3, p4, p5, b0, b1, b2, b3, b4, b5, b6, r0, r1, r2, r3, r4, r5, n1, mcp_at, ne_a, ne_b, false_and, if_false, Int.toNat_zero, Nat.add_left_cancel_iff, Nat.reduceEqDiff]
  repeat' (first | with_reducible apply And.intro | (intro _) | ((first | refine wp_go b11_0 ?_ | refine wp_go b11_11 ?_); simp only [l11_0, l11_11, sg_aload_0, sg_getfp, sg_aload_1, sg_iv2_v, len4_0, len4_1, len4_2, len4_3, len4_4, sg_iconst, sg_getf0, sg_acopy, sg_ret, nLg_n, nLg_i, nLg_r, tc_c, tc_l, tc_r, tc_m, tc_n, tc_o, tc_0, inR, true_and, and_true, ne_eq, not_true_eq_false, not_false_eq_true, true_imp_iff, false_imp_iff, Int.toNat_natCast, lit_a, Nat.reduceAdd, or_true, true_or, or_false, false_or, Int.reduceEq, Int.reduceNe, Int.reduceLT, Int.reduceLE, Int.reduceNeg, sg_nil]))
  all_goals (try omega)
  refine hq _ (fun k hk => ?_) ⟨?_, fun i hi => ?_⟩
  · funext j
    simp only [mcp_at]
    repeat rw [if_neg (by omega)]
    rw [f1 k (by omega)]
  · simp only [mcp_at]
    repeat rw [if_neg (by omega)]
    rw [n1, hp]
  · have q := hw.2 i hi
    have c := c1 i (by omega)
    simp only [mcp_at, Nat.zero_add, Nat.sub_zero, true_and]
    refine ⟨?_, ?_, ?_, ?_, ?_⟩
    · repeat rw [if_neg (by omega)]
      exact c.1.trans q.1
    · repeat rw [if_neg (by omega)]
      exact c.2.1.trans q.2.1
    · repeat rw [if_neg (by omega)]
      exact c.2.2.trans q.2.2.1
    · rw [if_neg (by omega), if_pos (by omega), f1 (o + 5) (by omega)]
      exact q.2.2.2.1
    · rw [if_pos (by omega), if_neg (by omega), f1 (o + 6) (by omega)]
      exact q.2.2.2.2
-- Hea.isLike: blocks [0, 11, 16, 18, 59, 61, 67]
theorem k_Hea_isLike {σ : Sg} {d : Nat} {Q : QT} {μ : Mem} {h o : Nat} {w v : Rw} (hH : iHea σ h) (hO : iHea σ o) (hw : HR w μ h) (hv : HR v μ o) (hW : WH w) (hV : WH v)
    (h1 : (∀ k, k < 121 → w k = v k) → Q (.inl 1) μ) (h0 : ¬ (∀ k, k < 121 → w k = v k) → Q (.inl 0) μ) : Call σ (d + 2) 12 [.inr (.inr h), .inr (.inr o)] μ Q := by
  refine e_12 ?_
  obtain ⟨a0, a1, a2, a3, a4, a5, a6, p0, p1, p2, p3, p4, p5⟩ := heaF hH
  obtain ⟨b0, b1, b2, b3, b4, b5, b6, r0, r1, r2, r3, r4, r5⟩ := heaF hO
  obtain ⟨n, hp, hn1, hn2⟩ := HR.n (μ := μ) (h := h) hW
  obtain ⟨n', hp', hn1', hn2'⟩ := HR.n (μ := μ) (h := h) hV
  refine wp_go b12_0 ?_; simp only [l12_0, sg_aload_0, sg_getfp, sg_aload_1, sg_iv2_i, len4_0, len4_1, len4_2, len4_3, len4_4, nLg_n, nLg_i, nLg_r, tc_c, tc_l, tc_r, tc_m, tc_n, tc_o, tc_0, inR, true_and, and_true, ne_eq, not_true_eq_false, not_false_eq_true, true_imp_iff, false_imp_iff, Int.toNat_natCast, lit_a, Nat.reduceAdd, or_true, true_or, or_false, false_or, Int.reduceEq, Int.reduceNe, Int.reduceLT, Int.reduceLE, Int.reduceNeg, sg_nil, a0, a1, a2, a3, a4, a5, a6, p0, p1, p2, p3, p4, p5, b0, b1, b2, b3, b4, b5, b6, r0, r1, r2, r3, r4, r5]
  refine k_Sen_isLike hH.2.1 hO.2.1 (n := n) (n' := n') (by rw [hw.1]; exact hp) (by rw [hv.1]; exact hp') hn2 hn2' (fun i hi => ?_) (fun i hi => ?_) (fun hnn hall => ?_) (fun hno => ?_)
  · have q := hW.2.1 i (by omega)
    have e := hw.2 i (by omega)
    unfold inR
    rw [show μ (h + 1 + 1) i = _ from e.1, show μ (h + 1 + 2) i = _ from e.2.1, show μ (h + 1 + 3) i = _ from e.2.2.1]
    omega
  · have q := hV.2.1 i (by omega)
    have e := hv.2 i (by omega)
    unfold inR
    rw [show μ (o + 1 + 1) i = _ from e.1, show μ (o + 1 + 2) i = _ from e.2.1, show μ (o + 1 + 3) i = _ from e.2.2.1]
    omega
  · have three : ∀ i : Nat, i < n → w (5 * i + 3) = v (5 * i + 3) ∧ w (5 * i + 4) = v (5 * i + 4) ∧ w (5 * i + 5) = v (5 * i + 5) := by
      intro i hi
      have e := hw.2 i (by omega)
      have e' := hv.2 i (by omega)
      have c := hall i hi
      rw [show μ (h + 1 + 1) i = _ from e.1, show μ (h + 1 + 2) i = _ from e.2.1, show μ (h + 1 + 3) i = _ from e.2.2.1, show μ (o + 1 + 1) i = _ from e'.1, show μ (o + 1 + 2) i = _ from e'.2.1, show μ (o + 1 + 3) i = _ from e'.2.2.1] at c
      exact c
    have loop : ∀ k i : Nat, i + k = n → (∀ j, j < i → w (5 * j + 1) = v (5 * j + 1) ∧ w (5 * j + 2) = v (5 * j + 2)) → wp σ (Call σ (d + 1)) 12 Q 18 [some (.inr (.inr h)), some (.inr (.inr o)), some (.inl (i : Int))] [] μ := by
      intro k
      induction k with
      | zero =>
        intro i hi hm
        obtain rfl : i = n := by omega
        have h1 := h1 (fun k hk => by
          rcases Nat.lt_or_ge (5 * i) k with q | q
          · rw [hW.2.2.2 k (by omega) hk, hV.2.2.2 k (by omega) hk]
          · rcases Nat.eq_zero_or_pos k with q0 | q0
            · rw [q0, hp, hp', hnn]
            · have t := three ((k - 1) / 5) (by omega)
              have s := hm ((k - 1) / 5) (by omega)
              rcases (show k = 5 * ((k - 1) / 5) + 1 ∨ k = 5 * ((k - 1) / 5) + 2 ∨ k = 5 * ((k - 1) / 5) + 3 ∨ k = 5 * ((k - 1) / 5) + 4 ∨ k = 5 * ((k - 1) / 5) + 5 by omega) with r | r | r | r | r <;> rw [r]
              · exact s.1
              · exact s.2
              · exact t.1
              · exact t.2.1
              · exact t.2.2)
        refine wp_go b12_18 ?_; simp only [l12_18, sg_iload_2, sg_aload_0, sg_getfp, sg_getf0, sg_ic_ge, sg_iaload, sg_aload_1, sg_ic_ne, sg_ic_eq, nLg_n, nLg_i, nLg_r, tc_c, tc_l, tc_r, tc_m, tc_n, tc_o, tc_0, inR, true_and, and_true, ne_eq, not_true_eq_false, not_false_eq_true, true_imp_iff, false_imp_iff, Int.toNat_natCast, lit_a, Nat.reduceAdd, or_true, true_or, or_false, false_or, Int.reduceEq, Int.reduceNe, Int.reduceLT, Int.reduceLE, Int.reduceNeg, sg_nil, a0, a1, a2, a3, a4, a5, a6, p0, p1, p2, p3, p4, p5, hw.1, hp]
        repeat' (first | with_reducible apply And.intro | (intro _) | ((first | refine wp_go b12_0 ?_ | refine wp_go b12_11 ?_ | refine wp_go b12_16 ?_ | refine wp_go b12_59 ?_ | refine wp_go b12_61 ?_ | refine wp_go b12_67 ?_); simp only [l12_0, l12_11, l12_16, l12_59, l12_61, l12_67, sg_aload_0, sg_getfp, sg_aload_1, sg_iv2_i, len4_0, len4_1, len4_2, len4_3, len4_4, sg_if_ne, sg_iconst, sg_iret1, sg_istore_2, sg_iinc, ldI_2, okS_2, stL_2, sg_goto, nLg_n, nLg_i, nLg_r, tc_c, tc_l, tc_r, tc_m, tc_n, tc_o, tc_0, inR, true_and, and_true, ne_eq, not_true_eq_false, not_false_eq_true, true_imp_iff, false_imp_iff, Int.toNat_natCast, lit_a, Nat.reduceAdd, or_true, true_or, or_false, false_or, Int.reduceEq, Int.reduceNe, Int.reduceLT, Int.reduceLE, Int.reduceNeg, sg_nil]))
        all_goals (try omega)
      | succ k ih =>
        intro i hi hm
        have e := hw.2 i (by omega)
        have e' := hv.2 i (by omega)
        have r1 := hW.no (i := i) (by omega)
        have r2 := hW.nt (i := i) (by omega)
        have r3 := hV.no (i := i) (by omega)
        have r4 := hV.nt (i := i) (by omega)
        refine wp_go b12_18 ?_; simp only [l12_18, sg_iload_2, sg_aload_0, sg_getfp, sg_getf0, sg_ic_ge, sg_iaload, sg_aload_1, sg_ic_ne, sg_ic_eq, nLg_n, nLg_i, nLg_r, tc_c, tc_l, tc_r, tc_m, tc_n, tc_o, tc_0, inR, true_and, and_true, ne_eq, not_true_eq_false, not_false_eq_true, true_imp_iff, false_imp_iff, Int.toNat_natCast, lit_a, Nat.reduceAdd, or_true, true_or, or_false, false_or, Int.reduceEq, Int.reduceNe, Int.reduceLT, Int.reduceLE, Int.reduceNeg, sg_nil, a0, a1, a2, a3, a4, a5, a6, p0, p1, p2, p3, p4, p5, b0, b1, b2, b3, b4, b5, b6, r0, r1, r2, r3, r4, r5, hw.1, hp, e.2.2.2.1, e.2.2.2.2, e'.2.2.2.1, e'.2.2.2.2]
        repeat' (first | with_reducible apply And.intro | (intro _) | ((first | refine wp_go b12_0 ?_ | refine wp_go b12_11 ?_ | refine wp_go b12_16 ?_ | refine wp_go b12_59 ?_ | refine wp_go b12_61 ?_ | refine wp_go b12_67 ?_); simp only [l12_0, l12_11, l12_16, l12_59, l12_61, l12_67, sg_aload_0, sg_getfp, sg_aload_1, sg_iv2_i, len4_0, len4_1, len4_2, len4_3, len4_4, sg_if_ne, sg_iconst, sg_iret1, sg_istore_2, sg_iinc, ldI_2, okS_2, stL_2, sg_goto, nLg_n, nLg_i, nLg_r, tc_c, tc_l, tc_r, tc_m, tc_n, tc_o, tc_0, inR, true_and, and_true, ne_eq, not_true_eq_false, not_false_eq_true, true_imp_iff, false_imp_iff, Int.toNat_natCast, lit_a, Nat.reduceAdd, or_true, true_or, or_false, false_or, Int.reduceEq, Int.reduceNe, Int.reduceLT, Int.reduceLE, Int.reduceNeg, sg_nil]))
        all_goals (try omega)
        all_goals first
          | exact ih (i + 1) (by omega) (fun j hj => by
              rcases Nat.lt_or_ge j i with q | q
              · exact hm j q
              · have : j = i := by omega
                subst this; exact ⟨by omega, by omega⟩)
          | exact h0 (fun q => by have := q (5 * i + 1) (by omega); have := q (5 * i + 2) (by omega); omega)
    have l0 := loop n 0 (by omega) (fun j hj => absurd hj (by omega))
    refine wp_go b12_11 ?_; simp only [l12_11, sg_if_ne, sg_iconst, sg_iret1, nLg_n, nLg_i, nLg_r, tc_c, tc_l, tc_r, tc_m, tc_n, tc_o, tc_0, inR, true_and, and_true, ne_eq, not_true_eq_false, not_false_eq_true, true_imp_iff, false_imp_iff, Int.toNat_natCast, lit_a, Nat.reduceAdd, or_true, true_or, or_false, false_or, Int.reduceEq, Int.reduceNe, Int.reduceLT, Int.reduceLE, Int.reduceNeg, sg_nil]
    repeat' (first | with_reducible apply And.intro | (intro _) | ((first | refine wp_go b12_0 ?_ | refine wp_go b12_11 ?_ | refine wp_go b12_16 ?_ | refine wp_go b12_59 ?_ | refine wp_go b12_61 ?_ | refine wp_go b12_67 ?_); simp only [l12_0, l12_11, l12_16, l12_59, l12_61, l12_67, sg_aload_0, sg_getfp, sg_aload_1, sg_iv2_i, len4_0, len4_1, len4_2, len4_3, len4_4, sg_if_ne, sg_iconst, sg_iret1, sg_istore_2, sg_iinc, ldI_2, okS_2, stL_2, sg_goto, nLg_n, nLg_i, nLg_r, tc_c, tc_l, tc_r, tc_m, tc_n, tc_o, tc_0, inR, true_and, and_true, ne_eq, not_true_eq_false, not_false_eq_true, true_imp_iff, false_imp_iff, Int.toNat_natCast, lit_a, Nat.reduceAdd, or_true, true_or, or_false, false_or, Int.reduceEq, Int.reduceNe, Int.reduceLT, Int.reduceLE, Int.reduceNeg, sg_nil]))
    all_goals (try omega)
    all_goals exact l0
  · have h0 := h0 (fun q => hno ⟨by have := q 0 (by omega); omega, fun i hi => by
      have e := hw.2 i (by omega)
      have a := q 0 (by omega)
      have e' := hv.2 i (by omega)
      rw [show μ (h + 1 + 1) i = _ from e.1, show μ (h + 1 + 2) i = _ from e.2.1, show μ (h + 1 + 3) i = _ from e.2.2.1, show μ (o + 1 + 1) i = _ from e'.1, show μ (o + 1 + 2) i = _ from e'.2.1, show μ (o + 1 + 3) i = _ from e'.2.2.1]
      exact ⟨q _ (by omega), q _ (by omega), q _ (by omega)⟩⟩)
    refine wp_go b12_11 ?_; simp only [l12_11, sg_if_ne, sg_iconst, sg_iret1, nLg_n, nLg_i, nLg_r, tc_c, tc_l, tc_r, tc_m, tc_n, tc_o, tc_0, inR, true_and, and_true, ne_eq, not_true_eq_false, not_false_eq_true, true_imp_iff, false_imp_iff, Int.toNat_natCast, lit_a, Nat.reduceAdd, or_true, true_or, or_false, false_or, Int.reduceEq, Int.reduceNe, Int.reduceLT, Int.reduceLE, Int.reduceNeg, sg_nil]
    repeat' (first | with_reducible apply And.intro | (intro _) | ((first | refine wp_go b12_0 ?_ | refine wp_go b12_11 ?_ | refine wp_go b12_16 ?_ | refine wp_go b12_59 ?_ | refine wp_go b12_61 ?_ | refine wp_go b12_67 ?_); simp only [l12_0, l12_11, l12_16, l12_59, l12_61, l12_67, sg_aload_0, sg_getfp, sg_aload_1, sg_iv2_i, len4_0, len4_1, len4_2, len4_3, len4_4, sg_if_ne, sg_iconst, sg_iret1, sg_istore_2, sg_iinc, ldI_2, okS_2, stL_2, sg_goto, nLg_n, nLg_i, nLg_r, tc_c, tc_l, tc_r, tc_m, tc_n, tc_o, tc_0, inR, true_and, and_true, ne_eq, not_true_eq_false, not_false_eq_true, true_imp_iff, false_imp_iff, Int.toNat_natCast, lit_a, Nat.reduceAdd, or_true, true_or, or_false, false_or, Int.reduceEq, Int.reduceNe, Int.reduceLT, Int.reduceLE, Int.reduceNeg, sg_nil]))
    all_goals (try omega)
end
section
theorem staF {σ : Sg} {S : Nat} (H : iSta σ S) : (shp σ S).1 = 5 ∧ (shp σ (S + 1)).1 = 4 ∧ shp σ (S + 2) = (100, 24) ∧ shp σ (S + 3) = (100, 24) ∧ shp σ (S + 4) = (100, 24) ∧ shp σ (S + 5) = (100, 24) ∧ shp σ (S + 6) = (100, 96) ∧ shp σ (S + 7) = (100, 8) ∧ shp σ (S + 8) = (100, 8) ∧ shp σ (S + 9) = (100, 6) ∧ shp σ (S + 10) = (100, 6) ∧ shp σ (S + 11) = (102, 6) ∧ shp σ (S + 12) = (103, 6) ∧
    σ.2 S 0 = true ∧ σ.2 S 1 = true ∧ σ.2 S 2 = true ∧ σ.2 S 3 = true ∧ σ.2 S 4 = true ∧ σ.2 S 5 = true ∧ σ.2 S 6 = true ∧ σ.2 S 7 = true ∧ σ.2 S 8 = true ∧ σ.2 (S + 1) 0 = true ∧ σ.2 (S + 1) 1 = true ∧ σ.2 (S + 1) 2 = true := by
  obtain ⟨a0, ⟨b0, b1, b2, b3, b4, b5, b6⟩, ⟨c1, c2, c3, c4, c5, c6, c7, c8⟩, -, hp, -⟩ := H
  exact ⟨a0, b0, b1, b2, b3, c1, c2, c3, c4, c5, c6, c7, c8, hp 0 (by omega), hp 1 (by omega), hp 2 (by omega), hp 3 (by omega), hp 4 (by omega), hp 5 (by omega), hp 6 (by omega), hp 7 (by omega), hp 8 (by omega), b4, b5, b6⟩
/-- an Int that is a place -/
theorem nat_of {x : Int} (h : 0 ≤ x) : ∃ n : Nat, x = (n : Int) := ⟨x.toNat, by omega⟩
-- Sta.hasSentence: blocks [0, 14]
theorem k_Sta_hasSentence {σ : Sg} {d : Nat} {Q : QT} {μ : Mem} {S : Nat} {s : Int} {z : Rw} (hS : iSta σ S) (hR : RC z μ S) (hz : IZ z) (hs : inR s) (h1 : 0 ≤ s → s < z 0 → Q (.inl 1) μ) (h0 : (s < 0 ∨ z 0 ≤ s) → Q (.inl 0) μ) : Call σ (d + 2) 35 [.inr (.inr S), .inl s] μ Q := by
  refine e_35 ?_
  obtain ⟨t0, t1, t2, t3, t4, t5, t6, t7, t8, t9, t10, t11, t12, u0, u1, u2, u3, u4, u5, u6, u7, u8, u9, u10, u11⟩ := staF hS
  have q := hz.1
  refine wp_go b35_0 ?_; simp only [l35_0, sg_iload_1, sg_iconst, sg_aload_0, sg_getfp, sg_getf0, sg_isub, len4_0, len4_1, len4_2, len4_3, len4_4, sg_is3_2, nLg_n, nLg_i, nLg_r, tc_c, tc_l, tc_r, tc_m, tc_n, tc_o, tc_0, inR, true_and, and_true, ne_eq, not_true_eq_false, not_false_eq_true, true_imp_iff, false_imp_iff, Int.toNat_natCast, lit_a, Nat.reduceAdd, or_true, true_or, or_false, false_or, Int.reduceEq, Int.reduceNe, Int.reduceLT, Int.reduceLE, Int.reduceNeg, sg_nil, t0, t1, t2, t3, t4, t5, t6, t7, t8, t9, t10, t11, t12, u0, u1, u2, u3, u4, u5, u6, u7, u8, u9, u10, u11, hR.1.1]
  refine k_NS_isWithin hs (by unfold inR; omega) (by unfold inR; omega) (fun _ _ => ?_) (fun _ => ?_)
  · have h1 := h1 (by omega) (by omega)
    refine wp_go b35_14 ?_; simp only [l35_14, sg_iret1, nLg_n, nLg_i, nLg_r, tc_c, tc_l, tc_r, tc_m, tc_n, tc_o, tc_0, inR, true_and, and_true, ne_eq, not_true_eq_false, not_false_eq_true, true_imp_iff, false_imp_iff, Int.toNat_natCast, lit_a, Nat.reduceAdd, or_true, true_or, or_false, false_or, Int.reduceEq, Int.reduceNe, Int.reduceLT, Int.reduceLE, Int.reduceNeg, sg_nil]
    exact h1
  · have h0 := h0 (by omega)
    refine wp_go b35_14 ?_; simp only [l35_14, sg_iret1, nLg_n, nLg_i, nLg_r, tc_c, tc_l, tc_r, tc_m, tc_n, tc_o, tc_0, inR, true_and, and_true, ne_eq, not_true_eq_false, not_false_eq_true, true_imp_iff, false_imp_iff, Int.toNat_natCast, lit_a, Nat.reduceAdd, or_true, true_or, or_false, false_or, Int.reduceEq, Int.reduceNe, Int.reduceLT, Int.reduceLE, Int.reduceNeg, sg_nil]
    exact h0
-- Sta.hasNotice: blocks [0, 11]
theorem k_Sta_hasNotice {σ : Sg} {d : Nat} {Q : QT} {μ : Mem} {S : Nat} {s : Int} {z : Rw} (hS : iSta σ S) (hR : RC z μ S) (hz : IZ z) (hs : inR s) (h1 : 0 ≤ s → s < z 2 → Q (.inl 1) μ) (h0 : (s < 0 ∨ z 2 ≤ s) → Q (.inl 0) μ) : Call σ (d + 2) 36 [.inr (.inr S), .inl s] μ Q := by
  refine e_36 ?_
  obtain ⟨t0, t1, t2, t3, t4, t5, t6, t7, t8, t9, t10, t11, t12, u0, u1, u2, u3, u4, u5, u6, u7, u8, u9, u10, u11⟩ := staF hS
  have q := hz.1
  refine wp_go b36_0 ?_; simp only [l36_0, sg_iload_1, sg_iconst, sg_aload_0, sg_getf0, sg_isub, len4_0, len4_1, len4_2, len4_3, len4_4, sg_is3_2, nLg_n, nLg_i, nLg_r, tc_c, tc_l, tc_r, tc_m, tc_n, tc_o, tc_0, inR, true_and, and_true, ne_eq, not_true_eq_false, not_false_eq_true, true_imp_iff, false_imp_iff, Int.toNat_natCast, lit_a, Nat.reduceAdd, or_true, true_or, or_false, false_or, Int.reduceEq, Int.reduceNe, Int.reduceLT, Int.reduceLE, Int.reduceNeg, sg_nil, t0, t1, t2, t3, t4, t5, t6, t7, t8, t9, t10, t11, t12, u0, u1, u2, u3, u4, u5, u6, u7, u8, u9, u10, u11, hR.1.2.2.1]
  refine k_NS_isWithin hs (by unfold inR; omega) (by unfold inR; omega) (fun _ _ => ?_) (fun _ => ?_)
  · have h1 := h1 (by omega) (by omega)
    refine wp_go b36_11 ?_; simp only [l36_11, sg_iret1, nLg_n, nLg_i, nLg_r, tc_c, tc_l, tc_r, tc_m, tc_n, tc_o, tc_0, inR, true_and, and_true, ne_eq, not_true_eq_false, not_false_eq_true, true_imp_iff, false_imp_iff, Int.toNat_natCast, lit_a, Nat.reduceAdd, or_true, true_or, or_false, false_or, Int.reduceEq, Int.reduceNe, Int.reduceLT, Int.reduceLE, Int.reduceNeg, sg_nil]
    exact h1
  · have h0 := h0 (by omega)
    refine wp_go b36_11 ?_; simp only [l36_11, sg_iret1, nLg_n, nLg_i, nLg_r, tc_c, tc_l, tc_r, tc_m, tc_n, tc_o, tc_0, inR, true_and, and_true, ne_eq, not_true_eq_false, not_false_eq_true, true_imp_iff, false_imp_iff, Int.toNat_natCast, lit_a, Nat.reduceAdd, or_true, true_or, or_false, false_or, Int.reduceEq, Int.reduceNe, Int.reduceLT, Int.reduceLE, Int.reduceNeg, sg_nil]
    exact h0
-- Sta.hasListener: blocks [0, 11]
theorem k_Sta_hasListener {σ : Sg} {d : Nat} {Q : QT} {μ : Mem} {S : Nat} {s : Int} {z : Rw} (hS : iSta σ S) (hR : RC z μ S) (hz : IZ z) (hs : inR s) (h1 : 0 ≤ s → s < z 3 → Q (.inl 1) μ) (h0 : (s < 0 ∨ z 3 ≤ s) → Q (.inl 0) μ) : Call σ (d + 2) 37 [.inr (.inr S), .inl s] μ Q := by
  refine e_37 ?_
  obtain ⟨t0, t1, t2, t3, t4, t5, t6, t7, t8, t9, t10, t11, t12, u0, u1, u2, u3, u4, u5, u6, u7, u8, u9, u10, u11⟩ := staF hS
  have q := hz.1
  refine wp_go b37_0 ?_; simp only [l37_0, sg_iload_1, sg_iconst, sg_aload_0, sg_getf0, sg_isub, len4_0, len4_1, len4_2, len4_3, len4_4, sg_is3_2, nLg_n, nLg_i, nLg_r, tc_c, tc_l, tc_r, tc_m, tc_n, tc_o, tc_0, inR, true_and, and_true, ne_eq, not_true_eq_false, not_false_eq_true, true_imp_iff, false_imp_iff, Int.toNat_natCast, lit_a, Nat.reduceAdd, or_true, true_or, or_false, false_or, Int.reduceEq, Int.reduceNe, Int.reduceLT, Int.reduceLE, Int.reduceNeg, sg_nil, t0, t1, t2, t3, t4, t5, t6, t7, t8, t9, t10, t11, t12, u0, u1, u2, u3, u4, u5, u6, u7, u8, u9, u10, u11, hR.1.2.2.2]
  refine k_NS_isWithin hs (by unfold inR; omega) (by unfold inR; omega) (fun _ _ => ?_) (fun _ => ?_)
  · have h1 := h1 (by omega) (by omega)
    refine wp_go b37_11 ?_; simp only [l37_11, sg_iret1, nLg_n, nLg_i, nLg_r, tc_c, tc_l, tc_r, tc_m, tc_n, tc_o, tc_0, inR, true_and, and_true, ne_eq, not_true_eq_false, not_false_eq_true, true_imp_iff, false_imp_iff, Int.toNat_natCast, lit_a, Nat.reduceAdd, or_true, true_or, or_false, false_or, Int.reduceEq, Int.reduceNe, Int.reduceLT, Int.reduceLE, Int.reduceNeg, sg_nil]
    exact h1
  · have h0 := h0 (by omega)
    refine wp_go b37_11 ?_; simp only [l37_11, sg_iret1, nLg_n, nLg_i, nLg_r, tc_c, tc_l, tc_r, tc_m, tc_n, tc_o, tc_0, inR, true_and, and_true, ne_eq, not_true_eq_false, not_false_eq_true, true_imp_iff, false_imp_iff, Int.toNat_natCast, lit_a, Nat.reduceAdd, or_true, true_or, or_false, false_or, Int.reduceEq, Int.reduceNe, Int.reduceLT, Int.reduceLE, Int.reduceNeg, sg_nil]
    exact h0
-- Sta.isRowFull: blocks [0, 14, 15]
theorem k_Sta_isRowFull {σ : Sg} {d : Nat} {Q : QT} {μ : Mem} {S i : Nat} {z : Rw} (hS : iSta σ S) (hR : RC z μ S) (hz : IZ z) (hi : (i : Int) < z 0) (h1 : 4 ≤ z (76 + 5 * i) → Q (.inl 1) μ) (h0 : z (76 + 5 * i) < 4 → Q (.inl 0) μ) : Call σ (d + 1) 38 [.inr (.inr S), .inl (i : Int)] μ Q := by
  refine e_38 ?_
  obtain ⟨t0, t1, t2, t3, t4, t5, t6, t7, t8, t9, t10, t11, t12, u0, u1, u2, u3, u4, u5, u6, u7, u8, u9, u10, u11⟩ := staF hS
  have q := hz.1
  have e := (hR.2.1 i hi).2.2.2.1
  have r := (hz.2.1 i hi).2.2.2.1
  refine wp_go b38_0 ?_; simp only [l38_0, sg_aload_0, sg_getfp, sg_iload_1, sg_iaload, sg_iconst, sg_ic_lt, sg_goto, nLg_n, nLg_i, nLg_r, tc_c, tc_l, tc_r, tc_m, tc_n, tc_o, tc_0, inR, true_and, and_true, ne_eq, not_true_eq_false, not_false_eq_true, true_imp_iff, false_imp_iff, Int.toNat_natCast, lit_a, Nat.reduceAdd, or_true, true_or, or_false, false_or, Int.reduceEq, Int.reduceNe, Int.reduceLT, Int.reduceLE, Int.reduceNeg, sg_nil, t0, t1, t2, t3, t4, t5, t6, t7, t8, t9, t10, t11, t12, u0, u1, u2, u3, u4, u5, u6, u7, u8, u9, u10, u11, e]
  repeat' (first | with_reducible apply And.intro | (intro _) | ((first | refine wp_go b38_0 ?_ | refine wp_go b38_14 ?_ | refine wp_go b38_15 ?_); simp only [l38_0, l38_14, l38_15, sg_aload_0, sg_getfp, sg_iload_1, sg_iaload, sg_iconst, sg_ic_lt, sg_goto, sg_iret1, nLg_n, nLg_i, nLg_r, tc_c, tc_l, tc_r, tc_m, tc_n, tc_o, tc_0, inR, true_and, and_true, ne_eq, not_true_eq_false, not_false_eq_true, true_imp_iff, false_imp_iff, Int.toNat_natCast, lit_a, Nat.reduceAdd, or_true, true_or, or_false, false_or, Int.reduceEq, Int.reduceNe, Int.reduceLT, Int.reduceLE, Int.reduceNeg, sg_nil]))
  all_goals (try omega)
  all_goals first | exact h1 (by omega) | exact h0 (by omega)
-- Sta.inRow: blocks [0]
theorem k_Sta_inRow {σ : Sg} {d : Nat} {Q : QT} {μ : Mem} {S i j : Nat} {z : Rw} (hS : iSta σ S) (hR : R0 z μ S) (hz : IZ z) (hi : (i : Int) < z 0) (hj : (j : Int) < z (76 + 5 * i)) (h : Q (.inl (z (77 + 5 * i + j))) μ) : Call σ (d + 1) 39 [.inr (.inr S), .inl (i : Int), .inl (j : Int)] μ Q := by
  refine e_39 ?_
  obtain ⟨t0, t1, t2, t3, t4, t5, t6, t7, t8, t9, t10, t11, t12, u0, u1, u2, u3, u4, u5, u6, u7, u8, u9, u10, u11⟩ := staF hS
  have q := hz.1
  have r := (hz.2.1 i hi).2.2.2.1
  have e := (hR.1 i hi).2.2.2.2 j hj
  rw [Nat.mul_comm 4 i] at e
  refine wp_go b39_0 ?_; simp only [l39_0, sg_aload_0, sg_getfp, sg_iload_1, sg_iconst, sg_imul, sg_iload_2, sg_iadd, sg_iaload, sg_iret0, nLg_n, nLg_i, nLg_r, tc_c, tc_l, tc_r, tc_m, tc_n, tc_o, tc_0, inR, true_and, and_true, ne_eq, not_true_eq_false, not_false_eq_true, true_imp_iff, false_imp_iff, Int.toNat_natCast, lit_a, Nat.reduceAdd, or_true, true_or, or_false, false_or, Int.reduceEq, Int.reduceNe, Int.reduceLT, Int.reduceLE, Int.reduceNeg, sg_nil, t0, t1, t2, t3, t4, t5, t6, t7, t8, t9, t10, t11, t12, u0, u1, u2, u3, u4, u5, u6, u7, u8, u9, u10, u11, e]
  repeat' (first | with_reducible apply And.intro | (intro _) | ((first | refine wp_go b39_0 ?_); simp only [l39_0, sg_aload_0, sg_getfp, sg_iload_1, sg_iconst, sg_imul, sg_iload_2, sg_iadd, sg_iaload, sg_iret0, nLg_n, nLg_i, nLg_r, tc_c, tc_l, tc_r, tc_m, tc_n, tc_o, tc_0, inR, true_and, and_true, ne_eq, not_true_eq_false, not_false_eq_true, true_imp_iff, false_imp_iff, Int.toNat_natCast, lit_a, Nat.reduceAdd, or_true, true_or, or_false, false_or, Int.reduceEq, Int.reduceNe, Int.reduceLT, Int.reduceLE, Int.reduceNeg, sg_nil]))
  all_goals (try omega)
  all_goals exact h
def exI (p : Nat → Bool) : Nat → Int
  | 0 => 0
  | n + 1 => if p n = true then 1 else exI p n
theorem exI_t {p : Nat → Bool} : ∀ {n i : Nat}, i < n → p i = true → exI p n = 1
  | n + 1, i, hi, hp => by
    unfold exI
    split
    · rfl
    · rename_i q
      exact exI_t (n := n) (i := i) (by
        rcases Nat.lt_or_ge i n with r | r
        · exact r
        · have : i = n := by omega
          subst this; exact absurd hp q) hp
theorem exI_f {p : Nat → Bool} : ∀ {n : Nat}, (∀ i, i < n → p i = false) → exI p n = 0
  | 0, _ => rfl
  | n + 1, h => by
    unfold exI
    rw [if_neg (by rw [h n (by omega)]; decide)]
    exact exI_f (fun i hi => h i (by omega))
theorem exI_01 {p : Nat → Bool} : ∀ n : Nat, exI p n = 0 ∨ exI p n = 1
  | 0 => Or.inl rfl
  | n + 1 => by
    unfold exI
    split
    · exact Or.inr rfl
    · exact exI_01 n
-- Sta.isInRow: blocks [0, 2, 18, 24, 30]
theorem k_Sta_isInRow {σ : Sg} {d : Nat} {Q : QT} {μ : Mem} {S i : Nat} {t : Int} {z : Rw} (hS : iSta σ S) (hR : RC z μ S) (hz : IZ z) (hi : (i : Int) < z 0) (ht : inR t) (h : Q (.inl (exI (fun j => decide (z (77 + 5 * i + j) = t)) (z (76 + 5 * i)).toNat)) μ) : Call σ (d + 2) 42 [.inr (.inr S), .inl (i : Int), .inl t] μ Q := by
  refine e_42 ?_
  obtain ⟨t0, t1, t2, t3, t4, t5, t6, t7, t8, t9, t10, t11, t12, u0, u1, u2, u3, u4, u5, u6, u7, u8, u9, u10, u11⟩ := staF hS
  have q := hz.1
  have e := (hR.2.1 i hi).2.2.2.1
  have r := (hz.2.1 i hi).2.2.2.1
  unfold inR at ht
  obtain ⟨n, hn⟩ := nat_of r.1
  rw [hn, Int.toNat_natCast] at h
  have loop : ∀ k j : Nat, j + k = n → (∀ j', j' < j → ¬ z (77 + 5 * i + j') = t) → wp σ (Call σ (d + 1)) 42 Q 2 [some (.inr (.inr S)), some (.inl (i : Int)), some (.inl t), some (.inl (j : Int))] [] μ := by
    intro k
    induction k with
    | zero =>
      intro j hj hm
      obtain rfl : j = n := by omega
      rw [exI_f (fun j hj => decide_eq_false (hm j hj))] at h
      refine wp_go b42_2 ?_; simp only [l42_2, sg_iload_3, sg_aload_0, sg_getfp, sg_iload_1, sg_iaload, sg_ic_ge, sg_iv3_i, len4_0, len4_1, len4_2, len4_3, len4_4, nLg_n, nLg_i, nLg_r, tc_c, tc_l, tc_r, tc_m, tc_n, tc_o, tc_0, inR, true_and, and_true, ne_eq, not_true_eq_false, not_false_eq_true, true_imp_iff, false_imp_iff, Int.toNat_natCast, lit_a, Nat.reduceAdd, or_true, true_or, or_false, false_or, Int.reduceEq, Int.reduceNe, Int.reduceLT, Int.reduceLE, Int.reduceNeg, sg_nil, t0, t1, t2, t3, t4, t5, t6, t7, t8, t9, t10, t11, t12, u0, u1, u2, u3, u4, u5, u6, u7, u8, u9, u10, u11, e, hn]
      repeat' (first | with_reducible apply And.intro | (intro _) | ((first | refine wp_go b42_0 ?_ | refine wp_go b42_18 ?_ | refine wp_go b42_24 ?_ | refine wp_go b42_30 ?_); simp only [l42_0, l42_18, l42_24, l42_30, sg_iconst, sg_istore_3, sg_iload_2, sg_ic_ne, sg_iret1, sg_iinc, ldI_3, okS_3, stL_3, sg_goto, nLg_n, nLg_i, nLg_r, tc_c, tc_l, tc_r, tc_m, tc_n, tc_o, tc_0, inR, true_and, and_true, ne_eq, not_true_eq_false, not_false_eq_true, true_imp_iff, false_imp_iff, Int.toNat_natCast, lit_a, Nat.reduceAdd, or_true, true_or, or_false, false_or, Int.reduceEq, Int.reduceNe, Int.reduceLT, Int.reduceLE, Int.reduceNeg, sg_nil]))
      all_goals (try omega)
      all_goals exact h
    | succ k ih =>
      intro j hj hm
      have w := (hz.2.1 i hi).2.2.2.2 j (by omega)
      refine wp_go b42_2 ?_; simp only [l42_2, sg_iload_3, sg_aload_0, sg_getfp, sg_iload_1, sg_iaload, sg_ic_ge, sg_iv3_i, len4_0, len4_1, len4_2, len4_3, len4_4, nLg_n, nLg_i, nLg_r, tc_c, tc_l, tc_r, tc_m, tc_n, tc_o, tc_0, inR, true_and, and_true, ne_eq, not_true_eq_false, not_false_eq_true, true_imp_iff, false_imp_iff, Int.toNat_natCast, lit_a, Nat.reduceAdd, or_true, true_or, or_false, false_or, Int.reduceEq, Int.reduceNe, Int.reduceLT, Int.reduceLE, Int.reduceNeg, sg_nil, t0, t1, t2, t3, t4, t5, t6, t7, t8, t9, t10, t11, t12, u0, u1, u2, u3, u4, u5, u6, u7, u8, u9, u10, u11, e, hn]
      repeat' (first | with_reducible apply And.intro | (intro _) | refine k_Sta_inRow hS hR.r0 hz hi (by omega) ?_ | ((first | refine wp_go b42_0 ?_ | refine wp_go b42_18 ?_ | refine wp_go b42_24 ?_ | refine wp_go b42_30 ?_); simp only [l42_0, l42_18, l42_24, l42_30, sg_iconst, sg_istore_3, sg_iload_2, sg_ic_ne, sg_iret1, sg_iinc, ldI_3, okS_3, stL_3, sg_goto, nLg_n, nLg_i, nLg_r, tc_c, tc_l, tc_r, tc_m, tc_n, tc_o, tc_0, inR, true_and, and_true, ne_eq, not_true_eq_false, not_false_eq_true, true_imp_iff, false_imp_iff, Int.toNat_natCast, lit_a, Nat.reduceAdd, or_true, true_or, or_false, false_or, Int.reduceEq, Int.reduceNe, Int.reduceLT, Int.reduceLE, Int.reduceNeg, sg_nil]))
      all_goals (try omega)
      all_goals first
        | exact ih (j + 1) (by omega) (fun j' hj' => by
            rcases Nat.lt_or_ge j' j with q | q
            · exact hm j' q
            · have : j' = j := by omega
              subst this; omega)
        | (rw [exI_t (i := j) (by omega) (decide_eq_true (by omega))] at h; exact h)
  refine wp_go b42_0 ?_; simp only [l42_0, sg_iconst, sg_istore_3, nLg_n, nLg_i, nLg_r, tc_c, tc_l, tc_r, tc_m, tc_n, tc_o, tc_0, inR, true_and, and_true, ne_eq, not_true_eq_false, not_false_eq_true, true_imp_iff, false_imp_iff, Int.toNat_natCast, lit_a, Nat.reduceAdd, or_true, true_or, or_false, false_or, Int.reduceEq, Int.reduceNe, Int.reduceLT, Int.reduceLE, Int.reduceNeg, sg_nil]
  exact loop n 0 (by omega) (fun j hj => absurd hj (by omega))
def brk (z : Rw) (t : Int) (i : Nat) : Int := exI (fun j => decide (z (77 + 5 * i + j) = t)) (z (76 + 5 * i)).toNat
-- Sta.countBreaksWith: blocks [0, 4, 22, 25, 33]
theorem k_Sta_countBreaksWith {σ : Sg} {d : Nat} {Q : QT} {μ : Mem} {S n : Nat} {t : Int} {z : Rw} (hS : iSta σ S) (hR : RC z μ S) (hz : IZ z) (hn : z 0 = (n : Int)) (ht : inR t) (h : Q (.inl (sm (brk z t) n)) μ) : Call σ (d + 3) 43 [.inr (.inr S), .inl t] μ Q := by
  refine e_43 ?_
  obtain ⟨t0, t1, t2, t3, t4, t5, t6, t7, t8, t9, t10, t11, t12, u0, u1, u2, u3, u4, u5, u6, u7, u8, u9, u10, u11⟩ := staF hS
  have q := hz.1
  have loop : ∀ k i : Nat, i + k = n → wp σ (Call σ (d + 2)) 43 Q 4 [some (.inr (.inr S)), some (.inl t), some (.inl (sm (brk z t) i)), some (.inl (i : Int))] [] μ := by
    intro k
    induction k with
    | zero =>
      intro i hi
      obtain rfl : i = n := by omega
      refine wp_go b43_4 ?_; simp only [l43_4, sg_iload_3, sg_aload_0, sg_getfp, sg_getf0, sg_ic_ge, sg_iload_2, sg_iload_1, sg_iv3_i, len4_0, len4_1, len4_2, len4_3, len4_4, nLg_n, nLg_i, nLg_r, tc_c, tc_l, tc_r, tc_m, tc_n, tc_o, tc_0, inR, true_and, and_true, ne_eq, not_true_eq_false, not_false_eq_true, true_imp_iff, false_imp_iff, Int.toNat_natCast, lit_a, Nat.reduceAdd, or_true, true_or, or_false, false_or, Int.reduceEq, Int.reduceNe, Int.reduceLT, Int.reduceLE, Int.reduceNeg, sg_nil, t0, t1, t2, t3, t4, t5, t6, t7, t8, t9, t10, t11, t12, u0, u1, u2, u3, u4, u5, u6, u7, u8, u9, u10, u11, hR.1.1, hn]
      repeat' (first | with_reducible apply And.intro | (intro _) | ((first | refine wp_go b43_0 ?_ | refine wp_go b43_22 ?_ | refine wp_go b43_25 ?_ | refine wp_go b43_33 ?_); simp only [l43_0, l43_22, l43_25, l43_33, sg_iconst, sg_istore_2, sg_istore_3, len4_0, len4_1, len4_2, len4_3, len4_4, sg_is1_2, sg_iadd, sg_iinc, ldI_3, okS_3, stL_3, sg_goto, sg_iload_2, sg_iret0, nLg_n, nLg_i, nLg_r, tc_c, tc_l, tc_r, tc_m, tc_n, tc_o, tc_0, inR, true_and, and_true, ne_eq, not_true_eq_false, not_false_eq_true, true_imp_iff, false_imp_iff, Int.toNat_natCast, lit_a, Nat.reduceAdd, or_true, true_or, or_false, false_or, Int.reduceEq, Int.reduceNe, Int.reduceLT, Int.reduceLE, Int.reduceNeg, sg_nil]))
      all_goals (try omega)
      all_goals exact h
    | succ k ih =>
      intro i hi
      refine wp_go b43_4 ?_; simp only [l43_4, sg_iload_3, sg_aload_0, sg_getfp, sg_getf0, sg_ic_ge, sg_iload_2, sg_iload_1, sg_iv3_i, len4_0, len4_1, len4_2, len4_3, len4_4, nLg_n, nLg_i, nLg_r, tc_c, tc_l, tc_r, tc_m, tc_n, tc_o, tc_0, inR, true_and, and_true, ne_eq, not_true_eq_false, not_false_eq_true, true_imp_iff, false_imp_iff, Int.toNat_natCast, lit_a, Nat.reduceAdd, or_true, true_or, or_false, false_or, Int.reduceEq, Int.reduceNe, Int.reduceLT, Int.reduceLE, Int.reduceNeg, sg_nil, t0, t1, t2, t3, t4, t5, t6, t7, t8, t9, t10, t11, t12, u0, u1, u2, u3, u4, u5, u6, u7, u8, u9, u10, u11, hR.1.1, hn]
      repeat' (first | with_reducible apply And.intro | (intro _) | refine k_Sta_isInRow hS hR hz (by omega) ht ?_ | refine k_NS_asNumber (exI_01 _) ?_ | ((first | refine wp_go b43_0 ?_ | refine wp_go b43_22 ?_ | refine wp_go b43_25 ?_ | refine wp_go b43_33 ?_); simp only [l43_0, l43_22, l43_25, l43_33, sg_iconst, sg_istore_2, sg_istore_3, len4_0, len4_1, len4_2, len4_3, len4_4, sg_is1_2, sg_iadd, sg_iinc, ldI_3, okS_3, stL_3, sg_goto, sg_iload_2, sg_iret0, nLg_n, nLg_i, nLg_r, tc_c, tc_l, tc_r, tc_m, tc_n, tc_o, tc_0, inR, true_and, and_true, ne_eq, not_true_eq_false, not_false_eq_true, true_imp_iff, false_imp_iff, Int.toNat_natCast, lit_a, Nat.reduceAdd, or_true, true_or, or_false, false_or, Int.reduceEq, Int.reduceNe, Int.reduceLT, Int.reduceLE, Int.reduceNeg, sg_nil]))
      all_goals (try omega)
      exact ih (i + 1) (by omega)
  refine wp_go b43_0 ?_; simp only [l43_0, sg_iconst, sg_istore_2, sg_istore_3, nLg_n, nLg_i, nLg_r, tc_c, tc_l, tc_r, tc_m, tc_n, tc_o, tc_0, inR, true_and, and_true, ne_eq, not_true_eq_false, not_false_eq_true, true_imp_iff, false_imp_iff, Int.toNat_natCast, lit_a, Nat.reduceAdd, or_true, true_or, or_false, false_or, Int.reduceEq, Int.reduceNe, Int.reduceLT, Int.reduceLE, Int.reduceNeg, sg_nil]
  exact loop n 0 (by omega)
-- Cho.begin: blocks [0]
theorem k_Cho_begin {σ : Sg} {d : Nat} {Q : QT} {μ : Mem} {c : Nat} {g b : Int} (hc : iCho σ c) (h : ∀ μ' : Mem, (∀ k, k ≠ c → μ' k = μ k) → μ' c 0 = g → μ' c 1 = b → μ' c 2 = 0 → μ' c 3 = 0 → μ' c 4 = 0 → μ' c 5 = 600 → Q (.inl 0) μ') : Call σ (d + 1) 1 [.inr (.inr c), .inl g, .inl b] μ Q := by
  refine e_1 ?_
  unfold iCho at hc
  refine wp_go b1_0 ?_; simp only [l1_0, sg_aload_0, sg_iload_1, sg_putf0, sg_iload_2, sg_iconst, sg_sipush, sg_ret, nLg_n, nLg_i, nLg_r, tc_c, tc_l, tc_r, tc_m, tc_n, tc_o, tc_0, inR, true_and, and_true, ne_eq, not_true_eq_false, not_false_eq_true, true_imp_iff, false_imp_iff, Int.toNat_natCast, lit_a, Nat.reduceAdd, or_true, true_or, or_false, false_or, Int.reduceEq, Int.reduceNe, Int.reduceLT, Int.reduceLE, Int.reduceNeg, sg_nil, hc]
  exact h _ (fun k hk => by funext j; simp only [ms_at, hk, false_and, if_false]) (by simp [ms_at]) (by simp [ms_at]) (by simp [ms_at]) (by simp [ms_at]) (by simp [ms_at]) (by simp [ms_at])
-- Cho.isFor: blocks [0, 21, 22, 39, 40, 55, 56]
theorem k_Cho_isFor {σ : Sg} {d : Nat} {Q : QT} {μ : Mem} {c S t : Nat} {g set : Int} {z : Rw} (hc : iCho σ c) (hS : iSta σ S) (hR : R0 z μ S) (hz : IZ z) (ht : (t : Int) < z 2) (h0 : μ c 0 = g) (h3 : μ c 3 = set)
    (k1 : bit (z (197 + 2 * t)) g = 1 → bit set t ≠ 1 → Q (.inl 1) μ) (k0 : ¬ (bit (z (197 + 2 * t)) g = 1 ∧ bit set t ≠ 1) → Q (.inl 0) μ) : Call σ (d + 1) 3 [.inr (.inr c), .inr (.inr S), .inl (t : Int)] μ Q := by
  refine e_3 ?_
  obtain ⟨t0, t1, t2, t3, t4, t5, t6, t7, t8, t9, t10, t11, t12, u0, u1, u2, u3, u4, u5, u6, u7, u8, u9, u10, u11⟩ := staF hS
  unfold iCho at hc
  have q := hz.1
  have e := (hR.2 t ht).2
  have b1 := bit_r (z (197 + 2 * t)) g
  have b2 := bit_r set t
  unfold inR at b1 b2
  unfold bit at b1 b2 k1 k0
  refine wp_go b3_0 ?_; simp only [l3_0, sg_aload_1, sg_getfp, sg_iload_2, sg_iaload, sg_aload_0, sg_getf0, sg_ishr, sg_iconst, sg_iand, sg_ic_ne, sg_goto, nLg_n, nLg_i, nLg_r, tc_c, tc_l, tc_r, tc_m, tc_n, tc_o, tc_0, inR, true_and, and_true, ne_eq, not_true_eq_false, not_false_eq_true, true_imp_iff, false_imp_iff, Int.toNat_natCast, lit_a, Nat.reduceAdd, or_true, true_or, or_false, false_or, Int.reduceEq, Int.reduceNe, Int.reduceLT, Int.reduceLE, Int.reduceNeg, sg_nil, t0, t1, t2, t3, t4, t5, t6, t7, t8, t9, t10, t11, t12, u0, u1, u2, u3, u4, u5, u6, u7, u8, u9, u10, u11, hc, e, h0, h3]
  repeat' (first | with_reducible apply And.intro | (intro _) | ((first | refine wp_go b3_0 ?_ | refine wp_go b3_21 ?_ | refine wp_go b3_22 ?_ | refine wp_go b3_39 ?_ | refine wp_go b3_40 ?_ | refine wp_go b3_55 ?_ | refine wp_go b3_56 ?_); simp only [l3_0, l3_21, l3_22, l3_39, l3_40, l3_55, l3_56, sg_aload_1, sg_getfp, sg_iload_2, sg_iaload, sg_aload_0, sg_getf0, sg_ishr, sg_iconst, sg_iand, sg_ic_ne, sg_goto, sg_istore_3, sg_istore, okS_4, stL_4, sg_iload_3, sg_if_eq, sg_iload, ldI_4, sg_if_ne, sg_iret1, nLg_n, nLg_i, nLg_r, tc_c, tc_l, tc_r, tc_m, tc_n, tc_o, tc_0, inR, true_and, and_true, ne_eq, not_true_eq_false, not_false_eq_true, true_imp_iff, false_imp_iff, Int.toNat_natCast, lit_a, Nat.reduceAdd, or_true, true_or, or_false, false_or, Int.reduceEq, Int.reduceNe, Int.reduceLT, Int.reduceLE, Int.reduceNeg, sg_nil, hc, h3]))
  all_goals (try omega)
  all_goals first
    | exact k1 (by assumption) (by assumption)
    | exact k0 (fun q => absurd q.1 (by assumption))
    | exact k0 (fun q => absurd (by assumption) q.2)
-- Cho.choose: blocks [0, 2, 18, 27, 33, 88, 101, 107]
theorem k_Cho_choose {σ : Sg} {d : Nat} {Q : QT} {μ : Mem} {c S s : Nat} {g b cnt set sec nb : Int} {z : Rw} (hc : iCho σ c) (hS : iSta σ S) (hR : R0 z μ S) (hz : IZ z) (hs : (s : Int) < z 0) (hcS : c < S ∨ S + 55 ≤ c)
    (h0 : μ c 0 = g) (h1 : μ c 1 = b) (h2 : μ c 2 = cnt) (h3 : μ c 3 = set) (h4 : μ c 4 = sec) (h5 : μ c 5 = nb) (hb : 0 ≤ b ∧ b ≤ 600) (hsec : 0 ≤ sec ∧ sec ≤ b) (hnb : 0 ≤ nb ∧ nb ≤ 600)
    (hq : ∀ (μ' : Mem) (nb' : Int), (∀ k, k ≠ c → μ' k = μ k) → μ' c 0 = g → μ' c 1 = b → μ' c 2 = cnt + bI (chs z g b (set, sec) s ≠ -6) → μ' c 3 = (nxt z (set, sec) (chs z g b (set, sec) s)).1 → μ' c 4 = (nxt z (set, sec) (chs z g b (set, sec) s)).2 → μ' c 5 = nb' → 0 ≤ nb' → nb' ≤ nb →
      (∀ b', b ≤ b' → b' < nb' → chs z g b' (set, sec) s = chs z g b (set, sec) s) → Q (.inl (chs z g b (set, sec) s)) μ') : Call σ (d + 2) 2 [.inr (.inr c), .inr (.inr S), .inl (s : Int)] μ Q := by
  refine e_2 ?_
  obtain ⟨t0, t1, t2, t3, t4, t5, t6, t7, t8, t9, t10, t11, t12, u0, u1, u2, u3, u4, u5, u6, u7, u8, u9, u10, u11⟩ := staF hS
  unfold iCho at hc
  have q := hz.1
  have e := (hR.1 s hs).2.2.2.1
  have r := (hz.2.1 s hs).2.2.2.1
  obtain ⟨n, hn⟩ := nat_of r.1
  have f0 : ∀ b', chs z g b' (set, sec) s = pickR (fun j => z (77 + 5 * s + j)) (okN z g b' set sec) n 0 := fun b' => by unfold chs; rw [hn]; rfl
  have loop : ∀ k j : Nat, j + k = n → ∀ (μ1 : Mem) (nb1 : Int) (o4 o5 : Option MV), (∀ k, k ≠ c → μ1 k = μ k) → μ1 c 0 = g → μ1 c 1 = b → μ1 c 2 = cnt → μ1 c 3 = set → μ1 c 4 = sec → μ1 c 5 = nb1 → 0 ≤ nb1 → nb1 ≤ nb →
      chs z g b (set, sec) s = pickR (fun j => z (77 + 5 * s + j)) (okN z g b set sec) k j → (∀ b', b ≤ b' → b' < nb1 → chs z g b' (set, sec) s = pickR (fun j => z (77 + 5 * s + j)) (okN z g b' set sec) k j) →
      wp σ (Call σ (d + 1)) 2 Q 2 [some (.inr (.inr c)), some (.inr (.inr S)), some (.inl (s : Int)), some (.inl (j : Int)), o4, o5] [] μ1 := by
    intro k
    induction k with
    | zero =>
      intro j hj μ1 nb1 o4 o5 mf m0 m1 m2 m3 m4 m5 n0 n1 cb cb'
      have hR1 : R0 z μ1 S := R0_f (fun k _ _ => mf k (by omega)) hR
      have e1 := (hR1.1 s hs).2.2.2.1
      have hq := hq μ1 nb1 mf m0 m1 (by rw [m2, cb]; simp [pickR, bI]) (by rw [m3, cb]; rfl) (by rw [m4, cb]; rfl) m5 n0 n1 (fun b' h1 h2 => by rw [cb' b' h1 h2, cb]; rfl)
      rw [cb] at hq
      refine wp_go b2_2 ?_; simp only [l2_2, sg_iload_3, sg_aload_1, sg_getfp, sg_iload_2, sg_iaload, sg_ic_ge, sg_iv3_i, len4_0, len4_1, len4_2, len4_3, len4_4, nLg_n, nLg_i, nLg_r, tc_c, tc_l, tc_r, tc_m, tc_n, tc_o, tc_0, inR, true_and, and_true, ne_eq, not_true_eq_false, not_false_eq_true, true_imp_iff, false_imp_iff, Int.toNat_natCast, lit_a, Nat.reduceAdd, or_true, true_or, or_false, false_or, Int.reduceEq, Int.reduceNe, Int.reduceLT, Int.reduceLE, Int.reduceNeg, sg_nil, t0, t1, t2, t3, t4, t5, t6, t7, t8, t9, t10, t11, t12, u0, u1, u2, u3, u4, u5, u6, u7, u8, u9, u10, u11, e1, hn]
      repeat' (first | with_reducible apply And.intro | (intro _) | ((first | refine wp_go b2_0 ?_ | refine wp_go b2_18 ?_ | refine wp_go b2_27 ?_ | refine wp_go b2_33 ?_ | refine wp_go b2_88 ?_ | refine wp_go b2_101 ?_ | refine wp_go b2_107 ?_); simp only [l2_0, l2_18, l2_27, l2_33, l2_88, l2_101, l2_107, sg_iconst, sg_istore_3, sg_istore, okS_4, stL_4, sg_aload_0, sg_aload_1, sg_iload, ldI_4, sg_iv3_i, len4_0, len4_1, len4_2, len4_3, len4_4, sg_if_ne, sg_goto, sg_getf0, sg_getfp, sg_iaload, sg_iadd, okS_5, stL_5, ldI_5, sg_ic_gt, sg_dup_i, sg_dup_r, sg_putf0, sg_ishl, sg_ior, sg_iret0, sg_min, sg_iinc, ldI_3, okS_3, stL_3, sg_bipush, nLg_n, nLg_i, nLg_r, tc_c, tc_l, tc_r, tc_m, tc_n, tc_o, tc_0, inR, true_and, and_true, ne_eq, not_true_eq_false, not_false_eq_true, true_imp_iff, false_imp_iff, Int.toNat_natCast, lit_a, Nat.reduceAdd, or_true, true_or, or_false, false_or, Int.reduceEq, Int.reduceNe, Int.reduceLT, Int.reduceLE, Int.reduceNeg, sg_nil]))
      all_goals (try omega)
      all_goals exact hq
    | succ k ih =>
      intro j hj μ1 nb1 o4 o5 mf m0 m1 m2 m3 m4 m5 n0 n1 cb cb'
      have hR1 : R0 z μ1 S := R0_f (fun k _ _ => mf k (by omega)) hR
      have e1 := (hR1.1 s hs).2.2.2.1
      have w := (hz.2.1 s hs).2.2.2.2 j (by omega)
      obtain ⟨m, hm⟩ := nat_of w.1
      have el := (hR1.2 m (by omega)).1
      have rl := (hz.2.2.2.1 m (by omega)).1
      have pk : ∀ b', pickR (fun j => z (77 + 5 * s + j)) (okN z g b' set sec) (k + 1) j = if okN z g b' set sec (m : Int) = true then (m : Int) else pickR (fun j => z (77 + 5 * s + j)) (okN z g b' set sec) k (j + 1) := fun b' => by
        show (if okN z g b' set sec (z (77 + 5 * s + j)) = true then z (77 + 5 * s + j) else _) = _
        rw [hm]
      have ok : ∀ b', okN z g b' set sec (m : Int) = decide (bit (z (197 + 2 * m)) g = 1 ∧ bit set m ≠ 1 ∧ sec + z (196 + 2 * m) ≤ b') := fun b' => rfl
      refine wp_go b2_2 ?_; simp only [l2_2, sg_iload_3, sg_aload_1, sg_getfp, sg_iload_2, sg_iaload, sg_ic_ge, sg_iv3_i, len4_0, len4_1, len4_2, len4_3, len4_4, nLg_n, nLg_i, nLg_r, tc_c, tc_l, tc_r, tc_m, tc_n, tc_o, tc_0, inR, true_and, and_true, ne_eq, not_true_eq_false, not_false_eq_true, true_imp_iff, false_imp_iff, Int.toNat_natCast, lit_a, Nat.reduceAdd, or_true, true_or, or_false, false_or, Int.reduceEq, Int.reduceNe, Int.reduceLT, Int.reduceLE, Int.reduceNeg, sg_nil, t0, t1, t2, t3, t4, t5, t6, t7, t8, t9, t10, t11, t12, u0, u1, u2, u3, u4, u5, u6, u7, u8, u9, u10, u11, e1, hn]
      repeat' (first | with_reducible apply And.intro | intro _)
      all_goals (try omega)
      refine k_Sta_inRow hS hR1 hz hs (by omega) ?_
      rw [hm]
      refine wp_go b2_18 ?_; simp only [l2_18, sg_istore, okS_4, stL_4, sg_aload_0, sg_aload_1, sg_iload, ldI_4, sg_iv3_i, len4_0, len4_1, len4_2, len4_3, len4_4, nLg_n, nLg_i, nLg_r, tc_c, tc_l, tc_r, tc_m, tc_n, tc_o, tc_0, inR, true_and, and_true, ne_eq, not_true_eq_false, not_false_eq_true, true_imp_iff, false_imp_iff, Int.toNat_natCast, lit_a, Nat.reduceAdd, or_true, true_or, or_false, false_or, Int.reduceEq, Int.reduceNe, Int.reduceLT, Int.reduceLE, Int.reduceNeg, sg_nil]
      repeat' (first | with_reducible apply And.intro | (intro _) | ((first | refine wp_go b2_0 ?_ | refine wp_go b2_18 ?_ | refine wp_go b2_27 ?_ | refine wp_go b2_33 ?_ | refine wp_go b2_88 ?_ | refine wp_go b2_101 ?_ | refine wp_go b2_107 ?_); simp only [l2_0, l2_18, l2_27, l2_33, l2_88, l2_101, l2_107, sg_iconst, sg_istore_3, sg_istore, okS_4, stL_4, sg_aload_0, sg_aload_1, sg_iload, ldI_4, sg_iv3_i, len4_0, len4_1, len4_2, len4_3, len4_4, sg_if_ne, sg_goto, sg_getf0, sg_getfp, sg_iaload, sg_iadd, okS_5, stL_5, ldI_5, sg_ic_gt, sg_dup_i, sg_dup_r, sg_putf0, sg_ishl, sg_ior, sg_iret0, sg_min, sg_iinc, ldI_3, okS_3, stL_3, sg_bipush, nLg_n, nLg_i, nLg_r, tc_c, tc_l, tc_r, tc_m, tc_n, tc_o, tc_0, inR, true_and, and_true, ne_eq, not_true_eq_false, not_false_eq_true, true_imp_iff, false_imp_iff, Int.toNat_natCast, lit_a, Nat.reduceAdd, or_true, true_or, or_false, false_or, Int.reduceEq, Int.reduceNe, Int.reduceLT, Int.reduceLE, Int.reduceNeg, sg_nil]))
      all_goals (try omega)
      refine k_Cho_isFor hc hS hR1 hz (by omega) m0 m3 (fun g1 g2 => ?_) (fun g1 => ?_)
      · refine wp_go b2_27 ?_; simp only [l2_27, sg_if_ne, sg_goto, nLg_n, nLg_i, nLg_r, tc_c, tc_l, tc_r, tc_m, tc_n, tc_o, tc_0, inR, true_and, and_true, ne_eq, not_true_eq_false, not_false_eq_true, true_imp_iff, false_imp_iff, Int.toNat_natCast, lit_a, Nat.reduceAdd, or_true, true_or, or_false, false_or, Int.reduceEq, Int.reduceNe, Int.reduceLT, Int.reduceLE, Int.reduceNeg, sg_nil]
        repeat' (first | with_reducible apply And.intro | intro _)
        all_goals (try omega)
        by_cases hle : sec + z (196 + 2 * m) ≤ b
        · have o1 : ∀ b', b ≤ b' → okN z g b' set sec (m : Int) = true := fun b' h => by rw [ok b']; exact decide_eq_true ⟨g1, g2, by omega⟩
          have cm : ∀ b', b ≤ b' → b' < nb1 → chs z g b' (set, sec) s = (m : Int) := fun b' h1 h2 => by rw [cb' b' h1 h2, pk b', if_pos (o1 b' h1)]
          have c0 : chs z g b (set, sec) s = (m : Int) := by rw [cb, pk b, if_pos (o1 b (Int.le_refl b))]
          have x0 : nxt z (set, sec) (m : Int) = (iOr set (iShl 1 m), sec + z (196 + 2 * m)) := by unfold nxt; rw [if_neg (by omega)]; rfl
          have hq := hq (ms (ms (ms μ1 c 2 (cnt + 1)) c 3 (iOr set (iShl 1 m))) c 4 (sec + z (196 + 2 * m))) nb1 (fun k hk => by rw [← mf k hk]; funext j; simp [ms_at, hk]) (by simp [ms_at, m0]) (by simp [ms_at, m1])
            (by rw [c0]; simp [ms_at, bI]) (by rw [c0, x0]; simp [ms_at]) (by rw [c0, x0]; simp [ms_at]) (by simp [ms_at, m5]) n0 n1 (fun b' h1 h2 => by rw [cm b' h1 h2, c0])
          rw [c0] at hq
          refine wp_go b2_33 ?_; simp only [l2_33, sg_aload_0, sg_getf0, sg_aload_1, sg_getfp, sg_iload, ldI_4, sg_iaload, sg_iadd, sg_istore, okS_5, stL_5, ldI_5, sg_ic_gt, sg_dup_i, sg_dup_r, sg_iconst, sg_putf0, sg_ishl, sg_ior, sg_iret0, nLg_n, nLg_i, nLg_r, tc_c, tc_l, tc_r, tc_m, tc_n, tc_o, tc_0, inR, true_and, and_true, ne_eq, not_true_eq_false, not_false_eq_true, true_imp_iff, false_imp_iff, Int.toNat_natCast, lit_a, Nat.reduceAdd, or_true, true_or, or_false, false_or, Int.reduceEq, Int.reduceNe, Int.reduceLT, Int.reduceLE, Int.reduceNeg, sg_nil, t0, t1, t2, t3, t4, t5, t6, t7, t8, t9, t10, t11, t12, u0, u1, u2, u3, u4, u5, u6, u7, u8, u9, u10, u11, hc, el, m1, m2, m3, m4, ms_at, false_and, and_false, if_false, if_true, and_self, Nat.reduceEqDiff]
          repeat' (first | with_reducible apply And.intro | (intro _) | ((first | refine wp_go b2_0 ?_ | refine wp_go b2_18 ?_ | refine wp_go b2_27 ?_ | refine wp_go b2_33 ?_ | refine wp_go b2_88 ?_ | refine wp_go b2_101 ?_ | refine wp_go b2_107 ?_); simp only [l2_0, l2_18, l2_27, l2_33, l2_88, l2_101, l2_107, sg_iconst, sg_istore_3, sg_istore, okS_4, stL_4, sg_aload_0, sg_aload_1, sg_iload, ldI_4, sg_iv3_i, len4_0, len4_1, len4_2, len4_3, len4_4, sg_if_ne, sg_goto, sg_getf0, sg_getfp, sg_iaload, sg_iadd, okS_5, stL_5, ldI_5, sg_ic_gt, sg_dup_i, sg_dup_r, sg_putf0, sg_ishl, sg_ior, sg_iret0, sg_min, sg_iinc, ldI_3, okS_3, stL_3, sg_bipush, nLg_n, nLg_i, nLg_r, tc_c, tc_l, tc_r, tc_m, tc_n, tc_o, tc_0, inR, true_and, and_true, ne_eq, not_true_eq_false, not_false_eq_true, true_imp_iff, false_imp_iff, Int.toNat_natCast, lit_a, Nat.reduceAdd, or_true, true_or, or_false, false_or, Int.reduceEq, Int.reduceNe, Int.reduceLT, Int.reduceLE, Int.reduceNeg, sg_nil]))
          all_goals (try omega)
          all_goals exact hq
        · have o1 : ∀ b', b' < sec + z (196 + 2 * m) → ¬ okN z g b' set sec (m : Int) = true := fun b' h => by rw [ok b', decide_eq_true_eq]; omega
          have ih1 := ih (j + 1) (by omega) (ms μ1 c 5 (if sec + z (196 + 2 * m) < nb1 then sec + z (196 + 2 * m) else nb1)) (if sec + z (196 + 2 * m) < nb1 then sec + z (196 + 2 * m) else nb1) (some (.inl (m : Int))) (some (.inl (sec + z (196 + 2 * m)))) (fun k hk => by rw [← mf k hk]; funext j; simp [ms_at, hk]) (by simp [ms_at, m0]) (by simp [ms_at, m1]) (by simp [ms_at, m2]) (by simp [ms_at, m3]) (by simp [ms_at, m4]) (by simp [ms_at]) (by split <;> omega) (by split <;> omega)
            (by rw [cb, pk b, if_neg (o1 b (by omega))]) (fun b' h1 h2 => by rw [cb' b' h1 (by split at h2 <;> omega), pk b', if_neg (o1 b' (by split at h2 <;> omega))])
          refine wp_go b2_33 ?_; simp only [l2_33, sg_aload_0, sg_getf0, sg_aload_1, sg_getfp, sg_iload, ldI_4, sg_iaload, sg_iadd, sg_istore, okS_5, stL_5, ldI_5, sg_ic_gt, sg_dup_i, sg_dup_r, sg_iconst, sg_putf0, sg_ishl, sg_ior, sg_iret0, nLg_n, nLg_i, nLg_r, tc_c, tc_l, tc_r, tc_m, tc_n, tc_o, tc_0, inR, true_and, and_true, ne_eq, not_true_eq_false, not_false_eq_true, true_imp_iff, false_imp_iff, Int.toNat_natCast, lit_a, Nat.reduceAdd, or_true, true_or, or_false, false_or, Int.reduceEq, Int.reduceNe, Int.reduceLT, Int.reduceLE, Int.reduceNeg, sg_nil, t0, t1, t2, t3, t4, t5, t6, t7, t8, t9, t10, t11, t12, u0, u1, u2, u3, u4, u5, u6, u7, u8, u9, u10, u11, hc, el, m1, m2, m3, m4, ms_at, false_and, and_false, if_false, if_true, and_self, Nat.reduceEqDiff]
          repeat' (first | with_reducible apply And.intro | (intro _) | ((first | refine wp_go b2_0 ?_ | refine wp_go b2_18 ?_ | refine wp_go b2_27 ?_ | refine wp_go b2_33 ?_ | refine wp_go b2_88 ?_ | refine wp_go b2_101 ?_ | refine wp_go b2_107 ?_); simp only [l2_0, l2_18, l2_27, l2_33, l2_88, l2_101, l2_107, sg_iconst, sg_istore_3, sg_istore, okS_4, stL_4, sg_aload_0, sg_aload_1, sg_iload, ldI_4, sg_iv3_i, len4_0, len4_1, len4_2, len4_3, len4_4, sg_if_ne, sg_goto, sg_getf0, sg_getfp, sg_iaload, sg_iadd, okS_5, stL_5, ldI_5, sg_ic_gt, sg_dup_i, sg_dup_r, sg_putf0, sg_ishl, sg_ior, sg_iret0, sg_min, sg_iinc, ldI_3, okS_3, stL_3, sg_bipush, nLg_n, nLg_i, nLg_r, tc_c, tc_l, tc_r, tc_m, tc_n, tc_o, tc_0, inR, true_and, and_true, ne_eq, not_true_eq_false, not_false_eq_true, true_imp_iff, false_imp_iff, Int.toNat_natCast, lit_a, Nat.reduceAdd, or_true, true_or, or_false, false_or, Int.reduceEq, Int.reduceNe, Int.reduceLT, Int.reduceLE, Int.reduceNeg, sg_nil, hc, m5, ms_at, false_and, and_false, if_false, if_true, and_self, Nat.reduceEqDiff]))
          all_goals (try omega)
          all_goals exact ih1
      · have o1 : ∀ b', ¬ okN z g b' set sec (m : Int) = true := fun b' => by rw [ok b', decide_eq_true_eq]; exact fun q => g1 ⟨q.1, q.2.1⟩
        have ih1 := ih (j + 1) (by omega) μ1 nb1 (some (.inl (m : Int))) o5 mf m0 m1 m2 m3 m4 m5 n0 n1 (by rw [cb, pk b, if_neg (o1 b)]) (fun b' h1 h2 => by rw [cb' b' h1 h2, pk b', if_neg (o1 b')])
        refine wp_go b2_27 ?_; simp only [l2_27, sg_if_ne, sg_goto, nLg_n, nLg_i, nLg_r, tc_c, tc_l, tc_r, tc_m, tc_n, tc_o, tc_0, inR, true_and, and_true, ne_eq, not_true_eq_false, not_false_eq_true, true_imp_iff, false_imp_iff, Int.toNat_natCast, lit_a, Nat.reduceAdd, or_true, true_or, or_false, false_or, Int.reduceEq, Int.reduceNe, Int.reduceLT, Int.reduceLE, Int.reduceNeg, sg_nil]
        repeat' (first | with_reducible apply And.intro | (intro _) | ((first | refine wp_go b2_0 ?_ | refine wp_go b2_18 ?_ | refine wp_go b2_27 ?_ | refine wp_go b2_33 ?_ | refine wp_go b2_88 ?_ | refine wp_go b2_101 ?_ | refine wp_go b2_107 ?_); simp only [l2_0, l2_18, l2_27, l2_33, l2_88, l2_101, l2_107, sg_iconst, sg_istore_3, sg_istore, okS_4, stL_4, sg_aload_0, sg_aload_1, sg_iload, ldI_4, sg_iv3_i, len4_0, len4_1, len4_2, len4_3, len4_4, sg_if_ne, sg_goto, sg_getf0, sg_getfp, sg_iaload, sg_iadd, okS_5, stL_5, ldI_5, sg_ic_gt, sg_dup_i, sg_dup_r, sg_putf0, sg_ishl, sg_ior, sg_iret0, sg_min, sg_iinc, ldI_3, okS_3, stL_3, sg_bipush, nLg_n, nLg_i, nLg_r, tc_c, tc_l, tc_r, tc_m, tc_n, tc_o, tc_0, inR, true_and, and_true, ne_eq, not_true_eq_false, not_false_eq_true, true_imp_iff, false_imp_iff, Int.toNat_natCast, lit_a, Nat.reduceAdd, or_true, true_or, or_false, false_or, Int.reduceEq, Int.reduceNe, Int.reduceLT, Int.reduceLE, Int.reduceNeg, sg_nil]))
        all_goals (try omega)
        all_goals exact ih1
  refine wp_go b2_0 ?_; simp only [l2_0, sg_iconst, sg_istore_3, nLg_n, nLg_i, nLg_r, tc_c, tc_l, tc_r, tc_m, tc_n, tc_o, tc_0, inR, true_and, and_true, ne_eq, not_true_eq_false, not_false_eq_true, true_imp_iff, false_imp_iff, Int.toNat_natCast, lit_a, Nat.reduceAdd, or_true, true_or, or_false, false_or, Int.reduceEq, Int.reduceNe, Int.reduceLT, Int.reduceLE, Int.reduceNeg, sg_nil]
  exact loop n 0 (by omega) μ nb none none (fun _ _ => rfl) h0 h1 h2 h3 h4 h5 hnb.1 (Int.le_refl nb) (f0 b) (fun b' _ _ => f0 b')
end
section
def bookZ (z : Rw) (i : Nat) (t : Int) : Rw := fun k => if k = 76 + 5 * i then z k + 1 else if k = 77 + 5 * i + (z (76 + 5 * i)).toNat then t else z k
theorem bookZ_s (z : Rw) (i : Nat) (t : Int) : bookZ z i t (76 + 5 * i) = z (76 + 5 * i) + 1 := by unfold bookZ; rw [if_pos rfl]
theorem bookZ_n (z : Rw) (i r : Nat) (t : Int) (h : z (76 + 5 * i) = (r : Int)) : bookZ z i t (77 + 5 * i + r) = t := by unfold bookZ; rw [h, Int.toNat_natCast, if_neg (by omega), if_pos rfl]
theorem bookZ_o (z : Rw) (i k : Nat) (t : Int) (h1 : k ≠ 76 + 5 * i) (h2 : k ≠ 77 + 5 * i + (z (76 + 5 * i)).toNat) : bookZ z i t k = z k := by unfold bookZ; rw [if_neg h1, if_neg h2]
-- Sta.appendToRow: blocks [0]
theorem k_Sta_appendToRow {σ : Sg} {d : Nat} {Q : QT} {μ : Mem} {S i : Nat} {t : Int} {z : Rw} (hS : iSta σ S) (hR : RC z μ S) (hz : IZ z) (hi : (i : Int) < z 0) (h4 : z (76 + 5 * i) < 4)
    (hq : ∀ μ' : Mem, (∀ k, k ≠ S + 5 → k ≠ S + 6 → μ' k = μ k) → RC (bookZ z i t) μ' S → Q (.inl 0) μ') : Call σ (d + 1) 40 [.inr (.inr S), .inl (i : Int), .inl t] μ Q := by
  refine e_40 ?_
  obtain ⟨t0, t1, t2, t3, t4, t5, t6, t7, t8, t9, t10, t11, t12, u0, u1, u2, u3, u4, u5, u6, u7, u8, u9, u10, u11⟩ := staF hS
  have q := hz.1
  have e := (hR.2.1 i hi).2.2.2.1
  have r := (hz.2.1 i hi).2.2.2.1
  obtain ⟨n, hn⟩ := nat_of r.1
  refine wp_go b40_0 ?_; simp only [l40_0, sg_aload_0, sg_getfp, sg_iload_1, sg_iconst, sg_imul, sg_iaload, sg_iadd, sg_iload_2, sg_iastore, sg_dup2, sg_ret, nLg_n, nLg_i, nLg_r, tc_c, tc_l, tc_r, tc_m, tc_n, tc_o, tc_0, inR, true_and, and_true, ne_eq, not_true_eq_false, not_false_eq_true, true_imp_iff, false_imp_iff, Int.toNat_natCast, lit_a, Nat.reduceAdd, or_true, true_or, or_false, false_or, Int.reduceEq, Int.reduceNe, Int.reduceLT, Int.reduceLE, Int.reduceNeg, sg_nil, t0, t1, t2, t3, t4, t5, t6, t7, t8, t9, t10, t11, t12, u0, u1, u2, u3, u4, u5, u6, u7, u8, u9, u10, u11, e, hn, ms_at, false_and, and_false, if_false, if_true, and_self, Nat.reduceEqDiff, ne_a, ne_b, Nat.add_left_cancel_iff]
  repeat' (first | with_reducible apply And.intro | (intro _) | ((first | refine wp_go b40_0 ?_); simp only [l40_0, sg_aload_0, sg_getfp, sg_iload_1, sg_iconst, sg_imul, sg_iaload, sg_iadd, sg_iload_2, sg_iastore, sg_dup2, sg_ret, nLg_n, nLg_i, nLg_r, tc_c, tc_l, tc_r, tc_m, tc_n, tc_o, tc_0, inR, true_and, and_true, ne_eq, not_true_eq_false, not_false_eq_true, true_imp_iff, false_imp_iff, Int.toNat_natCast, lit_a, Nat.reduceAdd, or_true, true_or, or_false, false_or, Int.reduceEq, Int.reduceNe, Int.reduceLT, Int.reduceLE, Int.reduceNeg, sg_nil]))
  all_goals (try omega)
  refine hq _ (fun k h5 h6 => by funext j; simp only [ms_at, h5, h6, false_and, if_false]) ?_
  have bo : ∀ k, k ≠ 76 + 5 * i → k ≠ 77 + 5 * i + n → bookZ z i t k = z k := fun k h1 h2 => bookZ_o z i k t h1 (by rw [hn]; exact h2)
  have b2 : bookZ z i t 2 = z 2 := bo 2 (by omega) (by omega)
  have b3 : bookZ z i t 3 = z 3 := bo 3 (by omega) (by omega)
  have b0 : bookZ z i t 0 = z 0 := bo 0 (by omega) (by omega)
  obtain ⟨⟨c0, c1, c2, c3⟩, hs, hn2, hl⟩ := hR
  unfold RC
  rw [b0, b2, b3]
  refine ⟨⟨?_, ?_, ?_, ?_⟩, fun i' hi' => ⟨?_, ?_, ?_, ?_, fun j hj => ?_⟩, fun i' hi' => ⟨?_, ?_⟩, fun l hl' => ⟨?_, ?_, ?_, fun hf => ?_⟩⟩
  · simp [ms_at, c0]
  · rw [bo 1 (by omega) (by omega)]; simp [ms_at, c1]
  · simp [ms_at, c2]
  · simp [ms_at, c3]
  · rw [bo _ (by omega) (by omega)]; simp [ms_at, (hs i' hi').1]
  · rw [bo _ (by omega) (by omega)]; simp [ms_at, (hs i' hi').2.1]
  · rw [bo _ (by omega) (by omega)]; simp [ms_at, (hs i' hi').2.2.1]
  · by_cases hii : i' = i
    · subst hii
      rw [bookZ_s, hn]
      simp [ms_at]
    · rw [bo _ (by omega) (by omega)]
      simp only [ms_at, true_and, and_true, if_true]
      (repeat (first | rw [if_neg (by omega)] | rw [if_pos (by omega)]))
      exact (hs i' hi').2.2.2.1
  · by_cases hii : i' = i
    · subst hii
      rw [bookZ_s, hn] at hj
      by_cases hjn : j = n
      · subst hjn
        rw [bookZ_n z i' j t hn]
        simp only [ms_at, true_and, and_true, if_true]
        (repeat (first | rw [if_neg (by omega)] | rw [if_pos (by omega)]))
      · rw [bo _ (by omega) (by omega)]
        simp only [ms_at, true_and, and_true, if_true]
        (repeat (first | rw [if_neg (by omega)] | rw [if_pos (by omega)]))
        exact (hs i' hi').2.2.2.2 j (by omega)
    · rw [bo _ (by omega) (by omega)] at hj
      have r' := (hz.2.1 i' hi').2.2.2.1
      rw [bo _ (by omega) (by omega)]
      simp only [ms_at, true_and, and_true, if_true]
      (repeat (first | rw [if_neg (by omega)] | rw [if_pos (by omega)]))
      exact (hs i' hi').2.2.2.2 j hj
  · rw [bo _ (by omega) (by omega)]; simp [ms_at, (hn2 i' hi').1]
  · rw [bo _ (by omega) (by omega)]; simp [ms_at, (hn2 i' hi').2]
  · rw [bo _ (by omega) (by omega)]; simp [ms_at, (hl l hl').1]
  · rw [bo _ (by omega) (by omega)]; simp [ms_at, (hl l hl').2.1]
  · rw [bo _ (by omega) (by omega)]; simp [ms_at, (hl l hl').2.2.1]
  · rw [bo _ (by omega) (by omega)] at hf
    have e2 : fw (bookZ z i t) l = fw z l := by funext k; exact bo _ (by omega) (by omega)
    rw [e2]
    exact HR_f (fun k hk1 hk2 => by funext j; simp only [ms_at, true_and, and_true, if_true]; (repeat (first | rw [if_neg (by omega)] | rw [if_pos (by omega)]))) ((hl l hl').2.2.2 hf)
-- Sta.dropFromRow: blocks [0]
theorem k_Sta_dropFromRow {σ : Sg} {d : Nat} {Q : QT} {μ : Mem} {S i : Nat} {t : Int} {z : Rw} (hS : iSta σ S) (hz : IZ z) (hi : (i : Int) < z 0) (h4 : z (76 + 5 * i) < 4) (hR : RC (bookZ z i t) μ S)
    (hq : ∀ μ' : Mem, (∀ k, k ≠ S + 5 → μ' k = μ k) → RC z μ' S → Q (.inl 0) μ') : Call σ (d + 1) 41 [.inr (.inr S), .inl (i : Int)] μ Q := by
  refine e_41 ?_
  obtain ⟨t0, t1, t2, t3, t4, t5, t6, t7, t8, t9, t10, t11, t12, u0, u1, u2, u3, u4, u5, u6, u7, u8, u9, u10, u11⟩ := staF hS
  have q := hz.1
  have r := (hz.2.1 i hi).2.2.2.1
  obtain ⟨n, hn⟩ := nat_of r.1
  have bo : ∀ k, k ≠ 76 + 5 * i → k ≠ 77 + 5 * i + n → bookZ z i t k = z k := fun k h1 h2 => bookZ_o z i k t h1 (by rw [hn]; exact h2)
  have b2 : bookZ z i t 2 = z 2 := bo 2 (by omega) (by omega)
  have b3 : bookZ z i t 3 = z 3 := bo 3 (by omega) (by omega)
  have b0 : bookZ z i t 0 = z 0 := bo 0 (by omega) (by omega)
  obtain ⟨⟨c0, c1, c2, c3⟩, hs, hn2, hl⟩ := hR
  rw [b0] at c0 hs; rw [b2] at c2 hn2; rw [b3] at c3 hl
  have e := (hs i hi).2.2.2.1
  rw [bookZ_s] at e
  refine wp_go b41_0 ?_; simp only [l41_0, sg_aload_0, sg_getfp, sg_iload_1, sg_dup2, sg_iaload, sg_iconst, sg_isub, sg_iastore, sg_ret, nLg_n, nLg_i, nLg_r, tc_c, tc_l, tc_r, tc_m, tc_n, tc_o, tc_0, inR, true_and, and_true, ne_eq, not_true_eq_false, not_false_eq_true, true_imp_iff, false_imp_iff, Int.toNat_natCast, lit_a, Nat.reduceAdd, or_true, true_or, or_false, false_or, Int.reduceEq, Int.reduceNe, Int.reduceLT, Int.reduceLE, Int.reduceNeg, sg_nil, t0, t1, t2, t3, t4, t5, t6, t7, t8, t9, t10, t11, t12, u0, u1, u2, u3, u4, u5, u6, u7, u8, u9, u10, u11, e]
  repeat' (first | with_reducible apply And.intro | (intro _) | ((first | refine wp_go b41_0 ?_); simp only [l41_0, sg_aload_0, sg_getfp, sg_iload_1, sg_dup2, sg_iaload, sg_iconst, sg_isub, sg_iastore, sg_ret, nLg_n, nLg_i, nLg_r, tc_c, tc_l, tc_r, tc_m, tc_n, tc_o, tc_0, inR, true_and, and_true, ne_eq, not_true_eq_false, not_false_eq_true, true_imp_iff, false_imp_iff, Int.toNat_natCast, lit_a, Nat.reduceAdd, or_true, true_or, or_false, false_or, Int.reduceEq, Int.reduceNe, Int.reduceLT, Int.reduceLE, Int.reduceNeg, sg_nil]))
  all_goals (try omega)
  refine hq _ (fun k h5 => by funext j; simp only [ms_at, h5, false_and, if_false]) ?_
  unfold RC
  refine ⟨⟨?_, ?_, ?_, ?_⟩, fun i' hi' => ⟨?_, ?_, ?_, ?_, fun j hj => ?_⟩, fun i' hi' => ⟨?_, ?_⟩, fun l hl' => ⟨?_, ?_, ?_, fun hf => ?_⟩⟩
  · simp [ms_at, c0]
  · rw [← bo 1 (by omega) (by omega)]; simp [ms_at, c1]
  · simp [ms_at, c2]
  · simp [ms_at, c3]
  · rw [← bo (4 + 3 * i') (by omega) (by omega)]; simp [ms_at, (hs i' hi').1]
  · rw [← bo (5 + 3 * i') (by omega) (by omega)]; simp [ms_at, (hs i' hi').2.1]
  · rw [← bo (6 + 3 * i') (by omega) (by omega)]; simp [ms_at, (hs i' hi').2.2.1]
  · by_cases hii : i' = i
    · subst hii
      simp only [ms_at, true_and, and_true, if_true]
      (repeat (first | rw [if_neg (by omega)] | rw [if_pos (by omega)]))
      omega
    · rw [← bo (76 + 5 * i') (by omega) (by omega)]
      simp only [ms_at, true_and, and_true, if_true]
      (repeat (first | rw [if_neg (by omega)] | rw [if_pos (by omega)]))
      exact (hs i' hi').2.2.2.1
  · have r' := (hz.2.1 i' hi').2.2.2.1
    have hne : 77 + 5 * i' + j ≠ 77 + 5 * i + n := by
      by_cases hii : i' = i
      · subst hii; omega
      · omega
    rw [← bo (77 + 5 * i' + j) (by omega) hne]
    simp only [ms_at, true_and, and_true, if_true]
    (repeat (first | rw [if_neg (by omega)] | rw [if_pos (by omega)]))
    refine (hs i' hi').2.2.2.2 j ?_
    by_cases hii : i' = i
    · subst hii; rw [bookZ_s]; omega
    · rw [bo _ (by omega) (by omega)]; exact hj
  · rw [← bo (196 + 2 * i') (by omega) (by omega)]; simp [ms_at, (hn2 i' hi').1]
  · rw [← bo (197 + 2 * i') (by omega) (by omega)]; simp [ms_at, (hn2 i' hi').2]
  · rw [← bo (212 + 3 * l) (by omega) (by omega)]; simp [ms_at, (hl l hl').1]
  · rw [← bo (213 + 3 * l) (by omega) (by omega)]; simp [ms_at, (hl l hl').2.1]
  · rw [← bo (214 + 3 * l) (by omega) (by omega)]; simp [ms_at, (hl l hl').2.2.1]
  · rw [← bo (214 + 3 * l) (by omega) (by omega)] at hf
    have e2 : fw (bookZ z i t) l = fw z l := by funext k; exact bo _ (by omega) (by omega)
    rw [← e2]
    exact HR_f (fun k hk1 hk2 => by funext j; simp only [ms_at, true_and, and_true, if_true]; (repeat (first | rw [if_neg (by omega)] | rw [if_pos (by omega)]))) ((hl l hl').2.2.2 hf)
-- Sta.moveSentence: blocks [0]
theorem k_Sta_moveSentence {σ : Sg} {d : Nat} {Q : QT} {μ : Mem} {S a b : Nat} (hS : iSta σ S) (ha : a < 24) (hb : b < 24)
    (hq : ∀ μ' : Mem, (∀ k, (k < S + 2 ∨ S + 6 < k) → μ' k = μ k) → (∀ k i, S + 2 ≤ k → k ≤ S + 5 → μ' k i = if i = b then μ k a else μ k i) → (∀ i j, j < 4 → μ' (S + 6) (4 * i + j) = if i = b then μ (S + 6) (4 * a + j) else μ (S + 6) (4 * i + j)) → Q (.inl 0) μ') : Call σ (d + 1) 46 [.inr (.inr S), .inl (a : Int), .inl (b : Int)] μ Q := by
  refine e_46 ?_
  obtain ⟨t0, t1, t2, t3, t4, t5, t6, t7, t8, t9, t10, t11, t12, u0, u1, u2, u3, u4, u5, u6, u7, u8, u9, u10, u11⟩ := staF hS
  refine wp_go b46_0 ?_; simp only [l46_0, sg_aload_0, sg_getfp, sg_iload_2, sg_iload_1, sg_iaload, sg_iastore, sg_iconst, sg_imul, len4_0, len4_1, len4_2, len4_3, len4_4, sg_acopy, sg_ret, nLg_n, nLg_i, nLg_r, tc_c, tc_l, tc_r, tc_m, tc_n, tc_o, tc_0, inR, true_and, and_true, ne_eq, not_true_eq_false, not_false_eq_true, true_imp_iff, false_imp_iff, Int.toNat_natCast, lit_a, Nat.reduceAdd, or_true, true_or, or_false, false_or, Int.reduceEq, Int.reduceNe, Int.reduceLT, Int.reduceLE, Int.reduceNeg, sg_nil, t0, t1, t2, t3, t4, t5, t6, t7, t8, t9, t10, t11, t12, u0, u1, u2, u3, u4, u5, u6, u7, u8, u9, u10, u11, ms_at, false_and, and_false, if_false, if_true, and_self, Nat.reduceEqDiff, ne_a, ne_b, Nat.add_left_cancel_iff, Int.toNat_zero]
  repeat' (first | with_reducible apply And.intro | (intro _) | ((first | refine wp_go b46_0 ?_); simp only [l46_0, sg_aload_0, sg_getfp, sg_iload_2, sg_iload_1, sg_iaload, sg_iastore, sg_iconst, sg_imul, len4_0, len4_1, len4_2, len4_3, len4_4, sg_acopy, sg_ret, nLg_n, nLg_i, nLg_r, tc_c, tc_l, tc_r, tc_m, tc_n, tc_o, tc_0, inR, true_and, and_true, ne_eq, not_true_eq_false, not_false_eq_true, true_imp_iff, false_imp_iff, Int.toNat_natCast, lit_a, Nat.reduceAdd, or_true, true_or, or_false, false_or, Int.reduceEq, Int.reduceNe, Int.reduceLT, Int.reduceLE, Int.reduceNeg, sg_nil]))
  all_goals (try omega)
  refine hq _ (fun k hk => ?_) (fun k i h1 h2 => ?_) (fun i j hj => ?_)
  · funext j
    simp only [ms_at, mcp_at, true_and, and_true, if_true]
    (repeat (first | rw [if_neg (by omega)] | rw [if_pos (by omega)]))
  · rcases (show k = S + 2 ∨ k = S + 3 ∨ k = S + 4 ∨ k = S + 5 by omega) with rfl | rfl | rfl | rfl <;> simp [ms_at, mcp_at]
  · by_cases hi : i = b
    · subst hi
      simp only [ms_at, mcp_at, true_and, and_true, if_true]
      (repeat (first | rw [if_neg (by omega)] | rw [if_pos (by omega)]))
      congr 1; omega
    · simp only [ms_at, mcp_at, true_and, and_true, if_true, hi, if_false]
      (repeat (first | rw [if_neg (by omega)] | rw [if_pos (by omega)]))
-- Sta.insertSentence: blocks [0, 8, 21, 27, 79, 80, 83]
theorem k_Sta_insertSentence {σ : Sg} {d : Nat} {Q : QT} {μ : Mem} {S n p : Nat} {len : Int} (hS : iSta σ S) (hn : μ (S + 1) 3 = (n : Int)) (hn2 : n < 24) (hp : p ≤ n)
    (hq : ∀ μ' : Mem, (∀ k, (k < S ∨ S + 6 < k) → μ' k = μ k) → (∀ j, j ≠ 9 → μ' S j = μ S j) → μ' S 9 = μ S 9 + 1 → μ' (S + 1) 3 = ((n + 1 : Nat) : Int) →
      (∀ k i, S + 2 ≤ k → k ≤ S + 5 → i < p → μ' k i = μ k i) → (∀ k i, S + 2 ≤ k → k ≤ S + 5 → p ≤ i → i < n → μ' k (i + 1) = μ k i) →
      μ' (S + 2) p = μ S 9 → μ' (S + 3) p = len → μ' (S + 4) p = bI (p = 0) → μ' (S + 5) p = 0 →
      (∀ i j, j < 4 → i < p → μ' (S + 6) (4 * i + j) = μ (S + 6) (4 * i + j)) → (∀ i j, j < 4 → p ≤ i → i < n → μ' (S + 6) (4 * (i + 1) + j) = μ (S + 6) (4 * i + j)) → Q (.inl 0) μ') : Call σ (d + 2) 44 [.inr (.inr S), .inl (p : Int), .inl len] μ Q := by
  refine e_44 ?_
  obtain ⟨t0, t1, t2, t3, t4, t5, t6, t7, t8, t9, t10, t11, t12, u0, u1, u2, u3, u4, u5, u6, u7, u8, u9, u10, u11⟩ := staF hS
  have loop : ∀ k b : Nat, b = p + k → b ≤ n → ∀ μ1 : Mem, (∀ k, (k < S + 2 ∨ S + 6 < k) → μ1 k = μ k) → (∀ k i, S + 2 ≤ k → k ≤ S + 5 → μ1 k i = if b < i ∧ i ≤ n then μ k (i - 1) else μ k i) → (∀ i j, j < 4 → μ1 (S + 6) (4 * i + j) = if b < i ∧ i ≤ n then μ (S + 6) (4 * (i - 1) + j) else μ (S + 6) (4 * i + j)) →
      wp σ (Call σ (d + 1)) 44 Q 8 [some (.inr (.inr S)), some (.inl (p : Int)), some (.inl len), some (.inl (b : Int))] [] μ1 := by
    intro k
    induction k with
    | zero =>
      intro b hb hbn μ1 f1 c1 r1
      have hbp : b = p := by omega
      subst hbp
      have e1 : μ1 (S + 1) = μ (S + 1) := f1 (S + 1) (by omega)
      have e0 : μ1 S = μ S := f1 S (by omega)
      refine wp_go b44_8 ?_; simp only [l44_8, sg_iload_3, sg_iload_1, sg_ic_le, sg_aload_0, sg_iconst, sg_isub, sg_iv3_v, len4_0, len4_1, len4_2, len4_3, len4_4, nLg_n, nLg_i, nLg_r, tc_c, tc_l, tc_r, tc_m, tc_n, tc_o, tc_0, inR, true_and, and_true, ne_eq, not_true_eq_false, not_false_eq_true, true_imp_iff, false_imp_iff, Int.toNat_natCast, lit_a, Nat.reduceAdd, or_true, true_or, or_false, false_or, Int.reduceEq, Int.reduceNe, Int.reduceLT, Int.reduceLE, Int.reduceNeg, sg_nil, t0, t1, t2, t3, t4, t5, t6, t7, t8, t9, t10, t11, t12, u0, u1, u2, u3, u4, u5, u6, u7, u8, u9, u10, u11]
      repeat' (first | with_reducible apply And.intro | (intro _) | refine k_NS_asNumber (Or.inl rfl) ?_ | refine k_NS_asNumber (Or.inr rfl) ?_ | ((first | refine wp_go b44_0 ?_ | refine wp_go b44_21 ?_ | refine wp_go b44_27 ?_ | refine wp_go b44_79 ?_ | refine wp_go b44_80 ?_ | refine wp_go b44_83 ?_); simp only [l44_0, l44_21, l44_27, l44_79, l44_80, l44_83, sg_aload_0, sg_getfp, sg_getf0, sg_istore_3, sg_iinc, ldI_3, okS_3, stL_3, sg_goto, sg_dup_i, sg_dup_r, sg_iconst, sg_iadd, sg_putf0, sg_iload_1, sg_iastore, sg_iload_2, sg_if_ne, len4_0, len4_1, len4_2, len4_3, len4_4, sg_is1_2, sg_ret, nLg_n, nLg_i, nLg_r, tc_c, tc_l, tc_r, tc_m, tc_n, tc_o, tc_0, inR, true_and, and_true, ne_eq, not_true_eq_false, not_false_eq_true, true_imp_iff, false_imp_iff, Int.toNat_natCast, lit_a, Nat.reduceAdd, or_true, true_or, or_false, false_or, Int.reduceEq, Int.reduceNe, Int.reduceLT, Int.reduceLE, Int.reduceNeg, sg_nil, t0, t1, t2, t3, t4, t5, t6, t7, t8, t9, t10, t11, t12, u0, u1, u2, u3, u4, u5, u6, u7, u8, u9, u10, u11, e1, e0, hn, ms_at, false_and, and_false, if_false, if_true, and_self, Nat.reduceEqDiff, ne_a, ne_b, Nat.add_left_cancel_iff]))
      all_goals (try omega)
      all_goals
        refine hq _ (fun k hk => ?_) (fun j hj => ?_) ?_ ?_ (fun k i h1 h2 hi => ?_) (fun k i h1 h2 hi hi2 => ?_) ?_ ?_ ?_ ?_ (fun i j hj hi => ?_) (fun i j hj hi hi2 => ?_)
        · funext j
          simp only [ms_at]
          (repeat (first | rw [if_neg (by omega)] | rw [if_pos (by omega)]))
          rw [f1 k (by omega)]
        · simp only [ms_at, true_and, and_true, if_true]
          (repeat (first | rw [if_neg (by omega)] | rw [if_pos (by omega)]))
          rw [e0]
        · simp [ms_at]
        · simp [ms_at]
        · simp only [ms_at]
          (repeat (first | rw [if_neg (by omega)] | rw [if_pos (by omega)]))
          rw [c1 k i h1 h2]
          (repeat (first | rw [if_neg (by omega)] | rw [if_pos (by omega)]))
        · simp only [ms_at]
          (repeat (first | rw [if_neg (by omega)] | rw [if_pos (by omega)]))
          rw [c1 k (i + 1) h1 h2]
          (repeat (first | rw [if_neg (by omega)] | rw [if_pos (by omega)]))
          rfl
        · simp [ms_at]
        · simp [ms_at]
        · simp [ms_at, bI]; try omega
        · simp [ms_at]
        · simp only [ms_at]
          (repeat (first | rw [if_neg (by omega)] | rw [if_pos (by omega)]))
          rw [r1 i j hj]
          (repeat (first | rw [if_neg (by omega)] | rw [if_pos (by omega)]))
        · simp only [ms_at]
          (repeat (first | rw [if_neg (by omega)] | rw [if_pos (by omega)]))
          rw [r1 (i + 1) j hj]
          (repeat (first | rw [if_neg (by omega)] | rw [if_pos (by omega)]))
          rfl
    | succ k ih =>
      intro b hb hbn μ1 f1 c1 r1
      refine wp_go b44_8 ?_; simp only [l44_8, sg_iload_3, sg_iload_1, sg_ic_le, sg_aload_0, sg_iconst, sg_isub, sg_iv3_v, len4_0, len4_1, len4_2, len4_3, len4_4, nLg_n, nLg_i, nLg_r, tc_c, tc_l, tc_r, tc_m, tc_n, tc_o, tc_0, inR, true_and, and_true, ne_eq, not_true_eq_false, not_false_eq_true, true_imp_iff, false_imp_iff, Int.toNat_natCast, lit_a, Nat.reduceAdd, or_true, true_or, or_false, false_or, Int.reduceEq, Int.reduceNe, Int.reduceLT, Int.reduceLE, Int.reduceNeg, sg_nil, t0, t1, t2, t3, t4, t5, t6, t7, t8, t9, t10, t11, t12, u0, u1, u2, u3, u4, u5, u6, u7, u8, u9, u10, u11]
      repeat' (first | with_reducible apply And.intro | intro _)
      all_goals (try omega)
      rw [show (b : Int) - 1 = ((b - 1 : Nat) : Int) by omega]
      refine k_Sta_moveSentence hS (by omega) (by omega) (fun μ2 f2 c2 r2 => ?_)
      have ih1 := ih (b - 1) (by omega) (by omega) μ2 (fun k hk => (f2 k hk).trans (f1 k hk)) (fun k i h1 h2 => ?_) (fun i j hj => ?_)
      · refine wp_go b44_21 ?_; simp only [l44_21, sg_iinc, ldI_3, okS_3, stL_3, sg_goto, nLg_n, nLg_i, nLg_r, tc_c, tc_l, tc_r, tc_m, tc_n, tc_o, tc_0, inR, true_and, and_true, ne_eq, not_true_eq_false, not_false_eq_true, true_imp_iff, false_imp_iff, Int.toNat_natCast, lit_a, Nat.reduceAdd, or_true, true_or, or_false, false_or, Int.reduceEq, Int.reduceNe, Int.reduceLT, Int.reduceLE, Int.reduceNeg, sg_nil]
        repeat' (first | with_reducible apply And.intro | (intro _) | ((first | refine wp_go b44_0 ?_ | refine wp_go b44_21 ?_ | refine wp_go b44_27 ?_ | refine wp_go b44_79 ?_ | refine wp_go b44_80 ?_ | refine wp_go b44_83 ?_); simp only [l44_0, l44_21, l44_27, l44_79, l44_80, l44_83, sg_aload_0, sg_getfp, sg_getf0, sg_istore_3, sg_iinc, ldI_3, okS_3, stL_3, sg_goto, sg_dup_i, sg_dup_r, sg_iconst, sg_iadd, sg_putf0, sg_iload_1, sg_iastore, sg_iload_2, sg_if_ne, len4_0, len4_1, len4_2, len4_3, len4_4, sg_is1_2, sg_ret, nLg_n, nLg_i, nLg_r, tc_c, tc_l, tc_r, tc_m, tc_n, tc_o, tc_0, inR, true_and, and_true, ne_eq, not_true_eq_false, not_false_eq_true, true_imp_iff, false_imp_iff, Int.toNat_natCast, lit_a, Nat.reduceAdd, or_true, true_or, or_false, false_or, Int.reduceEq, Int.reduceNe, Int.reduceLT, Int.reduceLE, Int.reduceNeg, sg_nil]))
        all_goals (try omega)
        rw [show (b : Int) + -1 = ((b - 1 : Nat) : Int) by omega]
        exact ih1
      · rw [c2 k i h1 h2]
        by_cases hi : i = b
        · subst hi
          rw [if_pos rfl, c1 k (i - 1) h1 h2]
          (repeat (first | rw [if_neg (by omega)] | rw [if_pos (by omega)]))
        · rw [if_neg hi, c1 k i h1 h2]
          by_cases h : b < i ∧ i ≤ n
          · rw [if_pos h, if_pos (by omega)]
          · rw [if_neg h, if_neg (by omega)]
      · rw [r2 i j hj]
        by_cases hi : i = b
        · subst hi
          rw [if_pos rfl, r1 (i - 1) j hj]
          (repeat (first | rw [if_neg (by omega)] | rw [if_pos (by omega)]))
        · rw [if_neg hi, r1 i j hj]
          by_cases h : b < i ∧ i ≤ n
          · rw [if_pos h, if_pos (by omega)]
          · rw [if_neg h, if_neg (by omega)]
  refine wp_go b44_0 ?_; simp only [l44_0, sg_aload_0, sg_getfp, sg_getf0, sg_istore_3, nLg_n, nLg_i, nLg_r, tc_c, tc_l, tc_r, tc_m, tc_n, tc_o, tc_0, inR, true_and, and_true, ne_eq, not_true_eq_false, not_false_eq_true, true_imp_iff, false_imp_iff, Int.toNat_natCast, lit_a, Nat.reduceAdd, or_true, true_or, or_false, false_or, Int.reduceEq, Int.reduceNe, Int.reduceLT, Int.reduceLE, Int.reduceNeg, sg_nil, t0, t1, t2, t3, t4, t5, t6, t7, t8, t9, t10, t11, t12, u0, u1, u2, u3, u4, u5, u6, u7, u8, u9, u10, u11, hn]
  exact loop (n - p) n (by omega) (Nat.le_refl n) μ (fun _ _ => rfl) (fun k i _ _ => by (repeat (first | rw [if_neg (by omega)] | rw [if_pos (by omega)]))) (fun i j _ => by (repeat (first | rw [if_neg (by omega)] | rw [if_pos (by omega)])))
end
section
-- Sta.removeSentence: blocks [0, 15, 34, 40]
theorem k_Sta_removeSentence {σ : Sg} {d : Nat} {Q : QT} {μ : Mem} {S m s : Nat} (hS : iSta σ S) (hn : μ (S + 1) 3 = ((m + 1 : Nat) : Int)) (hn2 : m < 24) (hp : s ≤ m)
    (hq : ∀ μ' : Mem, (∀ k, (k < S + 1 ∨ S + 6 < k) → μ' k = μ k) → μ' (S + 1) 3 = (m : Int) →
      (∀ k x, S + 2 ≤ k → k ≤ S + 5 → (k ≠ S + 4 ∨ x ≠ 0) → x < m → μ' k x = if x < s then μ k x else μ k (x + 1)) → μ' (S + 4) 0 = 1 →
      (∀ x j, j < 4 → x < m → μ' (S + 6) (4 * x + j) = if x < s then μ (S + 6) (4 * x + j) else μ (S + 6) (4 * (x + 1) + j)) → Q (.inl 0) μ') : Call σ (d + 2) 45 [.inr (.inr S), .inl (s : Int)] μ Q := by
  refine e_45 ?_
  obtain ⟨t0, t1, t2, t3, t4, t5, t6, t7, t8, t9, t10, t11, t12, u0, u1, u2, u3, u4, u5, u6, u7, u8, u9, u10, u11⟩ := staF hS
  have loop : ∀ k i : Nat, i + k = m → s ≤ i → ∀ μ1 : Mem, (∀ k, (k < S + 1 ∨ S + 6 < k) → μ1 k = μ k) → μ1 (S + 1) 3 = (m : Int) → (∀ k x, S + 2 ≤ k → k ≤ S + 5 → μ1 k x = if s ≤ x ∧ x < i then μ k (x + 1) else μ k x) → (∀ x j, j < 4 → μ1 (S + 6) (4 * x + j) = if s ≤ x ∧ x < i then μ (S + 6) (4 * (x + 1) + j) else μ (S + 6) (4 * x + j)) →
      wp σ (Call σ (d + 1)) 45 Q 15 [some (.inr (.inr S)), some (.inl (s : Int)), some (.inl (i : Int))] [] μ1 := by
    intro k
    induction k with
    | zero =>
      intro i hi hsi μ1 f1 g1 c1 r1
      have him : i = m := by omega
      subst him
      refine wp_go b45_15 ?_; simp only [l45_15, sg_iload_2, sg_aload_0, sg_getfp, sg_getf0, sg_ic_ge, sg_iconst, sg_iadd, sg_iv3_v, len4_0, len4_1, len4_2, len4_3, len4_4, nLg_n, nLg_i, nLg_r, tc_c, tc_l, tc_r, tc_m, tc_n, tc_o, tc_0, inR, true_and, and_true, ne_eq, not_true_eq_false, not_false_eq_true, true_imp_iff, false_imp_iff, Int.toNat_natCast, lit_a, Nat.reduceAdd, or_true, true_or, or_false, false_or, Int.reduceEq, Int.reduceNe, Int.reduceLT, Int.reduceLE, Int.reduceNeg, sg_nil, t0, t1, t2, t3, t4, t5, t6, t7, t8, t9, t10, t11, t12, u0, u1, u2, u3, u4, u5, u6, u7, u8, u9, u10, u11, g1]
      repeat' (first | with_reducible apply And.intro | (intro _) | ((first | refine wp_go b45_0 ?_ | refine wp_go b45_34 ?_ | refine wp_go b45_40 ?_); simp only [l45_0, l45_34, l45_40, sg_aload_0, sg_getfp, sg_dup_i, sg_dup_r, sg_getf0, sg_iconst, sg_isub, sg_putf0, sg_iload_1, sg_istore_2, sg_iinc, ldI_2, okS_2, stL_2, sg_goto, sg_iastore, sg_ret, nLg_n, nLg_i, nLg_r, tc_c, tc_l, tc_r, tc_m, tc_n, tc_o, tc_0, inR, true_and, and_true, ne_eq, not_true_eq_false, not_false_eq_true, true_imp_iff, false_imp_iff, Int.toNat_natCast, lit_a, Nat.reduceAdd, or_true, true_or, or_false, false_or, Int.reduceEq, Int.reduceNe, Int.reduceLT, Int.reduceLE, Int.reduceNeg, sg_nil, t0, t1, t2, t3, t4, t5, t6, t7, t8, t9, t10, t11, t12, u0, u1, u2, u3, u4, u5, u6, u7, u8, u9, u10, u11, ms_at, false_and, and_false, if_false, if_true, and_self, Nat.reduceEqDiff, ne_a, ne_b, Nat.add_left_cancel_iff, Int.toNat_zero]))
      all_goals (try omega)
      refine hq _ (fun k hk => ?_) ?_ (fun k x h1 h2 h3 hx => ?_) ?_ (fun x j hj hx => ?_)
      · funext j
        simp only [ms_at]
        (repeat (first | rw [if_neg (by omega)] | rw [if_pos (by omega)]))
        rw [f1 k (by omega)]
      · simp only [ms_at]
        (repeat (first | rw [if_neg (by omega)] | rw [if_pos (by omega)]))
        exact g1
      · simp only [ms_at]
        rw [if_neg (by omega), c1 k x h1 h2]
        by_cases h : x < s
        · rw [if_pos h, if_neg (by omega)]
        · rw [if_neg h, if_pos (by omega)]
      · simp [ms_at]
      · simp only [ms_at]
        rw [if_neg (by omega), r1 x j hj]
        by_cases h : x < s
        · rw [if_pos h, if_neg (by omega)]
        · rw [if_neg h, if_pos (by omega)]
    | succ k ih =>
      intro i hi hsi μ1 f1 g1 c1 r1
      refine wp_go b45_15 ?_; simp only [l45_15, sg_iload_2, sg_aload_0, sg_getfp, sg_getf0, sg_ic_ge, sg_iconst, sg_iadd, sg_iv3_v, len4_0, len4_1, len4_2, len4_3, len4_4, nLg_n, nLg_i, nLg_r, tc_c, tc_l, tc_r, tc_m, tc_n, tc_o, tc_0, inR, true_and, and_true, ne_eq, not_true_eq_false, not_false_eq_true, true_imp_iff, false_imp_iff, Int.toNat_natCast, lit_a, Nat.reduceAdd, or_true, true_or, or_false, false_or, Int.reduceEq, Int.reduceNe, Int.reduceLT, Int.reduceLE, Int.reduceNeg, sg_nil, t0, t1, t2, t3, t4, t5, t6, t7, t8, t9, t10, t11, t12, u0, u1, u2, u3, u4, u5, u6, u7, u8, u9, u10, u11, g1]
      repeat' (first | with_reducible apply And.intro | intro _)
      all_goals (try omega)
      refine k_Sta_moveSentence hS (by omega) (by omega) (fun μ2 f2 c2 r2 => ?_)
      have ih1 := ih (i + 1) (by omega) (by omega) μ2 (fun k hk => (f2 k (by omega)).trans (f1 k hk)) (by rw [f2 (S + 1) (by omega)]; exact g1) (fun k x h1 h2 => ?_) (fun x j hj => ?_)
      · refine wp_go b45_34 ?_; simp only [l45_34, sg_iinc, ldI_2, okS_2, stL_2, sg_goto, nLg_n, nLg_i, nLg_r, tc_c, tc_l, tc_r, tc_m, tc_n, tc_o, tc_0, inR, true_and, and_true, ne_eq, not_true_eq_false, not_false_eq_true, true_imp_iff, false_imp_iff, Int.toNat_natCast, lit_a, Nat.reduceAdd, or_true, true_or, or_false, false_or, Int.reduceEq, Int.reduceNe, Int.reduceLT, Int.reduceLE, Int.reduceNeg, sg_nil]
        repeat' (first | with_reducible apply And.intro | (intro _) | ((first | refine wp_go b45_0 ?_ | refine wp_go b45_34 ?_ | refine wp_go b45_40 ?_); simp only [l45_0, l45_34, l45_40, sg_aload_0, sg_getfp, sg_dup_i, sg_dup_r, sg_getf0, sg_iconst, sg_isub, sg_putf0, sg_iload_1, sg_istore_2, sg_iinc, ldI_2, okS_2, stL_2, sg_goto, sg_iastore, sg_ret, nLg_n, nLg_i, nLg_r, tc_c, tc_l, tc_r, tc_m, tc_n, tc_o, tc_0, inR, true_and, and_true, ne_eq, not_true_eq_false, not_false_eq_true, true_imp_iff, false_imp_iff, Int.toNat_natCast, lit_a, Nat.reduceAdd, or_true, true_or, or_false, false_or, Int.reduceEq, Int.reduceNe, Int.reduceLT, Int.reduceLE, Int.reduceNeg, sg_nil]))
        all_goals (try omega)
        all_goals exact ih1
      · rw [c2 k x h1 h2]
        by_cases hxi : x = i
        · subst hxi
          rw [if_pos rfl, c1 k (x + 1) h1 h2]
          (repeat (first | rw [if_neg (by omega)] | rw [if_pos (by omega)]))
        · rw [if_neg hxi, c1 k x h1 h2]
          by_cases h : s ≤ x ∧ x < i
          · rw [if_pos h, if_pos (by omega)]
          · rw [if_neg h, if_neg (by omega)]
      · rw [r2 x j hj]
        by_cases hxi : x = i
        · subst hxi
          rw [if_pos rfl, r1 (x + 1) j hj]
          (repeat (first | rw [if_neg (by omega)] | rw [if_pos (by omega)]))
        · rw [if_neg hxi, r1 x j hj]
          by_cases h : s ≤ x ∧ x < i
          · rw [if_pos h, if_pos (by omega)]
          · rw [if_neg h, if_neg (by omega)]
  refine wp_go b45_0 ?_; simp only [l45_0, sg_aload_0, sg_getfp, sg_dup_i, sg_dup_r, sg_getf0, sg_iconst, sg_isub, sg_putf0, sg_iload_1, sg_istore_2, nLg_n, nLg_i, nLg_r, tc_c, tc_l, tc_r, tc_m, tc_n, tc_o, tc_0, inR, true_and, and_true, ne_eq, not_true_eq_false, not_false_eq_true, true_imp_iff, false_imp_iff, Int.toNat_natCast, lit_a, Nat.reduceAdd, or_true, true_or, or_false, false_or, Int.reduceEq, Int.reduceNe, Int.reduceLT, Int.reduceLE, Int.reduceNeg, sg_nil, t0, t1, t2, t3, t4, t5, t6, t7, t8, t9, t10, t11, t12, u0, u1, u2, u3, u4, u5, u6, u7, u8, u9, u10, u11, hn]
  repeat' (first | with_reducible apply And.intro | (intro _) | ((first | refine wp_go b45_0 ?_ | refine wp_go b45_34 ?_ | refine wp_go b45_40 ?_); simp only [l45_0, l45_34, l45_40, sg_aload_0, sg_getfp, sg_dup_i, sg_dup_r, sg_getf0, sg_iconst, sg_isub, sg_putf0, sg_iload_1, sg_istore_2, sg_iinc, ldI_2, okS_2, stL_2, sg_goto, sg_iastore, sg_ret, nLg_n, nLg_i, nLg_r, tc_c, tc_l, tc_r, tc_m, tc_n, tc_o, tc_0, inR, true_and, and_true, ne_eq, not_true_eq_false, not_false_eq_true, true_imp_iff, false_imp_iff, Int.toNat_natCast, lit_a, Nat.reduceAdd, or_true, true_or, or_false, false_or, Int.reduceEq, Int.reduceNe, Int.reduceLT, Int.reduceLE, Int.reduceNeg, sg_nil]))
  all_goals (try omega)
  refine loop (m - s) s (by omega) (Nat.le_refl s) _ (fun k hk => ?_) ?_ (fun k x _ _ => ?_) (fun x j _ => ?_)
  · funext j; simp only [ms_at]; (repeat (first | rw [if_neg (by omega)] | rw [if_pos (by omega)]))
  · simp [ms_at]
  · simp only [ms_at]; (repeat (first | rw [if_neg (by omega)] | rw [if_pos (by omega)]))
  · simp only [ms_at]; (repeat (first | rw [if_neg (by omega)] | rw [if_pos (by omega)]))
-- Sta.copyFrom: blocks [0, 11, 127, 171, 177]
theorem k_Sta_copyFrom {σ : Sg} {d : Nat} {Q : QT} {μ : Mem} {S o : Nat} {z : Rw} (hS : iSta σ S) (hO : iSta σ o) (hd : S + 55 ≤ o ∨ o + 55 ≤ S) (hz : IZ z) (hR : RC z μ o)
    (hq : ∀ μ' : Mem, (∀ k, (k < S ∨ S + 55 ≤ k) → μ' k = μ k) → RC z μ' S → Q (.inl 0) μ') : Call σ (d + 3) 47 [.inr (.inr S), .inr (.inr o)] μ Q := by
  refine e_47 ?_
  obtain ⟨t0, t1, t2, t3, t4, t5, t6, t7, t8, t9, t10, t11, t12, u0, u1, u2, u3, u4, u5, u6, u7, u8, u9, u10, u11⟩ := staF hS
  obtain ⟨v0, v1, v2, v3, v4, v5, v6, v7, v8, v9, v10, v11, v12, w0, w1, w2, w3, w4, w5, w6, w7, w8, w9, w10, w11⟩ := staF hO
  have q := hz.1
  obtain ⟨n, hn⟩ := nat_of (show 0 ≤ z 0 by omega)
  obtain ⟨nl, hnl⟩ := nat_of (show 0 ≤ z 3 by omega)
  refine wp_go b47_0 ?_; simp only [l47_0, sg_aload_0, sg_getfp, sg_aload_1, sg_iv2_v, len4_0, len4_1, len4_2, len4_3, len4_4, nLg_n, nLg_i, nLg_r, tc_c, tc_l, tc_r, tc_m, tc_n, tc_o, tc_0, inR, true_and, and_true, ne_eq, not_true_eq_false, not_false_eq_true, true_imp_iff, false_imp_iff, Int.toNat_natCast, lit_a, Nat.reduceAdd, or_true, true_or, or_false, false_or, Int.reduceEq, Int.reduceNe, Int.reduceLT, Int.reduceLE, Int.reduceNeg, sg_nil, t0, t1, t2, t3, t4, t5, t6, t7, t8, t9, t10, t11, t12, u0, u1, u2, u3, u4, u5, u6, u7, u8, u9, u10, u11, v0, v1, v2, v3, v4, v5, v6, v7, v8, v9, v10, v11, v12, w0, w1, w2, w3, w4, w5, w6, w7, w8, w9, w10, w11]
  refine k_Sen_copyFrom hS.2.1 hO.2.1 (by omega) (n := n) (by have := hR.1.1; omega) (by omega) (fun μ1 f1 n1 c1 => ?_)
  have R1 : RC z μ1 o := RC_f (by omega) (fun k h1 h2 => f1 k (by omega)) hR
  obtain ⟨⟨d0, d1, d2, d3⟩, ds, dn, dl⟩ := id R1
  have loop : ∀ (μ2 : Mem), (∀ k, (k < S ∨ S + 55 ≤ k) → μ2 k = μ1 k) → μ2 S 11 = (nl : Int) → ∀ k i : Nat, i + k = nl → ∀ μ3 : Mem, (∀ k, k ≠ S + 11 → (k < S + 13 ∨ S + 55 ≤ k) → μ3 k = μ2 k) → (∀ l, l < i → μ3 (S + 11) l = z (214 + 3 * l) ∧ (z (214 + 3 * l) = 1 → HR (fw z l) μ3 (S + 13 + 7 * l))) →
      (∀ μ' : Mem, (∀ k, k ≠ S + 11 → (k < S + 13 ∨ S + 55 ≤ k) → μ' k = μ2 k) → (∀ l, l < nl → μ' (S + 11) l = z (214 + 3 * l) ∧ (z (214 + 3 * l) = 1 → HR (fw z l) μ' (S + 13 + 7 * l))) → Q (.inl 0) μ') →
      wp σ (Call σ (d + 2)) 47 Q 127 [some (.inr (.inr S)), some (.inr (.inr o)), some (.inl (i : Int))] [] μ3 := by
    intro μ2 f2 e2 k
    induction k with
    | zero =>
      intro i hi μ3 f3 c3 hq3
      have him : i = nl := by omega
      subst him
      have hq4 := hq3 μ3 f3 c3
      refine wp_go b47_127 ?_; simp only [l47_127, sg_iload_2, sg_aload_0, sg_getf0, sg_ic_ge, sg_getfp, sg_aload_1, sg_baload, sg_bastore, sg_if_eq, sg_aaload, sg_iv2_v, len4_0, len4_1, len4_2, len4_3, len4_4, nLg_n, nLg_i, nLg_r, tc_c, tc_l, tc_r, tc_m, tc_n, tc_o, tc_0, inR, true_and, and_true, ne_eq, not_true_eq_false, not_false_eq_true, true_imp_iff, false_imp_iff, Int.toNat_natCast, lit_a, Nat.reduceAdd, or_true, true_or, or_false, false_or, Int.reduceEq, Int.reduceNe, Int.reduceLT, Int.reduceLE, Int.reduceNeg, sg_nil, t0, t1, t2, t3, t4, t5, t6, t7, t8, t9, t10, t11, t12, u0, u1, u2, u3, u4, u5, u6, u7, u8, u9, u10, u11, f3 S (by omega) (by omega), e2]
      repeat' (first | with_reducible apply And.intro | (intro _) | ((first | refine wp_go b47_0 ?_ | refine wp_go b47_11 ?_ | refine wp_go b47_171 ?_ | refine wp_go b47_177 ?_); simp only [l47_0, l47_11, l47_171, l47_177, sg_aload_0, sg_getfp, sg_aload_1, sg_iv2_v, len4_0, len4_1, len4_2, len4_3, len4_4, sg_getf0, sg_putf0, sg_iconst, sg_bipush, sg_acopy, sg_istore_2, sg_iinc, ldI_2, okS_2, stL_2, sg_goto, sg_ret, nLg_n, nLg_i, nLg_r, tc_c, tc_l, tc_r, tc_m, tc_n, tc_o, tc_0, inR, true_and, and_true, ne_eq, not_true_eq_false, not_false_eq_true, true_imp_iff, false_imp_iff, Int.toNat_natCast, lit_a, Nat.reduceAdd, or_true, true_or, or_false, false_or, Int.reduceEq, Int.reduceNe, Int.reduceLT, Int.reduceLE, Int.reduceNeg, sg_nil]))
      all_goals (try omega)
      all_goals exact hq4
    | succ k ih =>
      intro i hi μ3 f3 c3 hq3
      have z01 := (hz.2.2.2.2 i (by omega)).2.2.1
      obtain ⟨-, -, o11, oh⟩ := dl i (by omega)
      have e11 : μ3 (o + 11) i = z (214 + 3 * i) := by rw [f3 (o + 11) (by omega) (by omega), f2 (o + 11) (by omega)]; exact o11
      have p1 : σ.2 (S + 12) i = true := hS.2.2.2.2.2 i (by omega)
      have p2 : σ.2 (o + 12) i = true := hO.2.2.2.2.2 i (by omega)
      have hh : (shp σ (S + 13 + 7 * i)).1 = 1 := (hS.2.2.2.1 i (by omega)).1
      by_cases hf : z (214 + 3 * i) = 1
      · rw [hf] at e11
        refine wp_go b47_127 ?_; simp only [l47_127, sg_iload_2, sg_aload_0, sg_getf0, sg_ic_ge, sg_getfp, sg_aload_1, sg_baload, sg_bastore, sg_if_eq, sg_aaload, sg_iv2_v, len4_0, len4_1, len4_2, len4_3, len4_4, nLg_n, nLg_i, nLg_r, tc_c, tc_l, tc_r, tc_m, tc_n, tc_o, tc_0, inR, true_and, and_true, ne_eq, not_true_eq_false, not_false_eq_true, true_imp_iff, false_imp_iff, Int.toNat_natCast, lit_a, Nat.reduceAdd, or_true, true_or, or_false, false_or, Int.reduceEq, Int.reduceNe, Int.reduceLT, Int.reduceLE, Int.reduceNeg, sg_nil, t0, t1, t2, t3, t4, t5, t6, t7, t8, t9, t10, t11, t12, u0, u1, u2, u3, u4, u5, u6, u7, u8, u9, u10, u11, v0, v1, v2, v3, v4, v5, v6, v7, v8, v9, v10, v11, v12, w0, w1, w2, w3, w4, w5, w6, w7, w8, w9, w10, w11, f3 S (by omega) (by omega), e2, e11, p1, p2, hh, ms_at, false_and, and_false, if_false, if_true, and_self, Nat.reduceEqDiff, ne_a, ne_b, Nat.add_left_cancel_iff]
        repeat' (first | with_reducible apply And.intro | intro _)
        all_goals (try omega)
        have oh3 : HR (fw z i) μ3 (o + 13 + 7 * i) := HR_f (fun k h1 h2 => by rw [f3 k (by omega) (by omega), f2 k (by omega)]) (oh hf)
        have oh4 : HR (fw z i) (ms μ3 (S + 11) i 1) (o + 13 + 7 * i) := HR_f (fun k h1 h2 => by funext j; simp only [ms_at]; (repeat (first | rw [if_neg (by omega)] | rw [if_pos (by omega)]))) oh3
        have W := (hz.2.2.2.2 i (by omega)).2.2.2 hf
        refine k_Hea_copyFrom (hS.2.2.2.1 i (by omega)) (hO.2.2.2.1 i (by omega)) (by omega) oh4 (by have := W.1; omega) (by have := W.1; omega) (fun μ4 f4 h4 => ?_)
        have ih1 := ih (i + 1) (by omega) μ4 (fun k h1 h2 => by rw [f4 k (by omega), ← f3 k h1 h2]; funext j; simp only [ms_at]; (repeat (first | rw [if_neg (by omega)] | rw [if_pos (by omega)]))) (fun l hl => ?_) hq3
        · refine wp_go b47_171 ?_; simp only [l47_171, sg_iinc, ldI_2, okS_2, stL_2, sg_goto, nLg_n, nLg_i, nLg_r, tc_c, tc_l, tc_r, tc_m, tc_n, tc_o, tc_0, inR, true_and, and_true, ne_eq, not_true_eq_false, not_false_eq_true, true_imp_iff, false_imp_iff, Int.toNat_natCast, lit_a, Nat.reduceAdd, or_true, true_or, or_false, false_or, Int.reduceEq, Int.reduceNe, Int.reduceLT, Int.reduceLE, Int.reduceNeg, sg_nil]
          repeat' (first | with_reducible apply And.intro | (intro _) | ((first | refine wp_go b47_0 ?_ | refine wp_go b47_11 ?_ | refine wp_go b47_171 ?_ | refine wp_go b47_177 ?_); simp only [l47_0, l47_11, l47_171, l47_177, sg_aload_0, sg_getfp, sg_aload_1, sg_iv2_v, len4_0, len4_1, len4_2, len4_3, len4_4, sg_getf0, sg_putf0, sg_iconst, sg_bipush, sg_acopy, sg_istore_2, sg_iinc, ldI_2, okS_2, stL_2, sg_goto, sg_ret, nLg_n, nLg_i, nLg_r, tc_c, tc_l, tc_r, tc_m, tc_n, tc_o, tc_0, inR, true_and, and_true, ne_eq, not_true_eq_false, not_false_eq_true, true_imp_iff, false_imp_iff, Int.toNat_natCast, lit_a, Nat.reduceAdd, or_true, true_or, or_false, false_or, Int.reduceEq, Int.reduceNe, Int.reduceLT, Int.reduceLE, Int.reduceNeg, sg_nil]))
          all_goals (try omega)
          all_goals exact ih1
        · rcases Nat.lt_or_ge l i with h | h
          · obtain ⟨x1, x2⟩ := c3 l h
            refine ⟨by rw [f4 (S + 11) (by omega)]; simp only [ms_at]; (repeat (first | rw [if_neg (by omega)] | rw [if_pos (by omega)])); exact x1, fun hf2 => HR_f (fun k h1 h2 => ?_) (x2 hf2)⟩
            rw [f4 k (by omega)]
            funext j; simp only [ms_at]; (repeat (first | rw [if_neg (by omega)] | rw [if_pos (by omega)]))
          · have hli : l = i := by omega
            subst hli
            exact ⟨by rw [f4 (S + 11) (by omega), hf]; simp [ms_at], fun _ => h4⟩
      · have hf0 : z (214 + 3 * i) = 0 := by omega
        rw [hf0] at e11
        have ih1 := ih (i + 1) (by omega) (ms μ3 (S + 11) i 0) (fun k h1 h2 => by rw [← f3 k h1 h2]; funext j; simp only [ms_at]; (repeat (first | rw [if_neg (by omega)] | rw [if_pos (by omega)]))) (fun l hl => ?_) hq3
        · refine wp_go b47_127 ?_; simp only [l47_127, sg_iload_2, sg_aload_0, sg_getf0, sg_ic_ge, sg_getfp, sg_aload_1, sg_baload, sg_bastore, sg_if_eq, sg_aaload, sg_iv2_v, len4_0, len4_1, len4_2, len4_3, len4_4, nLg_n, nLg_i, nLg_r, tc_c, tc_l, tc_r, tc_m, tc_n, tc_o, tc_0, inR, true_and, and_true, ne_eq, not_true_eq_false, not_false_eq_true, true_imp_iff, false_imp_iff, Int.toNat_natCast, lit_a, Nat.reduceAdd, or_true, true_or, or_false, false_or, Int.reduceEq, Int.reduceNe, Int.reduceLT, Int.reduceLE, Int.reduceNeg, sg_nil, t0, t1, t2, t3, t4, t5, t6, t7, t8, t9, t10, t11, t12, u0, u1, u2, u3, u4, u5, u6, u7, u8, u9, u10, u11, v0, v1, v2, v3, v4, v5, v6, v7, v8, v9, v10, v11, v12, w0, w1, w2, w3, w4, w5, w6, w7, w8, w9, w10, w11, f3 S (by omega) (by omega), e2, e11, p1, p2, ms_at, false_and, and_false, if_false, if_true, and_self, Nat.reduceEqDiff, ne_a, ne_b, Nat.add_left_cancel_iff]
          repeat' (first | with_reducible apply And.intro | (intro _) | ((first | refine wp_go b47_0 ?_ | refine wp_go b47_11 ?_ | refine wp_go b47_171 ?_ | refine wp_go b47_177 ?_); simp only [l47_0, l47_11, l47_171, l47_177, sg_aload_0, sg_getfp, sg_aload_1, sg_iv2_v, len4_0, len4_1, len4_2, len4_3, len4_4, sg_getf0, sg_putf0, sg_iconst, sg_bipush, sg_acopy, sg_istore_2, sg_iinc, ldI_2, okS_2, stL_2, sg_goto, sg_ret, nLg_n, nLg_i, nLg_r, tc_c, tc_l, tc_r, tc_m, tc_n, tc_o, tc_0, inR, true_and, and_true, ne_eq, not_true_eq_false, not_false_eq_true, true_imp_iff, false_imp_iff, Int.toNat_natCast, lit_a, Nat.reduceAdd, or_true, true_or, or_false, false_or, Int.reduceEq, Int.reduceNe, Int.reduceLT, Int.reduceLE, Int.reduceNeg, sg_nil]))
          all_goals (try omega)
          all_goals exact ih1
        · rcases Nat.lt_or_ge l i with h | h
          · obtain ⟨x1, x2⟩ := c3 l h
            refine ⟨by simp only [ms_at]; (repeat (first | rw [if_neg (by omega)] | rw [if_pos (by omega)])); exact x1, fun hf2 => HR_f (fun k h1 h2 => ?_) (x2 hf2)⟩
            funext j; simp only [ms_at]; (repeat (first | rw [if_neg (by omega)] | rw [if_pos (by omega)]))
          · have hli : l = i := by omega
            subst hli
            exact ⟨by simp [ms_at, hf0], fun h => absurd h hf⟩
  refine wp_go b47_11 ?_; simp only [l47_11, sg_aload_0, sg_aload_1, sg_getf0, sg_putf0, sg_getfp, sg_iconst, sg_bipush, len4_0, len4_1, len4_2, len4_3, len4_4, sg_acopy, sg_istore_2, nLg_n, nLg_i, nLg_r, tc_c, tc_l, tc_r, tc_m, tc_n, tc_o, tc_0, inR, true_and, and_true, ne_eq, not_true_eq_false, not_false_eq_true, true_imp_iff, false_imp_iff, Int.toNat_natCast, lit_a, Nat.reduceAdd, or_true, true_or, or_false, false_or, Int.reduceEq, Int.reduceNe, Int.reduceLT, Int.reduceLE, Int.reduceNeg, sg_nil, t0, t1, t2, t3, t4, t5, t6, t7, t8, t9, t10, t11, t12, u0, u1, u2, u3, u4, u5, u6, u7, u8, u9, u10, u11, v0, v1, v2, v3, v4, v5, v6, v7, v8, v9, v10, v11, v12, w0, w1, w2, w3, w4, w5, w6, w7, w8, w9, w10, w11, Int.toNat_zero]
  repeat' (first | with_reducible apply And.intro | (intro _) | ((first | refine wp_go b47_0 ?_ | refine wp_go b47_11 ?_ | refine wp_go b47_171 ?_ | refine wp_go b47_177 ?_); simp only [l47_0, l47_11, l47_171, l47_177, sg_aload_0, sg_getfp, sg_aload_1, sg_iv2_v, len4_0, len4_1, len4_2, len4_3, len4_4, sg_getf0, sg_putf0, sg_iconst, sg_bipush, sg_acopy, sg_istore_2, sg_iinc, ldI_2, okS_2, stL_2, sg_goto, sg_ret, nLg_n, nLg_i, nLg_r, tc_c, tc_l, tc_r, tc_m, tc_n, tc_o, tc_0, inR, true_and, and_true, ne_eq, not_true_eq_false, not_false_eq_true, true_imp_iff, false_imp_iff, Int.toNat_natCast, lit_a, Nat.reduceAdd, or_true, true_or, or_false, false_or, Int.reduceEq, Int.reduceNe, Int.reduceLT, Int.reduceLE, Int.reduceNeg, sg_nil]))
  all_goals (try omega)
  refine loop _ (fun k hk => ?_) ?_ nl 0 (by omega) _ (fun _ _ _ => rfl) (fun l hl => absurd hl (by omega)) (fun μ' g1 g2 => ?_)
  · funext j; simp only [ms_at, mcp_at]; (repeat (first | rw [if_neg (by omega)] | rw [if_pos (by omega)]))
  · simp only [ms_at, mcp_at, true_and, and_true, if_true]
    (repeat (first | rw [if_neg (by omega)] | rw [if_pos (by omega)]))
    rw [d3, hnl]
  · refine hq μ' (fun k hk => ?_) ⟨⟨?_, ?_, ?_, ?_⟩, fun i hi => ⟨?_, ?_, ?_, ?_, fun j hj => ?_⟩, fun i hi => ⟨?_, ?_⟩, fun l hl => ⟨?_, ?_, ?_⟩⟩
    · rw [g1 k (by omega) (by omega)]
      funext j
      simp only [ms_at, mcp_at]
      (repeat (first | rw [if_neg (by omega)] | rw [if_pos (by omega)]))
      rw [f1 k (by omega)]
    · rw [g1 (S + 1) (by omega) (by omega)]
      simp only [ms_at, mcp_at, true_and, and_true, if_true]
      (repeat (first | rw [if_neg (by omega)] | rw [if_pos (by omega)]))
      rw [n1, hn]
    · rw [g1 S (by omega) (by omega)]
      simp only [ms_at, mcp_at, true_and, and_true, if_true]
      (repeat (first | rw [if_neg (by omega)] | rw [if_pos (by omega)]))
      exact d1
    · rw [g1 S (by omega) (by omega)]
      simp only [ms_at, mcp_at, true_and, and_true, if_true]
      (repeat (first | rw [if_neg (by omega)] | rw [if_pos (by omega)]))
      exact d2
    · rw [g1 S (by omega) (by omega)]
      simp only [ms_at, mcp_at, true_and, and_true, if_true]
      (repeat (first | rw [if_neg (by omega)] | rw [if_pos (by omega)]))
      exact d3
    · rw [g1 (S + 2) (by omega) (by omega)]
      simp only [ms_at, mcp_at, true_and, and_true, if_true]
      (repeat (first | rw [if_neg (by omega)] | rw [if_pos (by omega)]))
      exact (c1 i (by omega)).1.trans (hR.2.1 i hi).1
    · rw [g1 (S + 3) (by omega) (by omega)]
      simp only [ms_at, mcp_at, true_and, and_true, if_true]
      (repeat (first | rw [if_neg (by omega)] | rw [if_pos (by omega)]))
      exact (c1 i (by omega)).2.1.trans (hR.2.1 i hi).2.1
    · rw [g1 (S + 4) (by omega) (by omega)]
      simp only [ms_at, mcp_at, true_and, and_true, if_true]
      (repeat (first | rw [if_neg (by omega)] | rw [if_pos (by omega)]))
      exact (c1 i (by omega)).2.2.trans (hR.2.1 i hi).2.2.1
    · rw [g1 (S + 5) (by omega) (by omega)]
      simp only [ms_at, mcp_at, true_and, and_true, if_true, Nat.zero_add, Nat.sub_zero]
      (repeat (first | rw [if_neg (by omega)] | rw [if_pos (by omega)]))
      exact (ds i hi).2.2.2.1
    · have r := (hz.2.1 i hi).2.2.2.1
      rw [g1 (S + 6) (by omega) (by omega)]
      simp only [ms_at, mcp_at, true_and, and_true, if_true, Nat.zero_add, Nat.sub_zero]
      (repeat (first | rw [if_neg (by omega)] | rw [if_pos (by omega)]))
      exact (ds i hi).2.2.2.2 j hj
    · rw [g1 (S + 7) (by omega) (by omega)]
      simp only [ms_at, mcp_at, true_and, and_true, if_true, Nat.zero_add, Nat.sub_zero]
      (repeat (first | rw [if_neg (by omega)] | rw [if_pos (by omega)]))
      exact (dn i hi).1
    · rw [g1 (S + 8) (by omega) (by omega)]
      simp only [ms_at, mcp_at, true_and, and_true, if_true, Nat.zero_add, Nat.sub_zero]
      (repeat (first | rw [if_neg (by omega)] | rw [if_pos (by omega)]))
      exact (dn i hi).2
    · rw [g1 (S + 9) (by omega) (by omega)]
      simp only [ms_at, mcp_at, true_and, and_true, if_true, Nat.zero_add, Nat.sub_zero]
      (repeat (first | rw [if_neg (by omega)] | rw [if_pos (by omega)]))
      exact (dl l hl).1
    · rw [g1 (S + 10) (by omega) (by omega)]
      simp only [ms_at, mcp_at, true_and, and_true, if_true, Nat.zero_add, Nat.sub_zero]
      (repeat (first | rw [if_neg (by omega)] | rw [if_pos (by omega)]))
      exact (dl l hl).2.1
    · exact g2 l (by omega)
end
section
def σ1 : Sg := (518, fun _ _ => true)
theorem s1p (k j : Nat) : σ1.2 k j = true := rfl
theorem x0 : shp σ1 0 = (6, 7) := by decide +kernel
theorem x1 : shp σ1 1 = (5, 12) := by decide +kernel
theorem x2 : shp σ1 2 = (4, 4) := by decide +kernel
theorem x3 : shp σ1 3 = (100, 24) := by decide +kernel
theorem x4 : shp σ1 4 = (100, 24) := by decide +kernel
theorem x5 : shp σ1 5 = (100, 24) := by decide +kernel
theorem x6 : shp σ1 6 = (100, 24) := by decide +kernel
theorem x7 : shp σ1 7 = (100, 96) := by decide +kernel
theorem x8 : shp σ1 8 = (100, 8) := by decide +kernel
theorem x9 : shp σ1 9 = (100, 8) := by decide +kernel
theorem x10 : shp σ1 10 = (100, 6) := by decide +kernel
theorem x11 : shp σ1 11 = (100, 6) := by decide +kernel
theorem x12 : shp σ1 12 = (102, 6) := by decide +kernel
theorem x13 : shp σ1 13 = (103, 6) := by decide +kernel
theorem x56 : shp σ1 56 = (2, 3) := by decide +kernel
theorem x57 : shp σ1 57 = (104, 6) := by decide +kernel
theorem x388 : shp σ1 388 = (105, 2) := by decide +kernel
theorem x389 : shp σ1 389 = (102, 2) := by decide +kernel
theorem x390 : shp σ1 390 = (3, 2) := by decide +kernel
theorem x391 : shp σ1 391 = (101, 60) := by decide +kernel
theorem x392 : shp σ1 392 = (0, 6) := by decide +kernel
theorem x393 : shp σ1 393 = (1, 3) := by decide +kernel
theorem x394 : shp σ1 394 = (4, 4) := by decide +kernel
theorem x395 : shp σ1 395 = (100, 24) := by decide +kernel
theorem x396 : shp σ1 396 = (100, 24) := by decide +kernel
theorem x397 : shp σ1 397 = (100, 24) := by decide +kernel
theorem x398 : shp σ1 398 = (100, 24) := by decide +kernel
theorem x399 : shp σ1 399 = (100, 24) := by decide +kernel
theorem x400 : shp σ1 400 = (5, 12) := by decide +kernel
theorem x455 : shp σ1 455 = (5, 12) := by decide +kernel
theorem x510 : shp σ1 510 = (7, 14) := by decide +kernel
theorem x511 : shp σ1 511 = (100, 956) := by decide +kernel
theorem x512 : shp σ1 512 = (100, 5736) := by decide +kernel
theorem x513 : shp σ1 513 = (100, 1912) := by decide +kernel
theorem x514 : shp σ1 514 = (102, 2) := by decide +kernel
theorem x515 : shp σ1 515 = (101, 60) := by decide +kernel
theorem x516 : shp σ1 516 = (100, 121) := by decide +kernel
theorem x517 : shp σ1 517 = (100, 120) := by decide +kernel
theorem st1_h : ∀ l, l < 6 → iHea σ1 (1 + 13 + 7 * l)
  | 0, _ => by unfold iHea iSen; decide +kernel
  | 1, _ => by unfold iHea iSen; decide +kernel
  | 2, _ => by unfold iHea iSen; decide +kernel
  | 3, _ => by unfold iHea iSen; decide +kernel
  | 4, _ => by unfold iHea iSen; decide +kernel
  | 5, _ => by unfold iHea iSen; decide +kernel
  | n + 6, h => absurd h (by omega)
theorem st1 : iSta σ1 1 := ⟨by decide +kernel, by unfold iSen; decide +kernel, by decide +kernel, st1_h, fun _ _ => rfl, fun _ _ => rfl⟩
theorem st58_h : ∀ l, l < 6 → iHea σ1 (58 + 13 + 7 * l)
  | 0, _ => by unfold iHea iSen; decide +kernel
  | 1, _ => by unfold iHea iSen; decide +kernel
  | 2, _ => by unfold iHea iSen; decide +kernel
  | 3, _ => by unfold iHea iSen; decide +kernel
  | 4, _ => by unfold iHea iSen; decide +kernel
  | 5, _ => by unfold iHea iSen; decide +kernel
  | n + 6, h => absurd h (by omega)
theorem st58 : iSta σ1 58 := ⟨by decide +kernel, by unfold iSen; decide +kernel, by decide +kernel, st58_h, fun _ _ => rfl, fun _ _ => rfl⟩
theorem st113_h : ∀ l, l < 6 → iHea σ1 (113 + 13 + 7 * l)
  | 0, _ => by unfold iHea iSen; decide +kernel
  | 1, _ => by unfold iHea iSen; decide +kernel
  | 2, _ => by unfold iHea iSen; decide +kernel
  | 3, _ => by unfold iHea iSen; decide +kernel
  | 4, _ => by unfold iHea iSen; decide +kernel
  | 5, _ => by unfold iHea iSen; decide +kernel
  | n + 6, h => absurd h (by omega)
theorem st113 : iSta σ1 113 := ⟨by decide +kernel, by unfold iSen; decide +kernel, by decide +kernel, st113_h, fun _ _ => rfl, fun _ _ => rfl⟩
theorem st168_h : ∀ l, l < 6 → iHea σ1 (168 + 13 + 7 * l)
  | 0, _ => by unfold iHea iSen; decide +kernel
  | 1, _ => by unfold iHea iSen; decide +kernel
  | 2, _ => by unfold iHea iSen; decide +kernel
  | 3, _ => by unfold iHea iSen; decide +kernel
  | 4, _ => by unfold iHea iSen; decide +kernel
  | 5, _ => by unfold iHea iSen; decide +kernel
  | n + 6, h => absurd h (by omega)
theorem st168 : iSta σ1 168 := ⟨by decide +kernel, by unfold iSen; decide +kernel, by decide +kernel, st168_h, fun _ _ => rfl, fun _ _ => rfl⟩
theorem st223_h : ∀ l, l < 6 → iHea σ1 (223 + 13 + 7 * l)
  | 0, _ => by unfold iHea iSen; decide +kernel
  | 1, _ => by unfold iHea iSen; decide +kernel
  | 2, _ => by unfold iHea iSen; decide +kernel
  | 3, _ => by unfold iHea iSen; decide +kernel
  | 4, _ => by unfold iHea iSen; decide +kernel
  | 5, _ => by unfold iHea iSen; decide +kernel
  | n + 6, h => absurd h (by omega)
theorem st223 : iSta σ1 223 := ⟨by decide +kernel, by unfold iSen; decide +kernel, by decide +kernel, st223_h, fun _ _ => rfl, fun _ _ => rfl⟩
theorem st278_h : ∀ l, l < 6 → iHea σ1 (278 + 13 + 7 * l)
  | 0, _ => by unfold iHea iSen; decide +kernel
  | 1, _ => by unfold iHea iSen; decide +kernel
  | 2, _ => by unfold iHea iSen; decide +kernel
  | 3, _ => by unfold iHea iSen; decide +kernel
  | 4, _ => by unfold iHea iSen; decide +kernel
  | 5, _ => by unfold iHea iSen; decide +kernel
  | n + 6, h => absurd h (by omega)
theorem st278 : iSta σ1 278 := ⟨by decide +kernel, by unfold iSen; decide +kernel, by decide +kernel, st278_h, fun _ _ => rfl, fun _ _ => rfl⟩
theorem st333_h : ∀ l, l < 6 → iHea σ1 (333 + 13 + 7 * l)
  | 0, _ => by unfold iHea iSen; decide +kernel
  | 1, _ => by unfold iHea iSen; decide +kernel
  | 2, _ => by unfold iHea iSen; decide +kernel
  | 3, _ => by unfold iHea iSen; decide +kernel
  | 4, _ => by unfold iHea iSen; decide +kernel
  | 5, _ => by unfold iHea iSen; decide +kernel
  | n + 6, h => absurd h (by omega)
theorem st333 : iSta σ1 333 := ⟨by decide +kernel, by unfold iSen; decide +kernel, by decide +kernel, st333_h, fun _ _ => rfl, fun _ _ => rfl⟩
theorem st400_h : ∀ l, l < 6 → iHea σ1 (400 + 13 + 7 * l)
  | 0, _ => by unfold iHea iSen; decide +kernel
  | 1, _ => by unfold iHea iSen; decide +kernel
  | 2, _ => by unfold iHea iSen; decide +kernel
  | 3, _ => by unfold iHea iSen; decide +kernel
  | 4, _ => by unfold iHea iSen; decide +kernel
  | 5, _ => by unfold iHea iSen; decide +kernel
  | n + 6, h => absurd h (by omega)
theorem st400 : iSta σ1 400 := ⟨by decide +kernel, by unfold iSen; decide +kernel, by decide +kernel, st400_h, fun _ _ => rfl, fun _ _ => rfl⟩
theorem st455_h : ∀ l, l < 6 → iHea σ1 (455 + 13 + 7 * l)
  | 0, _ => by unfold iHea iSen; decide +kernel
  | 1, _ => by unfold iHea iSen; decide +kernel
  | 2, _ => by unfold iHea iSen; decide +kernel
  | 3, _ => by unfold iHea iSen; decide +kernel
  | 4, _ => by unfold iHea iSen; decide +kernel
  | 5, _ => by unfold iHea iSen; decide +kernel
  | n + 6, h => absurd h (by omega)
theorem st455 : iSta σ1 455 := ⟨by decide +kernel, by unfold iSen; decide +kernel, by decide +kernel, st455_h, fun _ _ => rfl, fun _ _ => rfl⟩
theorem he393 : iHea σ1 393 := by unfold iHea iSen; decide +kernel
theorem ch392 : iCho σ1 392 := by unfold iCho; decide +kernel
theorem stH : ∀ l, l < 6 → iSta σ1 (58 + 55 * l)
  | 0, _ => st58
  | 1, _ => st113
  | 2, _ => st168
  | 3, _ => st223
  | 4, _ => st278
  | 5, _ => st333
  | n + 6, h => absurd h (by omega)
theorem heF (l : Nat) (h : l < 6) : iHea σ1 (14 + 7 * l) := st1.2.2.2.1 l h
end
section
theorem rn_b {z : Rw} {g b : Int} (hz : IZ z) (hb : 0 ≤ b) : ∀ s : Nat, (s : Int) ≤ z 0 → 0 ≤ (rn z g b s).2 ∧ (rn z g b s).2 ≤ b
  | 0, _ => ⟨Int.le_refl 0, hb⟩
  | s + 1, h => by
    have ih := rn_b (g := g) hz hb s (by omega)
    unfold rn nxt
    rcases chs_in (g := g) (b := b) (q := rn z g b s) hz (show (s : Int) < z 0 by omega) with e | ⟨h1, h2, h3⟩
    · rw [if_pos e]; exact ih
    · rw [if_neg (by omega)]
      unfold okN at h3
      have h3 := (of_decide_eq_true h3).2.2
      obtain ⟨m, hm⟩ := nat_of h1
      rw [hm] at h2 h3 ⊢
      have := (hz.2.2.2.1 m h2).1
      rw [Int.toNat_natCast] at h3 ⊢
      dsimp only
      omega
-- NS.hearNow: blocks [0, 14, 39, 41, 67, 93, 103, 110]
theorem k_NS_hearNow {d : Nat} {Q : QT} {μ : Mem} {l h : Nat} {z : Rw} (hz : IZ z) (hR : R0 z μ 1) (hn0 : μ 2 3 = z 0) (hl : (l : Int) < z 3) (hg : μ 10 l = z (212 + 3 * l)) (hb : μ 11 l = z (213 + 3 * l)) (hH : iHea σ1 h) (hh : 13 < h ∧ (h + 7 ≤ 56 ∨ h = 393))
    (hq : ∀ μ' : Mem, (∀ k, k ≠ 392 → (k < h ∨ h + 7 ≤ k) → μ' k = μ k) → HR (hrL z l) μ' h → Q (.inl 0) μ') : Call σ1 (d + 3) 84 [.inr (.inr 0), .inl (l : Int), .inr (.inr h)] μ Q := by
  refine e_84 ?_
  obtain ⟨a0, a1, a2, a3, a4, a5, a6, p0, p1, p2, p3, p4, p5⟩ := heaF hH
  have q := hz.1
  have qb := (hz.2.2.2.2 l hl).2.1
  obtain ⟨n, hn⟩ := nat_of (show 0 ≤ z 0 by omega)
  refine wp_go b84_0 ?_; simp only [l84_0, sg_aload_2, sg_getfp, sg_aload_0, sg_iv2_v, len4_0, len4_1, len4_2, len4_3, len4_4, nLg_n, nLg_i, nLg_r, tc_c, tc_l, tc_r, tc_m, tc_n, tc_o, tc_0, inR, true_and, and_true, ne_eq, not_true_eq_false, not_false_eq_true, true_imp_iff, false_imp_iff, Int.toNat_natCast, lit_a, Nat.reduceAdd, or_true, true_or, or_false, false_or, Int.reduceEq, Int.reduceNe, Int.reduceLT, Int.reduceLE, Int.reduceNeg, sg_nil, s1p, x0, x1, x2, x3, x4, x5, x6, x7, x8, x9, x10, x11, x12, x13, x56, x57, x388, x389, x390, x391, x392, x393, x394, x395, x396, x397, x398, x399, a0, a1, a2, a3, a4, a5, a6, p0, p1, p2, p3, p4, p5]
  refine k_Sen_copyFrom hH.2.1 st1.2.1 (by omega) (n := n) (by rw [← hn]; exact hn0) (by omega) (fun μ1 f1 n1 c1 => ?_)
  have R1 : R0 z μ1 1 := R0_f (fun k _ _ => f1 k (by omega)) hR
  have e10 : μ1 10 l = z (212 + 3 * l) := by rw [f1 10 (by omega)]; exact hg
  have e11 : μ1 11 l = z (213 + 3 * l) := by rw [f1 11 (by omega)]; exact hb
  have e2 : μ1 2 3 = (n : Int) := by rw [f1 2 (by omega), hn0, hn]
  refine wp_go b84_14 ?_; simp only [l84_14, sg_aload_0, sg_getfp, sg_iload_1, sg_iaload, sg_iv3_v, len4_0, len4_1, len4_2, len4_3, len4_4, nLg_n, nLg_i, nLg_r, tc_c, tc_l, tc_r, tc_m, tc_n, tc_o, tc_0, inR, true_and, and_true, ne_eq, not_true_eq_false, not_false_eq_true, true_imp_iff, false_imp_iff, Int.toNat_natCast, lit_a, Nat.reduceAdd, or_true, true_or, or_false, false_or, Int.reduceEq, Int.reduceNe, Int.reduceLT, Int.reduceLE, Int.reduceNeg, sg_nil, s1p, x0, x1, x2, x3, x4, x5, x6, x7, x8, x9, x10, x11, x12, x13, x56, x57, x388, x389, x390, x391, x392, x393, x394, x395, x396, x397, x398, x399, e10, e11]
  repeat' (first | with_reducible apply And.intro | (intro _) | ((first | refine wp_go b84_0 ?_ | refine wp_go b84_14 ?_ | refine wp_go b84_39 ?_ | refine wp_go b84_67 ?_ | refine wp_go b84_93 ?_ | refine wp_go b84_103 ?_ | refine wp_go b84_110 ?_); simp only [l84_0, l84_14, l84_39, l84_67, l84_93, l84_103, l84_110, sg_aload_2, sg_getfp, sg_aload_0, sg_iv2_v, len4_0, len4_1, len4_2, len4_3, len4_4, sg_iload_1, sg_iaload, sg_iv3_v, sg_iconst, sg_istore_3, sg_istore, okS_4, stL_4, sg_iload_3, sg_iload, ldI_4, sg_iastore, sg_bipush, sg_ic_ne, sg_goto, sg_iinc, ldI_3, okS_3, stL_3, sg_ret, nLg_n, nLg_i, nLg_r, tc_c, tc_l, tc_r, tc_m, tc_n, tc_o, tc_0, inR, true_and, and_true, ne_eq, not_true_eq_false, not_false_eq_true, true_imp_iff, false_imp_iff, Int.toNat_natCast, lit_a, Nat.reduceAdd, or_true, true_or, or_false, false_or, Int.reduceEq, Int.reduceNe, Int.reduceLT, Int.reduceLE, Int.reduceNeg, sg_nil]))
  all_goals (try omega)
  refine k_Cho_begin ch392 (fun μ2 f2 g0 g1 g2 g3 g4 g5 => ?_)
  have loop : ∀ k s : Nat, s + k = n → ∀ (μ3 : Mem) (o4 : Option MV) (cnt nb : Int), (∀ k, k ≠ 392 → k ≠ h + 5 → k ≠ h + 6 → μ3 k = μ1 k) → μ3 392 0 = z (212 + 3 * l) → μ3 392 1 = z (213 + 3 * l) → μ3 392 2 = cnt → μ3 392 3 = (rn z (z (212 + 3 * l)) (z (213 + 3 * l)) s).1 → μ3 392 4 = (rn z (z (212 + 3 * l)) (z (213 + 3 * l)) s).2 → μ3 392 5 = nb → 0 ≤ nb → nb ≤ 600 →
      (∀ i, i < s → μ3 (h + 5) i = ch z (z (212 + 3 * l)) (z (213 + 3 * l)) i ∧ μ3 (h + 6) i = cl z (ch z (z (212 + 3 * l)) (z (213 + 3 * l)) i)) →
      wp σ1 (Call σ1 (d + 2)) 84 Q 41 [some (.inr (.inr 0)), some (.inl (l : Int)), some (.inr (.inr h)), some (.inl (s : Int)), o4] [] μ3 := by
    intro k
    induction k with
    | zero =>
      intro s hs μ3 o4 cnt nb f3 m0 m1 m2 m3 m4 m5 n0 n2 c3
      have hsn : s = n := by omega
      subst hsn
      have hq := hq μ3 (fun k h1 h2 => by rw [f3 k h1 (by omega) (by omega), f1 k (by omega)]) ⟨by rw [f3 (h + 1) (by omega) (by omega) (by omega)]; show μ1 (h + 1) 3 = z 0; rw [n1, hn], fun i hi => by
        have hi' : (i : Int) < z 0 := hi
        have c := c1 i (by omega)
        have c0 := hR.1 i hi'
        unfold hrL
        rw [hr_1 hi', hr_2 hi', hr_3 hi', hr_4 hi', hr_5 hi', f3 (h + 2) (by omega) (by omega) (by omega), f3 (h + 3) (by omega) (by omega) (by omega), f3 (h + 4) (by omega) (by omega) (by omega)]
        exact ⟨c.1.trans c0.1, c.2.1.trans c0.2.1, c.2.2.trans c0.2.2.1, c3 i (by omega)⟩⟩
      have e3 : μ3 2 3 = (s : Int) := by rw [f3 2 (by omega) (by omega) (by omega)]; exact e2
      refine wp_go b84_41 ?_; simp only [l84_41, sg_iload_3, sg_aload_0, sg_getfp, sg_getf0, sg_ic_ge, sg_iv3_i, len4_0, len4_1, len4_2, len4_3, len4_4, nLg_n, nLg_i, nLg_r, tc_c, tc_l, tc_r, tc_m, tc_n, tc_o, tc_0, inR, true_and, and_true, ne_eq, not_true_eq_false, not_false_eq_true, true_imp_iff, false_imp_iff, Int.toNat_natCast, lit_a, Nat.reduceAdd, or_true, true_or, or_false, false_or, Int.reduceEq, Int.reduceNe, Int.reduceLT, Int.reduceLE, Int.reduceNeg, sg_nil, s1p, x0, x1, x2, x3, x4, x5, x6, x7, x8, x9, x10, x11, x12, x13, x56, x57, x388, x389, x390, x391, x392, x393, x394, x395, x396, x397, x398, x399, e3]
      repeat' (first | with_reducible apply And.intro | (intro _) | ((first | refine wp_go b84_0 ?_ | refine wp_go b84_14 ?_ | refine wp_go b84_39 ?_ | refine wp_go b84_67 ?_ | refine wp_go b84_93 ?_ | refine wp_go b84_103 ?_ | refine wp_go b84_110 ?_); simp only [l84_0, l84_14, l84_39, l84_67, l84_93, l84_103, l84_110, sg_aload_2, sg_getfp, sg_aload_0, sg_iv2_v, len4_0, len4_1, len4_2, len4_3, len4_4, sg_iload_1, sg_iaload, sg_iv3_v, sg_iconst, sg_istore_3, sg_istore, okS_4, stL_4, sg_iload_3, sg_iload, ldI_4, sg_iastore, sg_bipush, sg_ic_ne, sg_goto, sg_iinc, ldI_3, okS_3, stL_3, sg_ret, nLg_n, nLg_i, nLg_r, tc_c, tc_l, tc_r, tc_m, tc_n, tc_o, tc_0, inR, true_and, and_true, ne_eq, not_true_eq_false, not_false_eq_true, true_imp_iff, false_imp_iff, Int.toNat_natCast, lit_a, Nat.reduceAdd, or_true, true_or, or_false, false_or, Int.reduceEq, Int.reduceNe, Int.reduceLT, Int.reduceLE, Int.reduceNeg, sg_nil]))
      all_goals (try omega)
      all_goals exact hq
    | succ k ih =>
      intro s hs μ3 o4 cnt nb f3 m0 m1 m2 m3 m4 m5 n0 n2 c3
      have hs0 : (s : Int) < z 0 := by omega
      have e3 : μ3 2 3 = (n : Int) := by rw [f3 2 (by omega) (by omega) (by omega)]; exact e2
      have R3 : R0 z μ3 1 := R0_f (fun k _ _ => f3 k (by omega) (by omega) (by omega)) R1
      have rb := rn_b (g := z (212 + 3 * l)) hz qb.1 s (by omega)
      refine wp_go b84_41 ?_; simp only [l84_41, sg_iload_3, sg_aload_0, sg_getfp, sg_getf0, sg_ic_ge, sg_iv3_i, len4_0, len4_1, len4_2, len4_3, len4_4, nLg_n, nLg_i, nLg_r, tc_c, tc_l, tc_r, tc_m, tc_n, tc_o, tc_0, inR, true_and, and_true, ne_eq, not_true_eq_false, not_false_eq_true, true_imp_iff, false_imp_iff, Int.toNat_natCast, lit_a, Nat.reduceAdd, or_true, true_or, or_false, false_or, Int.reduceEq, Int.reduceNe, Int.reduceLT, Int.reduceLE, Int.reduceNeg, sg_nil, s1p, x0, x1, x2, x3, x4, x5, x6, x7, x8, x9, x10, x11, x12, x13, x56, x57, x388, x389, x390, x391, x392, x393, x394, x395, x396, x397, x398, x399, e3]
      repeat' (first | with_reducible apply And.intro | intro _)
      all_goals (try omega)
      refine k_Cho_choose ch392 st1 R3 hz hs0 (by omega) m0 m1 m2 m3 m4 m5 qb rb ⟨n0, n2⟩ (fun μ4 nb' f4 j0 j1 j2 j3 j4 j5 j6 j7 j8 => ?_)
      rcases ch_in (g := z (212 + 3 * l)) (b := z (213 + 3 * l)) hz hs0 with e | ⟨h1, h2⟩
      · have e' : chs z (z (212 + 3 * l)) (z (213 + 3 * l)) (rn z (z (212 + 3 * l)) (z (213 + 3 * l)) s) s = -6 := e
        have ih1 := ih (s + 1) (by omega) (ms (ms μ4 (h + 5) s (-6)) (h + 6) s 0) (some (.inl (-6))) _ nb' (fun k h1 h2 h3 => by rw [← f3 k h1 h2 h3, ← f4 k h1]; funext j; simp [ms_at, h2, h3])
          (by simp only [ms_at]; (repeat (first | rw [if_neg (by omega)] | rw [if_pos (by omega)])); exact j0) (by simp only [ms_at]; (repeat (first | rw [if_neg (by omega)] | rw [if_pos (by omega)])); exact j1) rfl (by simp only [ms_at]; (repeat (first | rw [if_neg (by omega)] | rw [if_pos (by omega)])); exact j3) (by simp only [ms_at]; (repeat (first | rw [if_neg (by omega)] | rw [if_pos (by omega)])); exact j4) (by simp only [ms_at]; (repeat (first | rw [if_neg (by omega)] | rw [if_pos (by omega)])); exact j5) j6 (by omega) (fun i hi => by
            rcases Nat.lt_or_ge i s with hh2 | hh2
            · obtain ⟨y1, y2⟩ := c3 i hh2
              simp only [ms_at]
              (repeat (first | rw [if_neg (by omega)] | rw [if_pos (by omega)]))
              rw [f4 (h + 5) (by omega), f4 (h + 6) (by omega)]
              exact ⟨y1, y2⟩
            · have hi : i = s := by omega
              subst hi
              rw [e]
              simp [ms_at, cl])
        rw [e']
        refine wp_go b84_67 ?_; simp only [l84_67, sg_istore, okS_4, stL_4, sg_aload_2, sg_getfp, sg_iload_3, sg_iload, ldI_4, sg_iastore, sg_bipush, sg_ic_ne, sg_iconst, sg_goto, nLg_n, nLg_i, nLg_r, tc_c, tc_l, tc_r, tc_m, tc_n, tc_o, tc_0, inR, true_and, and_true, ne_eq, not_true_eq_false, not_false_eq_true, true_imp_iff, false_imp_iff, Int.toNat_natCast, lit_a, Nat.reduceAdd, or_true, true_or, or_false, false_or, Int.reduceEq, Int.reduceNe, Int.reduceLT, Int.reduceLE, Int.reduceNeg, sg_nil, s1p, x0, x1, x2, x3, x4, x5, x6, x7, x8, x9, x10, x11, x12, x13, x56, x57, x388, x389, x390, x391, x392, x393, x394, x395, x396, x397, x398, x399, a0, a1, a2, a3, a4, a5, a6, p0, p1, p2, p3, p4, p5]
        repeat' (first | with_reducible apply And.intro | (intro _) | ((first | refine wp_go b84_0 ?_ | refine wp_go b84_14 ?_ | refine wp_go b84_39 ?_ | refine wp_go b84_67 ?_ | refine wp_go b84_93 ?_ | refine wp_go b84_103 ?_ | refine wp_go b84_110 ?_); simp only [l84_0, l84_14, l84_39, l84_67, l84_93, l84_103, l84_110, sg_aload_2, sg_getfp, sg_aload_0, sg_iv2_v, len4_0, len4_1, len4_2, len4_3, len4_4, sg_iload_1, sg_iaload, sg_iv3_v, sg_iconst, sg_istore_3, sg_istore, okS_4, stL_4, sg_iload_3, sg_iload, ldI_4, sg_iastore, sg_bipush, sg_ic_ne, sg_goto, sg_iinc, ldI_3, okS_3, stL_3, sg_ret, nLg_n, nLg_i, nLg_r, tc_c, tc_l, tc_r, tc_m, tc_n, tc_o, tc_0, inR, true_and, and_true, ne_eq, not_true_eq_false, not_false_eq_true, true_imp_iff, false_imp_iff, Int.toNat_natCast, lit_a, Nat.reduceAdd, or_true, true_or, or_false, false_or, Int.reduceEq, Int.reduceNe, Int.reduceLT, Int.reduceLE, Int.reduceNeg, sg_nil, s1p, x0, x1, x2, x3, x4, x5, x6, x7, x8, x9, x10, x11, x12, x13, x56, x57, x388, x389, x390, x391, x392, x393, x394, x395, x396, x397, x398, x399, a0, a1, a2, a3, a4, a5, a6, p0, p1, p2, p3, p4, p5]))
        all_goals (try omega)
        all_goals exact ih1
      · obtain ⟨m, hm⟩ := nat_of h1
        have hm' : chs z (z (212 + 3 * l)) (z (213 + 3 * l)) (rn z (z (212 + 3 * l)) (z (213 + 3 * l)) s) s = (m : Int) := hm
        have rl := (hz.2.2.2.1 m (by omega)).1
        have e8 : μ4 8 m = z (196 + 2 * m) := by rw [f4 8 (by omega)]; exact (R3.2 m (by omega)).1
        have ih1 := ih (s + 1) (by omega) (ms (ms μ4 (h + 5) s (m : Int)) (h + 6) s (z (196 + 2 * m))) (some (.inl (m : Int))) _ nb' (fun k h1 h2 h3 => by rw [← f3 k h1 h2 h3, ← f4 k h1]; funext j; simp [ms_at, h2, h3])
          (by simp only [ms_at]; (repeat (first | rw [if_neg (by omega)] | rw [if_pos (by omega)])); exact j0) (by simp only [ms_at]; (repeat (first | rw [if_neg (by omega)] | rw [if_pos (by omega)])); exact j1) rfl (by simp only [ms_at]; (repeat (first | rw [if_neg (by omega)] | rw [if_pos (by omega)])); exact j3) (by simp only [ms_at]; (repeat (first | rw [if_neg (by omega)] | rw [if_pos (by omega)])); exact j4) (by simp only [ms_at]; (repeat (first | rw [if_neg (by omega)] | rw [if_pos (by omega)])); exact j5) j6 (by omega) (fun i hi => by
            rcases Nat.lt_or_ge i s with hh2 | hh2
            · obtain ⟨y1, y2⟩ := c3 i hh2
              simp only [ms_at]
              (repeat (first | rw [if_neg (by omega)] | rw [if_pos (by omega)]))
              rw [f4 (h + 5) (by omega), f4 (h + 6) (by omega)]
              exact ⟨y1, y2⟩
            · have hi : i = s := by omega
              subst hi
              rw [hm]
              have c0 : cl z (m : Int) = z (196 + 2 * m) := by unfold cl; rw [if_neg (by omega)]; rfl
              rw [c0]
              simp [ms_at])
        have hx8 : (8 = h + 5) = False := eq_false (by omega)
        rw [hm']
        refine wp_go b84_67 ?_; simp only [l84_67, sg_istore, okS_4, stL_4, sg_aload_2, sg_getfp, sg_iload_3, sg_iload, ldI_4, sg_iastore, sg_bipush, sg_ic_ne, sg_iconst, sg_goto, nLg_n, nLg_i, nLg_r, tc_c, tc_l, tc_r, tc_m, tc_n, tc_o, tc_0, inR, true_and, and_true, ne_eq, not_true_eq_false, not_false_eq_true, true_imp_iff, false_imp_iff, Int.toNat_natCast, lit_a, Nat.reduceAdd, or_true, true_or, or_false, false_or, Int.reduceEq, Int.reduceNe, Int.reduceLT, Int.reduceLE, Int.reduceNeg, sg_nil, s1p, x0, x1, x2, x3, x4, x5, x6, x7, x8, x9, x10, x11, x12, x13, x56, x57, x388, x389, x390, x391, x392, x393, x394, x395, x396, x397, x398, x399, a0, a1, a2, a3, a4, a5, a6, p0, p1, p2, p3, p4, p5]
        repeat' (first | with_reducible apply And.intro | (intro _) | ((first | refine wp_go b84_0 ?_ | refine wp_go b84_14 ?_ | refine wp_go b84_39 ?_ | refine wp_go b84_67 ?_ | refine wp_go b84_93 ?_ | refine wp_go b84_103 ?_ | refine wp_go b84_110 ?_); simp only [l84_0, l84_14, l84_39, l84_67, l84_93, l84_103, l84_110, sg_aload_2, sg_getfp, sg_aload_0, sg_iv2_v, len4_0, len4_1, len4_2, len4_3, len4_4, sg_iload_1, sg_iaload, sg_iv3_v, sg_iconst, sg_istore_3, sg_istore, okS_4, stL_4, sg_iload_3, sg_iload, ldI_4, sg_iastore, sg_bipush, sg_ic_ne, sg_goto, sg_iinc, ldI_3, okS_3, stL_3, sg_ret, nLg_n, nLg_i, nLg_r, tc_c, tc_l, tc_r, tc_m, tc_n, tc_o, tc_0, inR, true_and, and_true, ne_eq, not_true_eq_false, not_false_eq_true, true_imp_iff, false_imp_iff, Int.toNat_natCast, lit_a, Nat.reduceAdd, or_true, true_or, or_false, false_or, Int.reduceEq, Int.reduceNe, Int.reduceLT, Int.reduceLE, Int.reduceNeg, sg_nil, s1p, x0, x1, x2, x3, x4, x5, x6, x7, x8, x9, x10, x11, x12, x13, x56, x57, x388, x389, x390, x391, x392, x393, x394, x395, x396, x397, x398, x399, a0, a1, a2, a3, a4, a5, a6, p0, p1, p2, p3, p4, p5, ms_at, hx8, false_and, if_false, e8]))
        all_goals (try omega)
        all_goals exact ih1
  refine wp_go b84_39 ?_; simp only [l84_39, sg_iconst, sg_istore_3, nLg_n, nLg_i, nLg_r, tc_c, tc_l, tc_r, tc_m, tc_n, tc_o, tc_0, inR, true_and, and_true, ne_eq, not_true_eq_false, not_false_eq_true, true_imp_iff, false_imp_iff, Int.toNat_natCast, lit_a, Nat.reduceAdd, or_true, true_or, or_false, false_or, Int.reduceEq, Int.reduceNe, Int.reduceLT, Int.reduceLE, Int.reduceNeg, sg_nil]
  exact loop n 0 (by omega) μ2 none 0 600 (fun k h1 _ _ => f2 k h1) g0 g1 g2 g3 g4 g5 (by omega) (by omega) (fun i hi => absurd hi (by omega))
-- NS.chooseAll: blocks [0, 17, 19, 45, 52]
theorem k_NS_chooseAll {d : Nat} {Q : QT} {μ : Mem} {l n : Nat} {b : Int} {z : Rw} (hz : IZ z) (hR : R0 z μ 1) (hn0 : μ 2 3 = z 0) (hn : z 0 = (n : Int)) (hl : (l : Int) < z 3) (hg : μ 10 l = z (212 + 3 * l)) (hb : 0 ≤ b ∧ b ≤ 600)
    (hq : ∀ (μ' : Mem) (nb : Int), (∀ k, k ≠ 392 → μ' k = μ k) → μ' 392 2 = sm (fun i => bI (ch z (z (212 + 3 * l)) b i ≠ -6)) n → μ' 392 3 = (rn z (z (212 + 3 * l)) b n).1 → μ' 392 4 = (rn z (z (212 + 3 * l)) b n).2 → μ' 392 5 = nb → 0 ≤ nb → nb ≤ 600 → (∀ b', b ≤ b' → b' < nb → ∀ i, i ≤ n → rn z (z (212 + 3 * l)) b' i = rn z (z (212 + 3 * l)) b i) → Q (.inl 0) μ') : Call σ1 (d + 3) 89 [.inr (.inr 0), .inl (l : Int), .inl b] μ Q := by
  refine e_89 ?_
  have q := hz.1
  refine wp_go b89_0 ?_; simp only [l89_0, sg_aload_0, sg_getfp, sg_iload_1, sg_iaload, sg_iload_2, sg_iv3_v, len4_0, len4_1, len4_2, len4_3, len4_4, nLg_n, nLg_i, nLg_r, tc_c, tc_l, tc_r, tc_m, tc_n, tc_o, tc_0, inR, true_and, and_true, ne_eq, not_true_eq_false, not_false_eq_true, true_imp_iff, false_imp_iff, Int.toNat_natCast, lit_a, Nat.reduceAdd, or_true, true_or, or_false, false_or, Int.reduceEq, Int.reduceNe, Int.reduceLT, Int.reduceLE, Int.reduceNeg, sg_nil, s1p, x0, x1, x2, x3, x4, x5, x6, x7, x8, x9, x10, x11, x12, x13, x56, x57, x388, x389, x390, x391, x392, x393, x394, x395, x396, x397, x398, x399, hg]
  repeat' (first | with_reducible apply And.intro | (intro _) | ((first | refine wp_go b89_0 ?_ | refine wp_go b89_17 ?_ | refine wp_go b89_45 ?_ | refine wp_go b89_52 ?_); simp only [l89_0, l89_17, l89_45, l89_52, sg_aload_0, sg_getfp, sg_iload_1, sg_iaload, sg_iload_2, sg_iv3_v, len4_0, len4_1, len4_2, len4_3, len4_4, sg_iconst, sg_istore_3, sg_pop_i, sg_pop_r, sg_iinc, ldI_3, okS_3, stL_3, sg_goto, sg_ret, nLg_n, nLg_i, nLg_r, tc_c, tc_l, tc_r, tc_m, tc_n, tc_o, tc_0, inR, true_and, and_true, ne_eq, not_true_eq_false, not_false_eq_true, true_imp_iff, false_imp_iff, Int.toNat_natCast, lit_a, Nat.reduceAdd, or_true, true_or, or_false, false_or, Int.reduceEq, Int.reduceNe, Int.reduceLT, Int.reduceLE, Int.reduceNeg, sg_nil]))
  all_goals (try omega)
  refine k_Cho_begin ch392 (fun μ2 f2 g0 g1 g2 g3 g4 g5 => ?_)
  have loop : ∀ k s : Nat, s + k = n → ∀ (μ3 : Mem) (nb : Int), (∀ k, k ≠ 392 → μ3 k = μ k) → μ3 392 0 = z (212 + 3 * l) → μ3 392 1 = b → μ3 392 2 = sm (fun i => bI (ch z (z (212 + 3 * l)) b i ≠ -6)) s → μ3 392 3 = (rn z (z (212 + 3 * l)) b s).1 → μ3 392 4 = (rn z (z (212 + 3 * l)) b s).2 → μ3 392 5 = nb → 0 ≤ nb → nb ≤ 600 →
      (∀ b', b ≤ b' → b' < nb → ∀ i, i ≤ s → rn z (z (212 + 3 * l)) b' i = rn z (z (212 + 3 * l)) b i) →
      wp σ1 (Call σ1 (d + 2)) 89 Q 19 [some (.inr (.inr 0)), some (.inl (l : Int)), some (.inl b), some (.inl (s : Int))] [] μ3 := by
    intro k
    induction k with
    | zero =>
      intro s hs μ3 nb f3 m0 m1 m2 m3 m4 m5 n0 n2 c3
      have hsn : s = n := by omega
      subst hsn
      have hq := hq μ3 nb f3 m2 m3 m4 m5 n0 n2 c3
      have e3 : μ3 2 3 = (s : Int) := by rw [f3 2 (by omega), hn0, hn]
      refine wp_go b89_19 ?_; simp only [l89_19, sg_iload_3, sg_aload_0, sg_getfp, sg_getf0, sg_ic_ge, sg_iv3_i, len4_0, len4_1, len4_2, len4_3, len4_4, nLg_n, nLg_i, nLg_r, tc_c, tc_l, tc_r, tc_m, tc_n, tc_o, tc_0, inR, true_and, and_true, ne_eq, not_true_eq_false, not_false_eq_true, true_imp_iff, false_imp_iff, Int.toNat_natCast, lit_a, Nat.reduceAdd, or_true, true_or, or_false, false_or, Int.reduceEq, Int.reduceNe, Int.reduceLT, Int.reduceLE, Int.reduceNeg, sg_nil, s1p, x0, x1, x2, x3, x4, x5, x6, x7, x8, x9, x10, x11, x12, x13, x56, x57, x388, x389, x390, x391, x392, x393, x394, x395, x396, x397, x398, x399, e3]
      repeat' (first | with_reducible apply And.intro | (intro _) | ((first | refine wp_go b89_0 ?_ | refine wp_go b89_17 ?_ | refine wp_go b89_45 ?_ | refine wp_go b89_52 ?_); simp only [l89_0, l89_17, l89_45, l89_52, sg_aload_0, sg_getfp, sg_iload_1, sg_iaload, sg_iload_2, sg_iv3_v, len4_0, len4_1, len4_2, len4_3, len4_4, sg_iconst, sg_istore_3, sg_pop_i, sg_pop_r, sg_iinc, ldI_3, okS_3, stL_3, sg_goto, sg_ret, nLg_n, nLg_i, nLg_r, tc_c, tc_l, tc_r, tc_m, tc_n, tc_o, tc_0, inR, true_and, and_true, ne_eq, not_true_eq_false, not_false_eq_true, true_imp_iff, false_imp_iff, Int.toNat_natCast, lit_a, Nat.reduceAdd, or_true, true_or, or_false, false_or, Int.reduceEq, Int.reduceNe, Int.reduceLT, Int.reduceLE, Int.reduceNeg, sg_nil]))
      all_goals (try omega)
      all_goals exact hq
    | succ k ih =>
      intro s hs μ3 nb f3 m0 m1 m2 m3 m4 m5 n0 n2 c3
      have hs0 : (s : Int) < z 0 := by omega
      have e3 : μ3 2 3 = (n : Int) := by rw [f3 2 (by omega), hn0, hn]
      have R3 : R0 z μ3 1 := R0_f (fun k _ _ => f3 k (by omega)) hR
      have rb := rn_b (g := z (212 + 3 * l)) hz hb.1 s (by omega)
      refine wp_go b89_19 ?_; simp only [l89_19, sg_iload_3, sg_aload_0, sg_getfp, sg_getf0, sg_ic_ge, sg_iv3_i, len4_0, len4_1, len4_2, len4_3, len4_4, nLg_n, nLg_i, nLg_r, tc_c, tc_l, tc_r, tc_m, tc_n, tc_o, tc_0, inR, true_and, and_true, ne_eq, not_true_eq_false, not_false_eq_true, true_imp_iff, false_imp_iff, Int.toNat_natCast, lit_a, Nat.reduceAdd, or_true, true_or, or_false, false_or, Int.reduceEq, Int.reduceNe, Int.reduceLT, Int.reduceLE, Int.reduceNeg, sg_nil, s1p, x0, x1, x2, x3, x4, x5, x6, x7, x8, x9, x10, x11, x12, x13, x56, x57, x388, x389, x390, x391, x392, x393, x394, x395, x396, x397, x398, x399, e3]
      repeat' (first | with_reducible apply And.intro | intro _)
      all_goals (try omega)
      refine k_Cho_choose ch392 st1 R3 hz hs0 (by omega) m0 m1 m2 m3 m4 m5 hb rb ⟨n0, n2⟩ (fun μ4 nb' f4 j0 j1 j2 j3 j4 j5 j6 j7 j8 => ?_)
      have ih1 := ih (s + 1) (by omega) μ4 nb' (fun k h1 => by rw [f4 k h1, f3 k h1]) j0 j1 j2 j3 j4 j5 j6 (by omega) (fun b' h1 h2 i hi => by
        rcases Nat.lt_or_ge s i with hh | hh
        · have : i = s + 1 := by omega
          subst this
          have r := c3 b' h1 (by omega) s (Nat.le_refl s)
          have j := j8 b' h1 h2
          show nxt z (rn z _ b' s) (chs z _ b' (rn z _ b' s) s) = nxt z (rn z _ b s) (chs z _ b (rn z _ b s) s)
          rw [r]
          rw [show chs z (z (212 + 3 * l)) b' (rn z (z (212 + 3 * l)) b s) s = chs z (z (212 + 3 * l)) b (rn z (z (212 + 3 * l)) b s) s from j]
        · exact c3 b' h1 (by omega) i hh)
      refine wp_go b89_45 ?_; simp only [l89_45, sg_pop_i, sg_pop_r, sg_iinc, ldI_3, okS_3, stL_3, sg_goto, nLg_n, nLg_i, nLg_r, tc_c, tc_l, tc_r, tc_m, tc_n, tc_o, tc_0, inR, true_and, and_true, ne_eq, not_true_eq_false, not_false_eq_true, true_imp_iff, false_imp_iff, Int.toNat_natCast, lit_a, Nat.reduceAdd, or_true, true_or, or_false, false_or, Int.reduceEq, Int.reduceNe, Int.reduceLT, Int.reduceLE, Int.reduceNeg, sg_nil]
      repeat' (first | with_reducible apply And.intro | (intro _) | ((first | refine wp_go b89_0 ?_ | refine wp_go b89_17 ?_ | refine wp_go b89_45 ?_ | refine wp_go b89_52 ?_); simp only [l89_0, l89_17, l89_45, l89_52, sg_aload_0, sg_getfp, sg_iload_1, sg_iaload, sg_iload_2, sg_iv3_v, len4_0, len4_1, len4_2, len4_3, len4_4, sg_iconst, sg_istore_3, sg_pop_i, sg_pop_r, sg_iinc, ldI_3, okS_3, stL_3, sg_goto, sg_ret, nLg_n, nLg_i, nLg_r, tc_c, tc_l, tc_r, tc_m, tc_n, tc_o, tc_0, inR, true_and, and_true, ne_eq, not_true_eq_false, not_false_eq_true, true_imp_iff, false_imp_iff, Int.toNat_natCast, lit_a, Nat.reduceAdd, or_true, true_or, or_false, false_or, Int.reduceEq, Int.reduceNe, Int.reduceLT, Int.reduceLE, Int.reduceNeg, sg_nil]))
      all_goals (try omega)
      all_goals exact ih1
  refine wp_go b89_17 ?_; simp only [l89_17, sg_iconst, sg_istore_3, nLg_n, nLg_i, nLg_r, tc_c, tc_l, tc_r, tc_m, tc_n, tc_o, tc_0, inR, true_and, and_true, ne_eq, not_true_eq_false, not_false_eq_true, true_imp_iff, false_imp_iff, Int.toNat_natCast, lit_a, Nat.reduceAdd, or_true, true_or, or_false, false_or, Int.reduceEq, Int.reduceNe, Int.reduceLT, Int.reduceLE, Int.reduceNeg, sg_nil]
  exact loop n 0 (by omega) μ2 600 f2 g0 g1 g2 g3 g4 g5 (by omega) (by omega) (fun b' _ _ i hi => by rw [show i = 0 by omega]; rfl)
end
section
theorem l6 {z : Rw} {l : Nat} (hz : IZ z) (hl : (l : Int) < z 3) : l < 6 := by have := hz.1; omega
-- NS.hearingOf: blocks [0, 22, 31]
theorem k_NS_hearingOf {d : Nat} {Q : QT} {μ : Mem} {l : Nat} {z : Rw} (hz : IZ z) (hR : RC z μ 1) (hl : (l : Int) < z 3)
    (hq : ∀ (μ' : Mem) (h : Nat), (∀ k, (k < 392 ∨ 400 ≤ k) → μ' k = μ k) → HR (wO z l) μ' h → iHea σ1 h → 13 < h → h < 394 → Q (.inr (.inr h)) μ') : Call σ1 (d + 4) 83 [.inr (.inr 0), .inl (l : Int)] μ Q := by
  refine e_83 ?_
  have l6 := l6 hz hl
  obtain ⟨e10, e11, e12, eh⟩ := hR.2.2.2 l hl
  have e12 : μ 12 l = z (214 + 3 * l) := e12
  have z01 := (hz.2.2.2.2 l hl).2.2.1
  by_cases hf : z (214 + 3 * l) = 1
  · have hq := hq μ (14 + 7 * l) (fun _ _ => rfl) (by unfold wO; rw [if_pos hf]; exact eh hf) (heF l l6) (by omega) (by omega)
    rw [hf] at e12
    refine wp_go b83_0 ?_; simp only [l83_0, sg_aload_0, sg_getfp, sg_iload_1, sg_baload, sg_if_eq, sg_aaload, sg_aret, nLg_n, nLg_i, nLg_r, tc_c, tc_l, tc_r, tc_m, tc_n, tc_o, tc_0, inR, true_and, and_true, ne_eq, not_true_eq_false, not_false_eq_true, true_imp_iff, false_imp_iff, Int.toNat_natCast, lit_a, Nat.reduceAdd, or_true, true_or, or_false, false_or, Int.reduceEq, Int.reduceNe, Int.reduceLT, Int.reduceLE, Int.reduceNeg, sg_nil, s1p, x0, x1, x2, x3, x4, x5, x6, x7, x8, x9, x10, x11, x12, x13, x56, x57, x388, x389, x390, x391, x392, x393, x394, x395, x396, x397, x398, x399, e12]
    repeat' (first | with_reducible apply And.intro | (intro _) | ((first | refine wp_go b83_0 ?_ | refine wp_go b83_22 ?_ | refine wp_go b83_31 ?_); simp only [l83_0, l83_22, l83_31, sg_aload_0, sg_getfp, sg_iload_1, sg_baload, sg_if_eq, sg_aaload, sg_aret, sg_iv3_v, len4_0, len4_1, len4_2, len4_3, len4_4, nLg_n, nLg_i, nLg_r, tc_c, tc_l, tc_r, tc_m, tc_n, tc_o, tc_0, inR, true_and, and_true, ne_eq, not_true_eq_false, not_false_eq_true, true_imp_iff, false_imp_iff, Int.toNat_natCast, lit_a, Nat.reduceAdd, or_true, true_or, or_false, false_or, Int.reduceEq, Int.reduceNe, Int.reduceLT, Int.reduceLE, Int.reduceNeg, sg_nil]))
    all_goals (try omega)
    all_goals exact hq
  · have hf0 : z (214 + 3 * l) = 0 := by omega
    rw [hf0] at e12
    refine wp_go b83_0 ?_; simp only [l83_0, sg_aload_0, sg_getfp, sg_iload_1, sg_baload, sg_if_eq, sg_aaload, sg_aret, nLg_n, nLg_i, nLg_r, tc_c, tc_l, tc_r, tc_m, tc_n, tc_o, tc_0, inR, true_and, and_true, ne_eq, not_true_eq_false, not_false_eq_true, true_imp_iff, false_imp_iff, Int.toNat_natCast, lit_a, Nat.reduceAdd, or_true, true_or, or_false, false_or, Int.reduceEq, Int.reduceNe, Int.reduceLT, Int.reduceLE, Int.reduceNeg, sg_nil, s1p, x0, x1, x2, x3, x4, x5, x6, x7, x8, x9, x10, x11, x12, x13, x56, x57, x388, x389, x390, x391, x392, x393, x394, x395, x396, x397, x398, x399, e12]
    repeat' (first | with_reducible apply And.intro | intro _)
    all_goals (try omega)
    refine wp_go b83_22 ?_; simp only [l83_22, sg_aload_0, sg_iload_1, sg_getfp, sg_iv3_v, len4_0, len4_1, len4_2, len4_3, len4_4, nLg_n, nLg_i, nLg_r, tc_c, tc_l, tc_r, tc_m, tc_n, tc_o, tc_0, inR, true_and, and_true, ne_eq, not_true_eq_false, not_false_eq_true, true_imp_iff, false_imp_iff, Int.toNat_natCast, lit_a, Nat.reduceAdd, or_true, true_or, or_false, false_or, Int.reduceEq, Int.reduceNe, Int.reduceLT, Int.reduceLE, Int.reduceNeg, sg_nil, s1p, x0, x1, x2, x3, x4, x5, x6, x7, x8, x9, x10, x11, x12, x13, x56, x57, x388, x389, x390, x391, x392, x393, x394, x395, x396, x397, x398, x399]
    refine k_NS_hearNow hz hR.r0 hR.1.1 hl e10 e11 he393 (by omega) (fun μ' f h => ?_)
    have hq := hq μ' 393 (fun k hk => f k (by omega) (by omega)) (by unfold wO; rw [if_neg hf]; exact h) he393 (by omega) (by omega)
    refine wp_go b83_31 ?_; simp only [l83_31, sg_aload_0, sg_getfp, sg_aret, nLg_n, nLg_i, nLg_r, tc_c, tc_l, tc_r, tc_m, tc_n, tc_o, tc_0, inR, true_and, and_true, ne_eq, not_true_eq_false, not_false_eq_true, true_imp_iff, false_imp_iff, Int.toNat_natCast, lit_a, Nat.reduceAdd, or_true, true_or, or_false, false_or, Int.reduceEq, Int.reduceNe, Int.reduceLT, Int.reduceLE, Int.reduceNeg, sg_nil, s1p, x0, x1, x2, x3, x4, x5, x6, x7, x8, x9, x10, x11, x12, x13, x56, x57, x388, x389, x390, x391, x392, x393, x394, x395, x396, x397, x398, x399]
    exact hq
def eqW (w v : Rw) : Bool := (List.range 121).all fun k => decide (w k = v k)
theorem eqW_t {w v : Rw} (h : ∀ k, k < 121 → w k = v k) : eqW w v = true := List.all_eq_true.mpr (fun k hk => decide_eq_true (h k (List.mem_range.mp hk)))
theorem eqW_f {w v : Rw} (h : ¬ ∀ k, k < 121 → w k = v k) : eqW w v = false := by
  cases e : eqW w v with
  | false => rfl
  | true => exact absurd (fun k hk => of_decide_eq_true (List.all_eq_true.mp e k (List.mem_range.mpr hk))) h
def old (z : Rw) (l : Nat) : Int := bI (z (214 + 3 * l) = 1 ∧ eqW (hrL z l) (fw z l) = false)
theorem old_01 (z : Rw) (l : Nat) : old z l = 0 ∨ old z l = 1 := by unfold old bI; split <;> simp
-- NS.isOutOfDate: blocks [0, 14, 23, 39, 46, 47]
theorem k_NS_isOutOfDate {d : Nat} {Q : QT} {μ : Mem} {l : Nat} {z : Rw} (hz : IZ z) (hR : RC z μ 1) (hl : (l : Int) < z 3)
    (hq : ∀ μ' : Mem, (∀ k, (k < 392 ∨ 400 ≤ k) → μ' k = μ k) → Q (.inl (old z l)) μ') : Call σ1 (d + 4) 85 [.inr (.inr 0), .inl (l : Int)] μ Q := by
  refine e_85 ?_
  have l6 := l6 hz hl
  obtain ⟨e10, e11, e12, eh⟩ := hR.2.2.2 l hl
  have e12 : μ 12 l = z (214 + 3 * l) := e12
  have z01 := (hz.2.2.2.2 l hl).2.2.1
  by_cases hf : z (214 + 3 * l) = 1
  · rw [hf] at e12
    refine wp_go b85_0 ?_; simp only [l85_0, sg_aload_0, sg_getfp, sg_iload_1, sg_baload, sg_if_ne, sg_iconst, sg_iret1, nLg_n, nLg_i, nLg_r, tc_c, tc_l, tc_r, tc_m, tc_n, tc_o, tc_0, inR, true_and, and_true, ne_eq, not_true_eq_false, not_false_eq_true, true_imp_iff, false_imp_iff, Int.toNat_natCast, lit_a, Nat.reduceAdd, or_true, true_or, or_false, false_or, Int.reduceEq, Int.reduceNe, Int.reduceLT, Int.reduceLE, Int.reduceNeg, sg_nil, s1p, x0, x1, x2, x3, x4, x5, x6, x7, x8, x9, x10, x11, x12, x13, x56, x57, x388, x389, x390, x391, x392, x393, x394, x395, x396, x397, x398, x399, e12]
    repeat' (first | with_reducible apply And.intro | intro _)
    all_goals (try omega)
    refine wp_go b85_14 ?_; simp only [l85_14, sg_aload_0, sg_iload_1, sg_getfp, sg_iv3_v, len4_0, len4_1, len4_2, len4_3, len4_4, nLg_n, nLg_i, nLg_r, tc_c, tc_l, tc_r, tc_m, tc_n, tc_o, tc_0, inR, true_and, and_true, ne_eq, not_true_eq_false, not_false_eq_true, true_imp_iff, false_imp_iff, Int.toNat_natCast, lit_a, Nat.reduceAdd, or_true, true_or, or_false, false_or, Int.reduceEq, Int.reduceNe, Int.reduceLT, Int.reduceLE, Int.reduceNeg, sg_nil, s1p, x0, x1, x2, x3, x4, x5, x6, x7, x8, x9, x10, x11, x12, x13, x56, x57, x388, x389, x390, x391, x392, x393, x394, x395, x396, x397, x398, x399]
    refine k_NS_hearNow hz hR.r0 hR.1.1 hl e10 e11 he393 (by omega) (fun μ1 f h => ?_)
    have hq := hq μ1 (fun k hk => f k (by omega) (by omega))
    refine wp_go b85_23 ?_; simp only [l85_23, sg_aload_0, sg_getfp, sg_iload_1, sg_aaload, sg_iv2_i, len4_0, len4_1, len4_2, len4_3, len4_4, nLg_n, nLg_i, nLg_r, tc_c, tc_l, tc_r, tc_m, tc_n, tc_o, tc_0, inR, true_and, and_true, ne_eq, not_true_eq_false, not_false_eq_true, true_imp_iff, false_imp_iff, Int.toNat_natCast, lit_a, Nat.reduceAdd, or_true, true_or, or_false, false_or, Int.reduceEq, Int.reduceNe, Int.reduceLT, Int.reduceLE, Int.reduceNeg, sg_nil, s1p, x0, x1, x2, x3, x4, x5, x6, x7, x8, x9, x10, x11, x12, x13, x56, x57, x388, x389, x390, x391, x392, x393, x394, x395, x396, x397, x398, x399]
    repeat' (first | with_reducible apply And.intro | intro _)
    all_goals (try omega)
    have hF : HR (fw z l) μ1 (14 + 7 * l) := HR_f (fun k h1 h2 => f k (by omega) (by omega)) (eh hf)
    refine k_Hea_isLike he393 (heF l l6) h hF (hr_W hz) ((hz.2.2.2.2 l hl).2.2.2 hf) (fun ha => ?_) (fun ha => ?_)
    · have o : old z l = 0 := by unfold old bI; rw [if_neg (fun q => by have := eqW_t ha; rw [this] at q; exact absurd q.2 (by decide))]
      rw [o] at hq
      refine wp_go b85_39 ?_; simp only [l85_39, sg_if_ne, sg_iconst, sg_goto, nLg_n, nLg_i, nLg_r, tc_c, tc_l, tc_r, tc_m, tc_n, tc_o, tc_0, inR, true_and, and_true, ne_eq, not_true_eq_false, not_false_eq_true, true_imp_iff, false_imp_iff, Int.toNat_natCast, lit_a, Nat.reduceAdd, or_true, true_or, or_false, false_or, Int.reduceEq, Int.reduceNe, Int.reduceLT, Int.reduceLE, Int.reduceNeg, sg_nil]
      repeat' (first | with_reducible apply And.intro | (intro _) | ((first | refine wp_go b85_0 ?_ | refine wp_go b85_14 ?_ | refine wp_go b85_23 ?_ | refine wp_go b85_39 ?_ | refine wp_go b85_46 ?_ | refine wp_go b85_47 ?_); simp only [l85_0, l85_14, l85_23, l85_39, l85_46, l85_47, sg_aload_0, sg_getfp, sg_iload_1, sg_baload, sg_if_ne, sg_iconst, sg_iret1, sg_iv3_v, len4_0, len4_1, len4_2, len4_3, len4_4, sg_aaload, sg_iv2_i, sg_goto, nLg_n, nLg_i, nLg_r, tc_c, tc_l, tc_r, tc_m, tc_n, tc_o, tc_0, inR, true_and, and_true, ne_eq, not_true_eq_false, not_false_eq_true, true_imp_iff, false_imp_iff, Int.toNat_natCast, lit_a, Nat.reduceAdd, or_true, true_or, or_false, false_or, Int.reduceEq, Int.reduceNe, Int.reduceLT, Int.reduceLE, Int.reduceNeg, sg_nil]))
      all_goals (try omega)
      all_goals exact hq
    · have o : old z l = 1 := by unfold old bI; rw [if_pos ⟨hf, eqW_f ha⟩]
      rw [o] at hq
      refine wp_go b85_39 ?_; simp only [l85_39, sg_if_ne, sg_iconst, sg_goto, nLg_n, nLg_i, nLg_r, tc_c, tc_l, tc_r, tc_m, tc_n, tc_o, tc_0, inR, true_and, and_true, ne_eq, not_true_eq_false, not_false_eq_true, true_imp_iff, false_imp_iff, Int.toNat_natCast, lit_a, Nat.reduceAdd, or_true, true_or, or_false, false_or, Int.reduceEq, Int.reduceNe, Int.reduceLT, Int.reduceLE, Int.reduceNeg, sg_nil]
      repeat' (first | with_reducible apply And.intro | (intro _) | ((first | refine wp_go b85_0 ?_ | refine wp_go b85_14 ?_ | refine wp_go b85_23 ?_ | refine wp_go b85_39 ?_ | refine wp_go b85_46 ?_ | refine wp_go b85_47 ?_); simp only [l85_0, l85_14, l85_23, l85_39, l85_46, l85_47, sg_aload_0, sg_getfp, sg_iload_1, sg_baload, sg_if_ne, sg_iconst, sg_iret1, sg_iv3_v, len4_0, len4_1, len4_2, len4_3, len4_4, sg_aaload, sg_iv2_i, sg_goto, nLg_n, nLg_i, nLg_r, tc_c, tc_l, tc_r, tc_m, tc_n, tc_o, tc_0, inR, true_and, and_true, ne_eq, not_true_eq_false, not_false_eq_true, true_imp_iff, false_imp_iff, Int.toNat_natCast, lit_a, Nat.reduceAdd, or_true, true_or, or_false, false_or, Int.reduceEq, Int.reduceNe, Int.reduceLT, Int.reduceLE, Int.reduceNeg, sg_nil]))
      all_goals (try omega)
      all_goals exact hq
  · have hf0 : z (214 + 3 * l) = 0 := by omega
    rw [hf0] at e12
    have hq := hq μ (fun _ _ => rfl)
    have o : old z l = 0 := by unfold old bI; rw [if_neg (fun q => hf q.1)]
    rw [o] at hq
    refine wp_go b85_0 ?_; simp only [l85_0, sg_aload_0, sg_getfp, sg_iload_1, sg_baload, sg_if_ne, sg_iconst, sg_iret1, nLg_n, nLg_i, nLg_r, tc_c, tc_l, tc_r, tc_m, tc_n, tc_o, tc_0, inR, true_and, and_true, ne_eq, not_true_eq_false, not_false_eq_true, true_imp_iff, false_imp_iff, Int.toNat_natCast, lit_a, Nat.reduceAdd, or_true, true_or, or_false, false_or, Int.reduceEq, Int.reduceNe, Int.reduceLT, Int.reduceLE, Int.reduceNeg, sg_nil, s1p, x0, x1, x2, x3, x4, x5, x6, x7, x8, x9, x10, x11, x12, x13, x56, x57, x388, x389, x390, x391, x392, x393, x394, x395, x396, x397, x398, x399, e12]
    repeat' (first | with_reducible apply And.intro | (intro _) | ((first | refine wp_go b85_0 ?_ | refine wp_go b85_14 ?_ | refine wp_go b85_23 ?_ | refine wp_go b85_39 ?_ | refine wp_go b85_46 ?_ | refine wp_go b85_47 ?_); simp only [l85_0, l85_14, l85_23, l85_39, l85_46, l85_47, sg_aload_0, sg_getfp, sg_iload_1, sg_baload, sg_if_ne, sg_iconst, sg_iret1, sg_iv3_v, len4_0, len4_1, len4_2, len4_3, len4_4, sg_aaload, sg_iv2_i, sg_goto, nLg_n, nLg_i, nLg_r, tc_c, tc_l, tc_r, tc_m, tc_n, tc_o, tc_0, inR, true_and, and_true, ne_eq, not_true_eq_false, not_false_eq_true, true_imp_iff, false_imp_iff, Int.toNat_natCast, lit_a, Nat.reduceAdd, or_true, true_or, or_false, false_or, Int.reduceEq, Int.reduceNe, Int.reduceLT, Int.reduceLE, Int.reduceNeg, sg_nil]))
    all_goals (try omega)
    all_goals exact hq
def olds (z : Rw) : Nat → Int
  | 0 => 0
  | l + 1 => if old z l = 1 then iOr (olds z l) (iShl 1 l) else olds z l
-- NS.outOfDateListeners: blocks [0, 4, 20, 29, 35]
theorem k_NS_outOfDateListeners {d n : Nat} {Q : QT} {μ : Mem} {z : Rw} (hz : IZ z) (hR : RC z μ 1) (hn : z 3 = (n : Int))
    (hq : ∀ μ' : Mem, (∀ k, (k < 392 ∨ 400 ≤ k) → μ' k = μ k) → Q (.inl (olds z n)) μ') : Call σ1 (d + 5) 86 [.inr (.inr 0)] μ Q := by
  refine e_86 ?_
  have q := hz.1
  have loop : ∀ k i : Nat, i + k = n → ∀ μ1 : Mem, (∀ k, (k < 392 ∨ 400 ≤ k) → μ1 k = μ k) → wp σ1 (Call σ1 (d + 4)) 86 Q 4 [some (.inr (.inr 0)), some (.inl (olds z i)), some (.inl (i : Int))] [] μ1 := by
    intro k
    induction k with
    | zero =>
      intro i hi μ1 f1
      have him : i = n := by omega
      subst him
      have hq := hq μ1 f1
      have R1 : RC z μ1 1 := RC_f (by omega) (fun k _ _ => f1 k (by omega)) hR
      have e3 : μ1 1 11 = (i : Int) := R1.1.2.2.2.trans hn
      refine wp_go b86_4 ?_; simp only [l86_4, sg_iload_2, sg_aload_0, sg_getfp, sg_getf0, sg_ic_ge, sg_iv2_i, len4_0, len4_1, len4_2, len4_3, len4_4, nLg_n, nLg_i, nLg_r, tc_c, tc_l, tc_r, tc_m, tc_n, tc_o, tc_0, inR, true_and, and_true, ne_eq, not_true_eq_false, not_false_eq_true, true_imp_iff, false_imp_iff, Int.toNat_natCast, lit_a, Nat.reduceAdd, or_true, true_or, or_false, false_or, Int.reduceEq, Int.reduceNe, Int.reduceLT, Int.reduceLE, Int.reduceNeg, sg_nil, s1p, x0, x1, x2, x3, x4, x5, x6, x7, x8, x9, x10, x11, x12, x13, x56, x57, x388, x389, x390, x391, x392, x393, x394, x395, x396, x397, x398, x399, e3]
      repeat' (first | with_reducible apply And.intro | (intro _) | ((first | refine wp_go b86_0 ?_ | refine wp_go b86_20 ?_ | refine wp_go b86_29 ?_ | refine wp_go b86_35 ?_); simp only [l86_0, l86_20, l86_29, l86_35, sg_iconst, sg_istore_1, sg_istore_2, sg_if_eq, sg_iload_1, sg_iload_2, sg_ishl, sg_ior, sg_iinc, ldI_2, okS_2, stL_2, sg_goto, sg_iret0, nLg_n, nLg_i, nLg_r, tc_c, tc_l, tc_r, tc_m, tc_n, tc_o, tc_0, inR, true_and, and_true, ne_eq, not_true_eq_false, not_false_eq_true, true_imp_iff, false_imp_iff, Int.toNat_natCast, lit_a, Nat.reduceAdd, or_true, true_or, or_false, false_or, Int.reduceEq, Int.reduceNe, Int.reduceLT, Int.reduceLE, Int.reduceNeg, sg_nil]))
      all_goals (try omega)
      all_goals exact hq
    | succ k ih =>
      intro i hi μ1 f1
      have R1 : RC z μ1 1 := RC_f (by omega) (fun k _ _ => f1 k (by omega)) hR
      have e3 : μ1 1 11 = (n : Int) := R1.1.2.2.2.trans hn
      refine wp_go b86_4 ?_; simp only [l86_4, sg_iload_2, sg_aload_0, sg_getfp, sg_getf0, sg_ic_ge, sg_iv2_i, len4_0, len4_1, len4_2, len4_3, len4_4, nLg_n, nLg_i, nLg_r, tc_c, tc_l, tc_r, tc_m, tc_n, tc_o, tc_0, inR, true_and, and_true, ne_eq, not_true_eq_false, not_false_eq_true, true_imp_iff, false_imp_iff, Int.toNat_natCast, lit_a, Nat.reduceAdd, or_true, true_or, or_false, false_or, Int.reduceEq, Int.reduceNe, Int.reduceLT, Int.reduceLE, Int.reduceNeg, sg_nil, s1p, x0, x1, x2, x3, x4, x5, x6, x7, x8, x9, x10, x11, x12, x13, x56, x57, x388, x389, x390, x391, x392, x393, x394, x395, x396, x397, x398, x399, e3]
      repeat' (first | with_reducible apply And.intro | intro _)
      all_goals (try omega)
      refine k_NS_isOutOfDate hz R1 (by omega) (fun μ2 f2 => ?_)
      have ih1 := ih (i + 1) (by omega) μ2 (fun k hk => (f2 k hk).trans (f1 k hk))
      unfold olds at ih1
      rcases old_01 z i with o | o
      · rw [o, if_neg (by omega)] at ih1
        rw [o]
        refine wp_go b86_20 ?_; simp only [l86_20, sg_if_eq, sg_iload_1, sg_iconst, sg_iload_2, sg_ishl, sg_ior, sg_istore_1, nLg_n, nLg_i, nLg_r, tc_c, tc_l, tc_r, tc_m, tc_n, tc_o, tc_0, inR, true_and, and_true, ne_eq, not_true_eq_false, not_false_eq_true, true_imp_iff, false_imp_iff, Int.toNat_natCast, lit_a, Nat.reduceAdd, or_true, true_or, or_false, false_or, Int.reduceEq, Int.reduceNe, Int.reduceLT, Int.reduceLE, Int.reduceNeg, sg_nil]
        repeat' (first | with_reducible apply And.intro | (intro _) | ((first | refine wp_go b86_0 ?_ | refine wp_go b86_20 ?_ | refine wp_go b86_29 ?_ | refine wp_go b86_35 ?_); simp only [l86_0, l86_20, l86_29, l86_35, sg_iconst, sg_istore_1, sg_istore_2, sg_if_eq, sg_iload_1, sg_iload_2, sg_ishl, sg_ior, sg_iinc, ldI_2, okS_2, stL_2, sg_goto, sg_iret0, nLg_n, nLg_i, nLg_r, tc_c, tc_l, tc_r, tc_m, tc_n, tc_o, tc_0, inR, true_and, and_true, ne_eq, not_true_eq_false, not_false_eq_true, true_imp_iff, false_imp_iff, Int.toNat_natCast, lit_a, Nat.reduceAdd, or_true, true_or, or_false, false_or, Int.reduceEq, Int.reduceNe, Int.reduceLT, Int.reduceLE, Int.reduceNeg, sg_nil]))
        all_goals (try omega)
        all_goals exact ih1
      · rw [o, if_pos rfl] at ih1
        rw [o]
        refine wp_go b86_20 ?_; simp only [l86_20, sg_if_eq, sg_iload_1, sg_iconst, sg_iload_2, sg_ishl, sg_ior, sg_istore_1, nLg_n, nLg_i, nLg_r, tc_c, tc_l, tc_r, tc_m, tc_n, tc_o, tc_0, inR, true_and, and_true, ne_eq, not_true_eq_false, not_false_eq_true, true_imp_iff, false_imp_iff, Int.toNat_natCast, lit_a, Nat.reduceAdd, or_true, true_or, or_false, false_or, Int.reduceEq, Int.reduceNe, Int.reduceLT, Int.reduceLE, Int.reduceNeg, sg_nil]
        repeat' (first | with_reducible apply And.intro | (intro _) | ((first | refine wp_go b86_0 ?_ | refine wp_go b86_20 ?_ | refine wp_go b86_29 ?_ | refine wp_go b86_35 ?_); simp only [l86_0, l86_20, l86_29, l86_35, sg_iconst, sg_istore_1, sg_istore_2, sg_if_eq, sg_iload_1, sg_iload_2, sg_ishl, sg_ior, sg_iinc, ldI_2, okS_2, stL_2, sg_goto, sg_iret0, nLg_n, nLg_i, nLg_r, tc_c, tc_l, tc_r, tc_m, tc_n, tc_o, tc_0, inR, true_and, and_true, ne_eq, not_true_eq_false, not_false_eq_true, true_imp_iff, false_imp_iff, Int.toNat_natCast, lit_a, Nat.reduceAdd, or_true, true_or, or_false, false_or, Int.reduceEq, Int.reduceNe, Int.reduceLT, Int.reduceLE, Int.reduceNeg, sg_nil]))
        all_goals (try omega)
        all_goals exact ih1
  refine wp_go b86_0 ?_; simp only [l86_0, sg_iconst, sg_istore_1, sg_istore_2, nLg_n, nLg_i, nLg_r, tc_c, tc_l, tc_r, tc_m, tc_n, tc_o, tc_0, inR, true_and, and_true, ne_eq, not_true_eq_false, not_false_eq_true, true_imp_iff, false_imp_iff, Int.toNat_natCast, lit_a, Nat.reduceAdd, or_true, true_or, or_false, false_or, Int.reduceEq, Int.reduceNe, Int.reduceLT, Int.reduceLE, Int.reduceNeg, sg_nil]
  exact loop n 0 (by omega) μ (fun _ _ => rfl)
def nw (z : Rw) (l : Nat) : Nat := (wO z l 0).toNat
def tot (z : Rw) (l : Nat) : Int := bt (wO z l) (nw z l)
theorem nw_eq {z : Rw} {l : Nat} (hz : IZ z) (hl : (l : Int) < z 3) : wO z l 0 = ((nw z l : Nat) : Int) ∧ 1 ≤ nw z l ∧ nw z l ≤ 24 := by
  have := (wO_W hz hl).1
  unfold nw; omega
theorem bt_b {w : Rw} (hW : WH w) {p : Nat} (hp : (p : Int) ≤ w 0) : 0 ≤ bt w p ∧ bt w p ≤ 420 * p := by
  have b1 := sm_b (f := fun i => w (5 * i + 2) + w (5 * i + 4)) (b := 420) (n := p) (fun j hj => by
    have q1 := hW.nt (i := j) (by omega)
    have q2 := (hW.2.1 j (by omega)).2.1
    omega)
  have e := ht_bt w p
  unfold ht at e
  rw [e] at b1
  exact b1
def lng (z : Rw) : Nat → Int × Int
  | 0 => (-6, -6)
  | l + 1 => if (lng z l).2 < tot z l then ((l : Int), tot z l) else lng z l
theorem lng_b {z : Rw} (hz : IZ z) : ∀ n : Nat, (n : Int) ≤ z 3 → -6 ≤ (lng z n).2 ∧ (lng z n).2 ≤ 10080
  | 0, _ => ⟨Int.le_refl _, by show (-6 : Int) ≤ 10080; omega⟩
  | l + 1, h => by
    have ih := lng_b hz l (by omega)
    have e := nw_eq hz (show (l : Int) < z 3 by omega)
    have b := bt_b (wO_W hz (show (l : Int) < z 3 by omega)) (p := nw z l) (by omega)
    unfold lng
    split
    · show -6 ≤ tot z l ∧ tot z l ≤ 10080
      unfold tot
      omega
    · exact ih
-- NS.longestListener: blocks [0, 8, 24, 27, 40, 46]
theorem k_NS_longestListener {d n : Nat} {Q : QT} {μ : Mem} {z : Rw} (hz : IZ z) (hR : RC z μ 1) (hn : z 3 = (n : Int))
    (hq : ∀ μ' : Mem, (∀ k, (k < 392 ∨ 400 ≤ k) → μ' k = μ k) → Q (.inl (lng z n).1) μ') : Call σ1 (d + 5) 87 [.inr (.inr 0)] μ Q := by
  refine e_87 ?_
  have q := hz.1
  have loop : ∀ k i : Nat, i + k = n → ∀ (μ1 : Mem) (o4 : Option MV), (∀ k, (k < 392 ∨ 400 ≤ k) → μ1 k = μ k) → wp σ1 (Call σ1 (d + 4)) 87 Q 8 [some (.inr (.inr 0)), some (.inl (lng z i).1), some (.inl (lng z i).2), some (.inl (i : Int)), o4] [] μ1 := by
    intro k
    induction k with
    | zero =>
      intro i hi μ1 o4 f1
      have him : i = n := by omega
      subst him
      have hq := hq μ1 f1
      have R1 : RC z μ1 1 := RC_f (by omega) (fun k _ _ => f1 k (by omega)) hR
      have e3 : μ1 1 11 = (i : Int) := R1.1.2.2.2.trans hn
      refine wp_go b87_8 ?_; simp only [l87_8, sg_iload_3, sg_aload_0, sg_getfp, sg_getf0, sg_ic_ge, sg_iv2_r, len4_0, len4_1, len4_2, len4_3, len4_4, nLg_n, nLg_i, nLg_r, tc_c, tc_l, tc_r, tc_m, tc_n, tc_o, tc_0, inR, true_and, and_true, ne_eq, not_true_eq_false, not_false_eq_true, true_imp_iff, false_imp_iff, Int.toNat_natCast, lit_a, Nat.reduceAdd, or_true, true_or, or_false, false_or, Int.reduceEq, Int.reduceNe, Int.reduceLT, Int.reduceLE, Int.reduceNeg, sg_nil, s1p, x0, x1, x2, x3, x4, x5, x6, x7, x8, x9, x10, x11, x12, x13, x56, x57, x388, x389, x390, x391, x392, x393, x394, x395, x396, x397, x398, x399, e3]
      repeat' (first | with_reducible apply And.intro | (intro _) | ((first | refine wp_go b87_0 ?_ | refine wp_go b87_24 ?_ | refine wp_go b87_27 ?_ | refine wp_go b87_40 ?_ | refine wp_go b87_46 ?_); simp only [l87_0, l87_24, l87_27, l87_40, l87_46, sg_bipush, sg_istore_1, sg_istore_2, sg_iconst, sg_istore_3, sg_iv1_i, len4_0, len4_1, len4_2, len4_3, len4_4, sg_istore, okS_4, stL_4, sg_iload, ldI_4, sg_iload_2, sg_ic_le, sg_iload_3, sg_iinc, ldI_3, okS_3, stL_3, sg_goto, sg_iload_1, sg_iret0, nLg_n, nLg_i, nLg_r, tc_c, tc_l, tc_r, tc_m, tc_n, tc_o, tc_0, inR, true_and, and_true, ne_eq, not_true_eq_false, not_false_eq_true, true_imp_iff, false_imp_iff, Int.toNat_natCast, lit_a, Nat.reduceAdd, or_true, true_or, or_false, false_or, Int.reduceEq, Int.reduceNe, Int.reduceLT, Int.reduceLE, Int.reduceNeg, sg_nil]))
      all_goals (try omega)
      all_goals exact hq
    | succ k ih =>
      intro i hi μ1 o4 f1
      have R1 : RC z μ1 1 := RC_f (by omega) (fun k _ _ => f1 k (by omega)) hR
      have e3 : μ1 1 11 = (n : Int) := R1.1.2.2.2.trans hn
      refine wp_go b87_8 ?_; simp only [l87_8, sg_iload_3, sg_aload_0, sg_getfp, sg_getf0, sg_ic_ge, sg_iv2_r, len4_0, len4_1, len4_2, len4_3, len4_4, nLg_n, nLg_i, nLg_r, tc_c, tc_l, tc_r, tc_m, tc_n, tc_o, tc_0, inR, true_and, and_true, ne_eq, not_true_eq_false, not_false_eq_true, true_imp_iff, false_imp_iff, Int.toNat_natCast, lit_a, Nat.reduceAdd, or_true, true_or, or_false, false_or, Int.reduceEq, Int.reduceNe, Int.reduceLT, Int.reduceLE, Int.reduceNeg, sg_nil, s1p, x0, x1, x2, x3, x4, x5, x6, x7, x8, x9, x10, x11, x12, x13, x56, x57, x388, x389, x390, x391, x392, x393, x394, x395, x396, x397, x398, x399, e3]
      repeat' (first | with_reducible apply And.intro | intro _)
      all_goals (try omega)
      refine k_NS_hearingOf hz R1 (by omega) (fun μ2 h f2 h2 hH _ _ => ?_)
      have nn := nw_eq hz (show (i : Int) < z 3 by omega)
      refine wp_go b87_24 ?_; simp only [l87_24, sg_iv1_i, len4_0, len4_1, len4_2, len4_3, len4_4, nLg_n, nLg_i, nLg_r, tc_c, tc_l, tc_r, tc_m, tc_n, tc_o, tc_0, inR, true_and, and_true, ne_eq, not_true_eq_false, not_false_eq_true, true_imp_iff, false_imp_iff, Int.toNat_natCast, lit_a, Nat.reduceAdd, or_true, true_or, or_false, false_or, Int.reduceEq, Int.reduceNe, Int.reduceLT, Int.reduceLE, Int.reduceNeg, sg_nil, hH.1]
      refine k_Hea_total hH h2 (by omega) nn.1 ?_
      have b := bt_b (wO_W hz (show (i : Int) < z 3 by omega)) (p := nw z i) (by omega)
      have b2 := lng_b hz i (by omega)
      have ih1 := ih (i + 1) (by omega) μ2 (some (.inl (tot z i))) (fun k hk => (f2 k hk).trans (f1 k hk))
      have et : bt (wO z i) (nw z i) = tot z i := rfl
      rw [et] at b ⊢
      unfold lng at ih1
      by_cases hlt : (lng z i).2 < tot z i
      · rw [if_pos hlt] at ih1
        refine wp_go b87_27 ?_; simp only [l87_27, sg_istore, okS_4, stL_4, sg_iload, ldI_4, sg_iload_2, sg_ic_le, sg_iload_3, sg_istore_1, sg_istore_2, nLg_n, nLg_i, nLg_r, tc_c, tc_l, tc_r, tc_m, tc_n, tc_o, tc_0, inR, true_and, and_true, ne_eq, not_true_eq_false, not_false_eq_true, true_imp_iff, false_imp_iff, Int.toNat_natCast, lit_a, Nat.reduceAdd, or_true, true_or, or_false, false_or, Int.reduceEq, Int.reduceNe, Int.reduceLT, Int.reduceLE, Int.reduceNeg, sg_nil]
        repeat' (first | with_reducible apply And.intro | (intro _) | ((first | refine wp_go b87_0 ?_ | refine wp_go b87_24 ?_ | refine wp_go b87_27 ?_ | refine wp_go b87_40 ?_ | refine wp_go b87_46 ?_); simp only [l87_0, l87_24, l87_27, l87_40, l87_46, sg_bipush, sg_istore_1, sg_istore_2, sg_iconst, sg_istore_3, sg_iv1_i, len4_0, len4_1, len4_2, len4_3, len4_4, sg_istore, okS_4, stL_4, sg_iload, ldI_4, sg_iload_2, sg_ic_le, sg_iload_3, sg_iinc, ldI_3, okS_3, stL_3, sg_goto, sg_iload_1, sg_iret0, nLg_n, nLg_i, nLg_r, tc_c, tc_l, tc_r, tc_m, tc_n, tc_o, tc_0, inR, true_and, and_true, ne_eq, not_true_eq_false, not_false_eq_true, true_imp_iff, false_imp_iff, Int.toNat_natCast, lit_a, Nat.reduceAdd, or_true, true_or, or_false, false_or, Int.reduceEq, Int.reduceNe, Int.reduceLT, Int.reduceLE, Int.reduceNeg, sg_nil]))
        all_goals (try omega)
        all_goals exact ih1
      · rw [if_neg hlt] at ih1
        refine wp_go b87_27 ?_; simp only [l87_27, sg_istore, okS_4, stL_4, sg_iload, ldI_4, sg_iload_2, sg_ic_le, sg_iload_3, sg_istore_1, sg_istore_2, nLg_n, nLg_i, nLg_r, tc_c, tc_l, tc_r, tc_m, tc_n, tc_o, tc_0, inR, true_and, and_true, ne_eq, not_true_eq_false, not_false_eq_true, true_imp_iff, false_imp_iff, Int.toNat_natCast, lit_a, Nat.reduceAdd, or_true, true_or, or_false, false_or, Int.reduceEq, Int.reduceNe, Int.reduceLT, Int.reduceLE, Int.reduceNeg, sg_nil]
        repeat' (first | with_reducible apply And.intro | (intro _) | ((first | refine wp_go b87_0 ?_ | refine wp_go b87_24 ?_ | refine wp_go b87_27 ?_ | refine wp_go b87_40 ?_ | refine wp_go b87_46 ?_); simp only [l87_0, l87_24, l87_27, l87_40, l87_46, sg_bipush, sg_istore_1, sg_istore_2, sg_iconst, sg_istore_3, sg_iv1_i, len4_0, len4_1, len4_2, len4_3, len4_4, sg_istore, okS_4, stL_4, sg_iload, ldI_4, sg_iload_2, sg_ic_le, sg_iload_3, sg_iinc, ldI_3, okS_3, stL_3, sg_goto, sg_iload_1, sg_iret0, nLg_n, nLg_i, nLg_r, tc_c, tc_l, tc_r, tc_m, tc_n, tc_o, tc_0, inR, true_and, and_true, ne_eq, not_true_eq_false, not_false_eq_true, true_imp_iff, false_imp_iff, Int.toNat_natCast, lit_a, Nat.reduceAdd, or_true, true_or, or_false, false_or, Int.reduceEq, Int.reduceNe, Int.reduceLT, Int.reduceLE, Int.reduceNeg, sg_nil]))
        all_goals (try omega)
        all_goals exact ih1
  refine wp_go b87_0 ?_; simp only [l87_0, sg_bipush, sg_istore_1, sg_istore_2, sg_iconst, sg_istore_3, nLg_n, nLg_i, nLg_r, tc_c, tc_l, tc_r, tc_m, tc_n, tc_o, tc_0, inR, true_and, and_true, ne_eq, not_true_eq_false, not_false_eq_true, true_imp_iff, false_imp_iff, Int.toNat_natCast, lit_a, Nat.reduceAdd, or_true, true_or, or_false, false_or, Int.reduceEq, Int.reduceNe, Int.reduceLT, Int.reduceLE, Int.reduceNeg, sg_nil]
  exact loop n 0 (by omega) μ none (fun _ _ => rfl)
def secs (z : Rw) (n l : Nat) : Int := (rn z (z (212 + 3 * l)) (z (213 + 3 * l)) n).2
def hrs (z : Rw) (n : Nat) (t : Int) (l : Nat) : Int := bit (rn z (z (212 + 3 * l)) (z (213 + 3 * l)) n).1 t
-- NS.secondsOfAll: blocks [0, 4, 29, 45]
theorem k_NS_secondsOfAll {d n m : Nat} {Q : QT} {μ : Mem} {z : Rw} (hz : IZ z) (hR : RC z μ 1) (hn : z 3 = (n : Int)) (hm : z 0 = (m : Int))
    (hq : ∀ μ' : Mem, (∀ k, k ≠ 392 → μ' k = μ k) → Q (.inl (sm (secs z m) n)) μ') : Call σ1 (d + 4) 90 [.inr (.inr 0)] μ Q := by
  refine e_90 ?_
  have q := hz.1
  have loop : ∀ k i : Nat, i + k = n → ∀ μ1 : Mem, (∀ k, k ≠ 392 → μ1 k = μ k) → wp σ1 (Call σ1 (d + 3)) 90 Q 4 [some (.inr (.inr 0)), some (.inl (sm (secs z m) i)), some (.inl (i : Int))] [] μ1 := by
    intro k
    induction k with
    | zero =>
      intro i hi μ1 f1
      have him : i = n := by omega
      subst him
      have hq := hq μ1 f1
      have R1 : RC z μ1 1 := RC_f (by omega) (fun k _ _ => f1 k (by omega)) hR
      have e3 : μ1 1 11 = (i : Int) := R1.1.2.2.2.trans hn
      refine wp_go b90_4 ?_; simp only [l90_4, sg_iload_2, sg_aload_0, sg_getfp, sg_getf0, sg_ic_ge, sg_iaload, sg_iv3_v, len4_0, len4_1, len4_2, len4_3, len4_4, nLg_n, nLg_i, nLg_r, tc_c, tc_l, tc_r, tc_m, tc_n, tc_o, tc_0, inR, true_and, and_true, ne_eq, not_true_eq_false, not_false_eq_true, true_imp_iff, false_imp_iff, Int.toNat_natCast, lit_a, Nat.reduceAdd, or_true, true_or, or_false, false_or, Int.reduceEq, Int.reduceNe, Int.reduceLT, Int.reduceLE, Int.reduceNeg, sg_nil, s1p, x0, x1, x2, x3, x4, x5, x6, x7, x8, x9, x10, x11, x12, x13, x56, x57, x388, x389, x390, x391, x392, x393, x394, x395, x396, x397, x398, x399, e3]
      repeat' (first | with_reducible apply And.intro | (intro _) | ((first | refine wp_go b90_0 ?_ | refine wp_go b90_29 ?_ | refine wp_go b90_45 ?_); simp only [l90_0, l90_29, l90_45, sg_iconst, sg_istore_1, sg_istore_2, sg_iload_1, sg_aload_0, sg_getfp, sg_getf0, sg_iadd, sg_iinc, ldI_2, okS_2, stL_2, sg_goto, sg_iret0, nLg_n, nLg_i, nLg_r, tc_c, tc_l, tc_r, tc_m, tc_n, tc_o, tc_0, inR, true_and, and_true, ne_eq, not_true_eq_false, not_false_eq_true, true_imp_iff, false_imp_iff, Int.toNat_natCast, lit_a, Nat.reduceAdd, or_true, true_or, or_false, false_or, Int.reduceEq, Int.reduceNe, Int.reduceLT, Int.reduceLE, Int.reduceNeg, sg_nil]))
      all_goals (try omega)
      all_goals exact hq
    | succ k ih =>
      intro i hi μ1 f1
      have R1 : RC z μ1 1 := RC_f (by omega) (fun k _ _ => f1 k (by omega)) hR
      have e3 : μ1 1 11 = (n : Int) := R1.1.2.2.2.trans hn
      obtain ⟨e10, e11, -, -⟩ := R1.2.2.2 i (by omega)
      have e11 : μ1 11 i = z (213 + 3 * i) := e11
      refine wp_go b90_4 ?_; simp only [l90_4, sg_iload_2, sg_aload_0, sg_getfp, sg_getf0, sg_ic_ge, sg_iaload, sg_iv3_v, len4_0, len4_1, len4_2, len4_3, len4_4, nLg_n, nLg_i, nLg_r, tc_c, tc_l, tc_r, tc_m, tc_n, tc_o, tc_0, inR, true_and, and_true, ne_eq, not_true_eq_false, not_false_eq_true, true_imp_iff, false_imp_iff, Int.toNat_natCast, lit_a, Nat.reduceAdd, or_true, true_or, or_false, false_or, Int.reduceEq, Int.reduceNe, Int.reduceLT, Int.reduceLE, Int.reduceNeg, sg_nil, s1p, x0, x1, x2, x3, x4, x5, x6, x7, x8, x9, x10, x11, x12, x13, x56, x57, x388, x389, x390, x391, x392, x393, x394, x395, x396, x397, x398, x399, e3, e11]
      repeat' (first | with_reducible apply And.intro | intro _)
      all_goals (try omega)
      refine k_NS_chooseAll hz R1.r0 R1.1.1 hm (by omega) e10 (hz.2.2.2.2 i (by omega)).2.1 (fun μ2 nb f2 c2 c3 c4 c5 _ _ _ => ?_)
      have ih1 := ih (i + 1) (by omega) μ2 (fun k hk => (f2 k hk).trans (f1 k hk))
      rw [sm_s] at ih1
      have c4 : μ2 392 4 = secs z m i := c4
      refine wp_go b90_29 ?_; simp only [l90_29, sg_iload_1, sg_aload_0, sg_getfp, sg_getf0, sg_iadd, sg_istore_1, sg_iinc, ldI_2, okS_2, stL_2, sg_goto, nLg_n, nLg_i, nLg_r, tc_c, tc_l, tc_r, tc_m, tc_n, tc_o, tc_0, inR, true_and, and_true, ne_eq, not_true_eq_false, not_false_eq_true, true_imp_iff, false_imp_iff, Int.toNat_natCast, lit_a, Nat.reduceAdd, or_true, true_or, or_false, false_or, Int.reduceEq, Int.reduceNe, Int.reduceLT, Int.reduceLE, Int.reduceNeg, sg_nil, s1p, x0, x1, x2, x3, x4, x5, x6, x7, x8, x9, x10, x11, x12, x13, x56, x57, x388, x389, x390, x391, x392, x393, x394, x395, x396, x397, x398, x399, c4]
      repeat' (first | with_reducible apply And.intro | (intro _) | ((first | refine wp_go b90_0 ?_ | refine wp_go b90_29 ?_ | refine wp_go b90_45 ?_); simp only [l90_0, l90_29, l90_45, sg_iconst, sg_istore_1, sg_istore_2, sg_iload_1, sg_aload_0, sg_getfp, sg_getf0, sg_iadd, sg_iinc, ldI_2, okS_2, stL_2, sg_goto, sg_iret0, nLg_n, nLg_i, nLg_r, tc_c, tc_l, tc_r, tc_m, tc_n, tc_o, tc_0, inR, true_and, and_true, ne_eq, not_true_eq_false, not_false_eq_true, true_imp_iff, false_imp_iff, Int.toNat_natCast, lit_a, Nat.reduceAdd, or_true, true_or, or_false, false_or, Int.reduceEq, Int.reduceNe, Int.reduceLT, Int.reduceLE, Int.reduceNeg, sg_nil]))
      all_goals (try omega)
      all_goals exact ih1
  refine wp_go b90_0 ?_; simp only [l90_0, sg_iconst, sg_istore_1, sg_istore_2, nLg_n, nLg_i, nLg_r, tc_c, tc_l, tc_r, tc_m, tc_n, tc_o, tc_0, inR, true_and, and_true, ne_eq, not_true_eq_false, not_false_eq_true, true_imp_iff, false_imp_iff, Int.toNat_natCast, lit_a, Nat.reduceAdd, or_true, true_or, or_false, false_or, Int.reduceEq, Int.reduceNe, Int.reduceLT, Int.reduceLE, Int.reduceNeg, sg_nil]
  exact loop n 0 (by omega) μ (fun _ _ => rfl)
-- NS.countHearers: blocks [0, 4, 29, 49]
theorem k_NS_countHearers {d n m : Nat} {Q : QT} {μ : Mem} {t : Int} {z : Rw} (hz : IZ z) (hR : RC z μ 1) (hn : z 3 = (n : Int)) (hm : z 0 = (m : Int))
    (hq : ∀ μ' : Mem, (∀ k, k ≠ 392 → μ' k = μ k) → Q (.inl (sm (hrs z m t) n)) μ') : Call σ1 (d + 4) 91 [.inr (.inr 0), .inl t] μ Q := by
  refine e_91 ?_
  have q := hz.1
  have loop : ∀ k i : Nat, i + k = n → ∀ μ1 : Mem, (∀ k, k ≠ 392 → μ1 k = μ k) → wp σ1 (Call σ1 (d + 3)) 91 Q 4 [some (.inr (.inr 0)), some (.inl t), some (.inl (sm (hrs z m t) i)), some (.inl (i : Int))] [] μ1 := by
    intro k
    induction k with
    | zero =>
      intro i hi μ1 f1
      have him : i = n := by omega
      subst him
      have hq := hq μ1 f1
      have R1 : RC z μ1 1 := RC_f (by omega) (fun k _ _ => f1 k (by omega)) hR
      have e3 : μ1 1 11 = (i : Int) := R1.1.2.2.2.trans hn
      refine wp_go b91_4 ?_; simp only [l91_4, sg_iload_3, sg_aload_0, sg_getfp, sg_getf0, sg_ic_ge, sg_iaload, sg_iv3_v, len4_0, len4_1, len4_2, len4_3, len4_4, nLg_n, nLg_i, nLg_r, tc_c, tc_l, tc_r, tc_m, tc_n, tc_o, tc_0, inR, true_and, and_true, ne_eq, not_true_eq_false, not_false_eq_true, true_imp_iff, false_imp_iff, Int.toNat_natCast, lit_a, Nat.reduceAdd, or_true, true_or, or_false, false_or, Int.reduceEq, Int.reduceNe, Int.reduceLT, Int.reduceLE, Int.reduceNeg, sg_nil, s1p, x0, x1, x2, x3, x4, x5, x6, x7, x8, x9, x10, x11, x12, x13, x56, x57, x388, x389, x390, x391, x392, x393, x394, x395, x396, x397, x398, x399, e3]
      repeat' (first | with_reducible apply And.intro | (intro _) | ((first | refine wp_go b91_0 ?_ | refine wp_go b91_29 ?_ | refine wp_go b91_49 ?_); simp only [l91_0, l91_29, l91_49, sg_iconst, sg_istore_2, sg_istore_3, sg_iload_2, sg_aload_0, sg_getfp, sg_getf0, sg_iload_1, sg_ishr, sg_iand, sg_iadd, sg_iinc, ldI_3, okS_3, stL_3, sg_goto, sg_iret0, nLg_n, nLg_i, nLg_r, tc_c, tc_l, tc_r, tc_m, tc_n, tc_o, tc_0, inR, true_and, and_true, ne_eq, not_true_eq_false, not_false_eq_true, true_imp_iff, false_imp_iff, Int.toNat_natCast, lit_a, Nat.reduceAdd, or_true, true_or, or_false, false_or, Int.reduceEq, Int.reduceNe, Int.reduceLT, Int.reduceLE, Int.reduceNeg, sg_nil]))
      all_goals (try omega)
      all_goals exact hq
    | succ k ih =>
      intro i hi μ1 f1
      have R1 : RC z μ1 1 := RC_f (by omega) (fun k _ _ => f1 k (by omega)) hR
      have e3 : μ1 1 11 = (n : Int) := R1.1.2.2.2.trans hn
      obtain ⟨e10, e11, -, -⟩ := R1.2.2.2 i (by omega)
      have e11 : μ1 11 i = z (213 + 3 * i) := e11
      refine wp_go b91_4 ?_; simp only [l91_4, sg_iload_3, sg_aload_0, sg_getfp, sg_getf0, sg_ic_ge, sg_iaload, sg_iv3_v, len4_0, len4_1, len4_2, len4_3, len4_4, nLg_n, nLg_i, nLg_r, tc_c, tc_l, tc_r, tc_m, tc_n, tc_o, tc_0, inR, true_and, and_true, ne_eq, not_true_eq_false, not_false_eq_true, true_imp_iff, false_imp_iff, Int.toNat_natCast, lit_a, Nat.reduceAdd, or_true, true_or, or_false, false_or, Int.reduceEq, Int.reduceNe, Int.reduceLT, Int.reduceLE, Int.reduceNeg, sg_nil, s1p, x0, x1, x2, x3, x4, x5, x6, x7, x8, x9, x10, x11, x12, x13, x56, x57, x388, x389, x390, x391, x392, x393, x394, x395, x396, x397, x398, x399, e3, e11]
      repeat' (first | with_reducible apply And.intro | intro _)
      all_goals (try omega)
      refine k_NS_chooseAll hz R1.r0 R1.1.1 hm (by omega) e10 (hz.2.2.2.2 i (by omega)).2.1 (fun μ2 nb f2 c2 c3 c4 c5 _ _ _ => ?_)
      have ih1 := ih (i + 1) (by omega) μ2 (fun k hk => (f2 k hk).trans (f1 k hk))
      rw [sm_s] at ih1
      unfold hrs bit at ih1
      refine wp_go b91_29 ?_; simp only [l91_29, sg_iload_2, sg_aload_0, sg_getfp, sg_getf0, sg_iload_1, sg_ishr, sg_iconst, sg_iand, sg_iadd, sg_istore_2, sg_iinc, ldI_3, okS_3, stL_3, sg_goto, nLg_n, nLg_i, nLg_r, tc_c, tc_l, tc_r, tc_m, tc_n, tc_o, tc_0, inR, true_and, and_true, ne_eq, not_true_eq_false, not_false_eq_true, true_imp_iff, false_imp_iff, Int.toNat_natCast, lit_a, Nat.reduceAdd, or_true, true_or, or_false, false_or, Int.reduceEq, Int.reduceNe, Int.reduceLT, Int.reduceLE, Int.reduceNeg, sg_nil, s1p, x0, x1, x2, x3, x4, x5, x6, x7, x8, x9, x10, x11, x12, x13, x56, x57, x388, x389, x390, x391, x392, x393, x394, x395, x396, x397, x398, x399, c3]
      repeat' (first | with_reducible apply And.intro | (intro _) | ((first | refine wp_go b91_0 ?_ | refine wp_go b91_29 ?_ | refine wp_go b91_49 ?_); simp only [l91_0, l91_29, l91_49, sg_iconst, sg_istore_2, sg_istore_3, sg_iload_2, sg_aload_0, sg_getfp, sg_getf0, sg_iload_1, sg_ishr, sg_iand, sg_iadd, sg_iinc, ldI_3, okS_3, stL_3, sg_goto, sg_iret0, nLg_n, nLg_i, nLg_r, tc_c, tc_l, tc_r, tc_m, tc_n, tc_o, tc_0, inR, true_and, and_true, ne_eq, not_true_eq_false, not_false_eq_true, true_imp_iff, false_imp_iff, Int.toNat_natCast, lit_a, Nat.reduceAdd, or_true, true_or, or_false, false_or, Int.reduceEq, Int.reduceNe, Int.reduceLT, Int.reduceLE, Int.reduceNeg, sg_nil]))
      all_goals (try omega)
      all_goals exact ih1
  refine wp_go b91_0 ?_; simp only [l91_0, sg_iconst, sg_istore_2, sg_istore_3, nLg_n, nLg_i, nLg_r, tc_c, tc_l, tc_r, tc_m, tc_n, tc_o, tc_0, inR, true_and, and_true, ne_eq, not_true_eq_false, not_false_eq_true, true_imp_iff, false_imp_iff, Int.toNat_natCast, lit_a, Nat.reduceAdd, or_true, true_or, or_false, false_or, Int.reduceEq, Int.reduceNe, Int.reduceLT, Int.reduceLE, Int.reduceNeg, sg_nil]
  exact loop n 0 (by omega) μ (fun _ _ => rfl)
end
section
theorem sm_h (f : Nat → Int) : ∀ n : Nat, sm f (n + 1) = f 0 + sm (fun i => f (i + 1)) n
  | 0 => by rw [sm_s, sm_0, sm_0]; omega
  | n + 1 => by rw [sm_s, sm_h f n, sm_s]; omega
def zm (z : Rw) (i : Nat) : Int := z (4 + 3 * i)
def zl (z : Rw) (i : Nat) : Int := z (5 + 3 * i)
def zb (z : Rw) (i : Nat) : Int := z (6 + 3 * i)
def zn (z : Rw) : Nat := (z 0).toNat
def znl (z : Rw) : Nat := (z 3).toNat
theorem zn_eq {z : Rw} (hz : IZ z) : z 0 = ((zn z : Nat) : Int) ∧ 1 ≤ zn z ∧ zn z ≤ 24 := by have := hz.1; unfold zn; omega
theorem znl_eq {z : Rw} (hz : IZ z) : z 3 = ((znl z : Nat) : Int) ∧ znl z ≤ 6 := by have := hz.1; unfold znl; omega
/-- what a question leaves: its scratch cells, and the end of the rows -/
def QF (z : Rw) (μ μ' : Mem) : Prop := (∀ k, k ≠ 6 → k ≠ 7 → (k < 392 ∨ 400 ≤ k) → μ' k = μ k) ∧ RC z μ' 1
theorem QF_r {z : Rw} {μ : Mem} (h : RC z μ 1) : QF z μ μ := ⟨fun _ _ _ _ => rfl, h⟩
theorem QF_s {z : Rw} {μ μ' : Mem} (hz : IZ z) (h : RC z μ 1) (hf : ∀ k, (k < 392 ∨ 400 ≤ k) → μ' k = μ k) : QF z μ μ' := ⟨fun k _ _ h => hf k h, RC_f (by have := hz.1; omega) (fun k _ _ => hf k (by omega)) h⟩
def F_sentence (z : Rw) (s w : Int) : Int := if s < 0 ∨ z 0 ≤ s then -1 else if w = 0 then zm z s.toNat else if w = 1 then zl z s.toNat else if w = 2 then sm (zl z) s.toNat else if w = 3 then sm (zb z) (s.toNat + 1) - 1 else if w = 4 then zb z s.toNat else if w = 5 then z (76 + 5 * s.toNat) else -2
theorem sm_zl {z : Rw} {μ : Mem} {n : Nat} (hR : RC z μ 1) (h : (n : Int) ≤ z 0) : sm (μ 4) n = sm (zl z) n := sm_c (fun i hi => (hR.2.1 i (by omega)).2.1)
theorem sm_zb {z : Rw} {μ : Mem} {n : Nat} (hz : IZ z) (hR : RC z μ 1) (h : (n : Int) < z 0) : sm (fun i => μ 5 (i + 1)) n = sm (zb z) (n + 1) - 1 := by
  rw [sm_h (zb z) n, show zb z 0 = 1 from hz.2.2.1, sm_c (f := fun i => μ 5 (i + 1)) (g := fun i => zb z (i + 1)) (fun i hi => (hR.2.1 (i + 1) (by omega)).2.2.1)]
  omega
-- NS.sentence: blocks [0, 8, 13, 52, 65, 78, 89, 90, 101, 102, 115, 125]
theorem k_NS_sentence {d : Nat} {Q : QT} {μ : Mem} {s w : Int} {z : Rw} (hz : IZ z) (hR : RC z μ 1) (hs : inR s) (hw : inR w) (hq : ∀ μ', QF z μ μ' → Q (.inl (F_sentence z s w)) μ') : Call σ1 (d + 3) 59 [.inr (.inr 0), .inl s, .inl w] μ Q := by
  refine e_59 ?_
  have h := hq μ (QF_r hR)
  have q := hz.1
  refine wp_go b59_0 ?_; simp only [l59_0, sg_aload_0, sg_getfp, sg_iload_1, sg_iv2_i, len4_0, len4_1, len4_2, len4_3, len4_4, nLg_n, nLg_i, nLg_r, tc_c, tc_l, tc_r, tc_m, tc_n, tc_o, tc_0, inR, true_and, and_true, ne_eq, not_true_eq_false, not_false_eq_true, true_imp_iff, false_imp_iff, Int.toNat_natCast, lit_a, Nat.reduceAdd, or_true, true_or, or_false, false_or, Int.reduceEq, Int.reduceNe, Int.reduceLT, Int.reduceLE, Int.reduceNeg, sg_nil, s1p, x0, x1, x2, x3, x4, x5, x6, x7, x8, x9, x10, x11, x12, x13, x56, x57, x388, x389, x390, x391, x392, x393, x394, x395, x396, x397, x398, x399]
  refine k_Sta_hasSentence st1 hR hz hs (fun h1 h2 => ?_) (fun h0 => ?_)
  · obtain ⟨n, rfl⟩ := nat_of h1
    obtain ⟨a1, a2, a3, a4, -⟩ := hR.2.1 n h2
    have a1 : μ 3 n = zm z n := a1
    have a2 : μ 4 n = zl z n := a2
    have a3 : μ 5 n = zb z n := a3
    have a4 : μ 6 n = z (76 + 5 * n) := a4
    have b1 : sm (μ (2 + 2)) n = sm (zl z) n := sm_zl hR (by omega)
    have b2 : sm (fun i => μ (2 + 3) (i + 1)) n = sm (zb z) (n + 1) - 1 := sm_zb hz hR h2
    unfold inR at hw
    refine wp_go b59_8 ?_; simp only [l59_8, sg_if_ne, sg_iconst, sg_iret0, nLg_n, nLg_i, nLg_r, tc_c, tc_l, tc_r, tc_m, tc_n, tc_o, tc_0, inR, true_and, and_true, ne_eq, not_true_eq_false, not_false_eq_true, true_imp_iff, false_imp_iff, Int.toNat_natCast, lit_a, Nat.reduceAdd, or_true, true_or, or_false, false_or, Int.reduceEq, Int.reduceNe, Int.reduceLT, Int.reduceLE, Int.reduceNeg, sg_nil]
    repeat' (first | with_reducible apply And.intro | (intro _) | refine k_Sen_timeOf st1.2.1 (by omega) ?_ | refine k_Sen_chapterOf st1.2.1 (by omega) ?_ | ((first | refine wp_go b59_0 ?_ | refine wp_go b59_8 ?_ | refine wp_go b59_13 ?_ | refine wp_go b59_52 ?_ | refine wp_go b59_65 ?_ | refine wp_go b59_78 ?_ | refine wp_go b59_89 ?_ | refine wp_go b59_90 ?_ | refine wp_go b59_101 ?_ | refine wp_go b59_102 ?_ | refine wp_go b59_115 ?_ | refine wp_go b59_125 ?_); simp only [l59_0, l59_8, l59_13, l59_52, l59_65, l59_78, l59_89, l59_90, l59_101, l59_102, l59_115, l59_125, sg_aload_0, sg_getfp, sg_iload_1, sg_iv2_i, len4_0, len4_1, len4_2, len4_3, len4_4, sg_if_ne, sg_iconst, sg_iret0, sg_iload_2, sg_tsw, swc_n, swc_c, List.toList_toArray, Int.reduceAdd, Int.reduceToNat, sg_iaload, sg_bipush, nLg_n, nLg_i, nLg_r, tc_c, tc_l, tc_r, tc_m, tc_n, tc_o, tc_0, inR, true_and, and_true, ne_eq, not_true_eq_false, not_false_eq_true, true_imp_iff, false_imp_iff, Int.toNat_natCast, lit_a, Nat.reduceAdd, or_true, true_or, or_false, false_or, Int.reduceEq, Int.reduceNe, Int.reduceLT, Int.reduceLE, Int.reduceNeg, sg_nil, s1p, x0, x1, x2, x3, x4, x5, x6, x7, x8, x9, x10, x11, x12, x13, x56, x57, x388, x389, x390, x391, x392, x393, x394, x395, x396, x397, x398, x399, a1, a2, a3, a4]))
    all_goals (try omega)
    all_goals first
      | (revert h; unfold F_sentence; (try simp only [Int.toNat_natCast]); (repeat (first | rw [if_neg (by omega)] | rw [if_pos (by omega)])); exact id)
      | (rw [b1]; (revert h; unfold F_sentence; (try simp only [Int.toNat_natCast]); (repeat (first | rw [if_neg (by omega)] | rw [if_pos (by omega)])); exact id))
      | (rw [b2]; (revert h; unfold F_sentence; (try simp only [Int.toNat_natCast]); (repeat (first | rw [if_neg (by omega)] | rw [if_pos (by omega)])); exact id))
  · refine wp_go b59_8 ?_; simp only [l59_8, sg_if_ne, sg_iconst, sg_iret0, nLg_n, nLg_i, nLg_r, tc_c, tc_l, tc_r, tc_m, tc_n, tc_o, tc_0, inR, true_and, and_true, ne_eq, not_true_eq_false, not_false_eq_true, true_imp_iff, false_imp_iff, Int.toNat_natCast, lit_a, Nat.reduceAdd, or_true, true_or, or_false, false_or, Int.reduceEq, Int.reduceNe, Int.reduceLT, Int.reduceLE, Int.reduceNeg, sg_nil]
    repeat' (first | with_reducible apply And.intro | (intro _) | ((first | refine wp_go b59_0 ?_ | refine wp_go b59_8 ?_ | refine wp_go b59_13 ?_ | refine wp_go b59_52 ?_ | refine wp_go b59_65 ?_ | refine wp_go b59_78 ?_ | refine wp_go b59_89 ?_ | refine wp_go b59_90 ?_ | refine wp_go b59_101 ?_ | refine wp_go b59_102 ?_ | refine wp_go b59_115 ?_ | refine wp_go b59_125 ?_); simp only [l59_0, l59_8, l59_13, l59_52, l59_65, l59_78, l59_89, l59_90, l59_101, l59_102, l59_115, l59_125, sg_aload_0, sg_getfp, sg_iload_1, sg_iv2_i, len4_0, len4_1, len4_2, len4_3, len4_4, sg_if_ne, sg_iconst, sg_iret0, sg_iload_2, sg_tsw, swc_n, swc_c, List.toList_toArray, Int.reduceAdd, Int.reduceToNat, sg_iaload, sg_bipush, nLg_n, nLg_i, nLg_r, tc_c, tc_l, tc_r, tc_m, tc_n, tc_o, tc_0, inR, true_and, and_true, ne_eq, not_true_eq_false, not_false_eq_true, true_imp_iff, false_imp_iff, Int.toNat_natCast, lit_a, Nat.reduceAdd, or_true, true_or, or_false, false_or, Int.reduceEq, Int.reduceNe, Int.reduceLT, Int.reduceLE, Int.reduceNeg, sg_nil, s1p, x0, x1, x2, x3, x4, x5, x6, x7, x8, x9, x10, x11, x12, x13, x56, x57, x388, x389, x390, x391, x392, x393, x394, x395, x396, x397, x398, x399]))
    all_goals (try omega)
    all_goals (revert h; unfold F_sentence; (try simp only [Int.toNat_natCast]); (repeat (first | rw [if_neg (by omega)] | rw [if_pos (by omega)])); exact id)
end
section
def wm (w : Rw) (i : Nat) : Int := w (5 * i + 3)
def wl4 (w : Rw) (i : Nat) : Int := w (5 * i + 4)
def wb (w : Rw) (i : Nat) : Int := w (5 * i + 5)
theorem h_len {w : Rw} {μ : Mem} {c p : Nat} (H : HR w μ c) (hp : (p : Int) ≤ w 0) : sm (μ (c + 1 + 2)) p = sm (wl4 w) p := sm_c (fun i hi => (H.2 i (by omega)).2.1)
theorem h_bg {w : Rw} {μ : Mem} {c p : Nat} (H : HR w μ c) (hp : (p : Int) ≤ w 0) : sm (μ (c + 1 + 3)) p = sm (wb w) p := sm_c (fun i hi => (H.2 i (by omega)).2.2.1)
theorem h_bg1 {w : Rw} {μ : Mem} {c p : Nat} (H : HR w μ c) (W : WH w) (hp : (p : Int) < w 0) : sm (fun i => μ (c + 1 + 3) (i + 1)) p = sm (wb w) (p + 1) - 1 := by
  rw [sm_h (wb w) p, show wb w 0 = 1 from W.2.2.1, sm_c (f := fun i => μ (c + 1 + 3) (i + 1)) (g := fun i => wb w (i + 1)) (fun i hi => (H.2 (i + 1) (by omega)).2.2.1)]
  omega
def F_marked (z : Rw) (m : Int) : Int := fsI (fun i => decide (zm z i = m)) (-1) (zn z)
theorem fs_zm {z : Rw} {μ : Mem} (hz : IZ z) (hR : RC z μ 1) (m : Int) : fsI (fun i => decide (μ 3 i = m)) (-1) (zn z) = F_marked z m := fsI_c (fun i hi => by rw [show μ 3 i = zm z i from (hR.2.1 i (by have := zn_eq hz; omega)).1])
theorem zm_r {z : Rw} {μ : Mem} (hz : IZ z) (hR : RC z μ 1) {i : Nat} (hi : i < zn z) : inR (μ 3 i) := by
  have e := zn_eq hz
  have q := (hz.2.1 i (by omega)).1
  unfold inR; rw [show μ 3 i = z (4 + 3 * i) from (hR.2.1 i (by omega)).1]; omega
-- NS.marked: blocks [0, 11]
theorem k_NS_marked {d : Nat} {Q : QT} {μ : Mem} {m : Int} {z : Rw} (hz : IZ z) (hR : RC z μ 1) (hm : inR m) (hq : ∀ μ', QF z μ μ' → Q (.inl (F_marked z m)) μ') : Call σ1 (d + 2) 60 [.inr (.inr 0), .inl m] μ Q := by
  refine e_60 ?_
  have h := hq μ (QF_r hR)
  have e := zn_eq hz
  refine wp_go b60_0 ?_; simp only [l60_0, sg_aload_0, sg_getfp, sg_iload_1, sg_iv2_i, len4_0, len4_1, len4_2, len4_3, len4_4, nLg_n, nLg_i, nLg_r, tc_c, tc_l, tc_r, tc_m, tc_n, tc_o, tc_0, inR, true_and, and_true, ne_eq, not_true_eq_false, not_false_eq_true, true_imp_iff, false_imp_iff, Int.toNat_natCast, lit_a, Nat.reduceAdd, or_true, true_or, or_false, false_or, Int.reduceEq, Int.reduceNe, Int.reduceLT, Int.reduceLE, Int.reduceNeg, sg_nil, s1p, x0, x1, x2, x3, x4, x5, x6, x7, x8, x9, x10, x11, x12, x13, x56, x57, x388, x389, x390, x391, x392, x393, x394, x395, x396, x397, x398, x399]
  refine k_Sen_placeOf st1.2.1 (n := zn z) (hR.1.1.trans e.1) e.2.2 (fun i hi => zm_r hz hR hi) hm ?_
  rw [fs_zm hz hR m]
  refine wp_go b60_11 ?_; simp only [l60_11, sg_iret0, nLg_n, nLg_i, nLg_r, tc_c, tc_l, tc_r, tc_m, tc_n, tc_o, tc_0, inR, true_and, and_true, ne_eq, not_true_eq_false, not_false_eq_true, true_imp_iff, false_imp_iff, Int.toNat_natCast, lit_a, Nat.reduceAdd, or_true, true_or, or_false, false_or, Int.reduceEq, Int.reduceNe, Int.reduceLT, Int.reduceLE, Int.reduceNeg, sg_nil]
  exact h
def F_booked (z : Rw) (s p : Int) : Int := if s < 0 ∨ z 0 ≤ s then -1 else if p < 0 ∨ z (76 + 5 * s.toNat) ≤ p then -1 else z (77 + 5 * s.toNat + p.toNat)
-- NS.booked: blocks [0, 8, 27, 30, 32, 41]
theorem k_NS_booked {d : Nat} {Q : QT} {μ : Mem} {s p : Int} {z : Rw} (hz : IZ z) (hR : RC z μ 1) (hs : inR s) (hp : inR p) (hq : ∀ μ', QF z μ μ' → Q (.inl (F_booked z s p)) μ') : Call σ1 (d + 3) 61 [.inr (.inr 0), .inl s, .inl p] μ Q := by
  refine e_61 ?_
  have h := hq μ (QF_r hR)
  have q := hz.1
  refine wp_go b61_0 ?_; simp only [l61_0, sg_aload_0, sg_getfp, sg_iload_1, sg_iv2_i, len4_0, len4_1, len4_2, len4_3, len4_4, nLg_n, nLg_i, nLg_r, tc_c, tc_l, tc_r, tc_m, tc_n, tc_o, tc_0, inR, true_and, and_true, ne_eq, not_true_eq_false, not_false_eq_true, true_imp_iff, false_imp_iff, Int.toNat_natCast, lit_a, Nat.reduceAdd, or_true, true_or, or_false, false_or, Int.reduceEq, Int.reduceNe, Int.reduceLT, Int.reduceLE, Int.reduceNeg, sg_nil, s1p, x0, x1, x2, x3, x4, x5, x6, x7, x8, x9, x10, x11, x12, x13, x56, x57, x388, x389, x390, x391, x392, x393, x394, x395, x396, x397, x398, x399]
  refine k_Sta_hasSentence st1 hR hz hs (fun h1 h2 => ?_) (fun h0 => ?_)
  · obtain ⟨n, rfl⟩ := nat_of h1
    have a4 : μ 6 n = z (76 + 5 * n) := (hR.2.1 n h2).2.2.2.1
    have r := (hz.2.1 n h2).2.2.2.1
    refine wp_go b61_8 ?_; simp only [l61_8, sg_if_eq, sg_iload_2, sg_iconst, sg_aload_0, sg_getfp, sg_iload_1, sg_iaload, sg_isub, len4_0, len4_1, len4_2, len4_3, len4_4, sg_is3_1, nLg_n, nLg_i, nLg_r, tc_c, tc_l, tc_r, tc_m, tc_n, tc_o, tc_0, inR, true_and, and_true, ne_eq, not_true_eq_false, not_false_eq_true, true_imp_iff, false_imp_iff, Int.toNat_natCast, lit_a, Nat.reduceAdd, or_true, true_or, or_false, false_or, Int.reduceEq, Int.reduceNe, Int.reduceLT, Int.reduceLE, Int.reduceNeg, sg_nil, s1p, x0, x1, x2, x3, x4, x5, x6, x7, x8, x9, x10, x11, x12, x13, x56, x57, x388, x389, x390, x391, x392, x393, x394, x395, x396, x397, x398, x399, a4]
    repeat' (first | with_reducible apply And.intro | (intro _) | refine k_NS_isWithin hp (by unfold inR; omega) (by unfold inR; omega) ?_ ?_ | ((first | refine wp_go b61_0 ?_ | refine wp_go b61_8 ?_ | refine wp_go b61_27 ?_ | refine wp_go b61_30 ?_ | refine wp_go b61_32 ?_ | refine wp_go b61_41 ?_); simp only [l61_0, l61_8, l61_27, l61_30, l61_32, l61_41, sg_aload_0, sg_getfp, sg_iload_1, sg_iv2_i, len4_0, len4_1, len4_2, len4_3, len4_4, sg_if_eq, sg_iload_2, sg_iconst, sg_iaload, sg_isub, sg_is3_1, sg_if_ne, sg_iret0, sg_iv3_i, nLg_n, nLg_i, nLg_r, tc_c, tc_l, tc_r, tc_m, tc_n, tc_o, tc_0, inR, true_and, and_true, ne_eq, not_true_eq_false, not_false_eq_true, true_imp_iff, false_imp_iff, Int.toNat_natCast, lit_a, Nat.reduceAdd, or_true, true_or, or_false, false_or, Int.reduceEq, Int.reduceNe, Int.reduceLT, Int.reduceLE, Int.reduceNeg, sg_nil, s1p, x0, x1, x2, x3, x4, x5, x6, x7, x8, x9, x10, x11, x12, x13, x56, x57, x388, x389, x390, x391, x392, x393, x394, x395, x396, x397, x398, x399]))
    all_goals (try omega)
    · obtain ⟨j, rfl⟩ := nat_of (show 0 ≤ p by omega)
      refine k_Sta_inRow st1 hR.r0 hz h2 (by omega) ?_
      refine wp_go b61_41 ?_; simp only [l61_41, sg_iret0, nLg_n, nLg_i, nLg_r, tc_c, tc_l, tc_r, tc_m, tc_n, tc_o, tc_0, inR, true_and, and_true, ne_eq, not_true_eq_false, not_false_eq_true, true_imp_iff, false_imp_iff, Int.toNat_natCast, lit_a, Nat.reduceAdd, or_true, true_or, or_false, false_or, Int.reduceEq, Int.reduceNe, Int.reduceLT, Int.reduceLE, Int.reduceNeg, sg_nil]
      (revert h; unfold F_booked; (try simp only [Int.toNat_natCast]); (repeat (first | rw [if_neg (by omega)] | rw [if_pos (by omega)])); exact id)
    · (revert h; unfold F_booked; (try simp only [Int.toNat_natCast]); (repeat (first | rw [if_neg (by omega)] | rw [if_pos (by omega)])); exact id)
  · refine wp_go b61_8 ?_; simp only [l61_8, sg_if_eq, sg_iload_2, sg_iconst, sg_aload_0, sg_getfp, sg_iload_1, sg_iaload, sg_isub, len4_0, len4_1, len4_2, len4_3, len4_4, sg_is3_1, nLg_n, nLg_i, nLg_r, tc_c, tc_l, tc_r, tc_m, tc_n, tc_o, tc_0, inR, true_and, and_true, ne_eq, not_true_eq_false, not_false_eq_true, true_imp_iff, false_imp_iff, Int.toNat_natCast, lit_a, Nat.reduceAdd, or_true, true_or, or_false, false_or, Int.reduceEq, Int.reduceNe, Int.reduceLT, Int.reduceLE, Int.reduceNeg, sg_nil]
    repeat' (first | with_reducible apply And.intro | (intro _) | ((first | refine wp_go b61_0 ?_ | refine wp_go b61_8 ?_ | refine wp_go b61_27 ?_ | refine wp_go b61_30 ?_ | refine wp_go b61_32 ?_ | refine wp_go b61_41 ?_); simp only [l61_0, l61_8, l61_27, l61_30, l61_32, l61_41, sg_aload_0, sg_getfp, sg_iload_1, sg_iv2_i, len4_0, len4_1, len4_2, len4_3, len4_4, sg_if_eq, sg_iload_2, sg_iconst, sg_iaload, sg_isub, sg_is3_1, sg_if_ne, sg_iret0, sg_iv3_i, nLg_n, nLg_i, nLg_r, tc_c, tc_l, tc_r, tc_m, tc_n, tc_o, tc_0, inR, true_and, and_true, ne_eq, not_true_eq_false, not_false_eq_true, true_imp_iff, false_imp_iff, Int.toNat_natCast, lit_a, Nat.reduceAdd, or_true, true_or, or_false, false_or, Int.reduceEq, Int.reduceNe, Int.reduceLT, Int.reduceLE, Int.reduceNeg, sg_nil, s1p, x0, x1, x2, x3, x4, x5, x6, x7, x8, x9, x10, x11, x12, x13, x56, x57, x388, x389, x390, x391, x392, x393, x394, x395, x396, x397, x398, x399]))
    all_goals (try omega)
    all_goals (revert h; unfold F_booked; (try simp only [Int.toNat_natCast]); (repeat (first | rw [if_neg (by omega)] | rw [if_pos (by omega)])); exact id)
def F_ofNotice (z : Rw) (t w : Int) : Int := if t < 0 ∨ z 2 ≤ t then -1 else if w = 0 then z (196 + 2 * t.toNat) else if w = 1 then z (197 + 2 * t.toNat) else if w = 2 then sm (brk z t) (zn z) else if w = 3 then sm (hrs z (zn z) t) (znl z) else -2
-- NS.ofNotice: blocks [0, 8, 13, 44, 54, 64, 72, 73, 78, 79]
theorem k_NS_ofNotice {d : Nat} {Q : QT} {μ : Mem} {t w : Int} {z : Rw} (hz : IZ z) (hR : RC z μ 1) (ht : inR t) (hw : inR w) (hq : ∀ μ', QF z μ μ' → Q (.inl (F_ofNotice z t w)) μ') : Call σ1 (d + 5) 62 [.inr (.inr 0), .inl t, .inl w] μ Q := by
  refine e_62 ?_
  have h := hq μ (QF_r hR)
  have q := hz.1
  have e := zn_eq hz
  have e3 := znl_eq hz
  refine wp_go b62_0 ?_; simp only [l62_0, sg_aload_0, sg_getfp, sg_iload_1, sg_iv2_i, len4_0, len4_1, len4_2, len4_3, len4_4, nLg_n, nLg_i, nLg_r, tc_c, tc_l, tc_r, tc_m, tc_n, tc_o, tc_0, inR, true_and, and_true, ne_eq, not_true_eq_false, not_false_eq_true, true_imp_iff, false_imp_iff, Int.toNat_natCast, lit_a, Nat.reduceAdd, or_true, true_or, or_false, false_or, Int.reduceEq, Int.reduceNe, Int.reduceLT, Int.reduceLE, Int.reduceNeg, sg_nil, s1p, x0, x1, x2, x3, x4, x5, x6, x7, x8, x9, x10, x11, x12, x13, x56, x57, x388, x389, x390, x391, x392, x393, x394, x395, x396, x397, x398, x399]
  refine k_Sta_hasNotice st1 hR hz ht (fun h1 h2 => ?_) (fun h0 => ?_)
  · obtain ⟨n, rfl⟩ := nat_of h1
    obtain ⟨a1, a2⟩ := hR.2.2.1 n h2
    have a1 : μ 8 n = z (196 + 2 * n) := a1
    have a2 : μ 9 n = z (197 + 2 * n) := a2
    unfold inR at hw
    refine wp_go b62_8 ?_; simp only [l62_8, sg_if_ne, sg_iconst, sg_iret0, nLg_n, nLg_i, nLg_r, tc_c, tc_l, tc_r, tc_m, tc_n, tc_o, tc_0, inR, true_and, and_true, ne_eq, not_true_eq_false, not_false_eq_true, true_imp_iff, false_imp_iff, Int.toNat_natCast, lit_a, Nat.reduceAdd, or_true, true_or, or_false, false_or, Int.reduceEq, Int.reduceNe, Int.reduceLT, Int.reduceLE, Int.reduceNeg, sg_nil]
    repeat' (first | with_reducible apply And.intro | intro _)
    all_goals (try omega)
    refine wp_go b62_13 ?_; simp only [l62_13, sg_iload_2, sg_tsw, swc_n, swc_c, List.toList_toArray, Int.reduceAdd, Int.reduceToNat, nLg_n, nLg_i, nLg_r, tc_c, tc_l, tc_r, tc_m, tc_n, tc_o, tc_0, inR, true_and, and_true, ne_eq, not_true_eq_false, not_false_eq_true, true_imp_iff, false_imp_iff, Int.toNat_natCast, lit_a, Nat.reduceAdd, or_true, true_or, or_false, false_or, Int.reduceEq, Int.reduceNe, Int.reduceLT, Int.reduceLE, Int.reduceNeg, sg_nil]
    repeat' (first | with_reducible apply And.intro | (intro _))
    all_goals (try omega)
    · refine wp_go b62_44 ?_; simp only [l62_44, sg_aload_0, sg_getfp, sg_iload_1, sg_iaload, sg_iret0, nLg_n, nLg_i, nLg_r, tc_c, tc_l, tc_r, tc_m, tc_n, tc_o, tc_0, inR, true_and, and_true, ne_eq, not_true_eq_false, not_false_eq_true, true_imp_iff, false_imp_iff, Int.toNat_natCast, lit_a, Nat.reduceAdd, or_true, true_or, or_false, false_or, Int.reduceEq, Int.reduceNe, Int.reduceLT, Int.reduceLE, Int.reduceNeg, sg_nil, s1p, x0, x1, x2, x3, x4, x5, x6, x7, x8, x9, x10, x11, x12, x13, x56, x57, x388, x389, x390, x391, x392, x393, x394, x395, x396, x397, x398, x399, a1]
      repeat' (first | with_reducible apply And.intro | (intro _) | ((first | refine wp_go b62_0 ?_ | refine wp_go b62_8 ?_ | refine wp_go b62_13 ?_ | refine wp_go b62_44 ?_ | refine wp_go b62_54 ?_ | refine wp_go b62_64 ?_ | refine wp_go b62_72 ?_ | refine wp_go b62_73 ?_ | refine wp_go b62_78 ?_ | refine wp_go b62_79 ?_); simp only [l62_0, l62_8, l62_13, l62_44, l62_54, l62_64, l62_72, l62_73, l62_78, l62_79, sg_aload_0, sg_getfp, sg_iload_1, sg_iv2_i, len4_0, len4_1, len4_2, len4_3, len4_4, sg_if_ne, sg_iconst, sg_iret0, sg_iload_2, sg_tsw, swc_n, swc_c, List.toList_toArray, Int.reduceAdd, Int.reduceToNat, sg_iaload, sg_bipush, nLg_n, nLg_i, nLg_r, tc_c, tc_l, tc_r, tc_m, tc_n, tc_o, tc_0, inR, true_and, and_true, ne_eq, not_true_eq_false, not_false_eq_true, true_imp_iff, false_imp_iff, Int.toNat_natCast, lit_a, Nat.reduceAdd, or_true, true_or, or_false, false_or, Int.reduceEq, Int.reduceNe, Int.reduceLT, Int.reduceLE, Int.reduceNeg, sg_nil]))
      all_goals (try omega)
      (revert h; unfold F_ofNotice; (try simp only [Int.toNat_natCast]); (repeat (first | rw [if_neg (by omega)] | rw [if_pos (by omega)])); exact id)
    · refine wp_go b62_54 ?_; simp only [l62_54, sg_aload_0, sg_getfp, sg_iload_1, sg_iaload, sg_iret0, nLg_n, nLg_i, nLg_r, tc_c, tc_l, tc_r, tc_m, tc_n, tc_o, tc_0, inR, true_and, and_true, ne_eq, not_true_eq_false, not_false_eq_true, true_imp_iff, false_imp_iff, Int.toNat_natCast, lit_a, Nat.reduceAdd, or_true, true_or, or_false, false_or, Int.reduceEq, Int.reduceNe, Int.reduceLT, Int.reduceLE, Int.reduceNeg, sg_nil, s1p, x0, x1, x2, x3, x4, x5, x6, x7, x8, x9, x10, x11, x12, x13, x56, x57, x388, x389, x390, x391, x392, x393, x394, x395, x396, x397, x398, x399, a2]
      repeat' (first | with_reducible apply And.intro | (intro _) | ((first | refine wp_go b62_0 ?_ | refine wp_go b62_8 ?_ | refine wp_go b62_13 ?_ | refine wp_go b62_44 ?_ | refine wp_go b62_54 ?_ | refine wp_go b62_64 ?_ | refine wp_go b62_72 ?_ | refine wp_go b62_73 ?_ | refine wp_go b62_78 ?_ | refine wp_go b62_79 ?_); simp only [l62_0, l62_8, l62_13, l62_44, l62_54, l62_64, l62_72, l62_73, l62_78, l62_79, sg_aload_0, sg_getfp, sg_iload_1, sg_iv2_i, len4_0, len4_1, len4_2, len4_3, len4_4, sg_if_ne, sg_iconst, sg_iret0, sg_iload_2, sg_tsw, swc_n, swc_c, List.toList_toArray, Int.reduceAdd, Int.reduceToNat, sg_iaload, sg_bipush, nLg_n, nLg_i, nLg_r, tc_c, tc_l, tc_r, tc_m, tc_n, tc_o, tc_0, inR, true_and, and_true, ne_eq, not_true_eq_false, not_false_eq_true, true_imp_iff, false_imp_iff, Int.toNat_natCast, lit_a, Nat.reduceAdd, or_true, true_or, or_false, false_or, Int.reduceEq, Int.reduceNe, Int.reduceLT, Int.reduceLE, Int.reduceNeg, sg_nil]))
      all_goals (try omega)
      (revert h; unfold F_ofNotice; (try simp only [Int.toNat_natCast]); (repeat (first | rw [if_neg (by omega)] | rw [if_pos (by omega)])); exact id)
    · refine wp_go b62_64 ?_; simp only [l62_64, sg_aload_0, sg_getfp, sg_iload_1, sg_iv2_i, len4_0, len4_1, len4_2, len4_3, len4_4, nLg_n, nLg_i, nLg_r, tc_c, tc_l, tc_r, tc_m, tc_n, tc_o, tc_0, inR, true_and, and_true, ne_eq, not_true_eq_false, not_false_eq_true, true_imp_iff, false_imp_iff, Int.toNat_natCast, lit_a, Nat.reduceAdd, or_true, true_or, or_false, false_or, Int.reduceEq, Int.reduceNe, Int.reduceLT, Int.reduceLE, Int.reduceNeg, sg_nil, s1p, x0, x1, x2, x3, x4, x5, x6, x7, x8, x9, x10, x11, x12, x13, x56, x57, x388, x389, x390, x391, x392, x393, x394, x395, x396, x397, x398, x399]
      refine k_Sta_countBreaksWith st1 hR hz e.1 ht ?_
      refine wp_go b62_72 ?_; simp only [l62_72, sg_iret0, nLg_n, nLg_i, nLg_r, tc_c, tc_l, tc_r, tc_m, tc_n, tc_o, tc_0, inR, true_and, and_true, ne_eq, not_true_eq_false, not_false_eq_true, true_imp_iff, false_imp_iff, Int.toNat_natCast, lit_a, Nat.reduceAdd, or_true, true_or, or_false, false_or, Int.reduceEq, Int.reduceNe, Int.reduceLT, Int.reduceLE, Int.reduceNeg, sg_nil]
      (revert h; unfold F_ofNotice; (try simp only [Int.toNat_natCast]); (repeat (first | rw [if_neg (by omega)] | rw [if_pos (by omega)])); exact id)
    · refine wp_go b62_73 ?_; simp only [l62_73, sg_aload_0, sg_iload_1, sg_iv2_i, len4_0, len4_1, len4_2, len4_3, len4_4, nLg_n, nLg_i, nLg_r, tc_c, tc_l, tc_r, tc_m, tc_n, tc_o, tc_0, inR, true_and, and_true, ne_eq, not_true_eq_false, not_false_eq_true, true_imp_iff, false_imp_iff, Int.toNat_natCast, lit_a, Nat.reduceAdd, or_true, true_or, or_false, false_or, Int.reduceEq, Int.reduceNe, Int.reduceLT, Int.reduceLE, Int.reduceNeg, sg_nil, s1p, x0, x1, x2, x3, x4, x5, x6, x7, x8, x9, x10, x11, x12, x13, x56, x57, x388, x389, x390, x391, x392, x393, x394, x395, x396, x397, x398, x399]
      refine k_NS_countHearers hz hR e3.1 e.1 (fun μ' f => ?_)
      have h := hq μ' (QF_s hz hR (fun k hk => f k (by omega)))
      refine wp_go b62_78 ?_; simp only [l62_78, sg_iret0, nLg_n, nLg_i, nLg_r, tc_c, tc_l, tc_r, tc_m, tc_n, tc_o, tc_0, inR, true_and, and_true, ne_eq, not_true_eq_false, not_false_eq_true, true_imp_iff, false_imp_iff, Int.toNat_natCast, lit_a, Nat.reduceAdd, or_true, true_or, or_false, false_or, Int.reduceEq, Int.reduceNe, Int.reduceLT, Int.reduceLE, Int.reduceNeg, sg_nil]
      (revert h; unfold F_ofNotice; (try simp only [Int.toNat_natCast]); (repeat (first | rw [if_neg (by omega)] | rw [if_pos (by omega)])); exact id)
    · refine wp_go b62_79 ?_; simp only [l62_79, sg_bipush, sg_iret0, nLg_n, nLg_i, nLg_r, tc_c, tc_l, tc_r, tc_m, tc_n, tc_o, tc_0, inR, true_and, and_true, ne_eq, not_true_eq_false, not_false_eq_true, true_imp_iff, false_imp_iff, Int.toNat_natCast, lit_a, Nat.reduceAdd, or_true, true_or, or_false, false_or, Int.reduceEq, Int.reduceNe, Int.reduceLT, Int.reduceLE, Int.reduceNeg, sg_nil]
      (revert h; unfold F_ofNotice; (try simp only [Int.toNat_natCast]); (repeat (first | rw [if_neg (by omega)] | rw [if_pos (by omega)])); exact id)
  · refine wp_go b62_8 ?_; simp only [l62_8, sg_if_ne, sg_iconst, sg_iret0, nLg_n, nLg_i, nLg_r, tc_c, tc_l, tc_r, tc_m, tc_n, tc_o, tc_0, inR, true_and, and_true, ne_eq, not_true_eq_false, not_false_eq_true, true_imp_iff, false_imp_iff, Int.toNat_natCast, lit_a, Nat.reduceAdd, or_true, true_or, or_false, false_or, Int.reduceEq, Int.reduceNe, Int.reduceLT, Int.reduceLE, Int.reduceNeg, sg_nil]
    repeat' (first | with_reducible apply And.intro | (intro _) | ((first | refine wp_go b62_0 ?_ | refine wp_go b62_8 ?_ | refine wp_go b62_13 ?_ | refine wp_go b62_44 ?_ | refine wp_go b62_54 ?_ | refine wp_go b62_64 ?_ | refine wp_go b62_72 ?_ | refine wp_go b62_73 ?_ | refine wp_go b62_78 ?_ | refine wp_go b62_79 ?_); simp only [l62_0, l62_8, l62_13, l62_44, l62_54, l62_64, l62_72, l62_73, l62_78, l62_79, sg_aload_0, sg_getfp, sg_iload_1, sg_iv2_i, len4_0, len4_1, len4_2, len4_3, len4_4, sg_if_ne, sg_iconst, sg_iret0, sg_iload_2, sg_tsw, swc_n, swc_c, List.toList_toArray, Int.reduceAdd, Int.reduceToNat, sg_iaload, sg_bipush, nLg_n, nLg_i, nLg_r, tc_c, tc_l, tc_r, tc_m, tc_n, tc_o, tc_0, inR, true_and, and_true, ne_eq, not_true_eq_false, not_false_eq_true, true_imp_iff, false_imp_iff, Int.toNat_natCast, lit_a, Nat.reduceAdd, or_true, true_or, or_false, false_or, Int.reduceEq, Int.reduceNe, Int.reduceLT, Int.reduceLE, Int.reduceNeg, sg_nil, s1p, x0, x1, x2, x3, x4, x5, x6, x7, x8, x9, x10, x11, x12, x13, x56, x57, x388, x389, x390, x391, x392, x393, x394, x395, x396, x397, x398, x399]))
    all_goals (try omega)
    all_goals (revert h; unfold F_ofNotice; (try simp only [Int.toNat_natCast]); (repeat (first | rw [if_neg (by omega)] | rw [if_pos (by omega)])); exact id)
def F_of (z : Rw) (l w : Int) : Int := if l < 0 ∨ z 3 ≤ l then -1 else if w = 0 then z (212 + 3 * l.toNat) else if w = 1 then z (213 + 3 * l.toNat) else if w = 2 then z (214 + 3 * l.toNat) else if w = 3 then old z l.toNat else if w = 4 then tot z l.toNat else if w = 5 then sm (fun i => bI (wO z l.toNat (5 * i + 1) ≠ -6)) (nw z l.toNat) else if w = 6 then sm (fun i => wO z l.toNat (5 * i + 2)) (nw z l.toNat) else if w = 7 then wO z l.toNat 0 else -2
-- NS.of: blocks [0, 8, 13, 60, 70, 80, 92, 93, 98, 101, 102, 107, 110, 111, 116, 119, 120, 125, 128, 129, 134, 141]
theorem k_NS_of {d : Nat} {Q : QT} {μ : Mem} {l w : Int} {z : Rw} (hz : IZ z) (hR : RC z μ 1) (hl : inR l) (hw : inR w) (hq : ∀ μ', QF z μ μ' → Q (.inl (F_of z l w)) μ') : Call σ1 (d + 5) 63 [.inr (.inr 0), .inl l, .inl w] μ Q := by
  refine e_63 ?_
  have h := hq μ (QF_r hR)
  have q := hz.1
  refine wp_go b63_0 ?_; simp only [l63_0, sg_aload_0, sg_getfp, sg_iload_1, sg_iv2_i, len4_0, len4_1, len4_2, len4_3, len4_4, nLg_n, nLg_i, nLg_r, tc_c, tc_l, tc_r, tc_m, tc_n, tc_o, tc_0, inR, true_and, and_true, ne_eq, not_true_eq_false, not_false_eq_true, true_imp_iff, false_imp_iff, Int.toNat_natCast, lit_a, Nat.reduceAdd, or_true, true_or, or_false, false_or, Int.reduceEq, Int.reduceNe, Int.reduceLT, Int.reduceLE, Int.reduceNeg, sg_nil, s1p, x0, x1, x2, x3, x4, x5, x6, x7, x8, x9, x10, x11, x12, x13, x56, x57, x388, x389, x390, x391, x392, x393, x394, x395, x396, x397, x398, x399]
  refine k_Sta_hasListener st1 hR hz hl (fun h1 h2 => ?_) (fun h0 => ?_)
  · obtain ⟨n, rfl⟩ := nat_of h1
    obtain ⟨a1, a2, a3, -⟩ := hR.2.2.2 n h2
    have a1 : μ 10 n = z (212 + 3 * n) := a1
    have a2 : μ 11 n = z (213 + 3 * n) := a2
    have a3 : μ 12 n = z (214 + 3 * n) := a3
    have z01 := (hz.2.2.2.2 n h2).2.2.1
    have nn := nw_eq hz h2
    have W := wO_W hz h2
    unfold inR at hw
    refine wp_go b63_8 ?_; simp only [l63_8, sg_if_ne, sg_iconst, sg_iret0, nLg_n, nLg_i, nLg_r, tc_c, tc_l, tc_r, tc_m, tc_n, tc_o, tc_0, inR, true_and, and_true, ne_eq, not_true_eq_false, not_false_eq_true, true_imp_iff, false_imp_iff, Int.toNat_natCast, lit_a, Nat.reduceAdd, or_true, true_or, or_false, false_or, Int.reduceEq, Int.reduceNe, Int.reduceLT, Int.reduceLE, Int.reduceNeg, sg_nil]
    repeat' (first | with_reducible apply And.intro | intro _)
    all_goals (try omega)
    refine wp_go b63_13 ?_; simp only [l63_13, sg_iload_2, sg_tsw, swc_n, swc_c, List.toList_toArray, Int.reduceAdd, Int.reduceToNat, nLg_n, nLg_i, nLg_r, tc_c, tc_l, tc_r, tc_m, tc_n, tc_o, tc_0, inR, true_and, and_true, ne_eq, not_true_eq_false, not_false_eq_true, true_imp_iff, false_imp_iff, Int.toNat_natCast, lit_a, Nat.reduceAdd, or_true, true_or, or_false, false_or, Int.reduceEq, Int.reduceNe, Int.reduceLT, Int.reduceLE, Int.reduceNeg, sg_nil]
    repeat' (first | with_reducible apply And.intro | (intro _))
    all_goals (try omega)
    · refine wp_go b63_60 ?_; simp only [l63_60, sg_aload_0, sg_getfp, sg_iload_1, sg_iaload, sg_iret0, nLg_n, nLg_i, nLg_r, tc_c, tc_l, tc_r, tc_m, tc_n, tc_o, tc_0, inR, true_and, and_true, ne_eq, not_true_eq_false, not_false_eq_true, true_imp_iff, false_imp_iff, Int.toNat_natCast, lit_a, Nat.reduceAdd, or_true, true_or, or_false, false_or, Int.reduceEq, Int.reduceNe, Int.reduceLT, Int.reduceLE, Int.reduceNeg, sg_nil, s1p, x0, x1, x2, x3, x4, x5, x6, x7, x8, x9, x10, x11, x12, x13, x56, x57, x388, x389, x390, x391, x392, x393, x394, x395, x396, x397, x398, x399, a1]
      repeat' (first | with_reducible apply And.intro | (intro _) | ((first | refine wp_go b63_0 ?_ | refine wp_go b63_8 ?_ | refine wp_go b63_13 ?_ | refine wp_go b63_60 ?_ | refine wp_go b63_70 ?_ | refine wp_go b63_80 ?_ | refine wp_go b63_92 ?_ | refine wp_go b63_93 ?_ | refine wp_go b63_98 ?_ | refine wp_go b63_101 ?_ | refine wp_go b63_102 ?_ | refine wp_go b63_107 ?_ | refine wp_go b63_110 ?_ | refine wp_go b63_111 ?_ | refine wp_go b63_116 ?_ | refine wp_go b63_119 ?_ | refine wp_go b63_120 ?_ | refine wp_go b63_125 ?_ | refine wp_go b63_128 ?_ | refine wp_go b63_129 ?_ | refine wp_go b63_134 ?_ | refine wp_go b63_141 ?_); simp only [l63_0, l63_8, l63_13, l63_60, l63_70, l63_80, l63_92, l63_93, l63_98, l63_101, l63_102, l63_107, l63_110, l63_111, l63_116, l63_119, l63_120, l63_125, l63_128, l63_129, l63_134, l63_141, sg_aload_0, sg_getfp, sg_iload_1, sg_iv2_i, len4_0, len4_1, len4_2, len4_3, len4_4, sg_if_ne, sg_iconst, sg_iret0, sg_iload_2, sg_tsw, swc_n, swc_c, List.toList_toArray, Int.reduceAdd, Int.reduceToNat, sg_iaload, sg_baload, sg_is1_1, sg_iv2_r, sg_iv1_i, sg_getf0, sg_bipush, nLg_n, nLg_i, nLg_r, tc_c, tc_l, tc_r, tc_m, tc_n, tc_o, tc_0, inR, true_and, and_true, ne_eq, not_true_eq_false, not_false_eq_true, true_imp_iff, false_imp_iff, Int.toNat_natCast, lit_a, Nat.reduceAdd, or_true, true_or, or_false, false_or, Int.reduceEq, Int.reduceNe, Int.reduceLT, Int.reduceLE, Int.reduceNeg, sg_nil]))
      all_goals (try omega)
      (revert h; unfold F_of; (try simp only [Int.toNat_natCast]); (repeat (first | rw [if_neg (by omega)] | rw [if_pos (by omega)])); exact id)
    · refine wp_go b63_70 ?_; simp only [l63_70, sg_aload_0, sg_getfp, sg_iload_1, sg_iaload, sg_iret0, nLg_n, nLg_i, nLg_r, tc_c, tc_l, tc_r, tc_m, tc_n, tc_o, tc_0, inR, true_and, and_true, ne_eq, not_true_eq_false, not_false_eq_true, true_imp_iff, false_imp_iff, Int.toNat_natCast, lit_a, Nat.reduceAdd, or_true, true_or, or_false, false_or, Int.reduceEq, Int.reduceNe, Int.reduceLT, Int.reduceLE, Int.reduceNeg, sg_nil, s1p, x0, x1, x2, x3, x4, x5, x6, x7, x8, x9, x10, x11, x12, x13, x56, x57, x388, x389, x390, x391, x392, x393, x394, x395, x396, x397, x398, x399, a2]
      repeat' (first | with_reducible apply And.intro | (intro _) | ((first | refine wp_go b63_0 ?_ | refine wp_go b63_8 ?_ | refine wp_go b63_13 ?_ | refine wp_go b63_60 ?_ | refine wp_go b63_70 ?_ | refine wp_go b63_80 ?_ | refine wp_go b63_92 ?_ | refine wp_go b63_93 ?_ | refine wp_go b63_98 ?_ | refine wp_go b63_101 ?_ | refine wp_go b63_102 ?_ | refine wp_go b63_107 ?_ | refine wp_go b63_110 ?_ | refine wp_go b63_111 ?_ | refine wp_go b63_116 ?_ | refine wp_go b63_119 ?_ | refine wp_go b63_120 ?_ | refine wp_go b63_125 ?_ | refine wp_go b63_128 ?_ | refine wp_go b63_129 ?_ | refine wp_go b63_134 ?_ | refine wp_go b63_141 ?_); simp only [l63_0, l63_8, l63_13, l63_60, l63_70, l63_80, l63_92, l63_93, l63_98, l63_101, l63_102, l63_107, l63_110, l63_111, l63_116, l63_119, l63_120, l63_125, l63_128, l63_129, l63_134, l63_141, sg_aload_0, sg_getfp, sg_iload_1, sg_iv2_i, len4_0, len4_1, len4_2, len4_3, len4_4, sg_if_ne, sg_iconst, sg_iret0, sg_iload_2, sg_tsw, swc_n, swc_c, List.toList_toArray, Int.reduceAdd, Int.reduceToNat, sg_iaload, sg_baload, sg_is1_1, sg_iv2_r, sg_iv1_i, sg_getf0, sg_bipush, nLg_n, nLg_i, nLg_r, tc_c, tc_l, tc_r, tc_m, tc_n, tc_o, tc_0, inR, true_and, and_true, ne_eq, not_true_eq_false, not_false_eq_true, true_imp_iff, false_imp_iff, Int.toNat_natCast, lit_a, Nat.reduceAdd, or_true, true_or, or_false, false_or, Int.reduceEq, Int.reduceNe, Int.reduceLT, Int.reduceLE, Int.reduceNeg, sg_nil]))
      all_goals (try omega)
      (revert h; unfold F_of; (try simp only [Int.toNat_natCast]); (repeat (first | rw [if_neg (by omega)] | rw [if_pos (by omega)])); exact id)
    · refine wp_go b63_80 ?_; simp only [l63_80, sg_aload_0, sg_getfp, sg_iload_1, sg_baload, len4_0, len4_1, len4_2, len4_3, len4_4, sg_is1_1, nLg_n, nLg_i, nLg_r, tc_c, tc_l, tc_r, tc_m, tc_n, tc_o, tc_0, inR, true_and, and_true, ne_eq, not_true_eq_false, not_false_eq_true, true_imp_iff, false_imp_iff, Int.toNat_natCast, lit_a, Nat.reduceAdd, or_true, true_or, or_false, false_or, Int.reduceEq, Int.reduceNe, Int.reduceLT, Int.reduceLE, Int.reduceNeg, sg_nil, s1p, x0, x1, x2, x3, x4, x5, x6, x7, x8, x9, x10, x11, x12, x13, x56, x57, x388, x389, x390, x391, x392, x393, x394, x395, x396, x397, x398, x399, a3]
      repeat' (first | with_reducible apply And.intro | intro _)
      all_goals (try omega)
      refine k_NS_asNumber (by omega) ?_
      refine wp_go b63_92 ?_; simp only [l63_92, sg_iret0, nLg_n, nLg_i, nLg_r, tc_c, tc_l, tc_r, tc_m, tc_n, tc_o, tc_0, inR, true_and, and_true, ne_eq, not_true_eq_false, not_false_eq_true, true_imp_iff, false_imp_iff, Int.toNat_natCast, lit_a, Nat.reduceAdd, or_true, true_or, or_false, false_or, Int.reduceEq, Int.reduceNe, Int.reduceLT, Int.reduceLE, Int.reduceNeg, sg_nil]
      (revert h; unfold F_of; (try simp only [Int.toNat_natCast]); (repeat (first | rw [if_neg (by omega)] | rw [if_pos (by omega)])); exact id)
    · refine wp_go b63_93 ?_; simp only [l63_93, sg_aload_0, sg_iload_1, sg_iv2_i, len4_0, len4_1, len4_2, len4_3, len4_4, nLg_n, nLg_i, nLg_r, tc_c, tc_l, tc_r, tc_m, tc_n, tc_o, tc_0, inR, true_and, and_true, ne_eq, not_true_eq_false, not_false_eq_true, true_imp_iff, false_imp_iff, Int.toNat_natCast, lit_a, Nat.reduceAdd, or_true, true_or, or_false, false_or, Int.reduceEq, Int.reduceNe, Int.reduceLT, Int.reduceLE, Int.reduceNeg, sg_nil, s1p, x0, x1, x2, x3, x4, x5, x6, x7, x8, x9, x10, x11, x12, x13, x56, x57, x388, x389, x390, x391, x392, x393, x394, x395, x396, x397, x398, x399]
      refine k_NS_isOutOfDate hz hR h2 (fun μ' f => ?_)
      have h := hq μ' (QF_s hz hR f)
      refine wp_go b63_98 ?_; simp only [l63_98, len4_0, len4_1, len4_2, len4_3, len4_4, sg_is1_1, nLg_n, nLg_i, nLg_r, tc_c, tc_l, tc_r, tc_m, tc_n, tc_o, tc_0, inR, true_and, and_true, ne_eq, not_true_eq_false, not_false_eq_true, true_imp_iff, false_imp_iff, Int.toNat_natCast, lit_a, Nat.reduceAdd, or_true, true_or, or_false, false_or, Int.reduceEq, Int.reduceNe, Int.reduceLT, Int.reduceLE, Int.reduceNeg, sg_nil]
      refine k_NS_asNumber (old_01 z n) ?_
      refine wp_go b63_101 ?_; simp only [l63_101, sg_iret0, nLg_n, nLg_i, nLg_r, tc_c, tc_l, tc_r, tc_m, tc_n, tc_o, tc_0, inR, true_and, and_true, ne_eq, not_true_eq_false, not_false_eq_true, true_imp_iff, false_imp_iff, Int.toNat_natCast, lit_a, Nat.reduceAdd, or_true, true_or, or_false, false_or, Int.reduceEq, Int.reduceNe, Int.reduceLT, Int.reduceLE, Int.reduceNeg, sg_nil]
      (revert h; unfold F_of; (try simp only [Int.toNat_natCast]); (repeat (first | rw [if_neg (by omega)] | rw [if_pos (by omega)])); exact id)
    · refine wp_go b63_102 ?_; simp only [l63_102, sg_aload_0, sg_iload_1, sg_iv2_r, len4_0, len4_1, len4_2, len4_3, len4_4, nLg_n, nLg_i, nLg_r, tc_c, tc_l, tc_r, tc_m, tc_n, tc_o, tc_0, inR, true_and, and_true, ne_eq, not_true_eq_false, not_false_eq_true, true_imp_iff, false_imp_iff, Int.toNat_natCast, lit_a, Nat.reduceAdd, or_true, true_or, or_false, false_or, Int.reduceEq, Int.reduceNe, Int.reduceLT, Int.reduceLE, Int.reduceNeg, sg_nil, s1p, x0, x1, x2, x3, x4, x5, x6, x7, x8, x9, x10, x11, x12, x13, x56, x57, x388, x389, x390, x391, x392, x393, x394, x395, x396, x397, x398, x399]
      refine k_NS_hearingOf hz hR h2 (fun μ' c f H hH _ _ => ?_)
      have h := hq μ' (QF_s hz hR f)
      refine wp_go b63_107 ?_; simp only [l63_107, sg_iv1_i, len4_0, len4_1, len4_2, len4_3, len4_4, nLg_n, nLg_i, nLg_r, tc_c, tc_l, tc_r, tc_m, tc_n, tc_o, tc_0, inR, true_and, and_true, ne_eq, not_true_eq_false, not_false_eq_true, true_imp_iff, false_imp_iff, Int.toNat_natCast, lit_a, Nat.reduceAdd, or_true, true_or, or_false, false_or, Int.reduceEq, Int.reduceNe, Int.reduceLT, Int.reduceLE, Int.reduceNeg, sg_nil, hH.1]
      refine k_Hea_total hH H (by omega) nn.1 ?_
      have et : bt (wO z n) (nw z n) = tot z n := rfl
      rw [et]
      refine wp_go b63_110 ?_; simp only [l63_110, sg_iret0, nLg_n, nLg_i, nLg_r, tc_c, tc_l, tc_r, tc_m, tc_n, tc_o, tc_0, inR, true_and, and_true, ne_eq, not_true_eq_false, not_false_eq_true, true_imp_iff, false_imp_iff, Int.toNat_natCast, lit_a, Nat.reduceAdd, or_true, true_or, or_false, false_or, Int.reduceEq, Int.reduceNe, Int.reduceLT, Int.reduceLE, Int.reduceNeg, sg_nil]
      (revert h; unfold F_of; (try simp only [Int.toNat_natCast]); (repeat (first | rw [if_neg (by omega)] | rw [if_pos (by omega)])); exact id)
    · refine wp_go b63_111 ?_; simp only [l63_111, sg_aload_0, sg_iload_1, sg_iv2_r, len4_0, len4_1, len4_2, len4_3, len4_4, nLg_n, nLg_i, nLg_r, tc_c, tc_l, tc_r, tc_m, tc_n, tc_o, tc_0, inR, true_and, and_true, ne_eq, not_true_eq_false, not_false_eq_true, true_imp_iff, false_imp_iff, Int.toNat_natCast, lit_a, Nat.reduceAdd, or_true, true_or, or_false, false_or, Int.reduceEq, Int.reduceNe, Int.reduceLT, Int.reduceLE, Int.reduceNeg, sg_nil, s1p, x0, x1, x2, x3, x4, x5, x6, x7, x8, x9, x10, x11, x12, x13, x56, x57, x388, x389, x390, x391, x392, x393, x394, x395, x396, x397, x398, x399]
      refine k_NS_hearingOf hz hR h2 (fun μ' c f H hH _ _ => ?_)
      have h := hq μ' (QF_s hz hR f)
      refine wp_go b63_116 ?_; simp only [l63_116, sg_iv1_i, len4_0, len4_1, len4_2, len4_3, len4_4, nLg_n, nLg_i, nLg_r, tc_c, tc_l, tc_r, tc_m, tc_n, tc_o, tc_0, inR, true_and, and_true, ne_eq, not_true_eq_false, not_false_eq_true, true_imp_iff, false_imp_iff, Int.toNat_natCast, lit_a, Nat.reduceAdd, or_true, true_or, or_false, false_or, Int.reduceEq, Int.reduceNe, Int.reduceLT, Int.reduceLE, Int.reduceNeg, sg_nil, hH.1]
      refine k_Hea_countNotices hH H W nn.1 ?_
      refine wp_go b63_119 ?_; simp only [l63_119, sg_iret0, nLg_n, nLg_i, nLg_r, tc_c, tc_l, tc_r, tc_m, tc_n, tc_o, tc_0, inR, true_and, and_true, ne_eq, not_true_eq_false, not_false_eq_true, true_imp_iff, false_imp_iff, Int.toNat_natCast, lit_a, Nat.reduceAdd, or_true, true_or, or_false, false_or, Int.reduceEq, Int.reduceNe, Int.reduceLT, Int.reduceLE, Int.reduceNeg, sg_nil]
      (revert h; unfold F_of; (try simp only [Int.toNat_natCast]); (repeat (first | rw [if_neg (by omega)] | rw [if_pos (by omega)])); exact id)
    · refine wp_go b63_120 ?_; simp only [l63_120, sg_aload_0, sg_iload_1, sg_iv2_r, len4_0, len4_1, len4_2, len4_3, len4_4, nLg_n, nLg_i, nLg_r, tc_c, tc_l, tc_r, tc_m, tc_n, tc_o, tc_0, inR, true_and, and_true, ne_eq, not_true_eq_false, not_false_eq_true, true_imp_iff, false_imp_iff, Int.toNat_natCast, lit_a, Nat.reduceAdd, or_true, true_or, or_false, false_or, Int.reduceEq, Int.reduceNe, Int.reduceLT, Int.reduceLE, Int.reduceNeg, sg_nil, s1p, x0, x1, x2, x3, x4, x5, x6, x7, x8, x9, x10, x11, x12, x13, x56, x57, x388, x389, x390, x391, x392, x393, x394, x395, x396, x397, x398, x399]
      refine k_NS_hearingOf hz hR h2 (fun μ' c f H hH _ _ => ?_)
      have h := hq μ' (QF_s hz hR f)
      refine wp_go b63_125 ?_; simp only [l63_125, sg_iv1_i, len4_0, len4_1, len4_2, len4_3, len4_4, nLg_n, nLg_i, nLg_r, tc_c, tc_l, tc_r, tc_m, tc_n, tc_o, tc_0, inR, true_and, and_true, ne_eq, not_true_eq_false, not_false_eq_true, true_imp_iff, false_imp_iff, Int.toNat_natCast, lit_a, Nat.reduceAdd, or_true, true_or, or_false, false_or, Int.reduceEq, Int.reduceNe, Int.reduceLT, Int.reduceLE, Int.reduceNeg, sg_nil, hH.1]
      refine k_Hea_noticeSeconds hH H (by omega) nn.1 ?_
      refine wp_go b63_128 ?_; simp only [l63_128, sg_iret0, nLg_n, nLg_i, nLg_r, tc_c, tc_l, tc_r, tc_m, tc_n, tc_o, tc_0, inR, true_and, and_true, ne_eq, not_true_eq_false, not_false_eq_true, true_imp_iff, false_imp_iff, Int.toNat_natCast, lit_a, Nat.reduceAdd, or_true, true_or, or_false, false_or, Int.reduceEq, Int.reduceNe, Int.reduceLT, Int.reduceLE, Int.reduceNeg, sg_nil]
      (revert h; unfold F_of; (try simp only [Int.toNat_natCast]); (repeat (first | rw [if_neg (by omega)] | rw [if_pos (by omega)])); exact id)
    · refine wp_go b63_129 ?_; simp only [l63_129, sg_aload_0, sg_iload_1, sg_iv2_r, len4_0, len4_1, len4_2, len4_3, len4_4, nLg_n, nLg_i, nLg_r, tc_c, tc_l, tc_r, tc_m, tc_n, tc_o, tc_0, inR, true_and, and_true, ne_eq, not_true_eq_false, not_false_eq_true, true_imp_iff, false_imp_iff, Int.toNat_natCast, lit_a, Nat.reduceAdd, or_true, true_or, or_false, false_or, Int.reduceEq, Int.reduceNe, Int.reduceLT, Int.reduceLE, Int.reduceNeg, sg_nil, s1p, x0, x1, x2, x3, x4, x5, x6, x7, x8, x9, x10, x11, x12, x13, x56, x57, x388, x389, x390, x391, x392, x393, x394, x395, x396, x397, x398, x399]
      refine k_NS_hearingOf hz hR h2 (fun μ' c f H hH _ _ => ?_)
      have h := hq μ' (QF_s hz hR f)
      obtain ⟨a0, a1, a2, a3, a4, a5, a6, p0, p1, p2, p3, p4, p5⟩ := heaF hH
      refine wp_go b63_134 ?_; simp only [l63_134, sg_getfp, sg_getf0, sg_iret0, nLg_n, nLg_i, nLg_r, tc_c, tc_l, tc_r, tc_m, tc_n, tc_o, tc_0, inR, true_and, and_true, ne_eq, not_true_eq_false, not_false_eq_true, true_imp_iff, false_imp_iff, Int.toNat_natCast, lit_a, Nat.reduceAdd, or_true, true_or, or_false, false_or, Int.reduceEq, Int.reduceNe, Int.reduceLT, Int.reduceLE, Int.reduceNeg, sg_nil, a0, a1, a2, a3, a4, a5, a6, p0, p1, p2, p3, p4, p5, H.1]
      (revert h; unfold F_of; (try simp only [Int.toNat_natCast]); (repeat (first | rw [if_neg (by omega)] | rw [if_pos (by omega)])); exact id)
    · refine wp_go b63_141 ?_; simp only [l63_141, sg_bipush, sg_iret0, nLg_n, nLg_i, nLg_r, tc_c, tc_l, tc_r, tc_m, tc_n, tc_o, tc_0, inR, true_and, and_true, ne_eq, not_true_eq_false, not_false_eq_true, true_imp_iff, false_imp_iff, Int.toNat_natCast, lit_a, Nat.reduceAdd, or_true, true_or, or_false, false_or, Int.reduceEq, Int.reduceNe, Int.reduceLT, Int.reduceLE, Int.reduceNeg, sg_nil]
      (revert h; unfold F_of; (try simp only [Int.toNat_natCast]); (repeat (first | rw [if_neg (by omega)] | rw [if_pos (by omega)])); exact id)
  · refine wp_go b63_8 ?_; simp only [l63_8, sg_if_ne, sg_iconst, sg_iret0, nLg_n, nLg_i, nLg_r, tc_c, tc_l, tc_r, tc_m, tc_n, tc_o, tc_0, inR, true_and, and_true, ne_eq, not_true_eq_false, not_false_eq_true, true_imp_iff, false_imp_iff, Int.toNat_natCast, lit_a, Nat.reduceAdd, or_true, true_or, or_false, false_or, Int.reduceEq, Int.reduceNe, Int.reduceLT, Int.reduceLE, Int.reduceNeg, sg_nil]
    repeat' (first | with_reducible apply And.intro | (intro _) | ((first | refine wp_go b63_0 ?_ | refine wp_go b63_8 ?_ | refine wp_go b63_13 ?_ | refine wp_go b63_60 ?_ | refine wp_go b63_70 ?_ | refine wp_go b63_80 ?_ | refine wp_go b63_92 ?_ | refine wp_go b63_93 ?_ | refine wp_go b63_98 ?_ | refine wp_go b63_101 ?_ | refine wp_go b63_102 ?_ | refine wp_go b63_107 ?_ | refine wp_go b63_110 ?_ | refine wp_go b63_111 ?_ | refine wp_go b63_116 ?_ | refine wp_go b63_119 ?_ | refine wp_go b63_120 ?_ | refine wp_go b63_125 ?_ | refine wp_go b63_128 ?_ | refine wp_go b63_129 ?_ | refine wp_go b63_134 ?_ | refine wp_go b63_141 ?_); simp only [l63_0, l63_8, l63_13, l63_60, l63_70, l63_80, l63_92, l63_93, l63_98, l63_101, l63_102, l63_107, l63_110, l63_111, l63_116, l63_119, l63_120, l63_125, l63_128, l63_129, l63_134, l63_141, sg_aload_0, sg_getfp, sg_iload_1, sg_iv2_i, len4_0, len4_1, len4_2, len4_3, len4_4, sg_if_ne, sg_iconst, sg_iret0, sg_iload_2, sg_tsw, swc_n, swc_c, List.toList_toArray, Int.reduceAdd, Int.reduceToNat, sg_iaload, sg_baload, sg_is1_1, sg_iv2_r, sg_iv1_i, sg_getf0, sg_bipush, nLg_n, nLg_i, nLg_r, tc_c, tc_l, tc_r, tc_m, tc_n, tc_o, tc_0, inR, true_and, and_true, ne_eq, not_true_eq_false, not_false_eq_true, true_imp_iff, false_imp_iff, Int.toNat_natCast, lit_a, Nat.reduceAdd, or_true, true_or, or_false, false_or, Int.reduceEq, Int.reduceNe, Int.reduceLT, Int.reduceLE, Int.reduceNeg, sg_nil, s1p, x0, x1, x2, x3, x4, x5, x6, x7, x8, x9, x10, x11, x12, x13, x56, x57, x388, x389, x390, x391, x392, x393, x394, x395, x396, x397, x398, x399]))
    all_goals (try omega)
    all_goals (revert h; unfold F_of; (try simp only [Int.toNat_natCast]); (repeat (first | rw [if_neg (by omega)] | rw [if_pos (by omega)])); exact id)
def F_count (z : Rw) (pl hs w : Int) : Int := if w = 0 then z 0 else if w = 1 then sm (zl z) (zn z) else if w = 2 then sm (zb z) (zn z) else if w = 3 then z 2 else if w = 4 then z 3 else if w = 5 then olds z (znl z) else if w = 6 then (lng z (znl z)).1 else if w = 7 then pl else if w = 8 then hs else -2
-- NS.count: blocks [0, 52, 63, 73, 74, 84, 85, 93, 101, 105, 106, 110, 111, 119, 127]
theorem k_NS_count {d : Nat} {Q : QT} {μ : Mem} {w : Int} {z : Rw} (hz : IZ z) (hR : RC z μ 1) (hw : inR w) (hq : ∀ μ', QF z μ μ' → Q (.inl (F_count z (μ 390 1) (μ 56 2) w)) μ') : Call σ1 (d + 6) 64 [.inr (.inr 0), .inl w] μ Q := by
  refine e_64 ?_
  have h := hq μ (QF_r hR)
  have q := hz.1
  have e := zn_eq hz
  have e3 := znl_eq hz
  have a0 : μ 2 3 = z 0 := hR.1.1
  have a1 : μ 1 10 = z 2 := hR.1.2.2.1
  have a2 : μ 1 11 = z 3 := hR.1.2.2.2
  unfold inR at hw
  refine wp_go b64_0 ?_; simp only [l64_0, sg_iload_1, sg_tsw, swc_n, swc_c, List.toList_toArray, Int.reduceAdd, Int.reduceToNat, nLg_n, nLg_i, nLg_r, tc_c, tc_l, tc_r, tc_m, tc_n, tc_o, tc_0, inR, true_and, and_true, ne_eq, not_true_eq_false, not_false_eq_true, true_imp_iff, false_imp_iff, Int.toNat_natCast, lit_a, Nat.reduceAdd, or_true, true_or, or_false, false_or, Int.reduceEq, Int.reduceNe, Int.reduceLT, Int.reduceLE, Int.reduceNeg, sg_nil]
  repeat' (first | with_reducible apply And.intro | (intro _))
  all_goals (try omega)
  · refine wp_go b64_52 ?_; simp only [l64_52, sg_aload_0, sg_getfp, sg_getf0, sg_iret0, nLg_n, nLg_i, nLg_r, tc_c, tc_l, tc_r, tc_m, tc_n, tc_o, tc_0, inR, true_and, and_true, ne_eq, not_true_eq_false, not_false_eq_true, true_imp_iff, false_imp_iff, Int.toNat_natCast, lit_a, Nat.reduceAdd, or_true, true_or, or_false, false_or, Int.reduceEq, Int.reduceNe, Int.reduceLT, Int.reduceLE, Int.reduceNeg, sg_nil, s1p, x0, x1, x2, x3, x4, x5, x6, x7, x8, x9, x10, x11, x12, x13, x56, x57, x388, x389, x390, x391, x392, x393, x394, x395, x396, x397, x398, x399, a0]
    (revert h; unfold F_count; (try simp only [Int.toNat_natCast]); (repeat (first | rw [if_neg (by omega)] | rw [if_pos (by omega)])); exact id)
  · refine wp_go b64_63 ?_; simp only [l64_63, sg_aload_0, sg_getfp, sg_iv1_i, len4_0, len4_1, len4_2, len4_3, len4_4, nLg_n, nLg_i, nLg_r, tc_c, tc_l, tc_r, tc_m, tc_n, tc_o, tc_0, inR, true_and, and_true, ne_eq, not_true_eq_false, not_false_eq_true, true_imp_iff, false_imp_iff, Int.toNat_natCast, lit_a, Nat.reduceAdd, or_true, true_or, or_false, false_or, Int.reduceEq, Int.reduceNe, Int.reduceLT, Int.reduceLE, Int.reduceNeg, sg_nil, s1p, x0, x1, x2, x3, x4, x5, x6, x7, x8, x9, x10, x11, x12, x13, x56, x57, x388, x389, x390, x391, x392, x393, x394, x395, x396, x397, x398, x399]
    refine k_Sen_total st1.2.1 (a0.trans e.1) e.2.2 ?_
    rw [show sm (μ (2 + 2)) (zn z) = sm (zl z) (zn z) from sm_zl hR (by omega)]
    refine wp_go b64_73 ?_; simp only [l64_73, sg_iret0, nLg_n, nLg_i, nLg_r, tc_c, tc_l, tc_r, tc_m, tc_n, tc_o, tc_0, inR, true_and, and_true, ne_eq, not_true_eq_false, not_false_eq_true, true_imp_iff, false_imp_iff, Int.toNat_natCast, lit_a, Nat.reduceAdd, or_true, true_or, or_false, false_or, Int.reduceEq, Int.reduceNe, Int.reduceLT, Int.reduceLE, Int.reduceNeg, sg_nil]
    (revert h; unfold F_count; (try simp only [Int.toNat_natCast]); (repeat (first | rw [if_neg (by omega)] | rw [if_pos (by omega)])); exact id)
  · refine wp_go b64_74 ?_; simp only [l64_74, sg_aload_0, sg_getfp, sg_iv1_i, len4_0, len4_1, len4_2, len4_3, len4_4, nLg_n, nLg_i, nLg_r, tc_c, tc_l, tc_r, tc_m, tc_n, tc_o, tc_0, inR, true_and, and_true, ne_eq, not_true_eq_false, not_false_eq_true, true_imp_iff, false_imp_iff, Int.toNat_natCast, lit_a, Nat.reduceAdd, or_true, true_or, or_false, false_or, Int.reduceEq, Int.reduceNe, Int.reduceLT, Int.reduceLE, Int.reduceNeg, sg_nil, s1p, x0, x1, x2, x3, x4, x5, x6, x7, x8, x9, x10, x11, x12, x13, x56, x57, x388, x389, x390, x391, x392, x393, x394, x395, x396, x397, x398, x399]
    refine k_Sen_chapters st1.2.1 (n := zn z - 1) (a0.trans (by omega)) (by omega) ?_
    rw [show sm (fun i => μ (2 + 3) (i + 1)) (zn z - 1) + 1 = sm (zb z) (zn z) from by
      rw [show sm (fun i => μ (2 + 3) (i + 1)) (zn z - 1) = _ from sm_zb hz hR (by omega), show zn z - 1 + 1 = zn z by omega]; omega]
    refine wp_go b64_84 ?_; simp only [l64_84, sg_iret0, nLg_n, nLg_i, nLg_r, tc_c, tc_l, tc_r, tc_m, tc_n, tc_o, tc_0, inR, true_and, and_true, ne_eq, not_true_eq_false, not_false_eq_true, true_imp_iff, false_imp_iff, Int.toNat_natCast, lit_a, Nat.reduceAdd, or_true, true_or, or_false, false_or, Int.reduceEq, Int.reduceNe, Int.reduceLT, Int.reduceLE, Int.reduceNeg, sg_nil]
    (revert h; unfold F_count; (try simp only [Int.toNat_natCast]); (repeat (first | rw [if_neg (by omega)] | rw [if_pos (by omega)])); exact id)
  · refine wp_go b64_85 ?_; simp only [l64_85, sg_aload_0, sg_getfp, sg_getf0, sg_iret0, nLg_n, nLg_i, nLg_r, tc_c, tc_l, tc_r, tc_m, tc_n, tc_o, tc_0, inR, true_and, and_true, ne_eq, not_true_eq_false, not_false_eq_true, true_imp_iff, false_imp_iff, Int.toNat_natCast, lit_a, Nat.reduceAdd, or_true, true_or, or_false, false_or, Int.reduceEq, Int.reduceNe, Int.reduceLT, Int.reduceLE, Int.reduceNeg, sg_nil, s1p, x0, x1, x2, x3, x4, x5, x6, x7, x8, x9, x10, x11, x12, x13, x56, x57, x388, x389, x390, x391, x392, x393, x394, x395, x396, x397, x398, x399, a1]
    (revert h; unfold F_count; (try simp only [Int.toNat_natCast]); (repeat (first | rw [if_neg (by omega)] | rw [if_pos (by omega)])); exact id)
  · refine wp_go b64_93 ?_; simp only [l64_93, sg_aload_0, sg_getfp, sg_getf0, sg_iret0, nLg_n, nLg_i, nLg_r, tc_c, tc_l, tc_r, tc_m, tc_n, tc_o, tc_0, inR, true_and, and_true, ne_eq, not_true_eq_false, not_false_eq_true, true_imp_iff, false_imp_iff, Int.toNat_natCast, lit_a, Nat.reduceAdd, or_true, true_or, or_false, false_or, Int.reduceEq, Int.reduceNe, Int.reduceLT, Int.reduceLE, Int.reduceNeg, sg_nil, s1p, x0, x1, x2, x3, x4, x5, x6, x7, x8, x9, x10, x11, x12, x13, x56, x57, x388, x389, x390, x391, x392, x393, x394, x395, x396, x397, x398, x399, a2]
    (revert h; unfold F_count; (try simp only [Int.toNat_natCast]); (repeat (first | rw [if_neg (by omega)] | rw [if_pos (by omega)])); exact id)
  · refine wp_go b64_101 ?_; simp only [l64_101, sg_aload_0, sg_iv1_i, len4_0, len4_1, len4_2, len4_3, len4_4, nLg_n, nLg_i, nLg_r, tc_c, tc_l, tc_r, tc_m, tc_n, tc_o, tc_0, inR, true_and, and_true, ne_eq, not_true_eq_false, not_false_eq_true, true_imp_iff, false_imp_iff, Int.toNat_natCast, lit_a, Nat.reduceAdd, or_true, true_or, or_false, false_or, Int.reduceEq, Int.reduceNe, Int.reduceLT, Int.reduceLE, Int.reduceNeg, sg_nil, s1p, x0, x1, x2, x3, x4, x5, x6, x7, x8, x9, x10, x11, x12, x13, x56, x57, x388, x389, x390, x391, x392, x393, x394, x395, x396, x397, x398, x399]
    refine k_NS_outOfDateListeners hz hR e3.1 (fun μ' f => ?_)
    have h := hq μ' (QF_s hz hR f)
    refine wp_go b64_105 ?_; simp only [l64_105, sg_iret0, nLg_n, nLg_i, nLg_r, tc_c, tc_l, tc_r, tc_m, tc_n, tc_o, tc_0, inR, true_and, and_true, ne_eq, not_true_eq_false, not_false_eq_true, true_imp_iff, false_imp_iff, Int.toNat_natCast, lit_a, Nat.reduceAdd, or_true, true_or, or_false, false_or, Int.reduceEq, Int.reduceNe, Int.reduceLT, Int.reduceLE, Int.reduceNeg, sg_nil]
    (revert h; unfold F_count; (try simp only [Int.toNat_natCast]); (repeat (first | rw [if_neg (by omega)] | rw [if_pos (by omega)])); exact id)
  · refine wp_go b64_106 ?_; simp only [l64_106, sg_aload_0, sg_iv1_i, len4_0, len4_1, len4_2, len4_3, len4_4, nLg_n, nLg_i, nLg_r, tc_c, tc_l, tc_r, tc_m, tc_n, tc_o, tc_0, inR, true_and, and_true, ne_eq, not_true_eq_false, not_false_eq_true, true_imp_iff, false_imp_iff, Int.toNat_natCast, lit_a, Nat.reduceAdd, or_true, true_or, or_false, false_or, Int.reduceEq, Int.reduceNe, Int.reduceLT, Int.reduceLE, Int.reduceNeg, sg_nil, s1p, x0, x1, x2, x3, x4, x5, x6, x7, x8, x9, x10, x11, x12, x13, x56, x57, x388, x389, x390, x391, x392, x393, x394, x395, x396, x397, x398, x399]
    refine k_NS_longestListener hz hR e3.1 (fun μ' f => ?_)
    have h := hq μ' (QF_s hz hR f)
    refine wp_go b64_110 ?_; simp only [l64_110, sg_iret0, nLg_n, nLg_i, nLg_r, tc_c, tc_l, tc_r, tc_m, tc_n, tc_o, tc_0, inR, true_and, and_true, ne_eq, not_true_eq_false, not_false_eq_true, true_imp_iff, false_imp_iff, Int.toNat_natCast, lit_a, Nat.reduceAdd, or_true, true_or, or_false, false_or, Int.reduceEq, Int.reduceNe, Int.reduceLT, Int.reduceLE, Int.reduceNeg, sg_nil]
    (revert h; unfold F_count; (try simp only [Int.toNat_natCast]); (repeat (first | rw [if_neg (by omega)] | rw [if_pos (by omega)])); exact id)
  · refine wp_go b64_111 ?_; simp only [l64_111, sg_aload_0, sg_getfp, sg_getf0, sg_iret0, nLg_n, nLg_i, nLg_r, tc_c, tc_l, tc_r, tc_m, tc_n, tc_o, tc_0, inR, true_and, and_true, ne_eq, not_true_eq_false, not_false_eq_true, true_imp_iff, false_imp_iff, Int.toNat_natCast, lit_a, Nat.reduceAdd, or_true, true_or, or_false, false_or, Int.reduceEq, Int.reduceNe, Int.reduceLT, Int.reduceLE, Int.reduceNeg, sg_nil, s1p, x0, x1, x2, x3, x4, x5, x6, x7, x8, x9, x10, x11, x12, x13, x56, x57, x388, x389, x390, x391, x392, x393, x394, x395, x396, x397, x398, x399]
    (revert h; unfold F_count; (try simp only [Int.toNat_natCast]); (repeat (first | rw [if_neg (by omega)] | rw [if_pos (by omega)])); exact id)
  · refine wp_go b64_119 ?_; simp only [l64_119, sg_aload_0, sg_getfp, sg_getf0, sg_iret0, nLg_n, nLg_i, nLg_r, tc_c, tc_l, tc_r, tc_m, tc_n, tc_o, tc_0, inR, true_and, and_true, ne_eq, not_true_eq_false, not_false_eq_true, true_imp_iff, false_imp_iff, Int.toNat_natCast, lit_a, Nat.reduceAdd, or_true, true_or, or_false, false_or, Int.reduceEq, Int.reduceNe, Int.reduceLT, Int.reduceLE, Int.reduceNeg, sg_nil, s1p, x0, x1, x2, x3, x4, x5, x6, x7, x8, x9, x10, x11, x12, x13, x56, x57, x388, x389, x390, x391, x392, x393, x394, x395, x396, x397, x398, x399]
    (revert h; unfold F_count; (try simp only [Int.toNat_natCast]); (repeat (first | rw [if_neg (by omega)] | rw [if_pos (by omega)])); exact id)
  · refine wp_go b64_127 ?_; simp only [l64_127, sg_bipush, sg_iret0, nLg_n, nLg_i, nLg_r, tc_c, tc_l, tc_r, tc_m, tc_n, tc_o, tc_0, inR, true_and, and_true, ne_eq, not_true_eq_false, not_false_eq_true, true_imp_iff, false_imp_iff, Int.toNat_natCast, lit_a, Nat.reduceAdd, or_true, true_or, or_false, false_or, Int.reduceEq, Int.reduceNe, Int.reduceLT, Int.reduceLE, Int.reduceNeg, sg_nil]
    (revert h; unfold F_count; (try simp only [Int.toNat_natCast]); (repeat (first | rw [if_neg (by omega)] | rw [if_pos (by omega)])); exact id)
end
section
def F_heard (z : Rw) (l s : Int) : Int := if l < 0 ∨ z 3 ≤ l then -1 else if s < 0 ∨ (nw z l.toNat : Int) ≤ s then -1 else wO z l.toNat (5 * s.toNat + 1)
-- NS.heard: blocks [0, 8, 13, 18, 33, 38]
theorem k_NS_heard {d : Nat} {Q : QT} {μ : Mem} {l s : Int} {z : Rw} (hz : IZ z) (hR : RC z μ 1) (hl : inR l) (hs : inR s) (hq : ∀ μ', QF z μ μ' → Q (.inl (F_heard z l s)) μ') : Call σ1 (d + 5) 65 [.inr (.inr 0), .inl l, .inl s] μ Q := by
  refine e_65 ?_
  have h := hq μ (QF_r hR)
  have q := hz.1
  refine wp_go b65_0 ?_; simp only [l65_0, sg_aload_0, sg_getfp, sg_iload_1, sg_iv2_i, len4_0, len4_1, len4_2, len4_3, len4_4, nLg_n, nLg_i, nLg_r, tc_c, tc_l, tc_r, tc_m, tc_n, tc_o, tc_0, inR, true_and, and_true, ne_eq, not_true_eq_false, not_false_eq_true, true_imp_iff, false_imp_iff, Int.toNat_natCast, lit_a, Nat.reduceAdd, or_true, true_or, or_false, false_or, Int.reduceEq, Int.reduceNe, Int.reduceLT, Int.reduceLE, Int.reduceNeg, sg_nil, s1p, x0, x1, x2, x3, x4, x5, x6, x7, x8, x9, x10, x11, x12, x13, x56, x57, x388, x389, x390, x391, x392, x393, x394, x395, x396, x397, x398, x399]
  refine k_Sta_hasListener st1 hR hz hl (fun h1 h2 => ?_) (fun h0 => ?_)
  · obtain ⟨n, rfl⟩ := nat_of h1
    have nn := nw_eq hz h2
    refine wp_go b65_8 ?_; simp only [l65_8, sg_if_ne, sg_iconst, sg_iret0, nLg_n, nLg_i, nLg_r, tc_c, tc_l, tc_r, tc_m, tc_n, tc_o, tc_0, inR, true_and, and_true, ne_eq, not_true_eq_false, not_false_eq_true, true_imp_iff, false_imp_iff, Int.toNat_natCast, lit_a, Nat.reduceAdd, or_true, true_or, or_false, false_or, Int.reduceEq, Int.reduceNe, Int.reduceLT, Int.reduceLE, Int.reduceNeg, sg_nil]
    repeat' (first | with_reducible apply And.intro | intro _)
    all_goals (try omega)
    refine wp_go b65_13 ?_; simp only [l65_13, sg_aload_0, sg_iload_1, sg_iv2_r, len4_0, len4_1, len4_2, len4_3, len4_4, nLg_n, nLg_i, nLg_r, tc_c, tc_l, tc_r, tc_m, tc_n, tc_o, tc_0, inR, true_and, and_true, ne_eq, not_true_eq_false, not_false_eq_true, true_imp_iff, false_imp_iff, Int.toNat_natCast, lit_a, Nat.reduceAdd, or_true, true_or, or_false, false_or, Int.reduceEq, Int.reduceNe, Int.reduceLT, Int.reduceLE, Int.reduceNeg, sg_nil, s1p, x0, x1, x2, x3, x4, x5, x6, x7, x8, x9, x10, x11, x12, x13, x56, x57, x388, x389, x390, x391, x392, x393, x394, x395, x396, x397, x398, x399]
    refine k_NS_hearingOf hz hR h2 (fun μ' c f H hH _ _ => ?_)
    have h := hq μ' (QF_s hz hR f)
    obtain ⟨a0, a1, a2, a3, a4, a5, a6, p0, p1, p2, p3, p4, p5⟩ := heaF hH
    refine wp_go b65_18 ?_; simp only [l65_18, sg_astore_3, sg_iload_2, sg_iconst, sg_aload_3, sg_getfp, sg_getf0, sg_isub, len4_0, len4_1, len4_2, len4_3, len4_4, sg_is3_1, nLg_n, nLg_i, nLg_r, tc_c, tc_l, tc_r, tc_m, tc_n, tc_o, tc_0, inR, true_and, and_true, ne_eq, not_true_eq_false, not_false_eq_true, true_imp_iff, false_imp_iff, Int.toNat_natCast, lit_a, Nat.reduceAdd, or_true, true_or, or_false, false_or, Int.reduceEq, Int.reduceNe, Int.reduceLT, Int.reduceLE, Int.reduceNeg, sg_nil, a0, a1, a2, a3, a4, a5, a6, p0, p1, p2, p3, p4, p5, H.1]
    refine k_NS_isWithin hs (by unfold inR; omega) (by unfold inR; omega) (fun g1 g2 => ?_) (fun g0 => ?_)
    · obtain ⟨j, rfl⟩ := nat_of g1
      have e := (H.2 j (by omega)).2.2.2.1
      refine wp_go b65_33 ?_; simp only [l65_33, sg_if_ne, sg_iconst, sg_iret0, nLg_n, nLg_i, nLg_r, tc_c, tc_l, tc_r, tc_m, tc_n, tc_o, tc_0, inR, true_and, and_true, ne_eq, not_true_eq_false, not_false_eq_true, true_imp_iff, false_imp_iff, Int.toNat_natCast, lit_a, Nat.reduceAdd, or_true, true_or, or_false, false_or, Int.reduceEq, Int.reduceNe, Int.reduceLT, Int.reduceLE, Int.reduceNeg, sg_nil]
      repeat' (first | with_reducible apply And.intro | (intro _) | ((first | refine wp_go b65_0 ?_ | refine wp_go b65_8 ?_ | refine wp_go b65_13 ?_ | refine wp_go b65_18 ?_ | refine wp_go b65_33 ?_ | refine wp_go b65_38 ?_); simp only [l65_0, l65_8, l65_13, l65_18, l65_33, l65_38, sg_aload_0, sg_getfp, sg_iload_1, sg_iv2_i, len4_0, len4_1, len4_2, len4_3, len4_4, sg_if_ne, sg_iconst, sg_iret0, sg_iv2_r, sg_astore_3, sg_iload_2, sg_aload_3, sg_getf0, sg_isub, sg_is3_1, sg_iaload, nLg_n, nLg_i, nLg_r, tc_c, tc_l, tc_r, tc_m, tc_n, tc_o, tc_0, inR, true_and, and_true, ne_eq, not_true_eq_false, not_false_eq_true, true_imp_iff, false_imp_iff, Int.toNat_natCast, lit_a, Nat.reduceAdd, or_true, true_or, or_false, false_or, Int.reduceEq, Int.reduceNe, Int.reduceLT, Int.reduceLE, Int.reduceNeg, sg_nil, a0, a1, a2, a3, a4, a5, a6, p0, p1, p2, p3, p4, p5, e]))
      all_goals (try omega)
      all_goals (revert h; unfold F_heard; (try simp only [Int.toNat_natCast]); (repeat (first | rw [if_neg (by omega)] | rw [if_pos (by omega)])); exact id)
    · refine wp_go b65_33 ?_; simp only [l65_33, sg_if_ne, sg_iconst, sg_iret0, nLg_n, nLg_i, nLg_r, tc_c, tc_l, tc_r, tc_m, tc_n, tc_o, tc_0, inR, true_and, and_true, ne_eq, not_true_eq_false, not_false_eq_true, true_imp_iff, false_imp_iff, Int.toNat_natCast, lit_a, Nat.reduceAdd, or_true, true_or, or_false, false_or, Int.reduceEq, Int.reduceNe, Int.reduceLT, Int.reduceLE, Int.reduceNeg, sg_nil]
      repeat' (first | with_reducible apply And.intro | (intro _) | ((first | refine wp_go b65_0 ?_ | refine wp_go b65_8 ?_ | refine wp_go b65_13 ?_ | refine wp_go b65_18 ?_ | refine wp_go b65_33 ?_ | refine wp_go b65_38 ?_); simp only [l65_0, l65_8, l65_13, l65_18, l65_33, l65_38, sg_aload_0, sg_getfp, sg_iload_1, sg_iv2_i, len4_0, len4_1, len4_2, len4_3, len4_4, sg_if_ne, sg_iconst, sg_iret0, sg_iv2_r, sg_astore_3, sg_iload_2, sg_aload_3, sg_getf0, sg_isub, sg_is3_1, sg_iaload, nLg_n, nLg_i, nLg_r, tc_c, tc_l, tc_r, tc_m, tc_n, tc_o, tc_0, inR, true_and, and_true, ne_eq, not_true_eq_false, not_false_eq_true, true_imp_iff, false_imp_iff, Int.toNat_natCast, lit_a, Nat.reduceAdd, or_true, true_or, or_false, false_or, Int.reduceEq, Int.reduceNe, Int.reduceLT, Int.reduceLE, Int.reduceNeg, sg_nil]))
      all_goals (try omega)
      all_goals (revert h; unfold F_heard; (try simp only [Int.toNat_natCast]); (repeat (first | rw [if_neg (by omega)] | rw [if_pos (by omega)])); exact id)
  · refine wp_go b65_8 ?_; simp only [l65_8, sg_if_ne, sg_iconst, sg_iret0, nLg_n, nLg_i, nLg_r, tc_c, tc_l, tc_r, tc_m, tc_n, tc_o, tc_0, inR, true_and, and_true, ne_eq, not_true_eq_false, not_false_eq_true, true_imp_iff, false_imp_iff, Int.toNat_natCast, lit_a, Nat.reduceAdd, or_true, true_or, or_false, false_or, Int.reduceEq, Int.reduceNe, Int.reduceLT, Int.reduceLE, Int.reduceNeg, sg_nil]
    repeat' (first | with_reducible apply And.intro | (intro _) | ((first | refine wp_go b65_0 ?_ | refine wp_go b65_8 ?_ | refine wp_go b65_13 ?_ | refine wp_go b65_18 ?_ | refine wp_go b65_33 ?_ | refine wp_go b65_38 ?_); simp only [l65_0, l65_8, l65_13, l65_18, l65_33, l65_38, sg_aload_0, sg_getfp, sg_iload_1, sg_iv2_i, len4_0, len4_1, len4_2, len4_3, len4_4, sg_if_ne, sg_iconst, sg_iret0, sg_iv2_r, sg_astore_3, sg_iload_2, sg_aload_3, sg_getf0, sg_isub, sg_is3_1, sg_iaload, nLg_n, nLg_i, nLg_r, tc_c, tc_l, tc_r, tc_m, tc_n, tc_o, tc_0, inR, true_and, and_true, ne_eq, not_true_eq_false, not_false_eq_true, true_imp_iff, false_imp_iff, Int.toNat_natCast, lit_a, Nat.reduceAdd, or_true, true_or, or_false, false_or, Int.reduceEq, Int.reduceNe, Int.reduceLT, Int.reduceLE, Int.reduceNeg, sg_nil, s1p, x0, x1, x2, x3, x4, x5, x6, x7, x8, x9, x10, x11, x12, x13, x56, x57, x388, x389, x390, x391, x392, x393, x394, x395, x396, x397, x398, x399]))
    all_goals (try omega)
    all_goals (revert h; unfold F_heard; (try simp only [Int.toNat_natCast]); (repeat (first | rw [if_neg (by omega)] | rw [if_pos (by omega)])); exact id)
def pAt (w : Rw) (n : Nat) (t : Int) : Int := fsI (fun i => decide (t < sm (wl4 w) (i + 1))) (-6) n
def F_whenHeard (z : Rw) (l t : Int) : Int := if l < 0 ∨ z 3 ≤ l then -1 else if t < 0 ∨ 7199 < t then -2 else if pAt (wO z l.toNat) (nw z l.toNat) t = -6 then -6 else t + sm (fun i => wO z l.toNat (5 * i + 2)) ((pAt (wO z l.toNat) (nw z l.toNat) t).toNat + 1)
theorem fsI_in (p : Nat → Bool) (e : Int) (n : Nat) : fsI p e n = e ∨ ∃ i : Nat, i < n ∧ fsI p e n = (i : Int) ∧ p i = true := by
  by_cases hx : ∃ i, i < n ∧ p i = true ∧ ∀ j, j < i → p j = false
  · obtain ⟨i, h1, h2, h3⟩ := hx
    exact Or.inr ⟨i, h1, fsI_s h1 h2 h3, h2⟩
  · left
    have hn : ∀ j, j < n → p j = false := by
      intro j
      induction j using Nat.strongRecOn with
      | ind j ih =>
        intro hj
        cases hp : p j with
        | false => rfl
        | true => exact absurd ⟨j, hj, hp, fun k hk => ih k hk (by omega)⟩ hx
    exact fsI_n hn
-- NS.whenHeard: blocks [0, 8, 13, 21, 27, 32, 41, 53, 59, 70]
theorem k_NS_whenHeard {d : Nat} {Q : QT} {μ : Mem} {l t : Int} {z : Rw} (hz : IZ z) (hR : RC z μ 1) (hl : inR l) (ht : inR t) (hq : ∀ μ', QF z μ μ' → Q (.inl (F_whenHeard z l t)) μ') : Call σ1 (d + 5) 66 [.inr (.inr 0), .inl l, .inl t] μ Q := by
  refine e_66 ?_
  have h := hq μ (QF_r hR)
  have q := hz.1
  refine wp_go b66_0 ?_; simp only [l66_0, sg_aload_0, sg_getfp, sg_iload_1, sg_iv2_i, len4_0, len4_1, len4_2, len4_3, len4_4, nLg_n, nLg_i, nLg_r, tc_c, tc_l, tc_r, tc_m, tc_n, tc_o, tc_0, inR, true_and, and_true, ne_eq, not_true_eq_false, not_false_eq_true, true_imp_iff, false_imp_iff, Int.toNat_natCast, lit_a, Nat.reduceAdd, or_true, true_or, or_false, false_or, Int.reduceEq, Int.reduceNe, Int.reduceLT, Int.reduceLE, Int.reduceNeg, sg_nil, s1p, x0, x1, x2, x3, x4, x5, x6, x7, x8, x9, x10, x11, x12, x13, x56, x57, x388, x389, x390, x391, x392, x393, x394, x395, x396, x397, x398, x399]
  refine k_Sta_hasListener st1 hR hz hl (fun h1 h2 => ?_) (fun h0 => ?_)
  · obtain ⟨n, rfl⟩ := nat_of h1
    have nn := nw_eq hz h2
    have W := wO_W hz h2
    refine wp_go b66_8 ?_; simp only [l66_8, sg_if_ne, sg_iconst, sg_iret0, nLg_n, nLg_i, nLg_r, tc_c, tc_l, tc_r, tc_m, tc_n, tc_o, tc_0, inR, true_and, and_true, ne_eq, not_true_eq_false, not_false_eq_true, true_imp_iff, false_imp_iff, Int.toNat_natCast, lit_a, Nat.reduceAdd, or_true, true_or, or_false, false_or, Int.reduceEq, Int.reduceNe, Int.reduceLT, Int.reduceLE, Int.reduceNeg, sg_nil]
    repeat' (first | with_reducible apply And.intro | intro _)
    all_goals (try omega)
    refine wp_go b66_13 ?_; simp only [l66_13, sg_iload_2, sg_iconst, sg_sipush, len4_0, len4_1, len4_2, len4_3, len4_4, sg_is3_1, nLg_n, nLg_i, nLg_r, tc_c, tc_l, tc_r, tc_m, tc_n, tc_o, tc_0, inR, true_and, and_true, ne_eq, not_true_eq_false, not_false_eq_true, true_imp_iff, false_imp_iff, Int.toNat_natCast, lit_a, Nat.reduceAdd, or_true, true_or, or_false, false_or, Int.reduceEq, Int.reduceNe, Int.reduceLT, Int.reduceLE, Int.reduceNeg, sg_nil]
    refine k_NS_isWithin ht (by unfold inR; omega) (by unfold inR; omega) (fun g1 g2 => ?_) (fun g0 => ?_)
    · refine wp_go b66_21 ?_; simp only [l66_21, sg_if_ne, sg_bipush, sg_iret0, nLg_n, nLg_i, nLg_r, tc_c, tc_l, tc_r, tc_m, tc_n, tc_o, tc_0, inR, true_and, and_true, ne_eq, not_true_eq_false, not_false_eq_true, true_imp_iff, false_imp_iff, Int.toNat_natCast, lit_a, Nat.reduceAdd, or_true, true_or, or_false, false_or, Int.reduceEq, Int.reduceNe, Int.reduceLT, Int.reduceLE, Int.reduceNeg, sg_nil]
      repeat' (first | with_reducible apply And.intro | intro _)
      all_goals (try omega)
      refine wp_go b66_27 ?_; simp only [l66_27, sg_aload_0, sg_iload_1, sg_iv2_r, len4_0, len4_1, len4_2, len4_3, len4_4, nLg_n, nLg_i, nLg_r, tc_c, tc_l, tc_r, tc_m, tc_n, tc_o, tc_0, inR, true_and, and_true, ne_eq, not_true_eq_false, not_false_eq_true, true_imp_iff, false_imp_iff, Int.toNat_natCast, lit_a, Nat.reduceAdd, or_true, true_or, or_false, false_or, Int.reduceEq, Int.reduceNe, Int.reduceLT, Int.reduceLE, Int.reduceNeg, sg_nil, s1p, x0, x1, x2, x3, x4, x5, x6, x7, x8, x9, x10, x11, x12, x13, x56, x57, x388, x389, x390, x391, x392, x393, x394, x395, x396, x397, x398, x399]
      refine k_NS_hearingOf hz hR h2 (fun μ' c f H hH _ _ => ?_)
      have h := hq μ' (QF_s hz hR f)
      obtain ⟨a0, a1, a2, a3, a4, a5, a6, p0, p1, p2, p3, p4, p5⟩ := heaF hH
      refine wp_go b66_32 ?_; simp only [l66_32, sg_astore_3, sg_aload_3, sg_getfp, sg_iload_2, sg_iv2_i, len4_0, len4_1, len4_2, len4_3, len4_4, nLg_n, nLg_i, nLg_r, tc_c, tc_l, tc_r, tc_m, tc_n, tc_o, tc_0, inR, true_and, and_true, ne_eq, not_true_eq_false, not_false_eq_true, true_imp_iff, false_imp_iff, Int.toNat_natCast, lit_a, Nat.reduceAdd, or_true, true_or, or_false, false_or, Int.reduceEq, Int.reduceNe, Int.reduceLT, Int.reduceLE, Int.reduceNeg, sg_nil, a0, a1, a2, a3, a4, a5, a6, p0, p1, p2, p3, p4, p5]
      refine k_Sen_placeAtTime hH.2.1 (n := nw z n) (H.1.trans nn.1) nn.2.2 (fun i hi => ?_) ht ?_
      · have r := (W.2.1 i (by omega)).2.1
        rw [show μ' (c + 1 + 2) i = wO z n (5 * i + 4) from (H.2 i (by omega)).2.1]; omega
      · have e1 : fsI (fun i => decide (t < sm (μ' (c + 1 + 2)) (i + 1))) (-6) (nw z n) = pAt (wO z n) (nw z n) t := fsI_c (fun i hi => by simp only [h_len H (show ((i + 1 : Nat) : Int) ≤ wO z n 0 by omega)])
        rw [e1]
        rcases fsI_in (fun i => decide (t < sm (wl4 (wO z n)) (i + 1))) (-6) (nw z n) with e2 | ⟨i, i1, i2, i3⟩
        · have e2 : pAt (wO z n) (nw z n) t = -6 := e2
          rw [e2]
          have h : Q (.inl (-6)) μ' := by
            unfold F_whenHeard at h
            rw [if_neg (by omega), if_neg (by omega), Int.toNat_natCast, if_pos e2] at h
            exact h
          refine wp_go b66_41 ?_; simp only [l66_41, sg_istore, okS_4, stL_4, sg_iload, ldI_4, sg_bipush, sg_ic_ne, sg_iret0, nLg_n, nLg_i, nLg_r, tc_c, tc_l, tc_r, tc_m, tc_n, tc_o, tc_0, inR, true_and, and_true, ne_eq, not_true_eq_false, not_false_eq_true, true_imp_iff, false_imp_iff, Int.toNat_natCast, lit_a, Nat.reduceAdd, or_true, true_or, or_false, false_or, Int.reduceEq, Int.reduceNe, Int.reduceLT, Int.reduceLE, Int.reduceNeg, sg_nil]
          repeat' (first | with_reducible apply And.intro | (intro _) | ((first | refine wp_go b66_0 ?_ | refine wp_go b66_8 ?_ | refine wp_go b66_13 ?_ | refine wp_go b66_21 ?_ | refine wp_go b66_27 ?_ | refine wp_go b66_32 ?_ | refine wp_go b66_41 ?_ | refine wp_go b66_53 ?_ | refine wp_go b66_59 ?_ | refine wp_go b66_70 ?_); simp only [l66_0, l66_8, l66_13, l66_21, l66_27, l66_32, l66_41, l66_53, l66_59, l66_70, sg_aload_0, sg_getfp, sg_iload_1, sg_iv2_i, len4_0, len4_1, len4_2, len4_3, len4_4, sg_if_ne, sg_iconst, sg_iret0, sg_iload_2, sg_sipush, sg_is3_1, sg_bipush, sg_iv2_r, sg_astore_3, sg_aload_3, sg_istore, okS_4, stL_4, sg_iload, ldI_4, sg_ic_ne, sg_iadd, sg_isub, nLg_n, nLg_i, nLg_r, tc_c, tc_l, tc_r, tc_m, tc_n, tc_o, tc_0, inR, true_and, and_true, ne_eq, not_true_eq_false, not_false_eq_true, true_imp_iff, false_imp_iff, Int.toNat_natCast, lit_a, Nat.reduceAdd, or_true, true_or, or_false, false_or, Int.reduceEq, Int.reduceNe, Int.reduceLT, Int.reduceLE, Int.reduceNeg, sg_nil]))
          all_goals (try omega)
          all_goals exact h
        · have e2 : pAt (wO z n) (nw z n) t = (i : Int) := i2
          rw [e2]
          have h : Q (.inl (t + sm (fun i => wO z n (5 * i + 2)) (i + 1))) μ' := by
            unfold F_whenHeard at h
            rw [if_neg (by omega), if_neg (by omega), Int.toNat_natCast, e2, if_neg (by omega)] at h
            exact h
          refine wp_go b66_41 ?_; simp only [l66_41, sg_istore, okS_4, stL_4, sg_iload, ldI_4, sg_bipush, sg_ic_ne, sg_iret0, nLg_n, nLg_i, nLg_r, tc_c, tc_l, tc_r, tc_m, tc_n, tc_o, tc_0, inR, true_and, and_true, ne_eq, not_true_eq_false, not_false_eq_true, true_imp_iff, false_imp_iff, Int.toNat_natCast, lit_a, Nat.reduceAdd, or_true, true_or, or_false, false_or, Int.reduceEq, Int.reduceNe, Int.reduceLT, Int.reduceLE, Int.reduceNeg, sg_nil]
          repeat' (first | with_reducible apply And.intro | intro _)
          all_goals (try omega)
          refine wp_go b66_53 ?_; simp only [l66_53, sg_aload_3, sg_iload, ldI_4, sg_iv2_i, len4_0, len4_1, len4_2, len4_3, len4_4, nLg_n, nLg_i, nLg_r, tc_c, tc_l, tc_r, tc_m, tc_n, tc_o, tc_0, inR, true_and, and_true, ne_eq, not_true_eq_false, not_false_eq_true, true_imp_iff, false_imp_iff, Int.toNat_natCast, lit_a, Nat.reduceAdd, or_true, true_or, or_false, false_or, Int.reduceEq, Int.reduceNe, Int.reduceLT, Int.reduceLE, Int.reduceNeg, sg_nil, hH.1]
          refine k_Hea_sentenceTime hH H (by omega) (by omega) ?_
          refine wp_go b66_59 ?_; simp only [l66_59, sg_iload_2, sg_iadd, sg_aload_3, sg_getfp, sg_iload, ldI_4, sg_iv2_i, len4_0, len4_1, len4_2, len4_3, len4_4, nLg_n, nLg_i, nLg_r, tc_c, tc_l, tc_r, tc_m, tc_n, tc_o, tc_0, inR, true_and, and_true, ne_eq, not_true_eq_false, not_false_eq_true, true_imp_iff, false_imp_iff, Int.toNat_natCast, lit_a, Nat.reduceAdd, or_true, true_or, or_false, false_or, Int.reduceEq, Int.reduceNe, Int.reduceLT, Int.reduceLE, Int.reduceNeg, sg_nil, a0, a1, a2, a3, a4, a5, a6, p0, p1, p2, p3, p4, p5]
          refine k_Sen_timeOf hH.2.1 (by omega) ?_
          rw [h_len H (by omega)]
          have e3 : bt (wO z n) i + wO z n (5 * i + 2) + t - sm (wl4 (wO z n)) i = t + sm (fun i => wO z n (5 * i + 2)) (i + 1) := by
            rw [sm_s]; unfold bt wl4; omega
          refine wp_go b66_70 ?_; simp only [l66_70, sg_isub, sg_iret0, nLg_n, nLg_i, nLg_r, tc_c, tc_l, tc_r, tc_m, tc_n, tc_o, tc_0, inR, true_and, and_true, ne_eq, not_true_eq_false, not_false_eq_true, true_imp_iff, false_imp_iff, Int.toNat_natCast, lit_a, Nat.reduceAdd, or_true, true_or, or_false, false_or, Int.reduceEq, Int.reduceNe, Int.reduceLT, Int.reduceLE, Int.reduceNeg, sg_nil, e3]
          exact h
    · refine wp_go b66_21 ?_; simp only [l66_21, sg_if_ne, sg_bipush, sg_iret0, nLg_n, nLg_i, nLg_r, tc_c, tc_l, tc_r, tc_m, tc_n, tc_o, tc_0, inR, true_and, and_true, ne_eq, not_true_eq_false, not_false_eq_true, true_imp_iff, false_imp_iff, Int.toNat_natCast, lit_a, Nat.reduceAdd, or_true, true_or, or_false, false_or, Int.reduceEq, Int.reduceNe, Int.reduceLT, Int.reduceLE, Int.reduceNeg, sg_nil]
      repeat' (first | with_reducible apply And.intro | (intro _) | ((first | refine wp_go b66_0 ?_ | refine wp_go b66_8 ?_ | refine wp_go b66_13 ?_ | refine wp_go b66_21 ?_ | refine wp_go b66_27 ?_ | refine wp_go b66_32 ?_ | refine wp_go b66_41 ?_ | refine wp_go b66_53 ?_ | refine wp_go b66_59 ?_ | refine wp_go b66_70 ?_); simp only [l66_0, l66_8, l66_13, l66_21, l66_27, l66_32, l66_41, l66_53, l66_59, l66_70, sg_aload_0, sg_getfp, sg_iload_1, sg_iv2_i, len4_0, len4_1, len4_2, len4_3, len4_4, sg_if_ne, sg_iconst, sg_iret0, sg_iload_2, sg_sipush, sg_is3_1, sg_bipush, sg_iv2_r, sg_astore_3, sg_aload_3, sg_istore, okS_4, stL_4, sg_iload, ldI_4, sg_ic_ne, sg_iadd, sg_isub, nLg_n, nLg_i, nLg_r, tc_c, tc_l, tc_r, tc_m, tc_n, tc_o, tc_0, inR, true_and, and_true, ne_eq, not_true_eq_false, not_false_eq_true, true_imp_iff, false_imp_iff, Int.toNat_natCast, lit_a, Nat.reduceAdd, or_true, true_or, or_false, false_or, Int.reduceEq, Int.reduceNe, Int.reduceLT, Int.reduceLE, Int.reduceNeg, sg_nil]))
      all_goals (try omega)
      all_goals (revert h; unfold F_whenHeard; (try simp only [Int.toNat_natCast]); (repeat (first | rw [if_neg (by omega)] | rw [if_pos (by omega)])); exact id)
  · refine wp_go b66_8 ?_; simp only [l66_8, sg_if_ne, sg_iconst, sg_iret0, nLg_n, nLg_i, nLg_r, tc_c, tc_l, tc_r, tc_m, tc_n, tc_o, tc_0, inR, true_and, and_true, ne_eq, not_true_eq_false, not_false_eq_true, true_imp_iff, false_imp_iff, Int.toNat_natCast, lit_a, Nat.reduceAdd, or_true, true_or, or_false, false_or, Int.reduceEq, Int.reduceNe, Int.reduceLT, Int.reduceLE, Int.reduceNeg, sg_nil]
    repeat' (first | with_reducible apply And.intro | (intro _) | ((first | refine wp_go b66_0 ?_ | refine wp_go b66_8 ?_ | refine wp_go b66_13 ?_ | refine wp_go b66_21 ?_ | refine wp_go b66_27 ?_ | refine wp_go b66_32 ?_ | refine wp_go b66_41 ?_ | refine wp_go b66_53 ?_ | refine wp_go b66_59 ?_ | refine wp_go b66_70 ?_); simp only [l66_0, l66_8, l66_13, l66_21, l66_27, l66_32, l66_41, l66_53, l66_59, l66_70, sg_aload_0, sg_getfp, sg_iload_1, sg_iv2_i, len4_0, len4_1, len4_2, len4_3, len4_4, sg_if_ne, sg_iconst, sg_iret0, sg_iload_2, sg_sipush, sg_is3_1, sg_bipush, sg_iv2_r, sg_astore_3, sg_aload_3, sg_istore, okS_4, stL_4, sg_iload, ldI_4, sg_ic_ne, sg_iadd, sg_isub, nLg_n, nLg_i, nLg_r, tc_c, tc_l, tc_r, tc_m, tc_n, tc_o, tc_0, inR, true_and, and_true, ne_eq, not_true_eq_false, not_false_eq_true, true_imp_iff, false_imp_iff, Int.toNat_natCast, lit_a, Nat.reduceAdd, or_true, true_or, or_false, false_or, Int.reduceEq, Int.reduceNe, Int.reduceLT, Int.reduceLE, Int.reduceNeg, sg_nil, s1p, x0, x1, x2, x3, x4, x5, x6, x7, x8, x9, x10, x11, x12, x13, x56, x57, x388, x389, x390, x391, x392, x393, x394, x395, x396, x397, x398, x399]))
    all_goals (try omega)
    all_goals (revert h; unfold F_whenHeard; (try simp only [Int.toNat_natCast]); (repeat (first | rw [if_neg (by omega)] | rw [if_pos (by omega)])); exact id)
def pHt (w : Rw) (n : Nat) (t : Int) : Int := fsI (fun i => decide (t < ht w (i + 1))) (-6) n
/-- the time of the sentence at place p -/
def sT (w : Rw) (p : Nat) : Int := bt w p + w (5 * p + 2)
theorem sT_b {w : Rw} (hW : WH w) {p : Nat} (hp : (p : Int) < w 0) : 0 ≤ sT w p ∧ sT w p ≤ 10080 := by
  have b := bt_b hW (p := p) (by omega)
  have q := hW.nt hp
  have := hW.1
  unfold sT; omega
def F_heardAt (z : Rw) (l t x : Int) : Int := if l < 0 ∨ z 3 ≤ l then -1 else if (t < 0 ∨ 9999 < t) ∨ (x < 0 ∨ 3 < x) then -2 else if pHt (wO z l.toNat) (nw z l.toNat) t = -6 then -5 else
  if x = 0 then (if t < sT (wO z l.toNat) (pHt (wO z l.toNat) (nw z l.toNat) t).toNat then -6 else sm (wl4 (wO z l.toNat)) (pHt (wO z l.toNat) (nw z l.toNat) t).toNat + (t - sT (wO z l.toNat) (pHt (wO z l.toNat) (nw z l.toNat) t).toNat))
  else if x = 1 then (if t < sT (wO z l.toNat) (pHt (wO z l.toNat) (nw z l.toNat) t).toNat then wO z l.toNat (5 * (pHt (wO z l.toNat) (nw z l.toNat) t).toNat + 1) else -6)
  else if x = 2 then pHt (wO z l.toNat) (nw z l.toNat) t
  else sm (wb (wO z l.toNat)) ((pHt (wO z l.toNat) (nw z l.toNat) t).toNat + 1) - 1
-- NS.heardAt: blocks [0, 8, 13, 21, 30, 33, 36, 41, 49, 61, 69, 81, 82, 112, 122, 132, 135, 136, 152, 154, 155, 158, 168]
theorem k_NS_heardAt {d : Nat} {Q : QT} {μ : Mem} {l t x : Int} {z : Rw} (hz : IZ z) (hR : RC z μ 1) (hl : inR l) (ht1 : inR t) (hx : inR x) (hq : ∀ μ', QF z μ μ' → Q (.inl (F_heardAt z l t x)) μ') : Call σ1 (d + 5) 67 [.inr (.inr 0), .inl l, .inl t, .inl x] μ Q := by
  refine e_67 ?_
  have h := hq μ (QF_r hR)
  have q := hz.1
  refine wp_go b67_0 ?_; simp only [l67_0, sg_aload_0, sg_getfp, sg_iload_1, sg_iv2_i, len4_0, len4_1, len4_2, len4_3, len4_4, nLg_n, nLg_i, nLg_r, tc_c, tc_l, tc_r, tc_m, tc_n, tc_o, tc_0, inR, true_and, and_true, ne_eq, not_true_eq_false, not_false_eq_true, true_imp_iff, false_imp_iff, Int.toNat_natCast, lit_a, Nat.reduceAdd, or_true, true_or, or_false, false_or, Int.reduceEq, Int.reduceNe, Int.reduceLT, Int.reduceLE, Int.reduceNeg, sg_nil, s1p, x0, x1, x2, x3, x4, x5, x6, x7, x8, x9, x10, x11, x12, x13, x56, x57, x388, x389, x390, x391, x392, x393, x394, x395, x396, x397, x398, x399]
  refine k_Sta_hasListener st1 hR hz hl (fun h1 h2 => ?_) (fun h0 => ?_)
  · obtain ⟨n, rfl⟩ := nat_of h1
    have nn := nw_eq hz h2
    have W := wO_W hz h2
    refine wp_go b67_8 ?_; simp only [l67_8, sg_if_ne, sg_iconst, sg_iret0, nLg_n, nLg_i, nLg_r, tc_c, tc_l, tc_r, tc_m, tc_n, tc_o, tc_0, inR, true_and, and_true, ne_eq, not_true_eq_false, not_false_eq_true, true_imp_iff, false_imp_iff, Int.toNat_natCast, lit_a, Nat.reduceAdd, or_true, true_or, or_false, false_or, Int.reduceEq, Int.reduceNe, Int.reduceLT, Int.reduceLE, Int.reduceNeg, sg_nil]
    repeat' (first | with_reducible apply And.intro | intro _)
    all_goals (try omega)
    refine wp_go b67_13 ?_; simp only [l67_13, sg_iload_2, sg_iconst, sg_sipush, len4_0, len4_1, len4_2, len4_3, len4_4, sg_is3_1, nLg_n, nLg_i, nLg_r, tc_c, tc_l, tc_r, tc_m, tc_n, tc_o, tc_0, inR, true_and, and_true, ne_eq, not_true_eq_false, not_false_eq_true, true_imp_iff, false_imp_iff, Int.toNat_natCast, lit_a, Nat.reduceAdd, or_true, true_or, or_false, false_or, Int.reduceEq, Int.reduceNe, Int.reduceLT, Int.reduceLE, Int.reduceNeg, sg_nil]
    refine k_NS_isWithin ht1 (by unfold inR; omega) (by unfold inR; omega) (fun g1 g2 => ?_) (fun g0 => ?_)
    · refine wp_go b67_21 ?_; simp only [l67_21, sg_if_eq, sg_iload_3, sg_iconst, len4_0, len4_1, len4_2, len4_3, len4_4, sg_is3_1, nLg_n, nLg_i, nLg_r, tc_c, tc_l, tc_r, tc_m, tc_n, tc_o, tc_0, inR, true_and, and_true, ne_eq, not_true_eq_false, not_false_eq_true, true_imp_iff, false_imp_iff, Int.toNat_natCast, lit_a, Nat.reduceAdd, or_true, true_or, or_false, false_or, Int.reduceEq, Int.reduceNe, Int.reduceLT, Int.reduceLE, Int.reduceNeg, sg_nil]
      repeat' (first | with_reducible apply And.intro | intro _)
      all_goals (try omega)
      refine k_NS_isWithin hx (by unfold inR; omega) (by unfold inR; omega) (fun y1 y2 => ?_) (fun y0 => ?_)
      · refine wp_go b67_30 ?_; simp only [l67_30, sg_if_ne, nLg_n, nLg_i, nLg_r, tc_c, tc_l, tc_r, tc_m, tc_n, tc_o, tc_0, inR, true_and, and_true, ne_eq, not_true_eq_false, not_false_eq_true, true_imp_iff, false_imp_iff, Int.toNat_natCast, lit_a, Nat.reduceAdd, or_true, true_or, or_false, false_or, Int.reduceEq, Int.reduceNe, Int.reduceLT, Int.reduceLE, Int.reduceNeg, sg_nil]
        repeat' (first | with_reducible apply And.intro | intro _)
        all_goals (try omega)
        refine wp_go b67_36 ?_; simp only [l67_36, sg_aload_0, sg_iload_1, sg_iv2_r, len4_0, len4_1, len4_2, len4_3, len4_4, nLg_n, nLg_i, nLg_r, tc_c, tc_l, tc_r, tc_m, tc_n, tc_o, tc_0, inR, true_and, and_true, ne_eq, not_true_eq_false, not_false_eq_true, true_imp_iff, false_imp_iff, Int.toNat_natCast, lit_a, Nat.reduceAdd, or_true, true_or, or_false, false_or, Int.reduceEq, Int.reduceNe, Int.reduceLT, Int.reduceLE, Int.reduceNeg, sg_nil, s1p, x0, x1, x2, x3, x4, x5, x6, x7, x8, x9, x10, x11, x12, x13, x56, x57, x388, x389, x390, x391, x392, x393, x394, x395, x396, x397, x398, x399]
        refine k_NS_hearingOf hz hR h2 (fun μ' c f H hH _ _ => ?_)
        have h := hq μ' (QF_s hz hR f)
        obtain ⟨a0, a1, a2, a3, a4, a5, a6, p0, p1, p2, p3, p4, p5⟩ := heaF hH
        unfold F_heardAt at h
        rw [if_neg (by omega), if_neg (by omega), Int.toNat_natCast] at h
        refine wp_go b67_41 ?_; simp only [l67_41, sg_astore, okS_4, stL_4, sg_aload, ldR_4, sg_iload_2, sg_iv2_i, len4_0, len4_1, len4_2, len4_3, len4_4, nLg_n, nLg_i, nLg_r, tc_c, tc_l, tc_r, tc_m, tc_n, tc_o, tc_0, inR, true_and, and_true, ne_eq, not_true_eq_false, not_false_eq_true, true_imp_iff, false_imp_iff, Int.toNat_natCast, lit_a, Nat.reduceAdd, or_true, true_or, or_false, false_or, Int.reduceEq, Int.reduceNe, Int.reduceLT, Int.reduceLE, Int.reduceNeg, sg_nil, hH.1]
        refine k_Hea_placeHeardAt hH H W nn.1 ht1 ?_
        rcases fsI_in (fun i => decide (t < ht (wO z n) (i + 1))) (-6) (nw z n) with e2 | ⟨i, i1, i2, i3⟩
        · rw [e2]
          have e2 : pHt (wO z n) (nw z n) t = -6 := e2
          rw [if_pos e2] at h
          refine wp_go b67_49 ?_; simp only [l67_49, sg_istore, okS_5, stL_5, sg_iload, ldI_5, sg_bipush, sg_ic_ne, sg_iret0, nLg_n, nLg_i, nLg_r, tc_c, tc_l, tc_r, tc_m, tc_n, tc_o, tc_0, inR, true_and, and_true, ne_eq, not_true_eq_false, not_false_eq_true, true_imp_iff, false_imp_iff, Int.toNat_natCast, lit_a, Nat.reduceAdd, or_true, true_or, or_false, false_or, Int.reduceEq, Int.reduceNe, Int.reduceLT, Int.reduceLE, Int.reduceNeg, sg_nil]
          repeat' (first | with_reducible apply And.intro | (intro _) | ((first | refine wp_go b67_0 ?_ | refine wp_go b67_8 ?_ | refine wp_go b67_13 ?_ | refine wp_go b67_21 ?_ | refine wp_go b67_30 ?_ | refine wp_go b67_33 ?_ | refine wp_go b67_36 ?_ | refine wp_go b67_41 ?_ | refine wp_go b67_49 ?_ | refine wp_go b67_61 ?_ | refine wp_go b67_69 ?_ | refine wp_go b67_81 ?_ | refine wp_go b67_82 ?_ | refine wp_go b67_112 ?_ | refine wp_go b67_122 ?_ | refine wp_go b67_132 ?_ | refine wp_go b67_135 ?_ | refine wp_go b67_136 ?_ | refine wp_go b67_152 ?_ | refine wp_go b67_154 ?_ | refine wp_go b67_155 ?_ | refine wp_go b67_158 ?_ | refine wp_go b67_168 ?_); simp only [l67_0, l67_8, l67_13, l67_21, l67_30, l67_33, l67_36, l67_41, l67_49, l67_61, l67_69, l67_81, l67_82, l67_112, l67_122, l67_132, l67_135, l67_136, l67_152, l67_154, l67_155, l67_158, l67_168, sg_aload_0, sg_getfp, sg_iload_1, sg_iv2_i, len4_0, len4_1, len4_2, len4_3, len4_4, sg_if_ne, sg_iconst, sg_iret0, sg_iload_2, sg_sipush, sg_is3_1, sg_if_eq, sg_iload_3, sg_bipush, sg_iv2_r, sg_astore, okS_4, stL_4, sg_aload, ldR_4, sg_istore, okS_5, stL_5, sg_iload, ldI_5, sg_ic_ne, sg_isub, okS_6, stL_6, ldI_6, sg_if_ge, sg_goto, okS_7, stL_7, sg_tsw, swc_n, swc_c, List.toList_toArray, Int.reduceAdd, Int.reduceToNat, ldI_7, sg_iadd, sg_iaload, nLg_n, nLg_i, nLg_r, tc_c, tc_l, tc_r, tc_m, tc_n, tc_o, tc_0, inR, true_and, and_true, ne_eq, not_true_eq_false, not_false_eq_true, true_imp_iff, false_imp_iff, Int.toNat_natCast, lit_a, Nat.reduceAdd, or_true, true_or, or_false, false_or, Int.reduceEq, Int.reduceNe, Int.reduceLT, Int.reduceLE, Int.reduceNeg, sg_nil]))
          all_goals (try omega)
          all_goals exact h
        · rw [i2]
          have e2 : pHt (wO z n) (nw z n) t = (i : Int) := i2
          rw [e2, if_neg (by omega), Int.toNat_natCast] at h
          have sb := sT_b W (p := i) (by omega)
          have eno := (H.2 i (by omega)).2.2.2.1
          refine wp_go b67_49 ?_; simp only [l67_49, sg_istore, okS_5, stL_5, sg_iload, ldI_5, sg_bipush, sg_ic_ne, sg_iret0, nLg_n, nLg_i, nLg_r, tc_c, tc_l, tc_r, tc_m, tc_n, tc_o, tc_0, inR, true_and, and_true, ne_eq, not_true_eq_false, not_false_eq_true, true_imp_iff, false_imp_iff, Int.toNat_natCast, lit_a, Nat.reduceAdd, or_true, true_or, or_false, false_or, Int.reduceEq, Int.reduceNe, Int.reduceLT, Int.reduceLE, Int.reduceNeg, sg_nil]
          repeat' (first | with_reducible apply And.intro | intro _)
          all_goals (try omega)
          refine wp_go b67_61 ?_; simp only [l67_61, sg_iload_2, sg_aload, ldR_4, sg_iload, ldI_5, sg_iv2_i, len4_0, len4_1, len4_2, len4_3, len4_4, nLg_n, nLg_i, nLg_r, tc_c, tc_l, tc_r, tc_m, tc_n, tc_o, tc_0, inR, true_and, and_true, ne_eq, not_true_eq_false, not_false_eq_true, true_imp_iff, false_imp_iff, Int.toNat_natCast, lit_a, Nat.reduceAdd, or_true, true_or, or_false, false_or, Int.reduceEq, Int.reduceNe, Int.reduceLT, Int.reduceLE, Int.reduceNeg, sg_nil, hH.1]
          refine k_Hea_sentenceTime hH H (by omega) (by omega) ?_
          have e3 : bt (wO z n) i + wO z n (5 * i + 2) = sT (wO z n) i := rfl
          rw [e3]
          have ex : x = 0 ∨ x = 1 ∨ x = 2 ∨ x = 3 := by omega
          by_cases hn : t < sT (wO z n) i
          · rw [if_pos hn, if_pos hn] at h
            rcases ex with rfl | rfl | rfl | rfl
            · refine wp_go b67_69 ?_; simp only [l67_69, sg_isub, sg_istore, okS_6, stL_6, sg_iload, ldI_6, sg_if_ge, sg_iconst, sg_goto, nLg_n, nLg_i, nLg_r, tc_c, tc_l, tc_r, tc_m, tc_n, tc_o, tc_0, inR, true_and, and_true, ne_eq, not_true_eq_false, not_false_eq_true, true_imp_iff, false_imp_iff, Int.toNat_natCast, lit_a, Nat.reduceAdd, or_true, true_or, or_false, false_or, Int.reduceEq, Int.reduceNe, Int.reduceLT, Int.reduceLE, Int.reduceNeg, sg_nil]
              repeat' (first | with_reducible apply And.intro | (intro _) | ((first | refine wp_go b67_0 ?_ | refine wp_go b67_8 ?_ | refine wp_go b67_13 ?_ | refine wp_go b67_21 ?_ | refine wp_go b67_30 ?_ | refine wp_go b67_33 ?_ | refine wp_go b67_36 ?_ | refine wp_go b67_41 ?_ | refine wp_go b67_49 ?_ | refine wp_go b67_61 ?_ | refine wp_go b67_69 ?_ | refine wp_go b67_81 ?_ | refine wp_go b67_82 ?_ | refine wp_go b67_112 ?_ | refine wp_go b67_122 ?_ | refine wp_go b67_132 ?_ | refine wp_go b67_135 ?_ | refine wp_go b67_136 ?_ | refine wp_go b67_152 ?_ | refine wp_go b67_154 ?_ | refine wp_go b67_155 ?_ | refine wp_go b67_158 ?_ | refine wp_go b67_168 ?_); simp only [l67_0, l67_8, l67_13, l67_21, l67_30, l67_33, l67_36, l67_41, l67_49, l67_61, l67_69, l67_81, l67_82, l67_112, l67_122, l67_132, l67_135, l67_136, l67_152, l67_154, l67_155, l67_158, l67_168, sg_aload_0, sg_getfp, sg_iload_1, sg_iv2_i, len4_0, len4_1, len4_2, len4_3, len4_4, sg_if_ne, sg_iconst, sg_iret0, sg_iload_2, sg_sipush, sg_is3_1, sg_if_eq, sg_iload_3, sg_bipush, sg_iv2_r, sg_astore, okS_4, stL_4, sg_aload, ldR_4, sg_istore, okS_5, stL_5, sg_iload, ldI_5, sg_ic_ne, sg_isub, okS_6, stL_6, ldI_6, sg_if_ge, sg_goto, okS_7, stL_7, sg_tsw, swc_n, swc_c, List.toList_toArray, Int.reduceAdd, Int.reduceToNat, ldI_7, sg_iadd, sg_iaload, nLg_n, nLg_i, nLg_r, tc_c, tc_l, tc_r, tc_m, tc_n, tc_o, tc_0, inR, true_and, and_true, ne_eq, not_true_eq_false, not_false_eq_true, true_imp_iff, false_imp_iff, Int.toNat_natCast, lit_a, Nat.reduceAdd, or_true, true_or, or_false, false_or, Int.reduceEq, Int.reduceNe, Int.reduceLT, Int.reduceLE, Int.reduceNeg, sg_nil, a0, a1, a2, a3, a4, a5, a6, p0, p1, p2, p3, p4, p5]))
              all_goals (try omega)
              all_goals exact h
            · refine wp_go b67_69 ?_; simp only [l67_69, sg_isub, sg_istore, okS_6, stL_6, sg_iload, ldI_6, sg_if_ge, sg_iconst, sg_goto, nLg_n, nLg_i, nLg_r, tc_c, tc_l, tc_r, tc_m, tc_n, tc_o, tc_0, inR, true_and, and_true, ne_eq, not_true_eq_false, not_false_eq_true, true_imp_iff, false_imp_iff, Int.toNat_natCast, lit_a, Nat.reduceAdd, or_true, true_or, or_false, false_or, Int.reduceEq, Int.reduceNe, Int.reduceLT, Int.reduceLE, Int.reduceNeg, sg_nil]
              repeat' (first | with_reducible apply And.intro | (intro _) | ((first | refine wp_go b67_0 ?_ | refine wp_go b67_8 ?_ | refine wp_go b67_13 ?_ | refine wp_go b67_21 ?_ | refine wp_go b67_30 ?_ | refine wp_go b67_33 ?_ | refine wp_go b67_36 ?_ | refine wp_go b67_41 ?_ | refine wp_go b67_49 ?_ | refine wp_go b67_61 ?_ | refine wp_go b67_69 ?_ | refine wp_go b67_81 ?_ | refine wp_go b67_82 ?_ | refine wp_go b67_112 ?_ | refine wp_go b67_122 ?_ | refine wp_go b67_132 ?_ | refine wp_go b67_135 ?_ | refine wp_go b67_136 ?_ | refine wp_go b67_152 ?_ | refine wp_go b67_154 ?_ | refine wp_go b67_155 ?_ | refine wp_go b67_158 ?_ | refine wp_go b67_168 ?_); simp only [l67_0, l67_8, l67_13, l67_21, l67_30, l67_33, l67_36, l67_41, l67_49, l67_61, l67_69, l67_81, l67_82, l67_112, l67_122, l67_132, l67_135, l67_136, l67_152, l67_154, l67_155, l67_158, l67_168, sg_aload_0, sg_getfp, sg_iload_1, sg_iv2_i, len4_0, len4_1, len4_2, len4_3, len4_4, sg_if_ne, sg_iconst, sg_iret0, sg_iload_2, sg_sipush, sg_is3_1, sg_if_eq, sg_iload_3, sg_bipush, sg_iv2_r, sg_astore, okS_4, stL_4, sg_aload, ldR_4, sg_istore, okS_5, stL_5, sg_iload, ldI_5, sg_ic_ne, sg_isub, okS_6, stL_6, ldI_6, sg_if_ge, sg_goto, okS_7, stL_7, sg_tsw, swc_n, swc_c, List.toList_toArray, Int.reduceAdd, Int.reduceToNat, ldI_7, sg_iadd, sg_iaload, nLg_n, nLg_i, nLg_r, tc_c, tc_l, tc_r, tc_m, tc_n, tc_o, tc_0, inR, true_and, and_true, ne_eq, not_true_eq_false, not_false_eq_true, true_imp_iff, false_imp_iff, Int.toNat_natCast, lit_a, Nat.reduceAdd, or_true, true_or, or_false, false_or, Int.reduceEq, Int.reduceNe, Int.reduceLT, Int.reduceLE, Int.reduceNeg, sg_nil, a0, a1, a2, a3, a4, a5, a6, p0, p1, p2, p3, p4, p5, eno]))
              all_goals (try omega)
              all_goals exact h
            · refine wp_go b67_69 ?_; simp only [l67_69, sg_isub, sg_istore, okS_6, stL_6, sg_iload, ldI_6, sg_if_ge, sg_iconst, sg_goto, nLg_n, nLg_i, nLg_r, tc_c, tc_l, tc_r, tc_m, tc_n, tc_o, tc_0, inR, true_and, and_true, ne_eq, not_true_eq_false, not_false_eq_true, true_imp_iff, false_imp_iff, Int.toNat_natCast, lit_a, Nat.reduceAdd, or_true, true_or, or_false, false_or, Int.reduceEq, Int.reduceNe, Int.reduceLT, Int.reduceLE, Int.reduceNeg, sg_nil]
              repeat' (first | with_reducible apply And.intro | (intro _) | ((first | refine wp_go b67_0 ?_ | refine wp_go b67_8 ?_ | refine wp_go b67_13 ?_ | refine wp_go b67_21 ?_ | refine wp_go b67_30 ?_ | refine wp_go b67_33 ?_ | refine wp_go b67_36 ?_ | refine wp_go b67_41 ?_ | refine wp_go b67_49 ?_ | refine wp_go b67_61 ?_ | refine wp_go b67_69 ?_ | refine wp_go b67_81 ?_ | refine wp_go b67_82 ?_ | refine wp_go b67_112 ?_ | refine wp_go b67_122 ?_ | refine wp_go b67_132 ?_ | refine wp_go b67_135 ?_ | refine wp_go b67_136 ?_ | refine wp_go b67_152 ?_ | refine wp_go b67_154 ?_ | refine wp_go b67_155 ?_ | refine wp_go b67_158 ?_ | refine wp_go b67_168 ?_); simp only [l67_0, l67_8, l67_13, l67_21, l67_30, l67_33, l67_36, l67_41, l67_49, l67_61, l67_69, l67_81, l67_82, l67_112, l67_122, l67_132, l67_135, l67_136, l67_152, l67_154, l67_155, l67_158, l67_168, sg_aload_0, sg_getfp, sg_iload_1, sg_iv2_i, len4_0, len4_1, len4_2, len4_3, len4_4, sg_if_ne, sg_iconst, sg_iret0, sg_iload_2, sg_sipush, sg_is3_1, sg_if_eq, sg_iload_3, sg_bipush, sg_iv2_r, sg_astore, okS_4, stL_4, sg_aload, ldR_4, sg_istore, okS_5, stL_5, sg_iload, ldI_5, sg_ic_ne, sg_isub, okS_6, stL_6, ldI_6, sg_if_ge, sg_goto, okS_7, stL_7, sg_tsw, swc_n, swc_c, List.toList_toArray, Int.reduceAdd, Int.reduceToNat, ldI_7, sg_iadd, sg_iaload, nLg_n, nLg_i, nLg_r, tc_c, tc_l, tc_r, tc_m, tc_n, tc_o, tc_0, inR, true_and, and_true, ne_eq, not_true_eq_false, not_false_eq_true, true_imp_iff, false_imp_iff, Int.toNat_natCast, lit_a, Nat.reduceAdd, or_true, true_or, or_false, false_or, Int.reduceEq, Int.reduceNe, Int.reduceLT, Int.reduceLE, Int.reduceNeg, sg_nil, a0, a1, a2, a3, a4, a5, a6, p0, p1, p2, p3, p4, p5]))
              all_goals (try omega)
              all_goals exact h
            · refine wp_go b67_69 ?_; simp only [l67_69, sg_isub, sg_istore, okS_6, stL_6, sg_iload, ldI_6, sg_if_ge, sg_iconst, sg_goto, nLg_n, nLg_i, nLg_r, tc_c, tc_l, tc_r, tc_m, tc_n, tc_o, tc_0, inR, true_and, and_true, ne_eq, not_true_eq_false, not_false_eq_true, true_imp_iff, false_imp_iff, Int.toNat_natCast, lit_a, Nat.reduceAdd, or_true, true_or, or_false, false_or, Int.reduceEq, Int.reduceNe, Int.reduceLT, Int.reduceLE, Int.reduceNeg, sg_nil]
              repeat' (first | with_reducible apply And.intro | (intro _) | refine k_Sen_chapterOf hH.2.1 (by omega) ?_ | ((first | refine wp_go b67_0 ?_ | refine wp_go b67_8 ?_ | refine wp_go b67_13 ?_ | refine wp_go b67_21 ?_ | refine wp_go b67_30 ?_ | refine wp_go b67_33 ?_ | refine wp_go b67_36 ?_ | refine wp_go b67_41 ?_ | refine wp_go b67_49 ?_ | refine wp_go b67_61 ?_ | refine wp_go b67_69 ?_ | refine wp_go b67_81 ?_ | refine wp_go b67_82 ?_ | refine wp_go b67_112 ?_ | refine wp_go b67_122 ?_ | refine wp_go b67_132 ?_ | refine wp_go b67_135 ?_ | refine wp_go b67_136 ?_ | refine wp_go b67_152 ?_ | refine wp_go b67_154 ?_ | refine wp_go b67_155 ?_ | refine wp_go b67_158 ?_ | refine wp_go b67_168 ?_); simp only [l67_0, l67_8, l67_13, l67_21, l67_30, l67_33, l67_36, l67_41, l67_49, l67_61, l67_69, l67_81, l67_82, l67_112, l67_122, l67_132, l67_135, l67_136, l67_152, l67_154, l67_155, l67_158, l67_168, sg_aload_0, sg_getfp, sg_iload_1, sg_iv2_i, len4_0, len4_1, len4_2, len4_3, len4_4, sg_if_ne, sg_iconst, sg_iret0, sg_iload_2, sg_sipush, sg_is3_1, sg_if_eq, sg_iload_3, sg_bipush, sg_iv2_r, sg_astore, okS_4, stL_4, sg_aload, ldR_4, sg_istore, okS_5, stL_5, sg_iload, ldI_5, sg_ic_ne, sg_isub, okS_6, stL_6, ldI_6, sg_if_ge, sg_goto, okS_7, stL_7, sg_tsw, swc_n, swc_c, List.toList_toArray, Int.reduceAdd, Int.reduceToNat, ldI_7, sg_iadd, sg_iaload, nLg_n, nLg_i, nLg_r, tc_c, tc_l, tc_r, tc_m, tc_n, tc_o, tc_0, inR, true_and, and_true, ne_eq, not_true_eq_false, not_false_eq_true, true_imp_iff, false_imp_iff, Int.toNat_natCast, lit_a, Nat.reduceAdd, or_true, true_or, or_false, false_or, Int.reduceEq, Int.reduceNe, Int.reduceLT, Int.reduceLE, Int.reduceNeg, sg_nil, a0, a1, a2, a3, a4, a5, a6, p0, p1, p2, p3, p4, p5]))
              all_goals (try omega)
              rw [h_bg1 H W (by omega)]
              exact h
          · rw [if_neg hn, if_neg hn] at h
            rcases ex with rfl | rfl | rfl | rfl
            · refine wp_go b67_69 ?_; simp only [l67_69, sg_isub, sg_istore, okS_6, stL_6, sg_iload, ldI_6, sg_if_ge, sg_iconst, sg_goto, nLg_n, nLg_i, nLg_r, tc_c, tc_l, tc_r, tc_m, tc_n, tc_o, tc_0, inR, true_and, and_true, ne_eq, not_true_eq_false, not_false_eq_true, true_imp_iff, false_imp_iff, Int.toNat_natCast, lit_a, Nat.reduceAdd, or_true, true_or, or_false, false_or, Int.reduceEq, Int.reduceNe, Int.reduceLT, Int.reduceLE, Int.reduceNeg, sg_nil]
              repeat' (first | with_reducible apply And.intro | (intro _) | refine k_Sen_timeOf hH.2.1 (by omega) ?_ | ((first | refine wp_go b67_0 ?_ | refine wp_go b67_8 ?_ | refine wp_go b67_13 ?_ | refine wp_go b67_21 ?_ | refine wp_go b67_30 ?_ | refine wp_go b67_33 ?_ | refine wp_go b67_36 ?_ | refine wp_go b67_41 ?_ | refine wp_go b67_49 ?_ | refine wp_go b67_61 ?_ | refine wp_go b67_69 ?_ | refine wp_go b67_81 ?_ | refine wp_go b67_82 ?_ | refine wp_go b67_112 ?_ | refine wp_go b67_122 ?_ | refine wp_go b67_132 ?_ | refine wp_go b67_135 ?_ | refine wp_go b67_136 ?_ | refine wp_go b67_152 ?_ | refine wp_go b67_154 ?_ | refine wp_go b67_155 ?_ | refine wp_go b67_158 ?_ | refine wp_go b67_168 ?_); simp only [l67_0, l67_8, l67_13, l67_21, l67_30, l67_33, l67_36, l67_41, l67_49, l67_61, l67_69, l67_81, l67_82, l67_112, l67_122, l67_132, l67_135, l67_136, l67_152, l67_154, l67_155, l67_158, l67_168, sg_aload_0, sg_getfp, sg_iload_1, sg_iv2_i, len4_0, len4_1, len4_2, len4_3, len4_4, sg_if_ne, sg_iconst, sg_iret0, sg_iload_2, sg_sipush, sg_is3_1, sg_if_eq, sg_iload_3, sg_bipush, sg_iv2_r, sg_astore, okS_4, stL_4, sg_aload, ldR_4, sg_istore, okS_5, stL_5, sg_iload, ldI_5, sg_ic_ne, sg_isub, okS_6, stL_6, ldI_6, sg_if_ge, sg_goto, okS_7, stL_7, sg_tsw, swc_n, swc_c, List.toList_toArray, Int.reduceAdd, Int.reduceToNat, ldI_7, sg_iadd, sg_iaload, nLg_n, nLg_i, nLg_r, tc_c, tc_l, tc_r, tc_m, tc_n, tc_o, tc_0, inR, true_and, and_true, ne_eq, not_true_eq_false, not_false_eq_true, true_imp_iff, false_imp_iff, Int.toNat_natCast, lit_a, Nat.reduceAdd, or_true, true_or, or_false, false_or, Int.reduceEq, Int.reduceNe, Int.reduceLT, Int.reduceLE, Int.reduceNeg, sg_nil, a0, a1, a2, a3, a4, a5, a6, p0, p1, p2, p3, p4, p5]))
              all_goals (try omega)
              rw [h_len H (by omega)]
              exact h
            · refine wp_go b67_69 ?_; simp only [l67_69, sg_isub, sg_istore, okS_6, stL_6, sg_iload, ldI_6, sg_if_ge, sg_iconst, sg_goto, nLg_n, nLg_i, nLg_r, tc_c, tc_l, tc_r, tc_m, tc_n, tc_o, tc_0, inR, true_and, and_true, ne_eq, not_true_eq_false, not_false_eq_true, true_imp_iff, false_imp_iff, Int.toNat_natCast, lit_a, Nat.reduceAdd, or_true, true_or, or_false, false_or, Int.reduceEq, Int.reduceNe, Int.reduceLT, Int.reduceLE, Int.reduceNeg, sg_nil]
              repeat' (first | with_reducible apply And.intro | (intro _) | ((first | refine wp_go b67_0 ?_ | refine wp_go b67_8 ?_ | refine wp_go b67_13 ?_ | refine wp_go b67_21 ?_ | refine wp_go b67_30 ?_ | refine wp_go b67_33 ?_ | refine wp_go b67_36 ?_ | refine wp_go b67_41 ?_ | refine wp_go b67_49 ?_ | refine wp_go b67_61 ?_ | refine wp_go b67_69 ?_ | refine wp_go b67_81 ?_ | refine wp_go b67_82 ?_ | refine wp_go b67_112 ?_ | refine wp_go b67_122 ?_ | refine wp_go b67_132 ?_ | refine wp_go b67_135 ?_ | refine wp_go b67_136 ?_ | refine wp_go b67_152 ?_ | refine wp_go b67_154 ?_ | refine wp_go b67_155 ?_ | refine wp_go b67_158 ?_ | refine wp_go b67_168 ?_); simp only [l67_0, l67_8, l67_13, l67_21, l67_30, l67_33, l67_36, l67_41, l67_49, l67_61, l67_69, l67_81, l67_82, l67_112, l67_122, l67_132, l67_135, l67_136, l67_152, l67_154, l67_155, l67_158, l67_168, sg_aload_0, sg_getfp, sg_iload_1, sg_iv2_i, len4_0, len4_1, len4_2, len4_3, len4_4, sg_if_ne, sg_iconst, sg_iret0, sg_iload_2, sg_sipush, sg_is3_1, sg_if_eq, sg_iload_3, sg_bipush, sg_iv2_r, sg_astore, okS_4, stL_4, sg_aload, ldR_4, sg_istore, okS_5, stL_5, sg_iload, ldI_5, sg_ic_ne, sg_isub, okS_6, stL_6, ldI_6, sg_if_ge, sg_goto, okS_7, stL_7, sg_tsw, swc_n, swc_c, List.toList_toArray, Int.reduceAdd, Int.reduceToNat, ldI_7, sg_iadd, sg_iaload, nLg_n, nLg_i, nLg_r, tc_c, tc_l, tc_r, tc_m, tc_n, tc_o, tc_0, inR, true_and, and_true, ne_eq, not_true_eq_false, not_false_eq_true, true_imp_iff, false_imp_iff, Int.toNat_natCast, lit_a, Nat.reduceAdd, or_true, true_or, or_false, false_or, Int.reduceEq, Int.reduceNe, Int.reduceLT, Int.reduceLE, Int.reduceNeg, sg_nil, a0, a1, a2, a3, a4, a5, a6, p0, p1, p2, p3, p4, p5, eno]))
              all_goals (try omega)
              all_goals exact h
            · refine wp_go b67_69 ?_; simp only [l67_69, sg_isub, sg_istore, okS_6, stL_6, sg_iload, ldI_6, sg_if_ge, sg_iconst, sg_goto, nLg_n, nLg_i, nLg_r, tc_c, tc_l, tc_r, tc_m, tc_n, tc_o, tc_0, inR, true_and, and_true, ne_eq, not_true_eq_false, not_false_eq_true, true_imp_iff, false_imp_iff, Int.toNat_natCast, lit_a, Nat.reduceAdd, or_true, true_or, or_false, false_or, Int.reduceEq, Int.reduceNe, Int.reduceLT, Int.reduceLE, Int.reduceNeg, sg_nil]
              repeat' (first | with_reducible apply And.intro | (intro _) | ((first | refine wp_go b67_0 ?_ | refine wp_go b67_8 ?_ | refine wp_go b67_13 ?_ | refine wp_go b67_21 ?_ | refine wp_go b67_30 ?_ | refine wp_go b67_33 ?_ | refine wp_go b67_36 ?_ | refine wp_go b67_41 ?_ | refine wp_go b67_49 ?_ | refine wp_go b67_61 ?_ | refine wp_go b67_69 ?_ | refine wp_go b67_81 ?_ | refine wp_go b67_82 ?_ | refine wp_go b67_112 ?_ | refine wp_go b67_122 ?_ | refine wp_go b67_132 ?_ | refine wp_go b67_135 ?_ | refine wp_go b67_136 ?_ | refine wp_go b67_152 ?_ | refine wp_go b67_154 ?_ | refine wp_go b67_155 ?_ | refine wp_go b67_158 ?_ | refine wp_go b67_168 ?_); simp only [l67_0, l67_8, l67_13, l67_21, l67_30, l67_33, l67_36, l67_41, l67_49, l67_61, l67_69, l67_81, l67_82, l67_112, l67_122, l67_132, l67_135, l67_136, l67_152, l67_154, l67_155, l67_158, l67_168, sg_aload_0, sg_getfp, sg_iload_1, sg_iv2_i, len4_0, len4_1, len4_2, len4_3, len4_4, sg_if_ne, sg_iconst, sg_iret0, sg_iload_2, sg_sipush, sg_is3_1, sg_if_eq, sg_iload_3, sg_bipush, sg_iv2_r, sg_astore, okS_4, stL_4, sg_aload, ldR_4, sg_istore, okS_5, stL_5, sg_iload, ldI_5, sg_ic_ne, sg_isub, okS_6, stL_6, ldI_6, sg_if_ge, sg_goto, okS_7, stL_7, sg_tsw, swc_n, swc_c, List.toList_toArray, Int.reduceAdd, Int.reduceToNat, ldI_7, sg_iadd, sg_iaload, nLg_n, nLg_i, nLg_r, tc_c, tc_l, tc_r, tc_m, tc_n, tc_o, tc_0, inR, true_and, and_true, ne_eq, not_true_eq_false, not_false_eq_true, true_imp_iff, false_imp_iff, Int.toNat_natCast, lit_a, Nat.reduceAdd, or_true, true_or, or_false, false_or, Int.reduceEq, Int.reduceNe, Int.reduceLT, Int.reduceLE, Int.reduceNeg, sg_nil, a0, a1, a2, a3, a4, a5, a6, p0, p1, p2, p3, p4, p5]))
              all_goals (try omega)
              all_goals exact h
            · refine wp_go b67_69 ?_; simp only [l67_69, sg_isub, sg_istore, okS_6, stL_6, sg_iload, ldI_6, sg_if_ge, sg_iconst, sg_goto, nLg_n, nLg_i, nLg_r, tc_c, tc_l, tc_r, tc_m, tc_n, tc_o, tc_0, inR, true_and, and_true, ne_eq, not_true_eq_false, not_false_eq_true, true_imp_iff, false_imp_iff, Int.toNat_natCast, lit_a, Nat.reduceAdd, or_true, true_or, or_false, false_or, Int.reduceEq, Int.reduceNe, Int.reduceLT, Int.reduceLE, Int.reduceNeg, sg_nil]
              repeat' (first | with_reducible apply And.intro | (intro _) | refine k_Sen_chapterOf hH.2.1 (by omega) ?_ | ((first | refine wp_go b67_0 ?_ | refine wp_go b67_8 ?_ | refine wp_go b67_13 ?_ | refine wp_go b67_21 ?_ | refine wp_go b67_30 ?_ | refine wp_go b67_33 ?_ | refine wp_go b67_36 ?_ | refine wp_go b67_41 ?_ | refine wp_go b67_49 ?_ | refine wp_go b67_61 ?_ | refine wp_go b67_69 ?_ | refine wp_go b67_81 ?_ | refine wp_go b67_82 ?_ | refine wp_go b67_112 ?_ | refine wp_go b67_122 ?_ | refine wp_go b67_132 ?_ | refine wp_go b67_135 ?_ | refine wp_go b67_136 ?_ | refine wp_go b67_152 ?_ | refine wp_go b67_154 ?_ | refine wp_go b67_155 ?_ | refine wp_go b67_158 ?_ | refine wp_go b67_168 ?_); simp only [l67_0, l67_8, l67_13, l67_21, l67_30, l67_33, l67_36, l67_41, l67_49, l67_61, l67_69, l67_81, l67_82, l67_112, l67_122, l67_132, l67_135, l67_136, l67_152, l67_154, l67_155, l67_158, l67_168, sg_aload_0, sg_getfp, sg_iload_1, sg_iv2_i, len4_0, len4_1, len4_2, len4_3, len4_4, sg_if_ne, sg_iconst, sg_iret0, sg_iload_2, sg_sipush, sg_is3_1, sg_if_eq, sg_iload_3, sg_bipush, sg_iv2_r, sg_astore, okS_4, stL_4, sg_aload, ldR_4, sg_istore, okS_5, stL_5, sg_iload, ldI_5, sg_ic_ne, sg_isub, okS_6, stL_6, ldI_6, sg_if_ge, sg_goto, okS_7, stL_7, sg_tsw, swc_n, swc_c, List.toList_toArray, Int.reduceAdd, Int.reduceToNat, ldI_7, sg_iadd, sg_iaload, nLg_n, nLg_i, nLg_r, tc_c, tc_l, tc_r, tc_m, tc_n, tc_o, tc_0, inR, true_and, and_true, ne_eq, not_true_eq_false, not_false_eq_true, true_imp_iff, false_imp_iff, Int.toNat_natCast, lit_a, Nat.reduceAdd, or_true, true_or, or_false, false_or, Int.reduceEq, Int.reduceNe, Int.reduceLT, Int.reduceLE, Int.reduceNeg, sg_nil, a0, a1, a2, a3, a4, a5, a6, p0, p1, p2, p3, p4, p5]))
              all_goals (try omega)
              rw [h_bg1 H W (by omega)]
              exact h
      · refine wp_go b67_30 ?_; simp only [l67_30, sg_if_ne, nLg_n, nLg_i, nLg_r, tc_c, tc_l, tc_r, tc_m, tc_n, tc_o, tc_0, inR, true_and, and_true, ne_eq, not_true_eq_false, not_false_eq_true, true_imp_iff, false_imp_iff, Int.toNat_natCast, lit_a, Nat.reduceAdd, or_true, true_or, or_false, false_or, Int.reduceEq, Int.reduceNe, Int.reduceLT, Int.reduceLE, Int.reduceNeg, sg_nil]
        repeat' (first | with_reducible apply And.intro | (intro _) | ((first | refine wp_go b67_0 ?_ | refine wp_go b67_8 ?_ | refine wp_go b67_13 ?_ | refine wp_go b67_21 ?_ | refine wp_go b67_30 ?_ | refine wp_go b67_33 ?_ | refine wp_go b67_36 ?_ | refine wp_go b67_41 ?_ | refine wp_go b67_49 ?_ | refine wp_go b67_61 ?_ | refine wp_go b67_69 ?_ | refine wp_go b67_81 ?_ | refine wp_go b67_82 ?_ | refine wp_go b67_112 ?_ | refine wp_go b67_122 ?_ | refine wp_go b67_132 ?_ | refine wp_go b67_135 ?_ | refine wp_go b67_136 ?_ | refine wp_go b67_152 ?_ | refine wp_go b67_154 ?_ | refine wp_go b67_155 ?_ | refine wp_go b67_158 ?_ | refine wp_go b67_168 ?_); simp only [l67_0, l67_8, l67_13, l67_21, l67_30, l67_33, l67_36, l67_41, l67_49, l67_61, l67_69, l67_81, l67_82, l67_112, l67_122, l67_132, l67_135, l67_136, l67_152, l67_154, l67_155, l67_158, l67_168, sg_aload_0, sg_getfp, sg_iload_1, sg_iv2_i, len4_0, len4_1, len4_2, len4_3, len4_4, sg_if_ne, sg_iconst, sg_iret0, sg_iload_2, sg_sipush, sg_is3_1, sg_if_eq, sg_iload_3, sg_bipush, sg_iv2_r, sg_astore, okS_4, stL_4, sg_aload, ldR_4, sg_istore, okS_5, stL_5, sg_iload, ldI_5, sg_ic_ne, sg_isub, okS_6, stL_6, ldI_6, sg_if_ge, sg_goto, okS_7, stL_7, sg_tsw, swc_n, swc_c, List.toList_toArray, Int.reduceAdd, Int.reduceToNat, ldI_7, sg_iadd, sg_iaload, nLg_n, nLg_i, nLg_r, tc_c, tc_l, tc_r, tc_m, tc_n, tc_o, tc_0, inR, true_and, and_true, ne_eq, not_true_eq_false, not_false_eq_true, true_imp_iff, false_imp_iff, Int.toNat_natCast, lit_a, Nat.reduceAdd, or_true, true_or, or_false, false_or, Int.reduceEq, Int.reduceNe, Int.reduceLT, Int.reduceLE, Int.reduceNeg, sg_nil]))
        all_goals (try omega)
        all_goals (revert h; unfold F_heardAt; (try simp only [Int.toNat_natCast]); (repeat (first | rw [if_neg (by omega)] | rw [if_pos (by omega)])); exact id)
    · refine wp_go b67_21 ?_; simp only [l67_21, sg_if_eq, sg_iload_3, sg_iconst, len4_0, len4_1, len4_2, len4_3, len4_4, sg_is3_1, nLg_n, nLg_i, nLg_r, tc_c, tc_l, tc_r, tc_m, tc_n, tc_o, tc_0, inR, true_and, and_true, ne_eq, not_true_eq_false, not_false_eq_true, true_imp_iff, false_imp_iff, Int.toNat_natCast, lit_a, Nat.reduceAdd, or_true, true_or, or_false, false_or, Int.reduceEq, Int.reduceNe, Int.reduceLT, Int.reduceLE, Int.reduceNeg, sg_nil]
      repeat' (first | with_reducible apply And.intro | (intro _) | ((first | refine wp_go b67_0 ?_ | refine wp_go b67_8 ?_ | refine wp_go b67_13 ?_ | refine wp_go b67_21 ?_ | refine wp_go b67_30 ?_ | refine wp_go b67_33 ?_ | refine wp_go b67_36 ?_ | refine wp_go b67_41 ?_ | refine wp_go b67_49 ?_ | refine wp_go b67_61 ?_ | refine wp_go b67_69 ?_ | refine wp_go b67_81 ?_ | refine wp_go b67_82 ?_ | refine wp_go b67_112 ?_ | refine wp_go b67_122 ?_ | refine wp_go b67_132 ?_ | refine wp_go b67_135 ?_ | refine wp_go b67_136 ?_ | refine wp_go b67_152 ?_ | refine wp_go b67_154 ?_ | refine wp_go b67_155 ?_ | refine wp_go b67_158 ?_ | refine wp_go b67_168 ?_); simp only [l67_0, l67_8, l67_13, l67_21, l67_30, l67_33, l67_36, l67_41, l67_49, l67_61, l67_69, l67_81, l67_82, l67_112, l67_122, l67_132, l67_135, l67_136, l67_152, l67_154, l67_155, l67_158, l67_168, sg_aload_0, sg_getfp, sg_iload_1, sg_iv2_i, len4_0, len4_1, len4_2, len4_3, len4_4, sg_if_ne, sg_iconst, sg_iret0, sg_iload_2, sg_sipush, sg_is3_1, sg_if_eq, sg_iload_3, sg_bipush, sg_iv2_r, sg_astore, okS_4, stL_4, sg_aload, ldR_4, sg_istore, okS_5, stL_5, sg_iload, ldI_5, sg_ic_ne, sg_isub, okS_6, stL_6, ldI_6, sg_if_ge, sg_goto, okS_7, stL_7, sg_tsw, swc_n, swc_c, List.toList_toArray, Int.reduceAdd, Int.reduceToNat, ldI_7, sg_iadd, sg_iaload, nLg_n, nLg_i, nLg_r, tc_c, tc_l, tc_r, tc_m, tc_n, tc_o, tc_0, inR, true_and, and_true, ne_eq, not_true_eq_false, not_false_eq_true, true_imp_iff, false_imp_iff, Int.toNat_natCast, lit_a, Nat.reduceAdd, or_true, true_or, or_false, false_or, Int.reduceEq, Int.reduceNe, Int.reduceLT, Int.reduceLE, Int.reduceNeg, sg_nil]))
      all_goals (try omega)
      all_goals (revert h; unfold F_heardAt; (try simp only [Int.toNat_natCast]); (repeat (first | rw [if_neg (by omega)] | rw [if_pos (by omega)])); exact id)
  · refine wp_go b67_8 ?_; simp only [l67_8, sg_if_ne, sg_iconst, sg_iret0, nLg_n, nLg_i, nLg_r, tc_c, tc_l, tc_r, tc_m, tc_n, tc_o, tc_0, inR, true_and, and_true, ne_eq, not_true_eq_false, not_false_eq_true, true_imp_iff, false_imp_iff, Int.toNat_natCast, lit_a, Nat.reduceAdd, or_true, true_or, or_false, false_or, Int.reduceEq, Int.reduceNe, Int.reduceLT, Int.reduceLE, Int.reduceNeg, sg_nil]
    repeat' (first | with_reducible apply And.intro | (intro _) | ((first | refine wp_go b67_0 ?_ | refine wp_go b67_8 ?_ | refine wp_go b67_13 ?_ | refine wp_go b67_21 ?_ | refine wp_go b67_30 ?_ | refine wp_go b67_33 ?_ | refine wp_go b67_36 ?_ | refine wp_go b67_41 ?_ | refine wp_go b67_49 ?_ | refine wp_go b67_61 ?_ | refine wp_go b67_69 ?_ | refine wp_go b67_81 ?_ | refine wp_go b67_82 ?_ | refine wp_go b67_112 ?_ | refine wp_go b67_122 ?_ | refine wp_go b67_132 ?_ | refine wp_go b67_135 ?_ | refine wp_go b67_136 ?_ | refine wp_go b67_152 ?_ | refine wp_go b67_154 ?_ | refine wp_go b67_155 ?_ | refine wp_go b67_158 ?_ | refine wp_go b67_168 ?_); simp only [l67_0, l67_8, l67_13, l67_21, l67_30, l67_33, l67_36, l67_41, l67_49, l67_61, l67_69, l67_81, l67_82, l67_112, l67_122, l67_132, l67_135, l67_136, l67_152, l67_154, l67_155, l67_158, l67_168, sg_aload_0, sg_getfp, sg_iload_1, sg_iv2_i, len4_0, len4_1, len4_2, len4_3, len4_4, sg_if_ne, sg_iconst, sg_iret0, sg_iload_2, sg_sipush, sg_is3_1, sg_if_eq, sg_iload_3, sg_bipush, sg_iv2_r, sg_astore, okS_4, stL_4, sg_aload, ldR_4, sg_istore, okS_5, stL_5, sg_iload, ldI_5, sg_ic_ne, sg_isub, okS_6, stL_6, ldI_6, sg_if_ge, sg_goto, okS_7, stL_7, sg_tsw, swc_n, swc_c, List.toList_toArray, Int.reduceAdd, Int.reduceToNat, ldI_7, sg_iadd, sg_iaload, nLg_n, nLg_i, nLg_r, tc_c, tc_l, tc_r, tc_m, tc_n, tc_o, tc_0, inR, true_and, and_true, ne_eq, not_true_eq_false, not_false_eq_true, true_imp_iff, false_imp_iff, Int.toNat_natCast, lit_a, Nat.reduceAdd, or_true, true_or, or_false, false_or, Int.reduceEq, Int.reduceNe, Int.reduceLT, Int.reduceLE, Int.reduceNeg, sg_nil, s1p, x0, x1, x2, x3, x4, x5, x6, x7, x8, x9, x10, x11, x12, x13, x56, x57, x388, x389, x390, x391, x392, x393, x394, x395, x396, x397, x398, x399]))
    all_goals (try omega)
    all_goals (revert h; unfold F_heardAt; (try simp only [Int.toNat_natCast]); (repeat (first | rw [if_neg (by omega)] | rw [if_pos (by omega)])); exact id)
end
section
def F_chapterAt (z : Rw) (l c : Int) : Int := if l < 0 ∨ z 3 ≤ l then -1 else if c < 0 ∨ sm (wb (wO z l.toNat)) (nw z l.toNat) ≤ c then -1 else bt (wO z l.toNat) (fsI (fun i => decide (c < sm (wb (wO z l.toNat)) (i + 1))) 0 (nw z l.toNat)).toNat
theorem wb_b {w : Rw} (hW : WH w) {p : Nat} (hp : (p : Int) ≤ w 0) : 0 ≤ sm (wb w) p ∧ sm (wb w) p ≤ p := by
  have := sm_b (f := wb w) (b := 1) (n := p) (fun j hj => (hW.2.1 j (by omega)).2.2.1)
  omega
-- NS.chapterAt: blocks [0, 8, 13, 18, 28, 33, 38, 47, 50]
theorem k_NS_chapterAt {d : Nat} {Q : QT} {μ : Mem} {l t : Int} {z : Rw} (hz : IZ z) (hR : RC z μ 1) (hl : inR l) (ht : inR t) (hq : ∀ μ', QF z μ μ' → Q (.inl (F_chapterAt z l t)) μ') : Call σ1 (d + 5) 68 [.inr (.inr 0), .inl l, .inl t] μ Q := by
  refine e_68 ?_
  have h := hq μ (QF_r hR)
  have q := hz.1
  refine wp_go b68_0 ?_; simp only [l68_0, sg_aload_0, sg_getfp, sg_iload_1, sg_iv2_i, len4_0, len4_1, len4_2, len4_3, len4_4, nLg_n, nLg_i, nLg_r, tc_c, tc_l, tc_r, tc_m, tc_n, tc_o, tc_0, inR, true_and, and_true, ne_eq, not_true_eq_false, not_false_eq_true, true_imp_iff, false_imp_iff, Int.toNat_natCast, lit_a, Nat.reduceAdd, or_true, true_or, or_false, false_or, Int.reduceEq, Int.reduceNe, Int.reduceLT, Int.reduceLE, Int.reduceNeg, sg_nil, s1p, x0, x1, x2, x3, x4, x5, x6, x7, x8, x9, x10, x11, x12, x13, x56, x57, x388, x389, x390, x391, x392, x393, x394, x395, x396, x397, x398, x399]
  refine k_Sta_hasListener st1 hR hz hl (fun h1 h2 => ?_) (fun h0 => ?_)
  · obtain ⟨n, rfl⟩ := nat_of h1
    have nn := nw_eq hz h2
    have W := wO_W hz h2
    have wbb := wb_b W (p := nw z n) (by omega)
    refine wp_go b68_8 ?_; simp only [l68_8, sg_if_ne, sg_iconst, sg_iret0, nLg_n, nLg_i, nLg_r, tc_c, tc_l, tc_r, tc_m, tc_n, tc_o, tc_0, inR, true_and, and_true, ne_eq, not_true_eq_false, not_false_eq_true, true_imp_iff, false_imp_iff, Int.toNat_natCast, lit_a, Nat.reduceAdd, or_true, true_or, or_false, false_or, Int.reduceEq, Int.reduceNe, Int.reduceLT, Int.reduceLE, Int.reduceNeg, sg_nil]
    repeat' (first | with_reducible apply And.intro | intro _)
    all_goals (try omega)
    refine wp_go b68_13 ?_; simp only [l68_13, sg_aload_0, sg_iload_1, sg_iv2_r, len4_0, len4_1, len4_2, len4_3, len4_4, nLg_n, nLg_i, nLg_r, tc_c, tc_l, tc_r, tc_m, tc_n, tc_o, tc_0, inR, true_and, and_true, ne_eq, not_true_eq_false, not_false_eq_true, true_imp_iff, false_imp_iff, Int.toNat_natCast, lit_a, Nat.reduceAdd, or_true, true_or, or_false, false_or, Int.reduceEq, Int.reduceNe, Int.reduceLT, Int.reduceLE, Int.reduceNeg, sg_nil, s1p, x0, x1, x2, x3, x4, x5, x6, x7, x8, x9, x10, x11, x12, x13, x56, x57, x388, x389, x390, x391, x392, x393, x394, x395, x396, x397, x398, x399]
    refine k_NS_hearingOf hz hR h2 (fun μ' c f H hH _ _ => ?_)
    have h := hq μ' (QF_s hz hR f)
    obtain ⟨a0, a1, a2, a3, a4, a5, a6, p0, p1, p2, p3, p4, p5⟩ := heaF hH
    refine wp_go b68_18 ?_; simp only [l68_18, sg_astore_3, sg_iload_2, sg_iconst, sg_aload_3, sg_getfp, sg_iv1_i, len4_0, len4_1, len4_2, len4_3, len4_4, nLg_n, nLg_i, nLg_r, tc_c, tc_l, tc_r, tc_m, tc_n, tc_o, tc_0, inR, true_and, and_true, ne_eq, not_true_eq_false, not_false_eq_true, true_imp_iff, false_imp_iff, Int.toNat_natCast, lit_a, Nat.reduceAdd, or_true, true_or, or_false, false_or, Int.reduceEq, Int.reduceNe, Int.reduceLT, Int.reduceLE, Int.reduceNeg, sg_nil, a0, a1, a2, a3, a4, a5, a6, p0, p1, p2, p3, p4, p5]
    refine k_Sen_chapters hH.2.1 (n := nw z n - 1) (H.1.trans (by omega)) (by omega) ?_
    rw [show sm (fun i => μ' (c + 1 + 3) (i + 1)) (nw z n - 1) + 1 = sm (wb (wO z n)) (nw z n) from by
      rw [h_bg1 H W (p := nw z n - 1) (by omega), show nw z n - 1 + 1 = nw z n by omega]; omega]
    refine wp_go b68_28 ?_; simp only [l68_28, sg_iconst, sg_isub, len4_0, len4_1, len4_2, len4_3, len4_4, sg_is3_1, nLg_n, nLg_i, nLg_r, tc_c, tc_l, tc_r, tc_m, tc_n, tc_o, tc_0, inR, true_and, and_true, ne_eq, not_true_eq_false, not_false_eq_true, true_imp_iff, false_imp_iff, Int.toNat_natCast, lit_a, Nat.reduceAdd, or_true, true_or, or_false, false_or, Int.reduceEq, Int.reduceNe, Int.reduceLT, Int.reduceLE, Int.reduceNeg, sg_nil]
    refine k_NS_isWithin ht (by unfold inR; omega) (by unfold inR; omega) (fun g1 g2 => ?_) (fun g0 => ?_)
    · unfold F_chapterAt at h
      rw [if_neg (by omega), Int.toNat_natCast, if_neg (by omega)] at h
      refine wp_go b68_33 ?_; simp only [l68_33, sg_if_ne, sg_iconst, sg_iret0, nLg_n, nLg_i, nLg_r, tc_c, tc_l, tc_r, tc_m, tc_n, tc_o, tc_0, inR, true_and, and_true, ne_eq, not_true_eq_false, not_false_eq_true, true_imp_iff, false_imp_iff, Int.toNat_natCast, lit_a, Nat.reduceAdd, or_true, true_or, or_false, false_or, Int.reduceEq, Int.reduceNe, Int.reduceLT, Int.reduceLE, Int.reduceNeg, sg_nil]
      repeat' (first | with_reducible apply And.intro | intro _)
      all_goals (try omega)
      refine wp_go b68_38 ?_; simp only [l68_38, sg_aload_3, sg_getfp, sg_iload_2, sg_iv2_i, len4_0, len4_1, len4_2, len4_3, len4_4, nLg_n, nLg_i, nLg_r, tc_c, tc_l, tc_r, tc_m, tc_n, tc_o, tc_0, inR, true_and, and_true, ne_eq, not_true_eq_false, not_false_eq_true, true_imp_iff, false_imp_iff, Int.toNat_natCast, lit_a, Nat.reduceAdd, or_true, true_or, or_false, false_or, Int.reduceEq, Int.reduceNe, Int.reduceLT, Int.reduceLE, Int.reduceNeg, sg_nil, a0, a1, a2, a3, a4, a5, a6, p0, p1, p2, p3, p4, p5]
      refine k_Sen_firstOfChapter hH.2.1 (n := nw z n) (H.1.trans nn.1) nn.2.2 (fun i hi => ?_) ht ?_
      · rw [show μ' (c + 1 + 3) i = wO z n (5 * i + 5) from (H.2 i (by omega)).2.2.1]
        exact (W.2.1 i (by omega)).2.2.1
      · have e1 : fsI (fun i => decide (t < sm (μ' (c + 1 + 3)) (i + 1))) 0 (nw z n) = fsI (fun i => decide (t < sm (wb (wO z n)) (i + 1))) 0 (nw z n) := fsI_c (fun i hi => by simp only [h_bg H (show ((i + 1 : Nat) : Int) ≤ wO z n 0 by omega)])
        rw [e1]
        obtain ⟨i, hi, e2⟩ : ∃ i : Nat, i < nw z n ∧ fsI (fun i => decide (t < sm (wb (wO z n)) (i + 1))) 0 (nw z n) = (i : Int) := by
          rcases fsI_in (fun i => decide (t < sm (wb (wO z n)) (i + 1))) 0 (nw z n) with e | ⟨i, h1, h2, -⟩
          · exact ⟨0, by omega, e⟩
          · exact ⟨i, h1, h2⟩
        rw [e2, Int.toNat_natCast] at h
        rw [e2]
        refine wp_go b68_47 ?_; simp only [l68_47, sg_iv2_i, len4_0, len4_1, len4_2, len4_3, len4_4, nLg_n, nLg_i, nLg_r, tc_c, tc_l, tc_r, tc_m, tc_n, tc_o, tc_0, inR, true_and, and_true, ne_eq, not_true_eq_false, not_false_eq_true, true_imp_iff, false_imp_iff, Int.toNat_natCast, lit_a, Nat.reduceAdd, or_true, true_or, or_false, false_or, Int.reduceEq, Int.reduceNe, Int.reduceLT, Int.reduceLE, Int.reduceNeg, sg_nil, hH.1]
        refine k_Hea_breakTime hH H (by omega) (by omega) ?_
        refine wp_go b68_50 ?_; simp only [l68_50, sg_iret0, nLg_n, nLg_i, nLg_r, tc_c, tc_l, tc_r, tc_m, tc_n, tc_o, tc_0, inR, true_and, and_true, ne_eq, not_true_eq_false, not_false_eq_true, true_imp_iff, false_imp_iff, Int.toNat_natCast, lit_a, Nat.reduceAdd, or_true, true_or, or_false, false_or, Int.reduceEq, Int.reduceNe, Int.reduceLT, Int.reduceLE, Int.reduceNeg, sg_nil]
        exact h
    · refine wp_go b68_33 ?_; simp only [l68_33, sg_if_ne, sg_iconst, sg_iret0, nLg_n, nLg_i, nLg_r, tc_c, tc_l, tc_r, tc_m, tc_n, tc_o, tc_0, inR, true_and, and_true, ne_eq, not_true_eq_false, not_false_eq_true, true_imp_iff, false_imp_iff, Int.toNat_natCast, lit_a, Nat.reduceAdd, or_true, true_or, or_false, false_or, Int.reduceEq, Int.reduceNe, Int.reduceLT, Int.reduceLE, Int.reduceNeg, sg_nil]
      repeat' (first | with_reducible apply And.intro | (intro _) | ((first | refine wp_go b68_0 ?_ | refine wp_go b68_8 ?_ | refine wp_go b68_13 ?_ | refine wp_go b68_18 ?_ | refine wp_go b68_28 ?_ | refine wp_go b68_33 ?_ | refine wp_go b68_38 ?_ | refine wp_go b68_47 ?_ | refine wp_go b68_50 ?_); simp only [l68_0, l68_8, l68_13, l68_18, l68_28, l68_33, l68_38, l68_47, l68_50, sg_aload_0, sg_getfp, sg_iload_1, sg_iv2_i, len4_0, len4_1, len4_2, len4_3, len4_4, sg_if_ne, sg_iconst, sg_iret0, sg_iv2_r, sg_astore_3, sg_iload_2, sg_aload_3, sg_iv1_i, sg_isub, sg_is3_1, nLg_n, nLg_i, nLg_r, tc_c, tc_l, tc_r, tc_m, tc_n, tc_o, tc_0, inR, true_and, and_true, ne_eq, not_true_eq_false, not_false_eq_true, true_imp_iff, false_imp_iff, Int.toNat_natCast, lit_a, Nat.reduceAdd, or_true, true_or, or_false, false_or, Int.reduceEq, Int.reduceNe, Int.reduceLT, Int.reduceLE, Int.reduceNeg, sg_nil]))
      all_goals (try omega)
      all_goals (revert h; unfold F_chapterAt; (try simp only [Int.toNat_natCast]); (repeat (first | rw [if_neg (by omega)] | rw [if_pos (by omega)])); exact id)
  · refine wp_go b68_8 ?_; simp only [l68_8, sg_if_ne, sg_iconst, sg_iret0, nLg_n, nLg_i, nLg_r, tc_c, tc_l, tc_r, tc_m, tc_n, tc_o, tc_0, inR, true_and, and_true, ne_eq, not_true_eq_false, not_false_eq_true, true_imp_iff, false_imp_iff, Int.toNat_natCast, lit_a, Nat.reduceAdd, or_true, true_or, or_false, false_or, Int.reduceEq, Int.reduceNe, Int.reduceLT, Int.reduceLE, Int.reduceNeg, sg_nil]
    repeat' (first | with_reducible apply And.intro | (intro _) | ((first | refine wp_go b68_0 ?_ | refine wp_go b68_8 ?_ | refine wp_go b68_13 ?_ | refine wp_go b68_18 ?_ | refine wp_go b68_28 ?_ | refine wp_go b68_33 ?_ | refine wp_go b68_38 ?_ | refine wp_go b68_47 ?_ | refine wp_go b68_50 ?_); simp only [l68_0, l68_8, l68_13, l68_18, l68_28, l68_33, l68_38, l68_47, l68_50, sg_aload_0, sg_getfp, sg_iload_1, sg_iv2_i, len4_0, len4_1, len4_2, len4_3, len4_4, sg_if_ne, sg_iconst, sg_iret0, sg_iv2_r, sg_astore_3, sg_iload_2, sg_aload_3, sg_iv1_i, sg_isub, sg_is3_1, nLg_n, nLg_i, nLg_r, tc_c, tc_l, tc_r, tc_m, tc_n, tc_o, tc_0, inR, true_and, and_true, ne_eq, not_true_eq_false, not_false_eq_true, true_imp_iff, false_imp_iff, Int.toNat_natCast, lit_a, Nat.reduceAdd, or_true, true_or, or_false, false_or, Int.reduceEq, Int.reduceNe, Int.reduceLT, Int.reduceLE, Int.reduceNeg, sg_nil, s1p, x0, x1, x2, x3, x4, x5, x6, x7, x8, x9, x10, x11, x12, x13, x56, x57, x388, x389, x390, x391, x392, x393, x394, x395, x396, x397, x398, x399]))
    all_goals (try omega)
    all_goals (revert h; unfold F_chapterAt; (try simp only [Int.toNat_natCast]); (repeat (first | rw [if_neg (by omega)] | rw [if_pos (by omega)])); exact id)
def pMk (w : Rw) (n : Nat) (m : Int) : Int := fsI (fun i => decide (wm w i = m)) (-1) n
def F_open (z : Rw) (l m s : Int) : Int := if l < 0 ∨ z 3 ≤ l then -1 else if s < 0 ∨ 299 < s then -2 else if pMk (wO z l.toNat) (nw z l.toNat) m = -1 then -5 else if wl4 (wO z l.toNat) (pMk (wO z l.toNat) (nw z l.toNat) m).toNat ≤ s then -5 else sT (wO z l.toNat) (pMk (wO z l.toNat) (nw z l.toNat) m).toNat + s
theorem h_mk {w : Rw} {μ : Mem} {c n : Nat} {m : Int} (H : HR w μ c) (hn : w 0 = (n : Int)) : fsI (fun i => decide (μ (c + 1 + 1) i = m)) (-1) n = pMk w n m := fsI_c (fun i hi => by rw [show μ (c + 1 + 1) i = wm w i from (H.2 i (by omega)).1])
-- NS.open: blocks [0, 8, 13, 21, 27, 32, 43, 66, 69, 76]
theorem k_NS_open {d : Nat} {Q : QT} {μ : Mem} {l m s : Int} {z : Rw} (hz : IZ z) (hR : RC z μ 1) (hl : inR l) (hm : inR m) (hs : inR s) (hq : ∀ μ', QF z μ μ' → Q (.inl (F_open z l m s)) μ') : Call σ1 (d + 5) 69 [.inr (.inr 0), .inl l, .inl m, .inl s] μ Q := by
  refine e_69 ?_
  have h := hq μ (QF_r hR)
  have q := hz.1
  refine wp_go b69_0 ?_; simp only [l69_0, sg_aload_0, sg_getfp, sg_iload_1, sg_iv2_i, len4_0, len4_1, len4_2, len4_3, len4_4, nLg_n, nLg_i, nLg_r, tc_c, tc_l, tc_r, tc_m, tc_n, tc_o, tc_0, inR, true_and, and_true, ne_eq, not_true_eq_false, not_false_eq_true, true_imp_iff, false_imp_iff, Int.toNat_natCast, lit_a, Nat.reduceAdd, or_true, true_or, or_false, false_or, Int.reduceEq, Int.reduceNe, Int.reduceLT, Int.reduceLE, Int.reduceNeg, sg_nil, s1p, x0, x1, x2, x3, x4, x5, x6, x7, x8, x9, x10, x11, x12, x13, x56, x57, x388, x389, x390, x391, x392, x393, x394, x395, x396, x397, x398, x399]
  refine k_Sta_hasListener st1 hR hz hl (fun h1 h2 => ?_) (fun h0 => ?_)
  · obtain ⟨n, rfl⟩ := nat_of h1
    have nn := nw_eq hz h2
    have W := wO_W hz h2
    refine wp_go b69_8 ?_; simp only [l69_8, sg_if_ne, sg_iconst, sg_iret0, nLg_n, nLg_i, nLg_r, tc_c, tc_l, tc_r, tc_m, tc_n, tc_o, tc_0, inR, true_and, and_true, ne_eq, not_true_eq_false, not_false_eq_true, true_imp_iff, false_imp_iff, Int.toNat_natCast, lit_a, Nat.reduceAdd, or_true, true_or, or_false, false_or, Int.reduceEq, Int.reduceNe, Int.reduceLT, Int.reduceLE, Int.reduceNeg, sg_nil]
    repeat' (first | with_reducible apply And.intro | intro _)
    all_goals (try omega)
    refine wp_go b69_13 ?_; simp only [l69_13, sg_iload_3, sg_iconst, sg_sipush, len4_0, len4_1, len4_2, len4_3, len4_4, sg_is3_1, nLg_n, nLg_i, nLg_r, tc_c, tc_l, tc_r, tc_m, tc_n, tc_o, tc_0, inR, true_and, and_true, ne_eq, not_true_eq_false, not_false_eq_true, true_imp_iff, false_imp_iff, Int.toNat_natCast, lit_a, Nat.reduceAdd, or_true, true_or, or_false, false_or, Int.reduceEq, Int.reduceNe, Int.reduceLT, Int.reduceLE, Int.reduceNeg, sg_nil]
    refine k_NS_isWithin hs (by unfold inR; omega) (by unfold inR; omega) (fun g1 g2 => ?_) (fun g0 => ?_)
    · refine wp_go b69_21 ?_; simp only [l69_21, sg_if_ne, sg_bipush, sg_iret0, nLg_n, nLg_i, nLg_r, tc_c, tc_l, tc_r, tc_m, tc_n, tc_o, tc_0, inR, true_and, and_true, ne_eq, not_true_eq_false, not_false_eq_true, true_imp_iff, false_imp_iff, Int.toNat_natCast, lit_a, Nat.reduceAdd, or_true, true_or, or_false, false_or, Int.reduceEq, Int.reduceNe, Int.reduceLT, Int.reduceLE, Int.reduceNeg, sg_nil]
      repeat' (first | with_reducible apply And.intro | intro _)
      all_goals (try omega)
      refine wp_go b69_27 ?_; simp only [l69_27, sg_aload_0, sg_iload_1, sg_iv2_r, len4_0, len4_1, len4_2, len4_3, len4_4, nLg_n, nLg_i, nLg_r, tc_c, tc_l, tc_r, tc_m, tc_n, tc_o, tc_0, inR, true_and, and_true, ne_eq, not_true_eq_false, not_false_eq_true, true_imp_iff, false_imp_iff, Int.toNat_natCast, lit_a, Nat.reduceAdd, or_true, true_or, or_false, false_or, Int.reduceEq, Int.reduceNe, Int.reduceLT, Int.reduceLE, Int.reduceNeg, sg_nil, s1p, x0, x1, x2, x3, x4, x5, x6, x7, x8, x9, x10, x11, x12, x13, x56, x57, x388, x389, x390, x391, x392, x393, x394, x395, x396, x397, x398, x399]
      refine k_NS_hearingOf hz hR h2 (fun μ' c f H hH _ _ => ?_)
      have h := hq μ' (QF_s hz hR f)
      obtain ⟨a0, a1, a2, a3, a4, a5, a6, p0, p1, p2, p3, p4, p5⟩ := heaF hH
      unfold F_open at h
      rw [if_neg (by omega), if_neg (by omega), Int.toNat_natCast] at h
      refine wp_go b69_32 ?_; simp only [l69_32, sg_astore, okS_4, stL_4, sg_aload, ldR_4, sg_getfp, sg_iload_2, sg_iv2_i, len4_0, len4_1, len4_2, len4_3, len4_4, nLg_n, nLg_i, nLg_r, tc_c, tc_l, tc_r, tc_m, tc_n, tc_o, tc_0, inR, true_and, and_true, ne_eq, not_true_eq_false, not_false_eq_true, true_imp_iff, false_imp_iff, Int.toNat_natCast, lit_a, Nat.reduceAdd, or_true, true_or, or_false, false_or, Int.reduceEq, Int.reduceNe, Int.reduceLT, Int.reduceLE, Int.reduceNeg, sg_nil, a0, a1, a2, a3, a4, a5, a6, p0, p1, p2, p3, p4, p5]
      refine k_Sen_placeOf hH.2.1 (n := nw z n) (H.1.trans nn.1) nn.2.2 (fun i hi => ?_) hm ?_
      · rw [show μ' (c + 1 + 1) i = wO z n (5 * i + 3) from (H.2 i (by omega)).1]
        have := (W.2.1 i (by omega)).1
        unfold inR; omega
      · rw [h_mk H nn.1]
        rcases fsI_in (fun i => decide (wm (wO z n) i = m)) (-1) (nw z n) with e2 | ⟨i, i1, i2, i3⟩
        · have e2 : pMk (wO z n) (nw z n) m = -1 := e2
          rw [if_pos e2] at h
          rw [e2]
          refine wp_go b69_43 ?_; simp only [l69_43, sg_istore, okS_5, stL_5, sg_iload, ldI_5, sg_iconst, sg_ic_eq, sg_iload_3, sg_aload, ldR_4, sg_getfp, sg_iaload, sg_ic_lt, nLg_n, nLg_i, nLg_r, tc_c, tc_l, tc_r, tc_m, tc_n, tc_o, tc_0, inR, true_and, and_true, ne_eq, not_true_eq_false, not_false_eq_true, true_imp_iff, false_imp_iff, Int.toNat_natCast, lit_a, Nat.reduceAdd, or_true, true_or, or_false, false_or, Int.reduceEq, Int.reduceNe, Int.reduceLT, Int.reduceLE, Int.reduceNeg, sg_nil]
          repeat' (first | with_reducible apply And.intro | (intro _) | ((first | refine wp_go b69_0 ?_ | refine wp_go b69_8 ?_ | refine wp_go b69_13 ?_ | refine wp_go b69_21 ?_ | refine wp_go b69_27 ?_ | refine wp_go b69_32 ?_ | refine wp_go b69_43 ?_ | refine wp_go b69_66 ?_ | refine wp_go b69_69 ?_ | refine wp_go b69_76 ?_); simp only [l69_0, l69_8, l69_13, l69_21, l69_27, l69_32, l69_43, l69_66, l69_69, l69_76, sg_aload_0, sg_getfp, sg_iload_1, sg_iv2_i, len4_0, len4_1, len4_2, len4_3, len4_4, sg_if_ne, sg_iconst, sg_iret0, sg_iload_3, sg_sipush, sg_is3_1, sg_bipush, sg_iv2_r, sg_astore, okS_4, stL_4, sg_aload, ldR_4, sg_iload_2, sg_istore, okS_5, stL_5, sg_iload, ldI_5, sg_ic_eq, sg_iaload, sg_ic_lt, sg_iadd, nLg_n, nLg_i, nLg_r, tc_c, tc_l, tc_r, tc_m, tc_n, tc_o, tc_0, inR, true_and, and_true, ne_eq, not_true_eq_false, not_false_eq_true, true_imp_iff, false_imp_iff, Int.toNat_natCast, lit_a, Nat.reduceAdd, or_true, true_or, or_false, false_or, Int.reduceEq, Int.reduceNe, Int.reduceLT, Int.reduceLE, Int.reduceNeg, sg_nil]))
          all_goals (try omega)
          all_goals exact h
        · have e2 : pMk (wO z n) (nw z n) m = (i : Int) := i2
          rw [e2, if_neg (by omega), Int.toNat_natCast] at h
          have el : μ' (c + 3) i = wl4 (wO z n) i := (H.2 i (by omega)).2.1
          have rl : 1 ≤ wl4 (wO z n) i ∧ wl4 (wO z n) i ≤ 300 := (W.2.1 i (by omega)).2.1
          rw [e2]
          refine wp_go b69_43 ?_; simp only [l69_43, sg_istore, okS_5, stL_5, sg_iload, ldI_5, sg_iconst, sg_ic_eq, sg_iload_3, sg_aload, ldR_4, sg_getfp, sg_iaload, sg_ic_lt, nLg_n, nLg_i, nLg_r, tc_c, tc_l, tc_r, tc_m, tc_n, tc_o, tc_0, inR, true_and, and_true, ne_eq, not_true_eq_false, not_false_eq_true, true_imp_iff, false_imp_iff, Int.toNat_natCast, lit_a, Nat.reduceAdd, or_true, true_or, or_false, false_or, Int.reduceEq, Int.reduceNe, Int.reduceLT, Int.reduceLE, Int.reduceNeg, sg_nil, a0, a1, a2, a3, a4, a5, a6, p0, p1, p2, p3, p4, p5, el]
          repeat' (first | with_reducible apply And.intro | intro _)
          all_goals (try omega)
          · rw [if_neg (by omega)] at h
            refine wp_go b69_69 ?_; simp only [l69_69, sg_aload, ldR_4, sg_iload, ldI_5, sg_iv2_i, len4_0, len4_1, len4_2, len4_3, len4_4, nLg_n, nLg_i, nLg_r, tc_c, tc_l, tc_r, tc_m, tc_n, tc_o, tc_0, inR, true_and, and_true, ne_eq, not_true_eq_false, not_false_eq_true, true_imp_iff, false_imp_iff, Int.toNat_natCast, lit_a, Nat.reduceAdd, or_true, true_or, or_false, false_or, Int.reduceEq, Int.reduceNe, Int.reduceLT, Int.reduceLE, Int.reduceNeg, sg_nil, hH.1]
            refine k_Hea_sentenceTime hH H (by omega) (by omega) ?_
            refine wp_go b69_76 ?_; simp only [l69_76, sg_iload_3, sg_iadd, sg_iret0, nLg_n, nLg_i, nLg_r, tc_c, tc_l, tc_r, tc_m, tc_n, tc_o, tc_0, inR, true_and, and_true, ne_eq, not_true_eq_false, not_false_eq_true, true_imp_iff, false_imp_iff, Int.toNat_natCast, lit_a, Nat.reduceAdd, or_true, true_or, or_false, false_or, Int.reduceEq, Int.reduceNe, Int.reduceLT, Int.reduceLE, Int.reduceNeg, sg_nil]
            exact h
          · rw [if_pos (by omega)] at h
            refine wp_go b69_66 ?_; simp only [l69_66, sg_bipush, sg_iret0, nLg_n, nLg_i, nLg_r, tc_c, tc_l, tc_r, tc_m, tc_n, tc_o, tc_0, inR, true_and, and_true, ne_eq, not_true_eq_false, not_false_eq_true, true_imp_iff, false_imp_iff, Int.toNat_natCast, lit_a, Nat.reduceAdd, or_true, true_or, or_false, false_or, Int.reduceEq, Int.reduceNe, Int.reduceLT, Int.reduceLE, Int.reduceNeg, sg_nil]
            exact h
    · refine wp_go b69_21 ?_; simp only [l69_21, sg_if_ne, sg_bipush, sg_iret0, nLg_n, nLg_i, nLg_r, tc_c, tc_l, tc_r, tc_m, tc_n, tc_o, tc_0, inR, true_and, and_true, ne_eq, not_true_eq_false, not_false_eq_true, true_imp_iff, false_imp_iff, Int.toNat_natCast, lit_a, Nat.reduceAdd, or_true, true_or, or_false, false_or, Int.reduceEq, Int.reduceNe, Int.reduceLT, Int.reduceLE, Int.reduceNeg, sg_nil]
      repeat' (first | with_reducible apply And.intro | (intro _) | ((first | refine wp_go b69_0 ?_ | refine wp_go b69_8 ?_ | refine wp_go b69_13 ?_ | refine wp_go b69_21 ?_ | refine wp_go b69_27 ?_ | refine wp_go b69_32 ?_ | refine wp_go b69_43 ?_ | refine wp_go b69_66 ?_ | refine wp_go b69_69 ?_ | refine wp_go b69_76 ?_); simp only [l69_0, l69_8, l69_13, l69_21, l69_27, l69_32, l69_43, l69_66, l69_69, l69_76, sg_aload_0, sg_getfp, sg_iload_1, sg_iv2_i, len4_0, len4_1, len4_2, len4_3, len4_4, sg_if_ne, sg_iconst, sg_iret0, sg_iload_3, sg_sipush, sg_is3_1, sg_bipush, sg_iv2_r, sg_astore, okS_4, stL_4, sg_aload, ldR_4, sg_iload_2, sg_istore, okS_5, stL_5, sg_iload, ldI_5, sg_ic_eq, sg_iaload, sg_ic_lt, sg_iadd, nLg_n, nLg_i, nLg_r, tc_c, tc_l, tc_r, tc_m, tc_n, tc_o, tc_0, inR, true_and, and_true, ne_eq, not_true_eq_false, not_false_eq_true, true_imp_iff, false_imp_iff, Int.toNat_natCast, lit_a, Nat.reduceAdd, or_true, true_or, or_false, false_or, Int.reduceEq, Int.reduceNe, Int.reduceLT, Int.reduceLE, Int.reduceNeg, sg_nil]))
      all_goals (try omega)
      all_goals (revert h; unfold F_open; (try simp only [Int.toNat_natCast]); (repeat (first | rw [if_neg (by omega)] | rw [if_pos (by omega)])); exact id)
  · refine wp_go b69_8 ?_; simp only [l69_8, sg_if_ne, sg_iconst, sg_iret0, nLg_n, nLg_i, nLg_r, tc_c, tc_l, tc_r, tc_m, tc_n, tc_o, tc_0, inR, true_and, and_true, ne_eq, not_true_eq_false, not_false_eq_true, true_imp_iff, false_imp_iff, Int.toNat_natCast, lit_a, Nat.reduceAdd, or_true, true_or, or_false, false_or, Int.reduceEq, Int.reduceNe, Int.reduceLT, Int.reduceLE, Int.reduceNeg, sg_nil]
    repeat' (first | with_reducible apply And.intro | (intro _) | ((first | refine wp_go b69_0 ?_ | refine wp_go b69_8 ?_ | refine wp_go b69_13 ?_ | refine wp_go b69_21 ?_ | refine wp_go b69_27 ?_ | refine wp_go b69_32 ?_ | refine wp_go b69_43 ?_ | refine wp_go b69_66 ?_ | refine wp_go b69_69 ?_ | refine wp_go b69_76 ?_); simp only [l69_0, l69_8, l69_13, l69_21, l69_27, l69_32, l69_43, l69_66, l69_69, l69_76, sg_aload_0, sg_getfp, sg_iload_1, sg_iv2_i, len4_0, len4_1, len4_2, len4_3, len4_4, sg_if_ne, sg_iconst, sg_iret0, sg_iload_3, sg_sipush, sg_is3_1, sg_bipush, sg_iv2_r, sg_astore, okS_4, stL_4, sg_aload, ldR_4, sg_iload_2, sg_istore, okS_5, stL_5, sg_iload, ldI_5, sg_ic_eq, sg_iaload, sg_ic_lt, sg_iadd, nLg_n, nLg_i, nLg_r, tc_c, tc_l, tc_r, tc_m, tc_n, tc_o, tc_0, inR, true_and, and_true, ne_eq, not_true_eq_false, not_false_eq_true, true_imp_iff, false_imp_iff, Int.toNat_natCast, lit_a, Nat.reduceAdd, or_true, true_or, or_false, false_or, Int.reduceEq, Int.reduceNe, Int.reduceLT, Int.reduceLE, Int.reduceNeg, sg_nil, s1p, x0, x1, x2, x3, x4, x5, x6, x7, x8, x9, x10, x11, x12, x13, x56, x57, x388, x389, x390, x391, x392, x393, x394, x395, x396, x397, x398, x399]))
    all_goals (try omega)
    all_goals (revert h; unfold F_open; (try simp only [Int.toNat_natCast]); (repeat (first | rw [if_neg (by omega)] | rw [if_pos (by omega)])); exact id)
/-- the moment of the episode of now that a listener hears at a time -/
def mom (z : Rw) (l : Nat) (t : Int) : Int := if pHt (wO z l) (nw z l) t = -6 then -5 else if F_marked z (wm (wO z l) (pHt (wO z l) (nw z l) t).toNat) = -1 then -5 else sm (zl z) (F_marked z (wm (wO z l) (pHt (wO z l) (nw z l) t).toNat)).toNat + (if 0 < t - sT (wO z l) (pHt (wO z l) (nw z l) t).toNat then t - sT (wO z l) (pHt (wO z l) (nw z l) t).toNat else 0)
-- NS.momentNow: blocks [0, 5, 11, 23, 43, 54, 66, 74]
theorem k_NS_momentNow {d l : Nat} {Q : QT} {μ : Mem} {t : Int} {z : Rw} (hz : IZ z) (hR : RC z μ 1) (hl : (l : Int) < z 3) (ht1 : 0 ≤ t ∧ t ≤ 9999) (hq : ∀ μ', (∀ k, (k < 392 ∨ 400 ≤ k) → μ' k = μ k) → Q (.inl (mom z l t)) μ') : Call σ1 (d + 5) 88 [.inr (.inr 0), .inl (l : Int), .inl t] μ Q := by
  refine e_88 ?_
  have q := hz.1
  have nn := nw_eq hz hl
  have W := wO_W hz hl
  have e0 := zn_eq hz
  refine wp_go b88_0 ?_; simp only [l88_0, sg_aload_0, sg_iload_1, sg_iv2_r, len4_0, len4_1, len4_2, len4_3, len4_4, nLg_n, nLg_i, nLg_r, tc_c, tc_l, tc_r, tc_m, tc_n, tc_o, tc_0, inR, true_and, and_true, ne_eq, not_true_eq_false, not_false_eq_true, true_imp_iff, false_imp_iff, Int.toNat_natCast, lit_a, Nat.reduceAdd, or_true, true_or, or_false, false_or, Int.reduceEq, Int.reduceNe, Int.reduceLT, Int.reduceLE, Int.reduceNeg, sg_nil, s1p, x0, x1, x2, x3, x4, x5, x6, x7, x8, x9, x10, x11, x12, x13, x56, x57, x388, x389, x390, x391, x392, x393, x394, x395, x396, x397, x398, x399]
  refine k_NS_hearingOf hz hR hl (fun μ' c f H hH _ _ => ?_)
  have h := hq μ' f
  have R1 : RC z μ' 1 := RC_f (by omega) (fun k _ _ => f k (by omega)) hR
  obtain ⟨a0, a1, a2, a3, a4, a5, a6, p0, p1, p2, p3, p4, p5⟩ := heaF hH
  unfold mom at h
  refine wp_go b88_5 ?_; simp only [l88_5, sg_astore_3, sg_aload_3, sg_iload_2, sg_iv2_i, len4_0, len4_1, len4_2, len4_3, len4_4, nLg_n, nLg_i, nLg_r, tc_c, tc_l, tc_r, tc_m, tc_n, tc_o, tc_0, inR, true_and, and_true, ne_eq, not_true_eq_false, not_false_eq_true, true_imp_iff, false_imp_iff, Int.toNat_natCast, lit_a, Nat.reduceAdd, or_true, true_or, or_false, false_or, Int.reduceEq, Int.reduceNe, Int.reduceLT, Int.reduceLE, Int.reduceNeg, sg_nil, hH.1]
  refine k_Hea_placeHeardAt hH H W nn.1 (by unfold inR; omega) ?_
  rcases fsI_in (fun i => decide (t < ht (wO z l) (i + 1))) (-6) (nw z l) with e2 | ⟨i, i1, i2, i3⟩
  · rw [e2]
    have e2 : pHt (wO z l) (nw z l) t = -6 := e2
    rw [if_pos e2] at h
    refine wp_go b88_11 ?_; simp only [l88_11, sg_istore, okS_4, stL_4, sg_iload, ldI_4, sg_bipush, sg_ic_ne, sg_iret0, nLg_n, nLg_i, nLg_r, tc_c, tc_l, tc_r, tc_m, tc_n, tc_o, tc_0, inR, true_and, and_true, ne_eq, not_true_eq_false, not_false_eq_true, true_imp_iff, false_imp_iff, Int.toNat_natCast, lit_a, Nat.reduceAdd, or_true, true_or, or_false, false_or, Int.reduceEq, Int.reduceNe, Int.reduceLT, Int.reduceLE, Int.reduceNeg, sg_nil]
    repeat' (first | with_reducible apply And.intro | (intro _) | ((first | refine wp_go b88_0 ?_ | refine wp_go b88_5 ?_ | refine wp_go b88_11 ?_ | refine wp_go b88_23 ?_ | refine wp_go b88_43 ?_ | refine wp_go b88_54 ?_ | refine wp_go b88_66 ?_ | refine wp_go b88_74 ?_); simp only [l88_0, l88_5, l88_11, l88_23, l88_43, l88_54, l88_66, l88_74, sg_aload_0, sg_iload_1, sg_iv2_r, len4_0, len4_1, len4_2, len4_3, len4_4, sg_astore_3, sg_aload_3, sg_iload_2, sg_iv2_i, sg_istore, okS_4, stL_4, sg_iload, ldI_4, sg_bipush, sg_ic_ne, sg_iret0, sg_getfp, sg_iaload, okS_5, stL_5, ldI_5, sg_iconst, sg_isub, sg_max, sg_iadd, nLg_n, nLg_i, nLg_r, tc_c, tc_l, tc_r, tc_m, tc_n, tc_o, tc_0, inR, true_and, and_true, ne_eq, not_true_eq_false, not_false_eq_true, true_imp_iff, false_imp_iff, Int.toNat_natCast, lit_a, Nat.reduceAdd, or_true, true_or, or_false, false_or, Int.reduceEq, Int.reduceNe, Int.reduceLT, Int.reduceLE, Int.reduceNeg, sg_nil]))
    all_goals (try omega)
    all_goals exact h
  · rw [i2]
    have e2 : pHt (wO z l) (nw z l) t = (i : Int) := i2
    rw [e2, if_neg (by omega), Int.toNat_natCast] at h
    have em : μ' (c + 2) i = wm (wO z l) i := (H.2 i (by omega)).1
    have rm : 0 ≤ wm (wO z l) i ∧ wm (wO z l) i ≤ 99 := (W.2.1 i (by omega)).1
    have sb := sT_b W (p := i) (by omega)
    refine wp_go b88_11 ?_; simp only [l88_11, sg_istore, okS_4, stL_4, sg_iload, ldI_4, sg_bipush, sg_ic_ne, sg_iret0, nLg_n, nLg_i, nLg_r, tc_c, tc_l, tc_r, tc_m, tc_n, tc_o, tc_0, inR, true_and, and_true, ne_eq, not_true_eq_false, not_false_eq_true, true_imp_iff, false_imp_iff, Int.toNat_natCast, lit_a, Nat.reduceAdd, or_true, true_or, or_false, false_or, Int.reduceEq, Int.reduceNe, Int.reduceLT, Int.reduceLE, Int.reduceNeg, sg_nil]
    repeat' (first | with_reducible apply And.intro | intro _)
    all_goals (try omega)
    refine wp_go b88_23 ?_; simp only [l88_23, sg_aload_0, sg_getfp, sg_aload_3, sg_iload, ldI_4, sg_iaload, sg_iv2_i, len4_0, len4_1, len4_2, len4_3, len4_4, nLg_n, nLg_i, nLg_r, tc_c, tc_l, tc_r, tc_m, tc_n, tc_o, tc_0, inR, true_and, and_true, ne_eq, not_true_eq_false, not_false_eq_true, true_imp_iff, false_imp_iff, Int.toNat_natCast, lit_a, Nat.reduceAdd, or_true, true_or, or_false, false_or, Int.reduceEq, Int.reduceNe, Int.reduceLT, Int.reduceLE, Int.reduceNeg, sg_nil, s1p, x0, x1, x2, x3, x4, x5, x6, x7, x8, x9, x10, x11, x12, x13, x56, x57, x388, x389, x390, x391, x392, x393, x394, x395, x396, x397, x398, x399, a0, a1, a2, a3, a4, a5, a6, p0, p1, p2, p3, p4, p5, em]
    repeat' (first | with_reducible apply And.intro | intro _)
    all_goals (try omega)
    refine k_Sen_placeOf st1.2.1 (n := zn z) (R1.1.1.trans e0.1) e0.2.2 (fun i hi => zm_r hz R1 hi) (by unfold inR; omega) ?_
    rw [fs_zm hz R1]
    rcases fsI_in (fun j => decide (zm z j = wm (wO z l) i)) (-1) (zn z) with e3 | ⟨j, j1, j2, j3⟩
    · have e3 : F_marked z (wm (wO z l) i) = -1 := e3
      rw [if_pos e3] at h
      rw [e3]
      refine wp_go b88_43 ?_; simp only [l88_43, sg_istore, okS_5, stL_5, sg_iload, ldI_5, sg_iconst, sg_ic_ne, sg_bipush, sg_iret0, nLg_n, nLg_i, nLg_r, tc_c, tc_l, tc_r, tc_m, tc_n, tc_o, tc_0, inR, true_and, and_true, ne_eq, not_true_eq_false, not_false_eq_true, true_imp_iff, false_imp_iff, Int.toNat_natCast, lit_a, Nat.reduceAdd, or_true, true_or, or_false, false_or, Int.reduceEq, Int.reduceNe, Int.reduceLT, Int.reduceLE, Int.reduceNeg, sg_nil]
      repeat' (first | with_reducible apply And.intro | (intro _) | ((first | refine wp_go b88_0 ?_ | refine wp_go b88_5 ?_ | refine wp_go b88_11 ?_ | refine wp_go b88_23 ?_ | refine wp_go b88_43 ?_ | refine wp_go b88_54 ?_ | refine wp_go b88_66 ?_ | refine wp_go b88_74 ?_); simp only [l88_0, l88_5, l88_11, l88_23, l88_43, l88_54, l88_66, l88_74, sg_aload_0, sg_iload_1, sg_iv2_r, len4_0, len4_1, len4_2, len4_3, len4_4, sg_astore_3, sg_aload_3, sg_iload_2, sg_iv2_i, sg_istore, okS_4, stL_4, sg_iload, ldI_4, sg_bipush, sg_ic_ne, sg_iret0, sg_getfp, sg_iaload, okS_5, stL_5, ldI_5, sg_iconst, sg_isub, sg_max, sg_iadd, nLg_n, nLg_i, nLg_r, tc_c, tc_l, tc_r, tc_m, tc_n, tc_o, tc_0, inR, true_and, and_true, ne_eq, not_true_eq_false, not_false_eq_true, true_imp_iff, false_imp_iff, Int.toNat_natCast, lit_a, Nat.reduceAdd, or_true, true_or, or_false, false_or, Int.reduceEq, Int.reduceNe, Int.reduceLT, Int.reduceLE, Int.reduceNeg, sg_nil]))
      all_goals (try omega)
      all_goals exact h
    · have e3 : F_marked z (wm (wO z l) i) = (j : Int) := j2
      rw [e3, if_neg (by omega), Int.toNat_natCast] at h
      rw [e3]
      refine wp_go b88_43 ?_; simp only [l88_43, sg_istore, okS_5, stL_5, sg_iload, ldI_5, sg_iconst, sg_ic_ne, sg_bipush, sg_iret0, nLg_n, nLg_i, nLg_r, tc_c, tc_l, tc_r, tc_m, tc_n, tc_o, tc_0, inR, true_and, and_true, ne_eq, not_true_eq_false, not_false_eq_true, true_imp_iff, false_imp_iff, Int.toNat_natCast, lit_a, Nat.reduceAdd, or_true, true_or, or_false, false_or, Int.reduceEq, Int.reduceNe, Int.reduceLT, Int.reduceLE, Int.reduceNeg, sg_nil]
      repeat' (first | with_reducible apply And.intro | intro _)
      all_goals (try omega)
      refine wp_go b88_54 ?_; simp only [l88_54, sg_aload_0, sg_getfp, sg_iload, ldI_5, sg_iv2_i, len4_0, len4_1, len4_2, len4_3, len4_4, nLg_n, nLg_i, nLg_r, tc_c, tc_l, tc_r, tc_m, tc_n, tc_o, tc_0, inR, true_and, and_true, ne_eq, not_true_eq_false, not_false_eq_true, true_imp_iff, false_imp_iff, Int.toNat_natCast, lit_a, Nat.reduceAdd, or_true, true_or, or_false, false_or, Int.reduceEq, Int.reduceNe, Int.reduceLT, Int.reduceLE, Int.reduceNeg, sg_nil, s1p, x0, x1, x2, x3, x4, x5, x6, x7, x8, x9, x10, x11, x12, x13, x56, x57, x388, x389, x390, x391, x392, x393, x394, x395, x396, x397, x398, x399]
      refine k_Sen_timeOf st1.2.1 (by omega) ?_
      rw [show sm (μ' (2 + 2)) j = sm (zl z) j from sm_zl R1 (by omega)]
      refine wp_go b88_66 ?_; simp only [l88_66, sg_iconst, sg_iload_2, sg_aload_3, sg_iload, ldI_4, sg_iv2_i, len4_0, len4_1, len4_2, len4_3, len4_4, nLg_n, nLg_i, nLg_r, tc_c, tc_l, tc_r, tc_m, tc_n, tc_o, tc_0, inR, true_and, and_true, ne_eq, not_true_eq_false, not_false_eq_true, true_imp_iff, false_imp_iff, Int.toNat_natCast, lit_a, Nat.reduceAdd, or_true, true_or, or_false, false_or, Int.reduceEq, Int.reduceNe, Int.reduceLT, Int.reduceLE, Int.reduceNeg, sg_nil, hH.1]
      refine k_Hea_sentenceTime hH H (by omega) (by omega) ?_
      have e4 : bt (wO z l) i + wO z l (5 * i + 2) = sT (wO z l) i := rfl
      rw [e4]
      refine wp_go b88_74 ?_; simp only [l88_74, sg_isub, len4_0, len4_1, len4_2, len4_3, len4_4, sg_max, sg_iadd, sg_iret0, nLg_n, nLg_i, nLg_r, tc_c, tc_l, tc_r, tc_m, tc_n, tc_o, tc_0, inR, true_and, and_true, ne_eq, not_true_eq_false, not_false_eq_true, true_imp_iff, false_imp_iff, Int.toNat_natCast, lit_a, Nat.reduceAdd, or_true, true_or, or_false, false_or, Int.reduceEq, Int.reduceNe, Int.reduceLT, Int.reduceLE, Int.reduceNeg, sg_nil]
      repeat' (first | with_reducible apply And.intro | (intro _) | ((first | refine wp_go b88_0 ?_ | refine wp_go b88_5 ?_ | refine wp_go b88_11 ?_ | refine wp_go b88_23 ?_ | refine wp_go b88_43 ?_ | refine wp_go b88_54 ?_ | refine wp_go b88_66 ?_ | refine wp_go b88_74 ?_); simp only [l88_0, l88_5, l88_11, l88_23, l88_43, l88_54, l88_66, l88_74, sg_aload_0, sg_iload_1, sg_iv2_r, len4_0, len4_1, len4_2, len4_3, len4_4, sg_astore_3, sg_aload_3, sg_iload_2, sg_iv2_i, sg_istore, okS_4, stL_4, sg_iload, ldI_4, sg_bipush, sg_ic_ne, sg_iret0, sg_getfp, sg_iaload, okS_5, stL_5, ldI_5, sg_iconst, sg_isub, sg_max, sg_iadd, nLg_n, nLg_i, nLg_r, tc_c, tc_l, tc_r, tc_m, tc_n, tc_o, tc_0, inR, true_and, and_true, ne_eq, not_true_eq_false, not_false_eq_true, true_imp_iff, false_imp_iff, Int.toNat_natCast, lit_a, Nat.reduceAdd, or_true, true_or, or_false, false_or, Int.reduceEq, Int.reduceNe, Int.reduceLT, Int.reduceLE, Int.reduceNeg, sg_nil]))
      all_goals (try omega)
      all_goals exact h
def F_wrongAt (z : Rw) (l o t : Int) : Int := if (l < 0 ∨ z 3 ≤ l) ∨ (o < 0 ∨ z 3 ≤ o) then -1 else if t < 0 ∨ 9999 < t then -2 else if mom z l.toNat t = -5 ∨ mom z o.toNat t = -5 then -5 else if 0 ≤ mom z o.toNat t - mom z l.toNat t then mom z o.toNat t - mom z l.toNat t else 0 - (mom z o.toNat t - mom z l.toNat t)
theorem mom_b {z : Rw} (hz : IZ z) {l : Nat} {t : Int} (htt : 0 ≤ t ∧ t ≤ 9999) (hl : (l : Int) < z 3) : -5 ≤ mom z l t ∧ mom z l t ≤ 20000 := by
  have W := wO_W hz hl
  have nn := nw_eq hz hl
  have e0 := zn_eq hz
  unfold mom
  rcases fsI_in (fun i => decide (t < ht (wO z l) (i + 1))) (-6) (nw z l) with e2 | ⟨i, i1, i2, i3⟩
  · have e2 : pHt (wO z l) (nw z l) t = -6 := e2
    rw [if_pos e2]; omega
  · have e2 : pHt (wO z l) (nw z l) t = (i : Int) := i2
    rw [e2, if_neg (by omega), Int.toNat_natCast]
    have sb := sT_b W (p := i) (by omega)
    rcases fsI_in (fun j => decide (zm z j = wm (wO z l) i)) (-1) (zn z) with e3 | ⟨j, j1, j2, j3⟩
    · have e3 : F_marked z (wm (wO z l) i) = -1 := e3
      rw [if_pos e3]; omega
    · have e3 : F_marked z (wm (wO z l) i) = (j : Int) := j2
      rw [e3, if_neg (by omega), Int.toNat_natCast]
      have b := sm_b (f := zl z) (b := 300) (n := j) (fun x hx => by
        have := (hz.2.1 x (by omega)).2.1
        unfold zl; omega)
      split <;> omega
-- NS.wrongAt: blocks [0, 8, 19, 22, 24, 32, 38, 44, 52, 68, 71]
theorem k_NS_wrongAt {d : Nat} {Q : QT} {μ : Mem} {l o t : Int} {z : Rw} (hz : IZ z) (hR : RC z μ 1) (hl : inR l) (ho : inR o) (ht : inR t) (hq : ∀ μ', QF z μ μ' → Q (.inl (F_wrongAt z l o t)) μ') : Call σ1 (d + 6) 70 [.inr (.inr 0), .inl l, .inl o, .inl t] μ Q := by
  refine e_70 ?_
  have h := hq μ (QF_r hR)
  have q := hz.1
  refine wp_go b70_0 ?_; simp only [l70_0, sg_aload_0, sg_getfp, sg_iload_1, sg_iv2_i, len4_0, len4_1, len4_2, len4_3, len4_4, nLg_n, nLg_i, nLg_r, tc_c, tc_l, tc_r, tc_m, tc_n, tc_o, tc_0, inR, true_and, and_true, ne_eq, not_true_eq_false, not_false_eq_true, true_imp_iff, false_imp_iff, Int.toNat_natCast, lit_a, Nat.reduceAdd, or_true, true_or, or_false, false_or, Int.reduceEq, Int.reduceNe, Int.reduceLT, Int.reduceLE, Int.reduceNeg, sg_nil, s1p, x0, x1, x2, x3, x4, x5, x6, x7, x8, x9, x10, x11, x12, x13, x56, x57, x388, x389, x390, x391, x392, x393, x394, x395, x396, x397, x398, x399]
  refine k_Sta_hasListener st1 hR hz hl (fun h1 h2 => ?_) (fun h0 => ?_)
  · refine wp_go b70_8 ?_; simp only [l70_8, sg_if_eq, sg_aload_0, sg_getfp, sg_iload_2, sg_iv2_i, len4_0, len4_1, len4_2, len4_3, len4_4, nLg_n, nLg_i, nLg_r, tc_c, tc_l, tc_r, tc_m, tc_n, tc_o, tc_0, inR, true_and, and_true, ne_eq, not_true_eq_false, not_false_eq_true, true_imp_iff, false_imp_iff, Int.toNat_natCast, lit_a, Nat.reduceAdd, or_true, true_or, or_false, false_or, Int.reduceEq, Int.reduceNe, Int.reduceLT, Int.reduceLE, Int.reduceNeg, sg_nil, s1p, x0, x1, x2, x3, x4, x5, x6, x7, x8, x9, x10, x11, x12, x13, x56, x57, x388, x389, x390, x391, x392, x393, x394, x395, x396, x397, x398, x399]
    repeat' (first | with_reducible apply And.intro | intro _)
    all_goals (try omega)
    refine k_Sta_hasListener st1 hR hz ho (fun h3 h4 => ?_) (fun h3 => ?_)
    · obtain ⟨n, rfl⟩ := nat_of h1
      obtain ⟨m, rfl⟩ := nat_of h3
      refine wp_go b70_19 ?_; simp only [l70_19, sg_if_ne, nLg_n, nLg_i, nLg_r, tc_c, tc_l, tc_r, tc_m, tc_n, tc_o, tc_0, inR, true_and, and_true, ne_eq, not_true_eq_false, not_false_eq_true, true_imp_iff, false_imp_iff, Int.toNat_natCast, lit_a, Nat.reduceAdd, or_true, true_or, or_false, false_or, Int.reduceEq, Int.reduceNe, Int.reduceLT, Int.reduceLE, Int.reduceNeg, sg_nil]
      repeat' (first | with_reducible apply And.intro | intro _)
      all_goals (try omega)
      refine wp_go b70_24 ?_; simp only [l70_24, sg_iload_3, sg_iconst, sg_sipush, len4_0, len4_1, len4_2, len4_3, len4_4, sg_is3_1, nLg_n, nLg_i, nLg_r, tc_c, tc_l, tc_r, tc_m, tc_n, tc_o, tc_0, inR, true_and, and_true, ne_eq, not_true_eq_false, not_false_eq_true, true_imp_iff, false_imp_iff, Int.toNat_natCast, lit_a, Nat.reduceAdd, or_true, true_or, or_false, false_or, Int.reduceEq, Int.reduceNe, Int.reduceLT, Int.reduceLE, Int.reduceNeg, sg_nil]
      refine k_NS_isWithin ht (by unfold inR; omega) (by unfold inR; omega) (fun g1 g2 => ?_) (fun g0 => ?_)
      · refine wp_go b70_32 ?_; simp only [l70_32, sg_if_ne, sg_bipush, sg_iret0, nLg_n, nLg_i, nLg_r, tc_c, tc_l, tc_r, tc_m, tc_n, tc_o, tc_0, inR, true_and, and_true, ne_eq, not_true_eq_false, not_false_eq_true, true_imp_iff, false_imp_iff, Int.toNat_natCast, lit_a, Nat.reduceAdd, or_true, true_or, or_false, false_or, Int.reduceEq, Int.reduceNe, Int.reduceLT, Int.reduceLE, Int.reduceNeg, sg_nil]
        repeat' (first | with_reducible apply And.intro | intro _)
        all_goals (try omega)
        refine wp_go b70_38 ?_; simp only [l70_38, sg_aload_0, sg_iload_1, sg_iload_3, sg_iv3_i, len4_0, len4_1, len4_2, len4_3, len4_4, nLg_n, nLg_i, nLg_r, tc_c, tc_l, tc_r, tc_m, tc_n, tc_o, tc_0, inR, true_and, and_true, ne_eq, not_true_eq_false, not_false_eq_true, true_imp_iff, false_imp_iff, Int.toNat_natCast, lit_a, Nat.reduceAdd, or_true, true_or, or_false, false_or, Int.reduceEq, Int.reduceNe, Int.reduceLT, Int.reduceLE, Int.reduceNeg, sg_nil, s1p, x0, x1, x2, x3, x4, x5, x6, x7, x8, x9, x10, x11, x12, x13, x56, x57, x388, x389, x390, x391, x392, x393, x394, x395, x396, x397, x398, x399]
        refine k_NS_momentNow hz hR h2 ⟨g1, g2⟩ (fun μ1 f1 => ?_)
        have R1 : RC z μ1 1 := RC_f (by omega) (fun k _ _ => f1 k (by omega)) hR
        refine wp_go b70_44 ?_; simp only [l70_44, sg_istore, okS_4, stL_4, sg_aload_0, sg_iload_2, sg_iload_3, sg_iv3_i, len4_0, len4_1, len4_2, len4_3, len4_4, nLg_n, nLg_i, nLg_r, tc_c, tc_l, tc_r, tc_m, tc_n, tc_o, tc_0, inR, true_and, and_true, ne_eq, not_true_eq_false, not_false_eq_true, true_imp_iff, false_imp_iff, Int.toNat_natCast, lit_a, Nat.reduceAdd, or_true, true_or, or_false, false_or, Int.reduceEq, Int.reduceNe, Int.reduceLT, Int.reduceLE, Int.reduceNeg, sg_nil, s1p, x0, x1, x2, x3, x4, x5, x6, x7, x8, x9, x10, x11, x12, x13, x56, x57, x388, x389, x390, x391, x392, x393, x394, x395, x396, x397, x398, x399]
        refine k_NS_momentNow hz R1 h4 ⟨g1, g2⟩ (fun μ2 f2 => ?_)
        have h := hq μ2 (QF_s hz hR (fun k hk => (f2 k hk).trans (f1 k hk)))
        have b1 := mom_b hz ⟨g1, g2⟩ h2
        have b2 := mom_b hz ⟨g1, g2⟩ h4
        unfold F_wrongAt at h
        rw [if_neg (by omega), if_neg (by omega), Int.toNat_natCast, Int.toNat_natCast] at h
        refine wp_go b70_52 ?_; simp only [l70_52, sg_istore, okS_5, stL_5, sg_iload, ldI_4, sg_bipush, sg_ic_eq, ldI_5, sg_ic_ne, nLg_n, nLg_i, nLg_r, tc_c, tc_l, tc_r, tc_m, tc_n, tc_o, tc_0, inR, true_and, and_true, ne_eq, not_true_eq_false, not_false_eq_true, true_imp_iff, false_imp_iff, Int.toNat_natCast, lit_a, Nat.reduceAdd, or_true, true_or, or_false, false_or, Int.reduceEq, Int.reduceNe, Int.reduceLT, Int.reduceLE, Int.reduceNeg, sg_nil]
        repeat' (first | with_reducible apply And.intro | intro _)
        all_goals (try omega)
        all_goals first
          | rw [if_pos (by omega)] at h
            refine wp_go b70_68 ?_; simp only [l70_68, sg_bipush, sg_iret0, nLg_n, nLg_i, nLg_r, tc_c, tc_l, tc_r, tc_m, tc_n, tc_o, tc_0, inR, true_and, and_true, ne_eq, not_true_eq_false, not_false_eq_true, true_imp_iff, false_imp_iff, Int.toNat_natCast, lit_a, Nat.reduceAdd, or_true, true_or, or_false, false_or, Int.reduceEq, Int.reduceNe, Int.reduceLT, Int.reduceLE, Int.reduceNeg, sg_nil]
            exact h
          | rw [if_neg (by omega)] at h
            refine wp_go b70_71 ?_; simp only [l70_71, sg_iload, ldI_5, ldI_4, sg_isub, len4_0, len4_1, len4_2, len4_3, len4_4, sg_abs, sg_iret0, nLg_n, nLg_i, nLg_r, tc_c, tc_l, tc_r, tc_m, tc_n, tc_o, tc_0, inR, true_and, and_true, ne_eq, not_true_eq_false, not_false_eq_true, true_imp_iff, false_imp_iff, Int.toNat_natCast, lit_a, Nat.reduceAdd, or_true, true_or, or_false, false_or, Int.reduceEq, Int.reduceNe, Int.reduceLT, Int.reduceLE, Int.reduceNeg, sg_nil]
            repeat' (first | with_reducible apply And.intro | (intro _) | ((first | refine wp_go b70_0 ?_ | refine wp_go b70_8 ?_ | refine wp_go b70_19 ?_ | refine wp_go b70_22 ?_ | refine wp_go b70_24 ?_ | refine wp_go b70_32 ?_ | refine wp_go b70_38 ?_ | refine wp_go b70_44 ?_ | refine wp_go b70_52 ?_ | refine wp_go b70_68 ?_ | refine wp_go b70_71 ?_); simp only [l70_0, l70_8, l70_19, l70_22, l70_24, l70_32, l70_38, l70_44, l70_52, l70_68, l70_71, sg_aload_0, sg_getfp, sg_iload_1, sg_iv2_i, len4_0, len4_1, len4_2, len4_3, len4_4, sg_if_eq, sg_iload_2, sg_if_ne, sg_iconst, sg_iret0, sg_iload_3, sg_sipush, sg_is3_1, sg_bipush, sg_iv3_i, sg_istore, okS_4, stL_4, okS_5, stL_5, sg_iload, ldI_4, sg_ic_eq, ldI_5, sg_ic_ne, sg_isub, sg_abs, nLg_n, nLg_i, nLg_r, tc_c, tc_l, tc_r, tc_m, tc_n, tc_o, tc_0, inR, true_and, and_true, ne_eq, not_true_eq_false, not_false_eq_true, true_imp_iff, false_imp_iff, Int.toNat_natCast, lit_a, Nat.reduceAdd, or_true, true_or, or_false, false_or, Int.reduceEq, Int.reduceNe, Int.reduceLT, Int.reduceLE, Int.reduceNeg, sg_nil]))
            all_goals (try omega)
            all_goals exact h
      · refine wp_go b70_32 ?_; simp only [l70_32, sg_if_ne, sg_bipush, sg_iret0, nLg_n, nLg_i, nLg_r, tc_c, tc_l, tc_r, tc_m, tc_n, tc_o, tc_0, inR, true_and, and_true, ne_eq, not_true_eq_false, not_false_eq_true, true_imp_iff, false_imp_iff, Int.toNat_natCast, lit_a, Nat.reduceAdd, or_true, true_or, or_false, false_or, Int.reduceEq, Int.reduceNe, Int.reduceLT, Int.reduceLE, Int.reduceNeg, sg_nil]
        repeat' (first | with_reducible apply And.intro | (intro _) | ((first | refine wp_go b70_0 ?_ | refine wp_go b70_8 ?_ | refine wp_go b70_19 ?_ | refine wp_go b70_22 ?_ | refine wp_go b70_24 ?_ | refine wp_go b70_32 ?_ | refine wp_go b70_38 ?_ | refine wp_go b70_44 ?_ | refine wp_go b70_52 ?_ | refine wp_go b70_68 ?_ | refine wp_go b70_71 ?_); simp only [l70_0, l70_8, l70_19, l70_22, l70_24, l70_32, l70_38, l70_44, l70_52, l70_68, l70_71, sg_aload_0, sg_getfp, sg_iload_1, sg_iv2_i, len4_0, len4_1, len4_2, len4_3, len4_4, sg_if_eq, sg_iload_2, sg_if_ne, sg_iconst, sg_iret0, sg_iload_3, sg_sipush, sg_is3_1, sg_bipush, sg_iv3_i, sg_istore, okS_4, stL_4, okS_5, stL_5, sg_iload, ldI_4, sg_ic_eq, ldI_5, sg_ic_ne, sg_isub, sg_abs, nLg_n, nLg_i, nLg_r, tc_c, tc_l, tc_r, tc_m, tc_n, tc_o, tc_0, inR, true_and, and_true, ne_eq, not_true_eq_false, not_false_eq_true, true_imp_iff, false_imp_iff, Int.toNat_natCast, lit_a, Nat.reduceAdd, or_true, true_or, or_false, false_or, Int.reduceEq, Int.reduceNe, Int.reduceLT, Int.reduceLE, Int.reduceNeg, sg_nil]))
        all_goals (try omega)
        all_goals (revert h; unfold F_wrongAt; (try simp only [Int.toNat_natCast]); (repeat (first | rw [if_neg (by omega)] | rw [if_pos (by omega)])); exact id)
    · refine wp_go b70_19 ?_; simp only [l70_19, sg_if_ne, nLg_n, nLg_i, nLg_r, tc_c, tc_l, tc_r, tc_m, tc_n, tc_o, tc_0, inR, true_and, and_true, ne_eq, not_true_eq_false, not_false_eq_true, true_imp_iff, false_imp_iff, Int.toNat_natCast, lit_a, Nat.reduceAdd, or_true, true_or, or_false, false_or, Int.reduceEq, Int.reduceNe, Int.reduceLT, Int.reduceLE, Int.reduceNeg, sg_nil]
      repeat' (first | with_reducible apply And.intro | (intro _) | ((first | refine wp_go b70_0 ?_ | refine wp_go b70_8 ?_ | refine wp_go b70_19 ?_ | refine wp_go b70_22 ?_ | refine wp_go b70_24 ?_ | refine wp_go b70_32 ?_ | refine wp_go b70_38 ?_ | refine wp_go b70_44 ?_ | refine wp_go b70_52 ?_ | refine wp_go b70_68 ?_ | refine wp_go b70_71 ?_); simp only [l70_0, l70_8, l70_19, l70_22, l70_24, l70_32, l70_38, l70_44, l70_52, l70_68, l70_71, sg_aload_0, sg_getfp, sg_iload_1, sg_iv2_i, len4_0, len4_1, len4_2, len4_3, len4_4, sg_if_eq, sg_iload_2, sg_if_ne, sg_iconst, sg_iret0, sg_iload_3, sg_sipush, sg_is3_1, sg_bipush, sg_iv3_i, sg_istore, okS_4, stL_4, okS_5, stL_5, sg_iload, ldI_4, sg_ic_eq, ldI_5, sg_ic_ne, sg_isub, sg_abs, nLg_n, nLg_i, nLg_r, tc_c, tc_l, tc_r, tc_m, tc_n, tc_o, tc_0, inR, true_and, and_true, ne_eq, not_true_eq_false, not_false_eq_true, true_imp_iff, false_imp_iff, Int.toNat_natCast, lit_a, Nat.reduceAdd, or_true, true_or, or_false, false_or, Int.reduceEq, Int.reduceNe, Int.reduceLT, Int.reduceLE, Int.reduceNeg, sg_nil]))
      all_goals (try omega)
      all_goals (revert h; unfold F_wrongAt; (try simp only [Int.toNat_natCast]); (repeat (first | rw [if_neg (by omega)] | rw [if_pos (by omega)])); exact id)
  · refine wp_go b70_8 ?_; simp only [l70_8, sg_if_eq, sg_aload_0, sg_getfp, sg_iload_2, sg_iv2_i, len4_0, len4_1, len4_2, len4_3, len4_4, nLg_n, nLg_i, nLg_r, tc_c, tc_l, tc_r, tc_m, tc_n, tc_o, tc_0, inR, true_and, and_true, ne_eq, not_true_eq_false, not_false_eq_true, true_imp_iff, false_imp_iff, Int.toNat_natCast, lit_a, Nat.reduceAdd, or_true, true_or, or_false, false_or, Int.reduceEq, Int.reduceNe, Int.reduceLT, Int.reduceLE, Int.reduceNeg, sg_nil]
    repeat' (first | with_reducible apply And.intro | (intro _) | ((first | refine wp_go b70_0 ?_ | refine wp_go b70_8 ?_ | refine wp_go b70_19 ?_ | refine wp_go b70_22 ?_ | refine wp_go b70_24 ?_ | refine wp_go b70_32 ?_ | refine wp_go b70_38 ?_ | refine wp_go b70_44 ?_ | refine wp_go b70_52 ?_ | refine wp_go b70_68 ?_ | refine wp_go b70_71 ?_); simp only [l70_0, l70_8, l70_19, l70_22, l70_24, l70_32, l70_38, l70_44, l70_52, l70_68, l70_71, sg_aload_0, sg_getfp, sg_iload_1, sg_iv2_i, len4_0, len4_1, len4_2, len4_3, len4_4, sg_if_eq, sg_iload_2, sg_if_ne, sg_iconst, sg_iret0, sg_iload_3, sg_sipush, sg_is3_1, sg_bipush, sg_iv3_i, sg_istore, okS_4, stL_4, okS_5, stL_5, sg_iload, ldI_4, sg_ic_eq, ldI_5, sg_ic_ne, sg_isub, sg_abs, nLg_n, nLg_i, nLg_r, tc_c, tc_l, tc_r, tc_m, tc_n, tc_o, tc_0, inR, true_and, and_true, ne_eq, not_true_eq_false, not_false_eq_true, true_imp_iff, false_imp_iff, Int.toNat_natCast, lit_a, Nat.reduceAdd, or_true, true_or, or_false, false_or, Int.reduceEq, Int.reduceNe, Int.reduceLT, Int.reduceLE, Int.reduceNeg, sg_nil, s1p, x0, x1, x2, x3, x4, x5, x6, x7, x8, x9, x10, x11, x12, x13, x56, x57, x388, x389, x390, x391, x392, x393, x394, x395, x396, x397, x398, x399]))
    all_goals (try omega)
    all_goals (revert h; unfold F_wrongAt; (try simp only [Int.toNat_natCast]); (repeat (first | rw [if_neg (by omega)] | rw [if_pos (by omega)])); exact id)
end
section
theorem fw_book (z : Rw) (s : Nat) (t : Int) (l : Nat) (h : 77 + 5 * s + (z (76 + 5 * s)).toNat < 230) (h2 : s < 24) : fw (bookZ z s t) l = fw z l := by funext k; exact bookZ_o z s _ t (by omega) (by omega)
theorem IZ_book {z : Rw} {s : Nat} {t : Int} (hz : IZ z) (hs : (s : Int) < z 0) (h4 : z (76 + 5 * s) < 4) (ht : 0 ≤ t ∧ t < z 2) : IZ (bookZ z s t) := by
  have q := hz.1
  have r := (hz.2.1 s hs).2.2.2.1
  obtain ⟨n, hn⟩ := nat_of r.1
  have bo : ∀ k, k ≠ 76 + 5 * s → k ≠ 77 + 5 * s + n → bookZ z s t k = z k := fun k h1 h2 => bookZ_o z s k t h1 (by rw [hn]; exact h2)
  obtain ⟨h1, h2, h3, h5, h6⟩ := hz
  unfold IZ
  rw [bo 0 (by omega) (by omega), bo 1 (by omega) (by omega), bo 2 (by omega) (by omega), bo 3 (by omega) (by omega), bo 6 (by omega) (by omega)]
  refine ⟨h1, fun i hi => ?_, h3, fun i hi => ?_, fun l hl => ?_⟩
  · rw [bo (4 + 3 * i) (by omega) (by omega), bo (5 + 3 * i) (by omega) (by omega), bo (6 + 3 * i) (by omega) (by omega)]
    obtain ⟨b1, b2, b3, b4, b5⟩ := h2 i hi
    refine ⟨b1, b2, b3, ?_, fun j hj => ?_⟩
    · by_cases hii : i = s
      · subst hii; rw [bookZ_s]; omega
      · rw [bo _ (by omega) (by omega)]; exact b4
    · by_cases hii : i = s
      · subst hii
        rw [bookZ_s] at hj
        by_cases hjn : j = n
        · subst hjn; rw [bookZ_n z i j t hn]; exact ht
        · rw [bo _ (by omega) (by omega)]; exact b5 j (by omega)
      · rw [bo _ (by omega) (by omega)] at hj
        rw [bo _ (by omega) (by omega)]; exact b5 j hj
  · rw [bo (196 + 2 * i) (by omega) (by omega), bo (197 + 2 * i) (by omega) (by omega)]; exact h5 i hi
  · rw [bo (212 + 3 * l) (by omega) (by omega), bo (213 + 3 * l) (by omega) (by omega), bo (214 + 3 * l) (by omega) (by omega), fw_book z s t l (by omega) (by omega)]; exact h6 l hl
theorem QF_t {z : Rw} {μ μ1 μ2 : Mem} (h1 : QF z μ μ1) (h2 : QF z μ1 μ2) : QF z μ μ2 := ⟨fun k a b c => (h2.1 k a b c).trans (h1.1 k a b c), h2.2⟩
def hib (z : Rw) (t : Int) (s : Nat) : Int := if 4 ≤ z (76 + 5 * s) then -6 else sm (hrs (bookZ z s t) (zn z) t) (znl z)
-- NS.hearersIfBooked: blocks [0, 8, 14, 23, 28, 37]
theorem k_NS_hearersIfBooked {d s : Nat} {Q : QT} {μ : Mem} {t : Int} {z : Rw} (hz : IZ z) (hR : RC z μ 1) (hs : (s : Int) < z 0) (ht : 0 ≤ t ∧ t < z 2) (hq : ∀ μ', QF z μ μ' → Q (.inl (hib z t s)) μ') : Call σ1 (d + 5) 92 [.inr (.inr 0), .inl (s : Int), .inl t] μ Q := by
  refine e_92 ?_
  have h := hq μ (QF_r hR)
  have q := hz.1
  refine wp_go b92_0 ?_; simp only [l92_0, sg_aload_0, sg_getfp, sg_iload_1, sg_iv2_i, len4_0, len4_1, len4_2, len4_3, len4_4, nLg_n, nLg_i, nLg_r, tc_c, tc_l, tc_r, tc_m, tc_n, tc_o, tc_0, inR, true_and, and_true, ne_eq, not_true_eq_false, not_false_eq_true, true_imp_iff, false_imp_iff, Int.toNat_natCast, lit_a, Nat.reduceAdd, or_true, true_or, or_false, false_or, Int.reduceEq, Int.reduceNe, Int.reduceLT, Int.reduceLE, Int.reduceNeg, sg_nil, s1p, x0, x1, x2, x3, x4, x5, x6, x7, x8, x9, x10, x11, x12, x13, x56, x57, x388, x389, x390, x391, x392, x393, x394, x395, x396, x397, x398, x399]
  refine k_Sta_isRowFull st1 hR hz hs (fun h1 => ?_) (fun h1 => ?_)
  · unfold hib at h
    rw [if_pos h1] at h
    refine wp_go b92_8 ?_; simp only [l92_8, sg_if_eq, sg_bipush, sg_iret0, nLg_n, nLg_i, nLg_r, tc_c, tc_l, tc_r, tc_m, tc_n, tc_o, tc_0, inR, true_and, and_true, ne_eq, not_true_eq_false, not_false_eq_true, true_imp_iff, false_imp_iff, Int.toNat_natCast, lit_a, Nat.reduceAdd, or_true, true_or, or_false, false_or, Int.reduceEq, Int.reduceNe, Int.reduceLT, Int.reduceLE, Int.reduceNeg, sg_nil]
    repeat' (first | with_reducible apply And.intro | (intro _) | ((first | refine wp_go b92_0 ?_ | refine wp_go b92_8 ?_ | refine wp_go b92_14 ?_ | refine wp_go b92_23 ?_ | refine wp_go b92_28 ?_ | refine wp_go b92_37 ?_); simp only [l92_0, l92_8, l92_14, l92_23, l92_28, l92_37, sg_aload_0, sg_getfp, sg_iload_1, sg_iv2_i, len4_0, len4_1, len4_2, len4_3, len4_4, sg_if_eq, sg_bipush, sg_iret0, sg_iload_2, sg_iv3_v, sg_istore_3, sg_iv2_v, sg_iload_3, nLg_n, nLg_i, nLg_r, tc_c, tc_l, tc_r, tc_m, tc_n, tc_o, tc_0, inR, true_and, and_true, ne_eq, not_true_eq_false, not_false_eq_true, true_imp_iff, false_imp_iff, Int.toNat_natCast, lit_a, Nat.reduceAdd, or_true, true_or, or_false, false_or, Int.reduceEq, Int.reduceNe, Int.reduceLT, Int.reduceLE, Int.reduceNeg, sg_nil]))
    all_goals (try omega)
    all_goals exact h
  · refine wp_go b92_8 ?_; simp only [l92_8, sg_if_eq, sg_bipush, sg_iret0, nLg_n, nLg_i, nLg_r, tc_c, tc_l, tc_r, tc_m, tc_n, tc_o, tc_0, inR, true_and, and_true, ne_eq, not_true_eq_false, not_false_eq_true, true_imp_iff, false_imp_iff, Int.toNat_natCast, lit_a, Nat.reduceAdd, or_true, true_or, or_false, false_or, Int.reduceEq, Int.reduceNe, Int.reduceLT, Int.reduceLE, Int.reduceNeg, sg_nil]
    repeat' (first | with_reducible apply And.intro | (intro _) | ((first | refine wp_go b92_0 ?_ | refine wp_go b92_8 ?_ | refine wp_go b92_14 ?_ | refine wp_go b92_23 ?_ | refine wp_go b92_28 ?_ | refine wp_go b92_37 ?_); simp only [l92_0, l92_8, l92_14, l92_23, l92_28, l92_37, sg_aload_0, sg_getfp, sg_iload_1, sg_iv2_i, len4_0, len4_1, len4_2, len4_3, len4_4, sg_if_eq, sg_bipush, sg_iret0, sg_iload_2, sg_iv3_v, sg_istore_3, sg_iv2_v, sg_iload_3, nLg_n, nLg_i, nLg_r, tc_c, tc_l, tc_r, tc_m, tc_n, tc_o, tc_0, inR, true_and, and_true, ne_eq, not_true_eq_false, not_false_eq_true, true_imp_iff, false_imp_iff, Int.toNat_natCast, lit_a, Nat.reduceAdd, or_true, true_or, or_false, false_or, Int.reduceEq, Int.reduceNe, Int.reduceLT, Int.reduceLE, Int.reduceNeg, sg_nil, s1p, x0, x1, x2, x3, x4, x5, x6, x7, x8, x9, x10, x11, x12, x13, x56, x57, x388, x389, x390, x391, x392, x393, x394, x395, x396, x397, x398, x399]))
    all_goals (try omega)
    refine k_Sta_appendToRow st1 hR hz hs h1 (fun μ1 f1 R1 => ?_)
    have hz1 := IZ_book hz hs h1 ht
    have r := (hz.2.1 s hs).2.2.2.1
    have b0 : bookZ z s t 0 = z 0 := bookZ_o z s 0 t (by omega) (by omega)
    have b3 : bookZ z s t 3 = z 3 := bookZ_o z s 3 t (by omega) (by omega)
    refine wp_go b92_23 ?_; simp only [l92_23, sg_aload_0, sg_iload_2, sg_iv2_i, len4_0, len4_1, len4_2, len4_3, len4_4, nLg_n, nLg_i, nLg_r, tc_c, tc_l, tc_r, tc_m, tc_n, tc_o, tc_0, inR, true_and, and_true, ne_eq, not_true_eq_false, not_false_eq_true, true_imp_iff, false_imp_iff, Int.toNat_natCast, lit_a, Nat.reduceAdd, or_true, true_or, or_false, false_or, Int.reduceEq, Int.reduceNe, Int.reduceLT, Int.reduceLE, Int.reduceNeg, sg_nil, s1p, x0, x1, x2, x3, x4, x5, x6, x7, x8, x9, x10, x11, x12, x13, x56, x57, x388, x389, x390, x391, x392, x393, x394, x395, x396, x397, x398, x399]
    refine k_NS_countHearers hz1 R1 (b3.trans (znl_eq hz).1) (b0.trans (zn_eq hz).1) (fun μ2 f2 => ?_)
    refine wp_go b92_28 ?_; simp only [l92_28, sg_istore_3, sg_aload_0, sg_getfp, sg_iload_1, sg_iv2_v, len4_0, len4_1, len4_2, len4_3, len4_4, nLg_n, nLg_i, nLg_r, tc_c, tc_l, tc_r, tc_m, tc_n, tc_o, tc_0, inR, true_and, and_true, ne_eq, not_true_eq_false, not_false_eq_true, true_imp_iff, false_imp_iff, Int.toNat_natCast, lit_a, Nat.reduceAdd, or_true, true_or, or_false, false_or, Int.reduceEq, Int.reduceNe, Int.reduceLT, Int.reduceLE, Int.reduceNeg, sg_nil, s1p, x0, x1, x2, x3, x4, x5, x6, x7, x8, x9, x10, x11, x12, x13, x56, x57, x388, x389, x390, x391, x392, x393, x394, x395, x396, x397, x398, x399]
    refine k_Sta_dropFromRow st1 hz hs h1 (RC_f (by omega) (fun k _ _ => f2 k (by omega)) R1) (fun μ3 f3 R3 => ?_)
    have h := hq μ3 ⟨fun k a b c => by rw [f3 k (by omega), f2 k (by omega), f1 k (by omega) (by omega)], R3⟩
    unfold hib at h
    rw [if_neg (by omega)] at h
    refine wp_go b92_37 ?_; simp only [l92_37, sg_iload_3, sg_iret0, nLg_n, nLg_i, nLg_r, tc_c, tc_l, tc_r, tc_m, tc_n, tc_o, tc_0, inR, true_and, and_true, ne_eq, not_true_eq_false, not_false_eq_true, true_imp_iff, false_imp_iff, Int.toNat_natCast, lit_a, Nat.reduceAdd, or_true, true_or, or_false, false_or, Int.reduceEq, Int.reduceNe, Int.reduceLT, Int.reduceLE, Int.reduceNeg, sg_nil]
    repeat' (first | with_reducible apply And.intro | (intro _) | ((first | refine wp_go b92_0 ?_ | refine wp_go b92_8 ?_ | refine wp_go b92_14 ?_ | refine wp_go b92_23 ?_ | refine wp_go b92_28 ?_ | refine wp_go b92_37 ?_); simp only [l92_0, l92_8, l92_14, l92_23, l92_28, l92_37, sg_aload_0, sg_getfp, sg_iload_1, sg_iv2_i, len4_0, len4_1, len4_2, len4_3, len4_4, sg_if_eq, sg_bipush, sg_iret0, sg_iload_2, sg_iv3_v, sg_istore_3, sg_iv2_v, sg_iload_3, nLg_n, nLg_i, nLg_r, tc_c, tc_l, tc_r, tc_m, tc_n, tc_o, tc_0, inR, true_and, and_true, ne_eq, not_true_eq_false, not_false_eq_true, true_imp_iff, false_imp_iff, Int.toNat_natCast, lit_a, Nat.reduceAdd, or_true, true_or, or_false, false_or, Int.reduceEq, Int.reduceNe, Int.reduceLT, Int.reduceLE, Int.reduceNeg, sg_nil]))
    all_goals (try omega)
    all_goals exact h
def F_ifBooked (z : Rw) (s t : Int) : Int := if (s < 0 ∨ z 0 ≤ s) ∨ (t < 0 ∨ z 2 ≤ t) then -1 else if 4 ≤ z (76 + 5 * s.toNat) then -4 else 10000 + sm (secs (bookZ z s.toNat t) (zn z)) (znl z) - sm (secs z (zn z)) (znl z)
theorem secs_b {z : Rw} (hz : IZ z) : 0 ≤ sm (secs z (zn z)) (znl z) ∧ sm (secs z (zn z)) (znl z) ≤ 3600 := by
  have e := znl_eq hz
  have e0 := zn_eq hz
  have := sm_b (f := secs z (zn z)) (b := 600) (n := znl z) (fun i hi => by
    have c := (hz.2.2.2.2 i (by omega)).2.1
    have := rn_b (g := z (212 + 3 * i)) (b := z (213 + 3 * i)) hz (by omega) (zn z) (by omega)
    unfold secs; omega)
  omega
-- NS.ifBooked: blocks [0, 8, 19, 22, 24, 32, 38, 42, 52, 56, 66]
theorem k_NS_ifBooked {d : Nat} {Q : QT} {μ : Mem} {s t : Int} {z : Rw} (hz : IZ z) (hR : RC z μ 1) (hs : inR s) (ht : inR t) (hq : ∀ μ', QF z μ μ' → Q (.inl (F_ifBooked z s t)) μ') : Call σ1 (d + 5) 71 [.inr (.inr 0), .inl s, .inl t] μ Q := by
  refine e_71 ?_
  have h := hq μ (QF_r hR)
  have q := hz.1
  refine wp_go b71_0 ?_; simp only [l71_0, sg_aload_0, sg_getfp, sg_iload_1, sg_iv2_i, len4_0, len4_1, len4_2, len4_3, len4_4, nLg_n, nLg_i, nLg_r, tc_c, tc_l, tc_r, tc_m, tc_n, tc_o, tc_0, inR, true_and, and_true, ne_eq, not_true_eq_false, not_false_eq_true, true_imp_iff, false_imp_iff, Int.toNat_natCast, lit_a, Nat.reduceAdd, or_true, true_or, or_false, false_or, Int.reduceEq, Int.reduceNe, Int.reduceLT, Int.reduceLE, Int.reduceNeg, sg_nil, s1p, x0, x1, x2, x3, x4, x5, x6, x7, x8, x9, x10, x11, x12, x13, x56, x57, x388, x389, x390, x391, x392, x393, x394, x395, x396, x397, x398, x399]
  refine k_Sta_hasSentence st1 hR hz hs (fun h1 h2 => ?_) (fun h0 => ?_)
  · obtain ⟨n, rfl⟩ := nat_of h1
    refine wp_go b71_8 ?_; simp only [l71_8, sg_if_eq, sg_aload_0, sg_getfp, sg_iload_2, sg_iv2_i, len4_0, len4_1, len4_2, len4_3, len4_4, nLg_n, nLg_i, nLg_r, tc_c, tc_l, tc_r, tc_m, tc_n, tc_o, tc_0, inR, true_and, and_true, ne_eq, not_true_eq_false, not_false_eq_true, true_imp_iff, false_imp_iff, Int.toNat_natCast, lit_a, Nat.reduceAdd, or_true, true_or, or_false, false_or, Int.reduceEq, Int.reduceNe, Int.reduceLT, Int.reduceLE, Int.reduceNeg, sg_nil, s1p, x0, x1, x2, x3, x4, x5, x6, x7, x8, x9, x10, x11, x12, x13, x56, x57, x388, x389, x390, x391, x392, x393, x394, x395, x396, x397, x398, x399]
    repeat' (first | with_reducible apply And.intro | intro _)
    all_goals (try omega)
    refine k_Sta_hasNotice st1 hR hz ht (fun h3 h4 => ?_) (fun h0 => ?_)
    · refine wp_go b71_19 ?_; simp only [l71_19, sg_if_ne, nLg_n, nLg_i, nLg_r, tc_c, tc_l, tc_r, tc_m, tc_n, tc_o, tc_0, inR, true_and, and_true, ne_eq, not_true_eq_false, not_false_eq_true, true_imp_iff, false_imp_iff, Int.toNat_natCast, lit_a, Nat.reduceAdd, or_true, true_or, or_false, false_or, Int.reduceEq, Int.reduceNe, Int.reduceLT, Int.reduceLE, Int.reduceNeg, sg_nil, s1p, x0, x1, x2, x3, x4, x5, x6, x7, x8, x9, x10, x11, x12, x13, x56, x57, x388, x389, x390, x391, x392, x393, x394, x395, x396, x397, x398, x399]
      repeat' (first | with_reducible apply And.intro | intro _)
      all_goals (try omega)
      refine wp_go b71_24 ?_; simp only [l71_24, sg_aload_0, sg_getfp, sg_iload_1, sg_iv2_i, len4_0, len4_1, len4_2, len4_3, len4_4, nLg_n, nLg_i, nLg_r, tc_c, tc_l, tc_r, tc_m, tc_n, tc_o, tc_0, inR, true_and, and_true, ne_eq, not_true_eq_false, not_false_eq_true, true_imp_iff, false_imp_iff, Int.toNat_natCast, lit_a, Nat.reduceAdd, or_true, true_or, or_false, false_or, Int.reduceEq, Int.reduceNe, Int.reduceLT, Int.reduceLE, Int.reduceNeg, sg_nil, s1p, x0, x1, x2, x3, x4, x5, x6, x7, x8, x9, x10, x11, x12, x13, x56, x57, x388, x389, x390, x391, x392, x393, x394, x395, x396, x397, x398, x399]
      refine k_Sta_isRowFull st1 hR hz h2 (fun h5 => ?_) (fun h5 => ?_)
      · refine wp_go b71_32 ?_; simp only [l71_32, sg_if_eq, sg_bipush, sg_iret0, nLg_n, nLg_i, nLg_r, tc_c, tc_l, tc_r, tc_m, tc_n, tc_o, tc_0, inR, true_and, and_true, ne_eq, not_true_eq_false, not_false_eq_true, true_imp_iff, false_imp_iff, Int.toNat_natCast, lit_a, Nat.reduceAdd, or_true, true_or, or_false, false_or, Int.reduceEq, Int.reduceNe, Int.reduceLT, Int.reduceLE, Int.reduceNeg, sg_nil]
        repeat' (first | with_reducible apply And.intro | (intro _) | ((first | refine wp_go b71_0 ?_ | refine wp_go b71_8 ?_ | refine wp_go b71_19 ?_ | refine wp_go b71_22 ?_ | refine wp_go b71_24 ?_ | refine wp_go b71_32 ?_ | refine wp_go b71_38 ?_ | refine wp_go b71_42 ?_ | refine wp_go b71_52 ?_ | refine wp_go b71_56 ?_ | refine wp_go b71_66 ?_); simp only [l71_0, l71_8, l71_19, l71_22, l71_24, l71_32, l71_38, l71_42, l71_52, l71_56, l71_66, sg_aload_0, sg_getfp, sg_iload_1, sg_iv2_i, len4_0, len4_1, len4_2, len4_3, len4_4, sg_if_eq, sg_iload_2, sg_if_ne, sg_iconst, sg_iret0, sg_bipush, sg_iv1_i, sg_istore_3, sg_iv3_v, sg_istore, okS_4, stL_4, sg_iv2_v, sg_sipush, sg_iload, ldI_4, sg_iadd, sg_iload_3, sg_isub, nLg_n, nLg_i, nLg_r, tc_c, tc_l, tc_r, tc_m, tc_n, tc_o, tc_0, inR, true_and, and_true, ne_eq, not_true_eq_false, not_false_eq_true, true_imp_iff, false_imp_iff, Int.toNat_natCast, lit_a, Nat.reduceAdd, or_true, true_or, or_false, false_or, Int.reduceEq, Int.reduceNe, Int.reduceLT, Int.reduceLE, Int.reduceNeg, sg_nil]))
        all_goals (try omega)
        all_goals (revert h; unfold F_ifBooked; (try simp only [Int.toNat_natCast]); (repeat (first | rw [if_neg (by omega)] | rw [if_pos (by omega)])); exact id)
      · refine wp_go b71_32 ?_; simp only [l71_32, sg_if_eq, sg_bipush, sg_iret0, nLg_n, nLg_i, nLg_r, tc_c, tc_l, tc_r, tc_m, tc_n, tc_o, tc_0, inR, true_and, and_true, ne_eq, not_true_eq_false, not_false_eq_true, true_imp_iff, false_imp_iff, Int.toNat_natCast, lit_a, Nat.reduceAdd, or_true, true_or, or_false, false_or, Int.reduceEq, Int.reduceNe, Int.reduceLT, Int.reduceLE, Int.reduceNeg, sg_nil]
        repeat' (first | with_reducible apply And.intro | intro _)
        all_goals (try omega)
        refine wp_go b71_38 ?_; simp only [l71_38, sg_aload_0, sg_iv1_i, len4_0, len4_1, len4_2, len4_3, len4_4, nLg_n, nLg_i, nLg_r, tc_c, tc_l, tc_r, tc_m, tc_n, tc_o, tc_0, inR, true_and, and_true, ne_eq, not_true_eq_false, not_false_eq_true, true_imp_iff, false_imp_iff, Int.toNat_natCast, lit_a, Nat.reduceAdd, or_true, true_or, or_false, false_or, Int.reduceEq, Int.reduceNe, Int.reduceLT, Int.reduceLE, Int.reduceNeg, sg_nil, s1p, x0, x1, x2, x3, x4, x5, x6, x7, x8, x9, x10, x11, x12, x13, x56, x57, x388, x389, x390, x391, x392, x393, x394, x395, x396, x397, x398, x399]
        refine k_NS_secondsOfAll hz hR (znl_eq hz).1 (zn_eq hz).1 (fun μ1 f1 => ?_)
        have R1 : RC z μ1 1 := RC_f (by omega) (fun k _ _ => f1 k (by omega)) hR
        refine wp_go b71_42 ?_; simp only [l71_42, sg_istore_3, sg_aload_0, sg_getfp, sg_iload_1, sg_iload_2, sg_iv3_v, len4_0, len4_1, len4_2, len4_3, len4_4, nLg_n, nLg_i, nLg_r, tc_c, tc_l, tc_r, tc_m, tc_n, tc_o, tc_0, inR, true_and, and_true, ne_eq, not_true_eq_false, not_false_eq_true, true_imp_iff, false_imp_iff, Int.toNat_natCast, lit_a, Nat.reduceAdd, or_true, true_or, or_false, false_or, Int.reduceEq, Int.reduceNe, Int.reduceLT, Int.reduceLE, Int.reduceNeg, sg_nil, s1p, x0, x1, x2, x3, x4, x5, x6, x7, x8, x9, x10, x11, x12, x13, x56, x57, x388, x389, x390, x391, x392, x393, x394, x395, x396, x397, x398, x399]
        refine k_Sta_appendToRow st1 R1 hz h2 h5 (fun μ2 f2 R2 => ?_)
        have hz1 := IZ_book hz h2 h5 ⟨h3, h4⟩
        have r := (hz.2.1 n h2).2.2.2.1
        have b0 : bookZ z n t 0 = z 0 := bookZ_o z n 0 t (by omega) (by omega)
        have b3 : bookZ z n t 3 = z 3 := bookZ_o z n 3 t (by omega) (by omega)
        refine wp_go b71_52 ?_; simp only [l71_52, sg_aload_0, sg_iv1_i, len4_0, len4_1, len4_2, len4_3, len4_4, nLg_n, nLg_i, nLg_r, tc_c, tc_l, tc_r, tc_m, tc_n, tc_o, tc_0, inR, true_and, and_true, ne_eq, not_true_eq_false, not_false_eq_true, true_imp_iff, false_imp_iff, Int.toNat_natCast, lit_a, Nat.reduceAdd, or_true, true_or, or_false, false_or, Int.reduceEq, Int.reduceNe, Int.reduceLT, Int.reduceLE, Int.reduceNeg, sg_nil, s1p, x0, x1, x2, x3, x4, x5, x6, x7, x8, x9, x10, x11, x12, x13, x56, x57, x388, x389, x390, x391, x392, x393, x394, x395, x396, x397, x398, x399]
        refine k_NS_secondsOfAll hz1 R2 (b3.trans (znl_eq hz).1) (b0.trans (zn_eq hz).1) (fun μ3 f3 => ?_)
        refine wp_go b71_56 ?_; simp only [l71_56, sg_istore, okS_4, stL_4, sg_aload_0, sg_getfp, sg_iload_1, sg_iv2_v, len4_0, len4_1, len4_2, len4_3, len4_4, nLg_n, nLg_i, nLg_r, tc_c, tc_l, tc_r, tc_m, tc_n, tc_o, tc_0, inR, true_and, and_true, ne_eq, not_true_eq_false, not_false_eq_true, true_imp_iff, false_imp_iff, Int.toNat_natCast, lit_a, Nat.reduceAdd, or_true, true_or, or_false, false_or, Int.reduceEq, Int.reduceNe, Int.reduceLT, Int.reduceLE, Int.reduceNeg, sg_nil, s1p, x0, x1, x2, x3, x4, x5, x6, x7, x8, x9, x10, x11, x12, x13, x56, x57, x388, x389, x390, x391, x392, x393, x394, x395, x396, x397, x398, x399]
        refine k_Sta_dropFromRow st1 hz h2 h5 (RC_f (by omega) (fun k _ _ => f3 k (by omega)) R2) (fun μ4 f4 R4 => ?_)
        have h := hq μ4 ⟨fun k a b c => by rw [f4 k (by omega), f3 k (by omega), f2 k (by omega) (by omega), f1 k (by omega)], R4⟩
        have sb := secs_b hz
        have sb1 := secs_b hz1
        have e1 : zn (bookZ z n t) = zn z := by unfold zn; rw [b0]
        have e2 : znl (bookZ z n t) = znl z := by unfold znl; rw [b3]
        rw [e1, e2] at sb1
        unfold F_ifBooked at h
        rw [if_neg (by omega), Int.toNat_natCast, if_neg (by omega)] at h
        refine wp_go b71_66 ?_; simp only [l71_66, sg_sipush, sg_iload, ldI_4, sg_iadd, sg_iload_3, sg_isub, sg_iret0, nLg_n, nLg_i, nLg_r, tc_c, tc_l, tc_r, tc_m, tc_n, tc_o, tc_0, inR, true_and, and_true, ne_eq, not_true_eq_false, not_false_eq_true, true_imp_iff, false_imp_iff, Int.toNat_natCast, lit_a, Nat.reduceAdd, or_true, true_or, or_false, false_or, Int.reduceEq, Int.reduceNe, Int.reduceLT, Int.reduceLE, Int.reduceNeg, sg_nil]
        repeat' (first | with_reducible apply And.intro | (intro _) | ((first | refine wp_go b71_0 ?_ | refine wp_go b71_8 ?_ | refine wp_go b71_19 ?_ | refine wp_go b71_22 ?_ | refine wp_go b71_24 ?_ | refine wp_go b71_32 ?_ | refine wp_go b71_38 ?_ | refine wp_go b71_42 ?_ | refine wp_go b71_52 ?_ | refine wp_go b71_56 ?_ | refine wp_go b71_66 ?_); simp only [l71_0, l71_8, l71_19, l71_22, l71_24, l71_32, l71_38, l71_42, l71_52, l71_56, l71_66, sg_aload_0, sg_getfp, sg_iload_1, sg_iv2_i, len4_0, len4_1, len4_2, len4_3, len4_4, sg_if_eq, sg_iload_2, sg_if_ne, sg_iconst, sg_iret0, sg_bipush, sg_iv1_i, sg_istore_3, sg_iv3_v, sg_istore, okS_4, stL_4, sg_iv2_v, sg_sipush, sg_iload, ldI_4, sg_iadd, sg_iload_3, sg_isub, nLg_n, nLg_i, nLg_r, tc_c, tc_l, tc_r, tc_m, tc_n, tc_o, tc_0, inR, true_and, and_true, ne_eq, not_true_eq_false, not_false_eq_true, true_imp_iff, false_imp_iff, Int.toNat_natCast, lit_a, Nat.reduceAdd, or_true, true_or, or_false, false_or, Int.reduceEq, Int.reduceNe, Int.reduceLT, Int.reduceLE, Int.reduceNeg, sg_nil]))
        all_goals (try omega)
        all_goals exact h
    · refine wp_go b71_19 ?_; simp only [l71_19, sg_if_ne, nLg_n, nLg_i, nLg_r, tc_c, tc_l, tc_r, tc_m, tc_n, tc_o, tc_0, inR, true_and, and_true, ne_eq, not_true_eq_false, not_false_eq_true, true_imp_iff, false_imp_iff, Int.toNat_natCast, lit_a, Nat.reduceAdd, or_true, true_or, or_false, false_or, Int.reduceEq, Int.reduceNe, Int.reduceLT, Int.reduceLE, Int.reduceNeg, sg_nil]
      repeat' (first | with_reducible apply And.intro | (intro _) | ((first | refine wp_go b71_0 ?_ | refine wp_go b71_8 ?_ | refine wp_go b71_19 ?_ | refine wp_go b71_22 ?_ | refine wp_go b71_24 ?_ | refine wp_go b71_32 ?_ | refine wp_go b71_38 ?_ | refine wp_go b71_42 ?_ | refine wp_go b71_52 ?_ | refine wp_go b71_56 ?_ | refine wp_go b71_66 ?_); simp only [l71_0, l71_8, l71_19, l71_22, l71_24, l71_32, l71_38, l71_42, l71_52, l71_56, l71_66, sg_aload_0, sg_getfp, sg_iload_1, sg_iv2_i, len4_0, len4_1, len4_2, len4_3, len4_4, sg_if_eq, sg_iload_2, sg_if_ne, sg_iconst, sg_iret0, sg_bipush, sg_iv1_i, sg_istore_3, sg_iv3_v, sg_istore, okS_4, stL_4, sg_iv2_v, sg_sipush, sg_iload, ldI_4, sg_iadd, sg_iload_3, sg_isub, nLg_n, nLg_i, nLg_r, tc_c, tc_l, tc_r, tc_m, tc_n, tc_o, tc_0, inR, true_and, and_true, ne_eq, not_true_eq_false, not_false_eq_true, true_imp_iff, false_imp_iff, Int.toNat_natCast, lit_a, Nat.reduceAdd, or_true, true_or, or_false, false_or, Int.reduceEq, Int.reduceNe, Int.reduceLT, Int.reduceLE, Int.reduceNeg, sg_nil]))
      all_goals (try omega)
      all_goals (revert h; unfold F_ifBooked; (try simp only [Int.toNat_natCast]); (repeat (first | rw [if_neg (by omega)] | rw [if_pos (by omega)])); exact id)
  · refine wp_go b71_8 ?_; simp only [l71_8, sg_if_eq, sg_aload_0, sg_getfp, sg_iload_2, sg_iv2_i, len4_0, len4_1, len4_2, len4_3, len4_4, nLg_n, nLg_i, nLg_r, tc_c, tc_l, tc_r, tc_m, tc_n, tc_o, tc_0, inR, true_and, and_true, ne_eq, not_true_eq_false, not_false_eq_true, true_imp_iff, false_imp_iff, Int.toNat_natCast, lit_a, Nat.reduceAdd, or_true, true_or, or_false, false_or, Int.reduceEq, Int.reduceNe, Int.reduceLT, Int.reduceLE, Int.reduceNeg, sg_nil]
    repeat' (first | with_reducible apply And.intro | (intro _) | ((first | refine wp_go b71_0 ?_ | refine wp_go b71_8 ?_ | refine wp_go b71_19 ?_ | refine wp_go b71_22 ?_ | refine wp_go b71_24 ?_ | refine wp_go b71_32 ?_ | refine wp_go b71_38 ?_ | refine wp_go b71_42 ?_ | refine wp_go b71_52 ?_ | refine wp_go b71_56 ?_ | refine wp_go b71_66 ?_); simp only [l71_0, l71_8, l71_19, l71_22, l71_24, l71_32, l71_38, l71_42, l71_52, l71_56, l71_66, sg_aload_0, sg_getfp, sg_iload_1, sg_iv2_i, len4_0, len4_1, len4_2, len4_3, len4_4, sg_if_eq, sg_iload_2, sg_if_ne, sg_iconst, sg_iret0, sg_bipush, sg_iv1_i, sg_istore_3, sg_iv3_v, sg_istore, okS_4, stL_4, sg_iv2_v, sg_sipush, sg_iload, ldI_4, sg_iadd, sg_iload_3, sg_isub, nLg_n, nLg_i, nLg_r, tc_c, tc_l, tc_r, tc_m, tc_n, tc_o, tc_0, inR, true_and, and_true, ne_eq, not_true_eq_false, not_false_eq_true, true_imp_iff, false_imp_iff, Int.toNat_natCast, lit_a, Nat.reduceAdd, or_true, true_or, or_false, false_or, Int.reduceEq, Int.reduceNe, Int.reduceLT, Int.reduceLE, Int.reduceNeg, sg_nil, s1p, x0, x1, x2, x3, x4, x5, x6, x7, x8, x9, x10, x11, x12, x13, x56, x57, x388, x389, x390, x391, x392, x393, x394, x395, x396, x397, x398, x399]))
    all_goals (try omega)
    all_goals (revert h; unfold F_ifBooked; (try simp only [Int.toNat_natCast]); (repeat (first | rw [if_neg (by omega)] | rw [if_pos (by omega)])); exact id)
/-- the best break: where, and how many hear it -/
def bb (f : Nat → Int) : Nat → Int × Int
  | 0 => (-6, -6)
  | n + 1 => if (bb f n).2 < f n then ((n : Int), f n) else bb f n
def F_bestBreak (z : Rw) (t w : Int) : Int := if t < 0 ∨ z 2 ≤ t then -1 else if w < 0 ∨ 1 < w then -2 else if w = 0 then (bb (hib z t) (zn z)).1 else (bb (hib z t) (zn z)).2
theorem hib_b (z : Rw) (t : Int) (s : Nat) : -6 ≤ hib z t s ∧ hib z t s ≤ znl z := by
  unfold hib
  split
  · omega
  · have := sm_b (f := hrs (bookZ z s t) (zn z) t) (b := 1) (n := znl z) (fun i hi => by
      have := bit_01 (rn (bookZ z s t) (bookZ z s t (212 + 3 * i)) (bookZ z s t (213 + 3 * i)) (zn z)).1 t
      unfold hrs; omega)
    omega
theorem bb_b {f : Nat → Int} {a b : Int} (ha : a ≤ -6) (hb : -6 ≤ b) (h : ∀ i, a ≤ f i ∧ f i ≤ b) : ∀ n, a ≤ (bb f n).2 ∧ (bb f n).2 ≤ b
  | 0 => ⟨ha, hb⟩
  | n + 1 => by
    have := bb_b ha hb h n
    unfold bb
    split
    · exact h n
    · exact this
-- NS.bestBreak: blocks [0, 8, 13, 19, 25, 35, 57, 73, 79, 87, 89]
theorem k_NS_bestBreak {d : Nat} {Q : QT} {μ : Mem} {t w : Int} {z : Rw} (hz : IZ z) (hR : RC z μ 1) (ht : inR t) (hw : inR w) (hq : ∀ μ', QF z μ μ' → Q (.inl (F_bestBreak z t w)) μ') : Call σ1 (d + 6) 72 [.inr (.inr 0), .inl t, .inl w] μ Q := by
  refine e_72 ?_
  have h := hq μ (QF_r hR)
  have q := hz.1
  refine wp_go b72_0 ?_; simp only [l72_0, sg_aload_0, sg_getfp, sg_iload_1, sg_iv2_i, len4_0, len4_1, len4_2, len4_3, len4_4, nLg_n, nLg_i, nLg_r, tc_c, tc_l, tc_r, tc_m, tc_n, tc_o, tc_0, inR, true_and, and_true, ne_eq, not_true_eq_false, not_false_eq_true, true_imp_iff, false_imp_iff, Int.toNat_natCast, lit_a, Nat.reduceAdd, or_true, true_or, or_false, false_or, Int.reduceEq, Int.reduceNe, Int.reduceLT, Int.reduceLE, Int.reduceNeg, sg_nil, s1p, x0, x1, x2, x3, x4, x5, x6, x7, x8, x9, x10, x11, x12, x13, x56, x57, x388, x389, x390, x391, x392, x393, x394, x395, x396, x397, x398, x399]
  refine k_Sta_hasNotice st1 hR hz ht (fun h1 h2 => ?_) (fun h0 => ?_)
  · refine wp_go b72_8 ?_; simp only [l72_8, sg_if_ne, sg_iconst, sg_iret0, nLg_n, nLg_i, nLg_r, tc_c, tc_l, tc_r, tc_m, tc_n, tc_o, tc_0, inR, true_and, and_true, ne_eq, not_true_eq_false, not_false_eq_true, true_imp_iff, false_imp_iff, Int.toNat_natCast, lit_a, Nat.reduceAdd, or_true, true_or, or_false, false_or, Int.reduceEq, Int.reduceNe, Int.reduceLT, Int.reduceLE, Int.reduceNeg, sg_nil]
    repeat' (first | with_reducible apply And.intro | intro _)
    all_goals (try omega)
    refine wp_go b72_13 ?_; simp only [l72_13, sg_iload_2, sg_iconst, len4_0, len4_1, len4_2, len4_3, len4_4, sg_is3_1, nLg_n, nLg_i, nLg_r, tc_c, tc_l, tc_r, tc_m, tc_n, tc_o, tc_0, inR, true_and, and_true, ne_eq, not_true_eq_false, not_false_eq_true, true_imp_iff, false_imp_iff, Int.toNat_natCast, lit_a, Nat.reduceAdd, or_true, true_or, or_false, false_or, Int.reduceEq, Int.reduceNe, Int.reduceLT, Int.reduceLE, Int.reduceNeg, sg_nil]
    refine k_NS_isWithin hw (by unfold inR; omega) (by unfold inR; omega) (fun g1 g2 => ?_) (fun g0 => ?_)
    · have e0 := zn_eq hz
      have e3 := znl_eq hz
      have loop : ∀ k i : Nat, i + k = zn z → ∀ (μ1 : Mem) (o6 : Option MV), QF z μ μ1 → wp σ1 (Call σ1 (d + 5)) 72 Q 35 [some (.inr (.inr 0)), some (.inl t), some (.inl w), some (.inl (bb (hib z t) i).1), some (.inl (bb (hib z t) i).2), some (.inl (i : Int)), o6] [] μ1 := by
        intro k
        induction k with
        | zero =>
          intro i hi μ1 o6 f1
          have him : i = zn z := by omega
          have h := hq μ1 f1
          unfold F_bestBreak at h
          rw [if_neg (by omega), if_neg (by omega), ← him] at h
          have e : μ1 2 3 = (i : Int) := f1.2.1.1.trans (by omega)
          refine wp_go b72_35 ?_; simp only [l72_35, sg_iload, ldI_5, sg_aload_0, sg_getfp, sg_getf0, sg_ic_ge, sg_iload_1, sg_iv3_i, len4_0, len4_1, len4_2, len4_3, len4_4, nLg_n, nLg_i, nLg_r, tc_c, tc_l, tc_r, tc_m, tc_n, tc_o, tc_0, inR, true_and, and_true, ne_eq, not_true_eq_false, not_false_eq_true, true_imp_iff, false_imp_iff, Int.toNat_natCast, lit_a, Nat.reduceAdd, or_true, true_or, or_false, false_or, Int.reduceEq, Int.reduceNe, Int.reduceLT, Int.reduceLE, Int.reduceNeg, sg_nil, s1p, x0, x1, x2, x3, x4, x5, x6, x7, x8, x9, x10, x11, x12, x13, x56, x57, x388, x389, x390, x391, x392, x393, x394, x395, x396, x397, x398, x399, e]
          repeat' (first | with_reducible apply And.intro | intro _)
          all_goals (try omega)
          refine wp_go b72_79 ?_; simp only [l72_79, sg_iload_2, sg_if_ne, sg_iload_3, sg_goto, nLg_n, nLg_i, nLg_r, tc_c, tc_l, tc_r, tc_m, tc_n, tc_o, tc_0, inR, true_and, and_true, ne_eq, not_true_eq_false, not_false_eq_true, true_imp_iff, false_imp_iff, Int.toNat_natCast, lit_a, Nat.reduceAdd, or_true, true_or, or_false, false_or, Int.reduceEq, Int.reduceNe, Int.reduceLT, Int.reduceLE, Int.reduceNeg, sg_nil]
          repeat' (first | with_reducible apply And.intro | intro _)
          all_goals (try omega)
          all_goals first
            | rw [if_pos (by omega)] at h
              repeat' (first | with_reducible apply And.intro | (intro _) | ((first | refine wp_go b72_0 ?_ | refine wp_go b72_8 ?_ | refine wp_go b72_13 ?_ | refine wp_go b72_19 ?_ | refine wp_go b72_25 ?_ | refine wp_go b72_57 ?_ | refine wp_go b72_73 ?_ | refine wp_go b72_79 ?_ | refine wp_go b72_87 ?_ | refine wp_go b72_89 ?_); simp only [l72_0, l72_8, l72_13, l72_19, l72_25, l72_57, l72_73, l72_79, l72_87, l72_89, sg_aload_0, sg_getfp, sg_iload_1, sg_iv2_i, len4_0, len4_1, len4_2, len4_3, len4_4, sg_if_ne, sg_iconst, sg_iret0, sg_iload_2, sg_is3_1, sg_bipush, sg_istore_3, sg_istore, okS_4, stL_4, okS_5, stL_5, okS_6, stL_6, sg_iload, ldI_6, ldI_4, sg_ic_le, ldI_5, sg_iinc, sg_goto, sg_iload_3, nLg_n, nLg_i, nLg_r, tc_c, tc_l, tc_r, tc_m, tc_n, tc_o, tc_0, inR, true_and, and_true, ne_eq, not_true_eq_false, not_false_eq_true, true_imp_iff, false_imp_iff, Int.toNat_natCast, lit_a, Nat.reduceAdd, or_true, true_or, or_false, false_or, Int.reduceEq, Int.reduceNe, Int.reduceLT, Int.reduceLE, Int.reduceNeg, sg_nil]))
              all_goals (try omega)
              all_goals exact h
            | rw [if_neg (by omega)] at h
              repeat' (first | with_reducible apply And.intro | (intro _) | ((first | refine wp_go b72_0 ?_ | refine wp_go b72_8 ?_ | refine wp_go b72_13 ?_ | refine wp_go b72_19 ?_ | refine wp_go b72_25 ?_ | refine wp_go b72_57 ?_ | refine wp_go b72_73 ?_ | refine wp_go b72_79 ?_ | refine wp_go b72_87 ?_ | refine wp_go b72_89 ?_); simp only [l72_0, l72_8, l72_13, l72_19, l72_25, l72_57, l72_73, l72_79, l72_87, l72_89, sg_aload_0, sg_getfp, sg_iload_1, sg_iv2_i, len4_0, len4_1, len4_2, len4_3, len4_4, sg_if_ne, sg_iconst, sg_iret0, sg_iload_2, sg_is3_1, sg_bipush, sg_istore_3, sg_istore, okS_4, stL_4, okS_5, stL_5, okS_6, stL_6, sg_iload, ldI_6, ldI_4, sg_ic_le, ldI_5, sg_iinc, sg_goto, sg_iload_3, nLg_n, nLg_i, nLg_r, tc_c, tc_l, tc_r, tc_m, tc_n, tc_o, tc_0, inR, true_and, and_true, ne_eq, not_true_eq_false, not_false_eq_true, true_imp_iff, false_imp_iff, Int.toNat_natCast, lit_a, Nat.reduceAdd, or_true, true_or, or_false, false_or, Int.reduceEq, Int.reduceNe, Int.reduceLT, Int.reduceLE, Int.reduceNeg, sg_nil]))
              all_goals (try omega)
              all_goals exact h
        | succ k ih =>
          intro i hi μ1 o6 f1
          have e : μ1 2 3 = (zn z : Int) := f1.2.1.1.trans (by omega)
          refine wp_go b72_35 ?_; simp only [l72_35, sg_iload, ldI_5, sg_aload_0, sg_getfp, sg_getf0, sg_ic_ge, sg_iload_1, sg_iv3_i, len4_0, len4_1, len4_2, len4_3, len4_4, nLg_n, nLg_i, nLg_r, tc_c, tc_l, tc_r, tc_m, tc_n, tc_o, tc_0, inR, true_and, and_true, ne_eq, not_true_eq_false, not_false_eq_true, true_imp_iff, false_imp_iff, Int.toNat_natCast, lit_a, Nat.reduceAdd, or_true, true_or, or_false, false_or, Int.reduceEq, Int.reduceNe, Int.reduceLT, Int.reduceLE, Int.reduceNeg, sg_nil, s1p, x0, x1, x2, x3, x4, x5, x6, x7, x8, x9, x10, x11, x12, x13, x56, x57, x388, x389, x390, x391, x392, x393, x394, x395, x396, x397, x398, x399, e]
          repeat' (first | with_reducible apply And.intro | intro _)
          all_goals (try omega)
          refine k_NS_hearersIfBooked hz f1.2 (by omega) ⟨h1, h2⟩ (fun μ2 f2 => ?_)
          have ih1 := ih (i + 1) (by omega) μ2 (some (.inl (hib z t i))) (QF_t f1 f2)
          have hb := hib_b z t i
          have bb1 := bb_b (f := hib z t) (a := -6) (b := znl z) (by omega) (by omega) (hib_b z t) i
          have e4 : bb (hib z t) (i + 1) = if (bb (hib z t) i).2 < hib z t i then ((i : Int), hib z t i) else bb (hib z t) i := rfl
          rw [e4] at ih1
          refine wp_go b72_57 ?_; simp only [l72_57, sg_istore, okS_6, stL_6, sg_iload, ldI_6, ldI_4, sg_ic_le, ldI_5, sg_istore_3, okS_4, stL_4, nLg_n, nLg_i, nLg_r, tc_c, tc_l, tc_r, tc_m, tc_n, tc_o, tc_0, inR, true_and, and_true, ne_eq, not_true_eq_false, not_false_eq_true, true_imp_iff, false_imp_iff, Int.toNat_natCast, lit_a, Nat.reduceAdd, or_true, true_or, or_false, false_or, Int.reduceEq, Int.reduceNe, Int.reduceLT, Int.reduceLE, Int.reduceNeg, sg_nil]
          repeat' (first | with_reducible apply And.intro | intro _)
          all_goals (try omega)
          all_goals first
            | rw [if_pos (by omega)] at ih1
              refine wp_go b72_73 ?_; simp only [l72_73, sg_iinc, ldI_5, okS_5, stL_5, sg_goto, nLg_n, nLg_i, nLg_r, tc_c, tc_l, tc_r, tc_m, tc_n, tc_o, tc_0, inR, true_and, and_true, ne_eq, not_true_eq_false, not_false_eq_true, true_imp_iff, false_imp_iff, Int.toNat_natCast, lit_a, Nat.reduceAdd, or_true, true_or, or_false, false_or, Int.reduceEq, Int.reduceNe, Int.reduceLT, Int.reduceLE, Int.reduceNeg, sg_nil]
              repeat' (first | with_reducible apply And.intro | (intro _) | ((first | refine wp_go b72_0 ?_ | refine wp_go b72_8 ?_ | refine wp_go b72_13 ?_ | refine wp_go b72_19 ?_ | refine wp_go b72_25 ?_ | refine wp_go b72_57 ?_ | refine wp_go b72_73 ?_ | refine wp_go b72_79 ?_ | refine wp_go b72_87 ?_ | refine wp_go b72_89 ?_); simp only [l72_0, l72_8, l72_13, l72_19, l72_25, l72_57, l72_73, l72_79, l72_87, l72_89, sg_aload_0, sg_getfp, sg_iload_1, sg_iv2_i, len4_0, len4_1, len4_2, len4_3, len4_4, sg_if_ne, sg_iconst, sg_iret0, sg_iload_2, sg_is3_1, sg_bipush, sg_istore_3, sg_istore, okS_4, stL_4, okS_5, stL_5, okS_6, stL_6, sg_iload, ldI_6, ldI_4, sg_ic_le, ldI_5, sg_iinc, sg_goto, sg_iload_3, nLg_n, nLg_i, nLg_r, tc_c, tc_l, tc_r, tc_m, tc_n, tc_o, tc_0, inR, true_and, and_true, ne_eq, not_true_eq_false, not_false_eq_true, true_imp_iff, false_imp_iff, Int.toNat_natCast, lit_a, Nat.reduceAdd, or_true, true_or, or_false, false_or, Int.reduceEq, Int.reduceNe, Int.reduceLT, Int.reduceLE, Int.reduceNeg, sg_nil]))
              all_goals (try omega)
              all_goals exact ih1
            | rw [if_neg (by omega)] at ih1
              refine wp_go b72_73 ?_; simp only [l72_73, sg_iinc, ldI_5, okS_5, stL_5, sg_goto, nLg_n, nLg_i, nLg_r, tc_c, tc_l, tc_r, tc_m, tc_n, tc_o, tc_0, inR, true_and, and_true, ne_eq, not_true_eq_false, not_false_eq_true, true_imp_iff, false_imp_iff, Int.toNat_natCast, lit_a, Nat.reduceAdd, or_true, true_or, or_false, false_or, Int.reduceEq, Int.reduceNe, Int.reduceLT, Int.reduceLE, Int.reduceNeg, sg_nil]
              repeat' (first | with_reducible apply And.intro | (intro _) | ((first | refine wp_go b72_0 ?_ | refine wp_go b72_8 ?_ | refine wp_go b72_13 ?_ | refine wp_go b72_19 ?_ | refine wp_go b72_25 ?_ | refine wp_go b72_57 ?_ | refine wp_go b72_73 ?_ | refine wp_go b72_79 ?_ | refine wp_go b72_87 ?_ | refine wp_go b72_89 ?_); simp only [l72_0, l72_8, l72_13, l72_19, l72_25, l72_57, l72_73, l72_79, l72_87, l72_89, sg_aload_0, sg_getfp, sg_iload_1, sg_iv2_i, len4_0, len4_1, len4_2, len4_3, len4_4, sg_if_ne, sg_iconst, sg_iret0, sg_iload_2, sg_is3_1, sg_bipush, sg_istore_3, sg_istore, okS_4, stL_4, okS_5, stL_5, okS_6, stL_6, sg_iload, ldI_6, ldI_4, sg_ic_le, ldI_5, sg_iinc, sg_goto, sg_iload_3, nLg_n, nLg_i, nLg_r, tc_c, tc_l, tc_r, tc_m, tc_n, tc_o, tc_0, inR, true_and, and_true, ne_eq, not_true_eq_false, not_false_eq_true, true_imp_iff, false_imp_iff, Int.toNat_natCast, lit_a, Nat.reduceAdd, or_true, true_or, or_false, false_or, Int.reduceEq, Int.reduceNe, Int.reduceLT, Int.reduceLE, Int.reduceNeg, sg_nil]))
              all_goals (try omega)
              all_goals exact ih1
      refine wp_go b72_19 ?_; simp only [l72_19, sg_if_ne, sg_bipush, sg_iret0, nLg_n, nLg_i, nLg_r, tc_c, tc_l, tc_r, tc_m, tc_n, tc_o, tc_0, inR, true_and, and_true, ne_eq, not_true_eq_false, not_false_eq_true, true_imp_iff, false_imp_iff, Int.toNat_natCast, lit_a, Nat.reduceAdd, or_true, true_or, or_false, false_or, Int.reduceEq, Int.reduceNe, Int.reduceLT, Int.reduceLE, Int.reduceNeg, sg_nil]
      repeat' (first | with_reducible apply And.intro | intro _)
      all_goals (try omega)
      refine wp_go b72_25 ?_; simp only [l72_25, sg_bipush, sg_istore_3, sg_istore, okS_4, stL_4, sg_iconst, okS_5, stL_5, nLg_n, nLg_i, nLg_r, tc_c, tc_l, tc_r, tc_m, tc_n, tc_o, tc_0, inR, true_and, and_true, ne_eq, not_true_eq_false, not_false_eq_true, true_imp_iff, false_imp_iff, Int.toNat_natCast, lit_a, Nat.reduceAdd, or_true, true_or, or_false, false_or, Int.reduceEq, Int.reduceNe, Int.reduceLT, Int.reduceLE, Int.reduceNeg, sg_nil]
      exact loop (zn z) 0 (by omega) μ none (QF_r hR)
    · refine wp_go b72_19 ?_; simp only [l72_19, sg_if_ne, sg_bipush, sg_iret0, nLg_n, nLg_i, nLg_r, tc_c, tc_l, tc_r, tc_m, tc_n, tc_o, tc_0, inR, true_and, and_true, ne_eq, not_true_eq_false, not_false_eq_true, true_imp_iff, false_imp_iff, Int.toNat_natCast, lit_a, Nat.reduceAdd, or_true, true_or, or_false, false_or, Int.reduceEq, Int.reduceNe, Int.reduceLT, Int.reduceLE, Int.reduceNeg, sg_nil]
      repeat' (first | with_reducible apply And.intro | (intro _) | ((first | refine wp_go b72_0 ?_ | refine wp_go b72_8 ?_ | refine wp_go b72_13 ?_ | refine wp_go b72_19 ?_ | refine wp_go b72_25 ?_ | refine wp_go b72_57 ?_ | refine wp_go b72_73 ?_ | refine wp_go b72_79 ?_ | refine wp_go b72_87 ?_ | refine wp_go b72_89 ?_); simp only [l72_0, l72_8, l72_13, l72_19, l72_25, l72_57, l72_73, l72_79, l72_87, l72_89, sg_aload_0, sg_getfp, sg_iload_1, sg_iv2_i, len4_0, len4_1, len4_2, len4_3, len4_4, sg_if_ne, sg_iconst, sg_iret0, sg_iload_2, sg_is3_1, sg_bipush, sg_istore_3, sg_istore, okS_4, stL_4, okS_5, stL_5, okS_6, stL_6, sg_iload, ldI_6, ldI_4, sg_ic_le, ldI_5, sg_iinc, sg_goto, sg_iload_3, nLg_n, nLg_i, nLg_r, tc_c, tc_l, tc_r, tc_m, tc_n, tc_o, tc_0, inR, true_and, and_true, ne_eq, not_true_eq_false, not_false_eq_true, true_imp_iff, false_imp_iff, Int.toNat_natCast, lit_a, Nat.reduceAdd, or_true, true_or, or_false, false_or, Int.reduceEq, Int.reduceNe, Int.reduceLT, Int.reduceLE, Int.reduceNeg, sg_nil]))
      all_goals (try omega)
      all_goals (revert h; unfold F_bestBreak; (try simp only [Int.toNat_natCast]); (repeat (first | rw [if_neg (by omega)] | rw [if_pos (by omega)])); exact id)
  · refine wp_go b72_8 ?_; simp only [l72_8, sg_if_ne, sg_iconst, sg_iret0, nLg_n, nLg_i, nLg_r, tc_c, tc_l, tc_r, tc_m, tc_n, tc_o, tc_0, inR, true_and, and_true, ne_eq, not_true_eq_false, not_false_eq_true, true_imp_iff, false_imp_iff, Int.toNat_natCast, lit_a, Nat.reduceAdd, or_true, true_or, or_false, false_or, Int.reduceEq, Int.reduceNe, Int.reduceLT, Int.reduceLE, Int.reduceNeg, sg_nil]
    repeat' (first | with_reducible apply And.intro | (intro _) | ((first | refine wp_go b72_0 ?_ | refine wp_go b72_8 ?_ | refine wp_go b72_13 ?_ | refine wp_go b72_19 ?_ | refine wp_go b72_25 ?_ | refine wp_go b72_57 ?_ | refine wp_go b72_73 ?_ | refine wp_go b72_79 ?_ | refine wp_go b72_87 ?_ | refine wp_go b72_89 ?_); simp only [l72_0, l72_8, l72_13, l72_19, l72_25, l72_57, l72_73, l72_79, l72_87, l72_89, sg_aload_0, sg_getfp, sg_iload_1, sg_iv2_i, len4_0, len4_1, len4_2, len4_3, len4_4, sg_if_ne, sg_iconst, sg_iret0, sg_iload_2, sg_is3_1, sg_bipush, sg_istore_3, sg_istore, okS_4, stL_4, okS_5, stL_5, okS_6, stL_6, sg_iload, ldI_6, ldI_4, sg_ic_le, ldI_5, sg_iinc, sg_goto, sg_iload_3, nLg_n, nLg_i, nLg_r, tc_c, tc_l, tc_r, tc_m, tc_n, tc_o, tc_0, inR, true_and, and_true, ne_eq, not_true_eq_false, not_false_eq_true, true_imp_iff, false_imp_iff, Int.toNat_natCast, lit_a, Nat.reduceAdd, or_true, true_or, or_false, false_or, Int.reduceEq, Int.reduceNe, Int.reduceLT, Int.reduceLE, Int.reduceNeg, sg_nil, s1p, x0, x1, x2, x3, x4, x5, x6, x7, x8, x9, x10, x11, x12, x13, x56, x57, x388, x389, x390, x391, x392, x393, x394, x395, x396, x397, x398, x399]))
    all_goals (try omega)
    all_goals (revert h; unfold F_bestBreak; (try simp only [Int.toNat_natCast]); (repeat (first | rw [if_neg (by omega)] | rw [if_pos (by omega)])); exact id)
end
section
def cnt (z : Rw) (l : Nat) (b : Int) : Int := sm (fun i => bI (ch z (z (212 + 3 * l)) b i ≠ -6)) (zn z)
theorem rn_s (z : Rw) (g b : Int) (s : Nat) : rn z g b (s + 1) = nxt z (rn z g b s) (ch z g b s) := rfl
/-- whether something is chosen is seen from the seconds -/
theorem ch_rn {z : Rw} {g b : Int} {s : Nat} (hz : IZ z) (hs : (s : Int) < z 0) : bI (ch z g b s ≠ -6) = bI ((rn z g b (s + 1)).2 ≠ (rn z g b s).2) := by
  have q := hz.1
  rw [rn_s]
  unfold nxt bI
  rcases ch_in (g := g) (b := b) hz hs with h | ⟨h1, h2⟩
  · rw [h, if_neg (by simp), if_pos rfl, if_neg (by simp)]
  · have r := (hz.2.2.2.1 (ch z g b s).toNat (by omega)).1
    rw [if_neg (show ¬ ch z g b s = -6 by omega), if_pos (show ch z g b s ≠ -6 by omega), if_pos (show (rn z g b s).2 + z (196 + 2 * (ch z g b s).toNat) ≠ (rn z g b s).2 by omega)]
theorem cnt_c {z : Rw} {l : Nat} {b b' : Int} (hz : IZ z) (h : ∀ i, i ≤ zn z → rn z (z (212 + 3 * l)) b' i = rn z (z (212 + 3 * l)) b i) : cnt z l b' = cnt z l b := by
  have e0 := zn_eq hz
  unfold cnt
  refine sm_c (fun i hi => ?_)
  rw [ch_rn hz (by omega), ch_rn hz (by omega), h i (by omega), h (i + 1) (by omega)]
theorem cnt_b {z : Rw} {l : Nat} {b : Int} (hz : IZ z) : 0 ≤ cnt z l b ∧ cnt z l b ≤ 24 := by
  have e0 := zn_eq hz
  have := sm_b (f := fun i => bI (ch z (z (212 + 3 * l)) b i ≠ -6)) (b := 1) (n := zn z) (fun i _ => by
    show 0 ≤ bI _ ∧ bI _ ≤ 1
    unfold bI; split <;> omega)
  unfold cnt; omega
def F_enough (z : Rw) (l : Int) : Int := if l < 0 ∨ z 3 ≤ l then -1 else fsI (fun b => decide (cnt z l.toNat (b : Int) = cnt z l.toNat 600)) 600 600
-- NS.enough: blocks [0, 8, 13, 21, 34, 51, 58, 72, 80, 86]
theorem k_NS_enough {d : Nat} {Q : QT} {μ : Mem} {l : Int} {z : Rw} (hz : IZ z) (hR : RC z μ 1) (hl : inR l) (hq : ∀ μ', QF z μ μ' → Q (.inl (F_enough z l)) μ') : Call σ1 (d + 4) 73 [.inr (.inr 0), .inl l] μ Q := by
  refine e_73 ?_
  have h := hq μ (QF_r hR)
  have q := hz.1
  refine wp_go b73_0 ?_; simp only [l73_0, sg_aload_0, sg_getfp, sg_iload_1, sg_iv2_i, len4_0, len4_1, len4_2, len4_3, len4_4, nLg_n, nLg_i, nLg_r, tc_c, tc_l, tc_r, tc_m, tc_n, tc_o, tc_0, inR, true_and, and_true, ne_eq, not_true_eq_false, not_false_eq_true, true_imp_iff, false_imp_iff, Int.toNat_natCast, lit_a, Nat.reduceAdd, or_true, true_or, or_false, false_or, Int.reduceEq, Int.reduceNe, Int.reduceLT, Int.reduceLE, Int.reduceNeg, sg_nil, s1p, x0, x1, x2, x3, x4, x5, x6, x7, x8, x9, x10, x11, x12, x13, x56, x57, x388, x389, x390, x391, x392, x393, x394, x395, x396, x397, x398, x399]
  refine k_Sta_hasListener st1 hR hz hl (fun h1 h2 => ?_) (fun h0 => ?_)
  · obtain ⟨n, rfl⟩ := nat_of h1
    obtain ⟨e9, e10, -, -⟩ := hR.2.2.2 n h2
    refine wp_go b73_8 ?_; simp only [l73_8, sg_if_ne, sg_iconst, sg_iret0, nLg_n, nLg_i, nLg_r, tc_c, tc_l, tc_r, tc_m, tc_n, tc_o, tc_0, inR, true_and, and_true, ne_eq, not_true_eq_false, not_false_eq_true, true_imp_iff, false_imp_iff, Int.toNat_natCast, lit_a, Nat.reduceAdd, or_true, true_or, or_false, false_or, Int.reduceEq, Int.reduceNe, Int.reduceLT, Int.reduceLE, Int.reduceNeg, sg_nil]
    repeat' (first | with_reducible apply And.intro | intro _)
    all_goals (try omega)
    refine wp_go b73_13 ?_; simp only [l73_13, sg_aload_0, sg_iload_1, sg_sipush, sg_iv3_v, len4_0, len4_1, len4_2, len4_3, len4_4, nLg_n, nLg_i, nLg_r, tc_c, tc_l, tc_r, tc_m, tc_n, tc_o, tc_0, inR, true_and, and_true, ne_eq, not_true_eq_false, not_false_eq_true, true_imp_iff, false_imp_iff, Int.toNat_natCast, lit_a, Nat.reduceAdd, or_true, true_or, or_false, false_or, Int.reduceEq, Int.reduceNe, Int.reduceLT, Int.reduceLE, Int.reduceNeg, sg_nil, s1p, x0, x1, x2, x3, x4, x5, x6, x7, x8, x9, x10, x11, x12, x13, x56, x57, x388, x389, x390, x391, x392, x393, x394, x395, x396, x397, x398, x399]
    repeat' (first | with_reducible apply And.intro | intro _)
    all_goals (try omega)
    refine k_NS_chooseAll (b := 600) hz hR.r0 hR.1.1 (zn_eq hz).1 h2 e9 (by omega) (fun μ1 nb f1 c2 _ _ _ _ _ _ => ?_)
    have c2 : μ1 392 2 = cnt z n 600 := c2
    have loop : ∀ k i : Nat, i + k = 600 → ∀ (μ2 : Mem) (N : Int), (∀ k, k ≠ 392 → μ2 k = μ k) → 0 ≤ N → N ≤ 600 → (∀ j : Nat, j < i → cnt z n (j : Int) ≠ cnt z n 600) → (∀ j : Nat, i ≤ j → (j : Int) < N → cnt z n (j : Int) ≠ cnt z n 600) →
        wp σ1 (Call σ1 (d + 3)) 73 Q 34 [some (.inr (.inr 0)), some (.inl (n : Int)), some (.inl (cnt z n 600)), some (.inl N), some (.inl (i : Int))] [] μ2 := by
      intro k
      induction k with
      | zero =>
        intro i hi μ2 N f2 n1 n2 g1 g2
        have h := hq μ2 (QF_s hz hR (fun k hk => f2 k (by omega)))
        unfold F_enough at h
        rw [if_neg (by omega), Int.toNat_natCast, fsI_n (fun j hj => decide_eq_false (g1 j (by omega)))] at h
        refine wp_go b73_34 ?_; simp only [l73_34, sg_iload, ldI_4, sg_sipush, sg_ic_ge, sg_iload_3, sg_goto, nLg_n, nLg_i, nLg_r, tc_c, tc_l, tc_r, tc_m, tc_n, tc_o, tc_0, inR, true_and, and_true, ne_eq, not_true_eq_false, not_false_eq_true, true_imp_iff, false_imp_iff, Int.toNat_natCast, lit_a, Nat.reduceAdd, or_true, true_or, or_false, false_or, Int.reduceEq, Int.reduceNe, Int.reduceLT, Int.reduceLE, Int.reduceNeg, sg_nil]
        repeat' (first | with_reducible apply And.intro | intro _)
        all_goals (try omega)
        refine wp_go b73_86 ?_; simp only [l73_86, sg_sipush, sg_iret0, nLg_n, nLg_i, nLg_r, tc_c, tc_l, tc_r, tc_m, tc_n, tc_o, tc_0, inR, true_and, and_true, ne_eq, not_true_eq_false, not_false_eq_true, true_imp_iff, false_imp_iff, Int.toNat_natCast, lit_a, Nat.reduceAdd, or_true, true_or, or_false, false_or, Int.reduceEq, Int.reduceNe, Int.reduceLT, Int.reduceLE, Int.reduceNeg, sg_nil]
        exact h
      | succ k ih =>
        intro i hi μ2 N f2 n1 n2 g1 g2
        refine wp_go b73_34 ?_; simp only [l73_34, sg_iload, ldI_4, sg_sipush, sg_ic_ge, sg_iload_3, sg_goto, nLg_n, nLg_i, nLg_r, tc_c, tc_l, tc_r, tc_m, tc_n, tc_o, tc_0, inR, true_and, and_true, ne_eq, not_true_eq_false, not_false_eq_true, true_imp_iff, false_imp_iff, Int.toNat_natCast, lit_a, Nat.reduceAdd, or_true, true_or, or_false, false_or, Int.reduceEq, Int.reduceNe, Int.reduceLT, Int.reduceLE, Int.reduceNeg, sg_nil]
        repeat' (first | with_reducible apply And.intro | (intro _) | ((first | refine wp_go b73_0 ?_ | refine wp_go b73_8 ?_ | refine wp_go b73_13 ?_ | refine wp_go b73_21 ?_ | refine wp_go b73_51 ?_ | refine wp_go b73_58 ?_ | refine wp_go b73_72 ?_ | refine wp_go b73_80 ?_ | refine wp_go b73_86 ?_); simp only [l73_0, l73_8, l73_13, l73_21, l73_51, l73_58, l73_72, l73_80, l73_86, sg_aload_0, sg_getfp, sg_iload_1, sg_iv2_i, len4_0, len4_1, len4_2, len4_3, len4_4, sg_if_ne, sg_iconst, sg_iret0, sg_sipush, sg_iv3_v, sg_getf0, sg_istore_2, sg_istore_3, sg_istore, okS_4, stL_4, sg_iload, ldI_4, sg_iload_2, sg_ic_ne, sg_iinc, sg_goto, nLg_n, nLg_i, nLg_r, tc_c, tc_l, tc_r, tc_m, tc_n, tc_o, tc_0, inR, true_and, and_true, ne_eq, not_true_eq_false, not_false_eq_true, true_imp_iff, false_imp_iff, Int.toNat_natCast, lit_a, Nat.reduceAdd, or_true, true_or, or_false, false_or, Int.reduceEq, Int.reduceNe, Int.reduceLT, Int.reduceLE, Int.reduceNeg, sg_nil, s1p, x0, x1, x2, x3, x4, x5, x6, x7, x8, x9, x10, x11, x12, x13, x56, x57, x388, x389, x390, x391, x392, x393, x394, x395, x396, x397, x398, x399]))
        all_goals (try omega)
        · refine ih (i + 1) (by omega) μ2 N f2 n1 n2 (fun j hj => ?_) (fun j hj hj2 => g2 j (by omega) hj2)
          rcases Nat.lt_or_ge j i with hh | hh
          · exact g1 j hh
          · exact g2 j hh (by omega)
        · have R2 : RC z μ2 1 := RC_f (by omega) (fun k _ _ => f2 k (by omega)) hR
          obtain ⟨w9, -, -, -⟩ := R2.2.2.2 n h2
          refine k_NS_chooseAll (b := (i : Int)) hz R2.r0 R2.1.1 (zn_eq hz).1 h2 w9 (by omega) (fun μ3 nb f3 c2 _ _ c5 m1 m2 c6 => ?_)
          have c2 : μ3 392 2 = cnt z n (i : Int) := c2
          have f4 : ∀ k, k ≠ 392 → μ3 k = μ k := fun k hk => (f3 k hk).trans (f2 k hk)
          have cb := cnt_b (l := n) (b := (i : Int)) hz
          have cb6 := cnt_b (l := n) (b := 600) hz
          refine wp_go b73_58 ?_; simp only [l73_58, sg_aload_0, sg_getfp, sg_getf0, sg_iload_2, sg_ic_ne, sg_iload, ldI_4, sg_iret0, nLg_n, nLg_i, nLg_r, tc_c, tc_l, tc_r, tc_m, tc_n, tc_o, tc_0, inR, true_and, and_true, ne_eq, not_true_eq_false, not_false_eq_true, true_imp_iff, false_imp_iff, Int.toNat_natCast, lit_a, Nat.reduceAdd, or_true, true_or, or_false, false_or, Int.reduceEq, Int.reduceNe, Int.reduceLT, Int.reduceLE, Int.reduceNeg, sg_nil, s1p, x0, x1, x2, x3, x4, x5, x6, x7, x8, x9, x10, x11, x12, x13, x56, x57, x388, x389, x390, x391, x392, x393, x394, x395, x396, x397, x398, x399, c2]
          repeat' (first | with_reducible apply And.intro | intro _)
          all_goals (try omega)
          · have h := hq μ3 (QF_s hz hR (fun k hk => f4 k (by omega)))
            unfold F_enough at h
            rw [if_neg (by omega), Int.toNat_natCast, fsI_s (i := i) (by omega) (decide_eq_true (by assumption)) (fun j hj => decide_eq_false (g1 j (by omega)))] at h
            exact h
          · refine wp_go b73_72 ?_; simp only [l73_72, sg_aload_0, sg_getfp, sg_getf0, sg_istore_3, nLg_n, nLg_i, nLg_r, tc_c, tc_l, tc_r, tc_m, tc_n, tc_o, tc_0, inR, true_and, and_true, ne_eq, not_true_eq_false, not_false_eq_true, true_imp_iff, false_imp_iff, Int.toNat_natCast, lit_a, Nat.reduceAdd, or_true, true_or, or_false, false_or, Int.reduceEq, Int.reduceNe, Int.reduceLT, Int.reduceLE, Int.reduceNeg, sg_nil, s1p, x0, x1, x2, x3, x4, x5, x6, x7, x8, x9, x10, x11, x12, x13, x56, x57, x388, x389, x390, x391, x392, x393, x394, x395, x396, x397, x398, x399, c5]
            repeat' (first | with_reducible apply And.intro | (intro _) | ((first | refine wp_go b73_0 ?_ | refine wp_go b73_8 ?_ | refine wp_go b73_13 ?_ | refine wp_go b73_21 ?_ | refine wp_go b73_51 ?_ | refine wp_go b73_58 ?_ | refine wp_go b73_72 ?_ | refine wp_go b73_80 ?_ | refine wp_go b73_86 ?_); simp only [l73_0, l73_8, l73_13, l73_21, l73_51, l73_58, l73_72, l73_80, l73_86, sg_aload_0, sg_getfp, sg_iload_1, sg_iv2_i, len4_0, len4_1, len4_2, len4_3, len4_4, sg_if_ne, sg_iconst, sg_iret0, sg_sipush, sg_iv3_v, sg_getf0, sg_istore_2, sg_istore_3, sg_istore, okS_4, stL_4, sg_iload, ldI_4, sg_iload_2, sg_ic_ne, sg_iinc, sg_goto, nLg_n, nLg_i, nLg_r, tc_c, tc_l, tc_r, tc_m, tc_n, tc_o, tc_0, inR, true_and, and_true, ne_eq, not_true_eq_false, not_false_eq_true, true_imp_iff, false_imp_iff, Int.toNat_natCast, lit_a, Nat.reduceAdd, or_true, true_or, or_false, false_or, Int.reduceEq, Int.reduceNe, Int.reduceLT, Int.reduceLE, Int.reduceNeg, sg_nil]))
            all_goals (try omega)
            refine ih (i + 1) (by omega) μ3 nb f4 m1 m2 (fun j hj => ?_) (fun j hj hj2 => ?_)
            · rcases Nat.lt_or_ge j i with hh | hh
              · exact g1 j hh
              · rw [show j = i by omega]; assumption
            · rw [cnt_c hz (c6 j (by omega) hj2)]; assumption
    refine wp_go b73_21 ?_; simp only [l73_21, sg_aload_0, sg_getfp, sg_getf0, sg_istore_2, sg_iconst, sg_istore_3, sg_istore, okS_4, stL_4, nLg_n, nLg_i, nLg_r, tc_c, tc_l, tc_r, tc_m, tc_n, tc_o, tc_0, inR, true_and, and_true, ne_eq, not_true_eq_false, not_false_eq_true, true_imp_iff, false_imp_iff, Int.toNat_natCast, lit_a, Nat.reduceAdd, or_true, true_or, or_false, false_or, Int.reduceEq, Int.reduceNe, Int.reduceLT, Int.reduceLE, Int.reduceNeg, sg_nil, s1p, x0, x1, x2, x3, x4, x5, x6, x7, x8, x9, x10, x11, x12, x13, x56, x57, x388, x389, x390, x391, x392, x393, x394, x395, x396, x397, x398, x399, c2]
    exact loop 600 0 (by omega) μ1 0 f1 (by omega) (by omega) (fun j hj => absurd hj (by omega)) (fun j _ hj2 => absurd hj2 (by omega))
  · refine wp_go b73_8 ?_; simp only [l73_8, sg_if_ne, sg_iconst, sg_iret0, nLg_n, nLg_i, nLg_r, tc_c, tc_l, tc_r, tc_m, tc_n, tc_o, tc_0, inR, true_and, and_true, ne_eq, not_true_eq_false, not_false_eq_true, true_imp_iff, false_imp_iff, Int.toNat_natCast, lit_a, Nat.reduceAdd, or_true, true_or, or_false, false_or, Int.reduceEq, Int.reduceNe, Int.reduceLT, Int.reduceLE, Int.reduceNeg, sg_nil]
    repeat' (first | with_reducible apply And.intro | (intro _) | ((first | refine wp_go b73_0 ?_ | refine wp_go b73_8 ?_ | refine wp_go b73_13 ?_ | refine wp_go b73_21 ?_ | refine wp_go b73_51 ?_ | refine wp_go b73_58 ?_ | refine wp_go b73_72 ?_ | refine wp_go b73_80 ?_ | refine wp_go b73_86 ?_); simp only [l73_0, l73_8, l73_13, l73_21, l73_51, l73_58, l73_72, l73_80, l73_86, sg_aload_0, sg_getfp, sg_iload_1, sg_iv2_i, len4_0, len4_1, len4_2, len4_3, len4_4, sg_if_ne, sg_iconst, sg_iret0, sg_sipush, sg_iv3_v, sg_getf0, sg_istore_2, sg_istore_3, sg_istore, okS_4, stL_4, sg_iload, ldI_4, sg_iload_2, sg_ic_ne, sg_iinc, sg_goto, nLg_n, nLg_i, nLg_r, tc_c, tc_l, tc_r, tc_m, tc_n, tc_o, tc_0, inR, true_and, and_true, ne_eq, not_true_eq_false, not_false_eq_true, true_imp_iff, false_imp_iff, Int.toNat_natCast, lit_a, Nat.reduceAdd, or_true, true_or, or_false, false_or, Int.reduceEq, Int.reduceNe, Int.reduceLT, Int.reduceLE, Int.reduceNeg, sg_nil, s1p, x0, x1, x2, x3, x4, x5, x6, x7, x8, x9, x10, x11, x12, x13, x56, x57, x388, x389, x390, x391, x392, x393, x394, x395, x396, x397, x398, x399]))
    all_goals (try omega)
    all_goals (revert h; unfold F_enough; (try simp only [Int.toNat_natCast]); (repeat (first | rw [if_neg (by omega)] | rw [if_pos (by omega)])); exact id)
end
