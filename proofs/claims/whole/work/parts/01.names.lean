-- ===== PART A: goes FIRST, ahead of the names: the tables' words, and 'selects' of the private methods out of them =====
/-- a private method of a class that the tables say can be made, by its rows of tables_1 -/
def lw_okq (q : MethodName × Nat) : Prop := (q.1.cls ≠ "java/lang/invoke/MethodHandle" ∧ q.1.cls ≠ "java/lang/invoke/VarHandle") ∧ Cond.instantiable q.1.cls q.2 ∈ tables_1 ∧ Cond.privateMethod q.1 ∈ tables_1 ∧ Cond.instanceMethod q.1 ∈ tables_1
theorem lw_p0 : lw_okq (⟨"NoticeShifts", "takeRows", "()V"⟩, 7) := ⟨⟨by decide +kernel, by decide +kernel⟩, List.mem_of_getElem? (i := 12) (by decide +kernel), List.mem_of_getElem? (i := 339) (by decide +kernel), List.mem_of_getElem? (i := 340) (by decide +kernel)⟩
theorem lw_p1 : lw_okq (⟨"NoticeShifts", "hearNow", "(ILNoticeShifts$Hearing;)V"⟩, 7) := ⟨⟨by decide +kernel, by decide +kernel⟩, List.mem_of_getElem? (i := 12) (by decide +kernel), List.mem_of_getElem? (i := 356) (by decide +kernel), List.mem_of_getElem? (i := 357) (by decide +kernel)⟩
theorem lw_p2 : lw_okq (⟨"NoticeShifts", "hearingOf", "(I)LNoticeShifts$Hearing;"⟩, 7) := ⟨⟨by decide +kernel, by decide +kernel⟩, List.mem_of_getElem? (i := 12) (by decide +kernel), List.mem_of_getElem? (i := 378) (by decide +kernel), List.mem_of_getElem? (i := 379) (by decide +kernel)⟩
theorem lw_p3 : lw_okq (⟨"NoticeShifts", "countHearers", "(I)I"⟩, 7) := ⟨⟨by decide +kernel, by decide +kernel⟩, List.mem_of_getElem? (i := 12) (by decide +kernel), List.mem_of_getElem? (i := 426) (by decide +kernel), List.mem_of_getElem? (i := 427) (by decide +kernel)⟩
theorem lw_p4 : lw_okq (⟨"NoticeShifts", "chooseAll", "(II)V"⟩, 7) := ⟨⟨by decide +kernel, by decide +kernel⟩, List.mem_of_getElem? (i := 12) (by decide +kernel), List.mem_of_getElem? (i := 430) (by decide +kernel), List.mem_of_getElem? (i := 431) (by decide +kernel)⟩
theorem lw_p5 : lw_okq (⟨"NoticeShifts", "isOutOfDate", "(I)Z"⟩, 7) := ⟨⟨by decide +kernel, by decide +kernel⟩, List.mem_of_getElem? (i := 12) (by decide +kernel), List.mem_of_getElem? (i := 438) (by decide +kernel), List.mem_of_getElem? (i := 439) (by decide +kernel)⟩
theorem lw_p6 : lw_okq (⟨"NoticeShifts", "outOfDateListeners", "()I"⟩, 7) := ⟨⟨by decide +kernel, by decide +kernel⟩, List.mem_of_getElem? (i := 12) (by decide +kernel), List.mem_of_getElem? (i := 470) (by decide +kernel), List.mem_of_getElem? (i := 471) (by decide +kernel)⟩
theorem lw_p7 : lw_okq (⟨"NoticeShifts", "longestListener", "()I"⟩, 7) := ⟨⟨by decide +kernel, by decide +kernel⟩, List.mem_of_getElem? (i := 12) (by decide +kernel), List.mem_of_getElem? (i := 474) (by decide +kernel), List.mem_of_getElem? (i := 475) (by decide +kernel)⟩
theorem lw_p8 : lw_okq (⟨"NoticeShifts", "momentNow", "(II)I"⟩, 7) := ⟨⟨by decide +kernel, by decide +kernel⟩, List.mem_of_getElem? (i := 12) (by decide +kernel), List.mem_of_getElem? (i := 519) (by decide +kernel), List.mem_of_getElem? (i := 520) (by decide +kernel)⟩
theorem lw_p9 : lw_okq (⟨"NoticeShifts", "secondsOfAll", "()I"⟩, 7) := ⟨⟨by decide +kernel, by decide +kernel⟩, List.mem_of_getElem? (i := 12) (by decide +kernel), List.mem_of_getElem? (i := 531) (by decide +kernel), List.mem_of_getElem? (i := 532) (by decide +kernel)⟩
theorem lw_p10 : lw_okq (⟨"NoticeShifts", "hearersIfBooked", "(II)I"⟩, 7) := ⟨⟨by decide +kernel, by decide +kernel⟩, List.mem_of_getElem? (i := 12) (by decide +kernel), List.mem_of_getElem? (i := 543) (by decide +kernel), List.mem_of_getElem? (i := 544) (by decide +kernel)⟩
theorem lw_p11 : lw_okq (⟨"NoticeShiftsModel", "record", "()V"⟩, 14) := ⟨⟨by decide +kernel, by decide +kernel⟩, List.mem_of_getElem? (i := 592) (by decide +kernel), List.mem_of_getElem? (i := 656) (by decide +kernel), List.mem_of_getElem? (i := 657) (by decide +kernel)⟩
theorem lw_p12 : lw_okq (⟨"NoticeShiftsModel", "clearSentence", "(I)V"⟩, 14) := ⟨⟨by decide +kernel, by decide +kernel⟩, List.mem_of_getElem? (i := 592) (by decide +kernel), List.mem_of_getElem? (i := 664) (by decide +kernel), List.mem_of_getElem? (i := 665) (by decide +kernel)⟩
theorem lw_p13 : lw_okq (⟨"NoticeShiftsModel", "exchangeSentences", "(I)V"⟩, 14) := ⟨⟨by decide +kernel, by decide +kernel⟩, List.mem_of_getElem? (i := 592) (by decide +kernel), List.mem_of_getElem? (i := 668) (by decide +kernel), List.mem_of_getElem? (i := 669) (by decide +kernel)⟩
theorem lw_p14 : lw_okq (⟨"NoticeShiftsModel", "exchange", "(II)V"⟩, 14) := ⟨⟨by decide +kernel, by decide +kernel⟩, List.mem_of_getElem? (i := 592) (by decide +kernel), List.mem_of_getElem? (i := 672) (by decide +kernel), List.mem_of_getElem? (i := 673) (by decide +kernel)⟩
theorem lw_p15 : lw_okq (⟨"NoticeShiftsModel", "its", "(II)I"⟩, 14) := ⟨⟨by decide +kernel, by decide +kernel⟩, List.mem_of_getElem? (i := 592) (by decide +kernel), List.mem_of_getElem? (i := 676) (by decide +kernel), List.mem_of_getElem? (i := 677) (by decide +kernel)⟩
def lw_privs_1 : List (MethodName × Nat) := [(⟨"NoticeShifts", "takeRows", "()V"⟩, 7), (⟨"NoticeShifts", "hearNow", "(ILNoticeShifts$Hearing;)V"⟩, 7), (⟨"NoticeShifts", "hearingOf", "(I)LNoticeShifts$Hearing;"⟩, 7), (⟨"NoticeShifts", "countHearers", "(I)I"⟩, 7), (⟨"NoticeShifts", "chooseAll", "(II)V"⟩, 7), (⟨"NoticeShifts", "isOutOfDate", "(I)Z"⟩, 7), (⟨"NoticeShifts", "outOfDateListeners", "()I"⟩, 7), (⟨"NoticeShifts", "longestListener", "()I"⟩, 7), (⟨"NoticeShifts", "momentNow", "(II)I"⟩, 7), (⟨"NoticeShifts", "secondsOfAll", "()I"⟩, 7), (⟨"NoticeShifts", "hearersIfBooked", "(II)I"⟩, 7), (⟨"NoticeShiftsModel", "record", "()V"⟩, 14), (⟨"NoticeShiftsModel", "clearSentence", "(I)V"⟩, 14), (⟨"NoticeShiftsModel", "exchangeSentences", "(I)V"⟩, 14), (⟨"NoticeShiftsModel", "exchange", "(II)V"⟩, 14), (⟨"NoticeShiftsModel", "its", "(II)I"⟩, 14)]
theorem lw_r1 : ∀ q ∈ lw_privs_1, lw_okq q := List.forall_mem_cons.mpr ⟨lw_p0, List.forall_mem_cons.mpr ⟨lw_p1, List.forall_mem_cons.mpr ⟨lw_p2, List.forall_mem_cons.mpr ⟨lw_p3, List.forall_mem_cons.mpr ⟨lw_p4, List.forall_mem_cons.mpr ⟨lw_p5, List.forall_mem_cons.mpr ⟨lw_p6, List.forall_mem_cons.mpr ⟨lw_p7, List.forall_mem_cons.mpr ⟨lw_p8, List.forall_mem_cons.mpr ⟨lw_p9, List.forall_mem_cons.mpr ⟨lw_p10, List.forall_mem_cons.mpr ⟨lw_p11, List.forall_mem_cons.mpr ⟨lw_p12, List.forall_mem_cons.mpr ⟨lw_p13, List.forall_mem_cons.mpr ⟨lw_p14, List.forall_mem_cons.mpr ⟨lw_p15, fun _ h => absurd h List.not_mem_nil⟩⟩⟩⟩⟩⟩⟩⟩⟩⟩⟩⟩⟩⟩⟩⟩
theorem lw_p16 : lw_okq (⟨"NoticeShiftsModel", "isSentence", "(I)Z"⟩, 14) := ⟨⟨by decide +kernel, by decide +kernel⟩, List.mem_of_getElem? (i := 592) (by decide +kernel), List.mem_of_getElem? (i := 684) (by decide +kernel), List.mem_of_getElem? (i := 685) (by decide +kernel)⟩
theorem lw_p17 : lw_okq (⟨"NoticeShiftsModel", "chapters", "()I"⟩, 14) := ⟨⟨by decide +kernel, by decide +kernel⟩, List.mem_of_getElem? (i := 592) (by decide +kernel), List.mem_of_getElem? (i := 696) (by decide +kernel), List.mem_of_getElem? (i := 697) (by decide +kernel)⟩
theorem lw_p18 : lw_okq (⟨"NoticeShiftsModel", "whyNotBook", "(II)I"⟩, 14) := ⟨⟨by decide +kernel, by decide +kernel⟩, List.mem_of_getElem? (i := 592) (by decide +kernel), List.mem_of_getElem? (i := 708) (by decide +kernel), List.mem_of_getElem? (i := 709) (by decide +kernel)⟩
theorem lw_p19 : lw_okq (⟨"NoticeShiftsModel", "isNotice", "(I)Z"⟩, 14) := ⟨⟨by decide +kernel, by decide +kernel⟩, List.mem_of_getElem? (i := 592) (by decide +kernel), List.mem_of_getElem? (i := 712) (by decide +kernel), List.mem_of_getElem? (i := 713) (by decide +kernel)⟩
theorem lw_p20 : lw_okq (⟨"NoticeShiftsModel", "inBreak", "(I)I"⟩, 14) := ⟨⟨by decide +kernel, by decide +kernel⟩, List.mem_of_getElem? (i := 592) (by decide +kernel), List.mem_of_getElem? (i := 716) (by decide +kernel), List.mem_of_getElem? (i := 717) (by decide +kernel)⟩
theorem lw_p21 : lw_okq (⟨"NoticeShiftsModel", "bookIt", "(II)V"⟩, 14) := ⟨⟨by decide +kernel, by decide +kernel⟩, List.mem_of_getElem? (i := 592) (by decide +kernel), List.mem_of_getElem? (i := 720) (by decide +kernel), List.mem_of_getElem? (i := 721) (by decide +kernel)⟩
theorem lw_p22 : lw_okq (⟨"NoticeShiftsModel", "emptyIt", "(I)I"⟩, 14) := ⟨⟨by decide +kernel, by decide +kernel⟩, List.mem_of_getElem? (i := 592) (by decide +kernel), List.mem_of_getElem? (i := 728) (by decide +kernel), List.mem_of_getElem? (i := 729) (by decide +kernel)⟩
theorem lw_p23 : lw_okq (⟨"NoticeShiftsModel", "isListener", "(I)Z"⟩, 14) := ⟨⟨by decide +kernel, by decide +kernel⟩, List.mem_of_getElem? (i := 592) (by decide +kernel), List.mem_of_getElem? (i := 740) (by decide +kernel), List.mem_of_getElem? (i := 741) (by decide +kernel)⟩
theorem lw_p24 : lw_okq (⟨"NoticeShiftsModel", "hasFile", "(I)Z"⟩, 14) := ⟨⟨by decide +kernel, by decide +kernel⟩, List.mem_of_getElem? (i := 592) (by decide +kernel), List.mem_of_getElem? (i := 744) (by decide +kernel), List.mem_of_getElem? (i := 745) (by decide +kernel)⟩
theorem lw_p25 : lw_okq (⟨"NoticeShiftsModel", "layNow", "(I)V"⟩, 14) := ⟨⟨by decide +kernel, by decide +kernel⟩, List.mem_of_getElem? (i := 592) (by decide +kernel), List.mem_of_getElem? (i := 748) (by decide +kernel), List.mem_of_getElem? (i := 749) (by decide +kernel)⟩
theorem lw_p26 : lw_okq (⟨"NoticeShiftsModel", "boundOf", "(I)I"⟩, 14) := ⟨⟨by decide +kernel, by decide +kernel⟩, List.mem_of_getElem? (i := 592) (by decide +kernel), List.mem_of_getElem? (i := 752) (by decide +kernel), List.mem_of_getElem? (i := 753) (by decide +kernel)⟩
theorem lw_p27 : lw_okq (⟨"NoticeShiftsModel", "layWith", "(II)V"⟩, 14) := ⟨⟨by decide +kernel, by decide +kernel⟩, List.mem_of_getElem? (i := 592) (by decide +kernel), List.mem_of_getElem? (i := 756) (by decide +kernel), List.mem_of_getElem? (i := 757) (by decide +kernel)⟩
theorem lw_p28 : lw_okq (⟨"NoticeShiftsModel", "inRow", "(II)I"⟩, 14) := ⟨⟨by decide +kernel, by decide +kernel⟩, List.mem_of_getElem? (i := 592) (by decide +kernel), List.mem_of_getElem? (i := 760) (by decide +kernel), List.mem_of_getElem? (i := 761) (by decide +kernel)⟩
theorem lw_p29 : lw_okq (⟨"NoticeShiftsModel", "groupsOf", "(I)I"⟩, 14) := ⟨⟨by decide +kernel, by decide +kernel⟩, List.mem_of_getElem? (i := 592) (by decide +kernel), List.mem_of_getElem? (i := 764) (by decide +kernel), List.mem_of_getElem? (i := 765) (by decide +kernel)⟩
theorem lw_p30 : lw_okq (⟨"NoticeShiftsModel", "groupOf", "(I)I"⟩, 14) := ⟨⟨by decide +kernel, by decide +kernel⟩, List.mem_of_getElem? (i := 592) (by decide +kernel), List.mem_of_getElem? (i := 768) (by decide +kernel), List.mem_of_getElem? (i := 769) (by decide +kernel)⟩
theorem lw_p31 : lw_okq (⟨"NoticeShiftsModel", "lengthOf", "(I)I"⟩, 14) := ⟨⟨by decide +kernel, by decide +kernel⟩, List.mem_of_getElem? (i := 592) (by decide +kernel), List.mem_of_getElem? (i := 772) (by decide +kernel), List.mem_of_getElem? (i := 773) (by decide +kernel)⟩
def lw_privs_2 : List (MethodName × Nat) := [(⟨"NoticeShiftsModel", "isSentence", "(I)Z"⟩, 14), (⟨"NoticeShiftsModel", "chapters", "()I"⟩, 14), (⟨"NoticeShiftsModel", "whyNotBook", "(II)I"⟩, 14), (⟨"NoticeShiftsModel", "isNotice", "(I)Z"⟩, 14), (⟨"NoticeShiftsModel", "inBreak", "(I)I"⟩, 14), (⟨"NoticeShiftsModel", "bookIt", "(II)V"⟩, 14), (⟨"NoticeShiftsModel", "emptyIt", "(I)I"⟩, 14), (⟨"NoticeShiftsModel", "isListener", "(I)Z"⟩, 14), (⟨"NoticeShiftsModel", "hasFile", "(I)Z"⟩, 14), (⟨"NoticeShiftsModel", "layNow", "(I)V"⟩, 14), (⟨"NoticeShiftsModel", "boundOf", "(I)I"⟩, 14), (⟨"NoticeShiftsModel", "layWith", "(II)V"⟩, 14), (⟨"NoticeShiftsModel", "inRow", "(II)I"⟩, 14), (⟨"NoticeShiftsModel", "groupsOf", "(I)I"⟩, 14), (⟨"NoticeShiftsModel", "groupOf", "(I)I"⟩, 14), (⟨"NoticeShiftsModel", "lengthOf", "(I)I"⟩, 14)]
theorem lw_r2 : ∀ q ∈ lw_privs_2, lw_okq q := List.forall_mem_cons.mpr ⟨lw_p16, List.forall_mem_cons.mpr ⟨lw_p17, List.forall_mem_cons.mpr ⟨lw_p18, List.forall_mem_cons.mpr ⟨lw_p19, List.forall_mem_cons.mpr ⟨lw_p20, List.forall_mem_cons.mpr ⟨lw_p21, List.forall_mem_cons.mpr ⟨lw_p22, List.forall_mem_cons.mpr ⟨lw_p23, List.forall_mem_cons.mpr ⟨lw_p24, List.forall_mem_cons.mpr ⟨lw_p25, List.forall_mem_cons.mpr ⟨lw_p26, List.forall_mem_cons.mpr ⟨lw_p27, List.forall_mem_cons.mpr ⟨lw_p28, List.forall_mem_cons.mpr ⟨lw_p29, List.forall_mem_cons.mpr ⟨lw_p30, List.forall_mem_cons.mpr ⟨lw_p31, fun _ h => absurd h List.not_mem_nil⟩⟩⟩⟩⟩⟩⟩⟩⟩⟩⟩⟩⟩⟩⟩⟩
theorem lw_p32 : lw_okq (⟨"NoticeShiftsModel", "seconds", "(Z)I"⟩, 14) := ⟨⟨by decide +kernel, by decide +kernel⟩, List.mem_of_getElem? (i := 592) (by decide +kernel), List.mem_of_getElem? (i := 776) (by decide +kernel), List.mem_of_getElem? (i := 777) (by decide +kernel)⟩
theorem lw_p33 : lw_okq (⟨"NoticeShiftsModel", "timeOf", "(I)I"⟩, 14) := ⟨⟨by decide +kernel, by decide +kernel⟩, List.mem_of_getElem? (i := 592) (by decide +kernel), List.mem_of_getElem? (i := 784) (by decide +kernel), List.mem_of_getElem? (i := 785) (by decide +kernel)⟩
theorem lw_p34 : lw_okq (⟨"NoticeShiftsModel", "chapterOf", "(I)I"⟩, 14) := ⟨⟨by decide +kernel, by decide +kernel⟩, List.mem_of_getElem? (i := 592) (by decide +kernel), List.mem_of_getElem? (i := 788) (by decide +kernel), List.mem_of_getElem? (i := 789) (by decide +kernel)⟩
theorem lw_p35 : lw_okq (⟨"NoticeShiftsModel", "breaksWith", "(I)I"⟩, 14) := ⟨⟨by decide +kernel, by decide +kernel⟩, List.mem_of_getElem? (i := 592) (by decide +kernel), List.mem_of_getElem? (i := 804) (by decide +kernel), List.mem_of_getElem? (i := 805) (by decide +kernel)⟩
theorem lw_p36 : lw_okq (⟨"NoticeShiftsModel", "hearers", "(I)I"⟩, 14) := ⟨⟨by decide +kernel, by decide +kernel⟩, List.mem_of_getElem? (i := 592) (by decide +kernel), List.mem_of_getElem? (i := 808) (by decide +kernel), List.mem_of_getElem? (i := 809) (by decide +kernel)⟩
theorem lw_p37 : lw_okq (⟨"NoticeShiftsModel", "hasHeard", "(I)Z"⟩, 14) := ⟨⟨by decide +kernel, by decide +kernel⟩, List.mem_of_getElem? (i := 592) (by decide +kernel), List.mem_of_getElem? (i := 812) (by decide +kernel), List.mem_of_getElem? (i := 813) (by decide +kernel)⟩
theorem lw_p38 : lw_okq (⟨"NoticeShiftsModel", "isOld", "(I)Z"⟩, 14) := ⟨⟨by decide +kernel, by decide +kernel⟩, List.mem_of_getElem? (i := 592) (by decide +kernel), List.mem_of_getElem? (i := 820) (by decide +kernel), List.mem_of_getElem? (i := 821) (by decide +kernel)⟩
theorem lw_p39 : lw_okq (⟨"NoticeShiftsModel", "lay", "(I)V"⟩, 14) := ⟨⟨by decide +kernel, by decide +kernel⟩, List.mem_of_getElem? (i := 592) (by decide +kernel), List.mem_of_getElem? (i := 824) (by decide +kernel), List.mem_of_getElem? (i := 825) (by decide +kernel)⟩
theorem lw_p40 : lw_okq (⟨"NoticeShiftsModel", "notices", "()I"⟩, 14) := ⟨⟨by decide +kernel, by decide +kernel⟩, List.mem_of_getElem? (i := 592) (by decide +kernel), List.mem_of_getElem? (i := 828) (by decide +kernel), List.mem_of_getElem? (i := 829) (by decide +kernel)⟩
theorem lw_p41 : lw_okq (⟨"NoticeShiftsModel", "oldOnes", "()I"⟩, 14) := ⟨⟨by decide +kernel, by decide +kernel⟩, List.mem_of_getElem? (i := 592) (by decide +kernel), List.mem_of_getElem? (i := 836) (by decide +kernel), List.mem_of_getElem? (i := 837) (by decide +kernel)⟩
theorem lw_p42 : lw_okq (⟨"NoticeShiftsModel", "longest", "()I"⟩, 14) := ⟨⟨by decide +kernel, by decide +kernel⟩, List.mem_of_getElem? (i := 592) (by decide +kernel), List.mem_of_getElem? (i := 840) (by decide +kernel), List.mem_of_getElem? (i := 841) (by decide +kernel)⟩
theorem lw_p43 : lw_okq (⟨"NoticeShiftsModel", "find", "(I)Z"⟩, 14) := ⟨⟨by decide +kernel, by decide +kernel⟩, List.mem_of_getElem? (i := 592) (by decide +kernel), List.mem_of_getElem? (i := 856) (by decide +kernel), List.mem_of_getElem? (i := 857) (by decide +kernel)⟩
theorem lw_p44 : lw_okq (⟨"NoticeShiftsModel", "heardChapter", "(I)I"⟩, 14) := ⟨⟨by decide +kernel, by decide +kernel⟩, List.mem_of_getElem? (i := 592) (by decide +kernel), List.mem_of_getElem? (i := 860) (by decide +kernel), List.mem_of_getElem? (i := 861) (by decide +kernel)⟩
theorem lw_p45 : lw_okq (⟨"NoticeShiftsModel", "momentAt", "(II)I"⟩, 14) := ⟨⟨by decide +kernel, by decide +kernel⟩, List.mem_of_getElem? (i := 592) (by decide +kernel), List.mem_of_getElem? (i := 876) (by decide +kernel), List.mem_of_getElem? (i := 877) (by decide +kernel)⟩
theorem lw_p46 : lw_okq (⟨"NoticeShiftsModel", "allSeconds", "()I"⟩, 14) := ⟨⟨by decide +kernel, by decide +kernel⟩, List.mem_of_getElem? (i := 592) (by decide +kernel), List.mem_of_getElem? (i := 885) (by decide +kernel), List.mem_of_getElem? (i := 886) (by decide +kernel)⟩
theorem lw_p47 : lw_okq (⟨"NoticeShiftsModel", "unbookLast", "(I)V"⟩, 14) := ⟨⟨by decide +kernel, by decide +kernel⟩, List.mem_of_getElem? (i := 592) (by decide +kernel), List.mem_of_getElem? (i := 889) (by decide +kernel), List.mem_of_getElem? (i := 890) (by decide +kernel)⟩
def lw_privs_3 : List (MethodName × Nat) := [(⟨"NoticeShiftsModel", "seconds", "(Z)I"⟩, 14), (⟨"NoticeShiftsModel", "timeOf", "(I)I"⟩, 14), (⟨"NoticeShiftsModel", "chapterOf", "(I)I"⟩, 14), (⟨"NoticeShiftsModel", "breaksWith", "(I)I"⟩, 14), (⟨"NoticeShiftsModel", "hearers", "(I)I"⟩, 14), (⟨"NoticeShiftsModel", "hasHeard", "(I)Z"⟩, 14), (⟨"NoticeShiftsModel", "isOld", "(I)Z"⟩, 14), (⟨"NoticeShiftsModel", "lay", "(I)V"⟩, 14), (⟨"NoticeShiftsModel", "notices", "()I"⟩, 14), (⟨"NoticeShiftsModel", "oldOnes", "()I"⟩, 14), (⟨"NoticeShiftsModel", "longest", "()I"⟩, 14), (⟨"NoticeShiftsModel", "find", "(I)Z"⟩, 14), (⟨"NoticeShiftsModel", "heardChapter", "(I)I"⟩, 14), (⟨"NoticeShiftsModel", "momentAt", "(II)I"⟩, 14), (⟨"NoticeShiftsModel", "allSeconds", "()I"⟩, 14), (⟨"NoticeShiftsModel", "unbookLast", "(I)V"⟩, 14)]
theorem lw_r3 : ∀ q ∈ lw_privs_3, lw_okq q := List.forall_mem_cons.mpr ⟨lw_p32, List.forall_mem_cons.mpr ⟨lw_p33, List.forall_mem_cons.mpr ⟨lw_p34, List.forall_mem_cons.mpr ⟨lw_p35, List.forall_mem_cons.mpr ⟨lw_p36, List.forall_mem_cons.mpr ⟨lw_p37, List.forall_mem_cons.mpr ⟨lw_p38, List.forall_mem_cons.mpr ⟨lw_p39, List.forall_mem_cons.mpr ⟨lw_p40, List.forall_mem_cons.mpr ⟨lw_p41, List.forall_mem_cons.mpr ⟨lw_p42, List.forall_mem_cons.mpr ⟨lw_p43, List.forall_mem_cons.mpr ⟨lw_p44, List.forall_mem_cons.mpr ⟨lw_p45, List.forall_mem_cons.mpr ⟨lw_p46, List.forall_mem_cons.mpr ⟨lw_p47, fun _ h => absurd h List.not_mem_nil⟩⟩⟩⟩⟩⟩⟩⟩⟩⟩⟩⟩⟩⟩⟩⟩
theorem lw_p48 : lw_okq (⟨"NoticeShiftsModel", "readPad", "()I"⟩, 14) := ⟨⟨by decide +kernel, by decide +kernel⟩, List.mem_of_getElem? (i := 592) (by decide +kernel), List.mem_of_getElem? (i := 914) (by decide +kernel), List.mem_of_getElem? (i := 915) (by decide +kernel)⟩
theorem lw_p49 : lw_okq (⟨"NoticeShiftsModel", "stands", "(I)Z"⟩, 14) := ⟨⟨by decide +kernel, by decide +kernel⟩, List.mem_of_getElem? (i := 592) (by decide +kernel), List.mem_of_getElem? (i := 918) (by decide +kernel), List.mem_of_getElem? (i := 919) (by decide +kernel)⟩
theorem lw_p50 : lw_okq (⟨"NoticeShiftsModel", "areRows", "()Z"⟩, 14) := ⟨⟨by decide +kernel, by decide +kernel⟩, List.mem_of_getElem? (i := 592) (by decide +kernel), List.mem_of_getElem? (i := 926) (by decide +kernel), List.mem_of_getElem? (i := 927) (by decide +kernel)⟩
def lw_privs_4 : List (MethodName × Nat) := [(⟨"NoticeShiftsModel", "readPad", "()I"⟩, 14), (⟨"NoticeShiftsModel", "stands", "(I)Z"⟩, 14), (⟨"NoticeShiftsModel", "areRows", "()Z"⟩, 14)]
theorem lw_r4 : ∀ q ∈ lw_privs_4, lw_okq q := List.forall_mem_cons.mpr ⟨lw_p48, List.forall_mem_cons.mpr ⟨lw_p49, List.forall_mem_cons.mpr ⟨lw_p50, fun _ h => absurd h List.not_mem_nil⟩⟩⟩
def lw_privs : List (MethodName × Nat) := lw_privs_1 ++ (lw_privs_2 ++ (lw_privs_3 ++ (lw_privs_4)))
def lw_tbl : List Cond := k2_sels lw_privs ++ tables_1
theorem lw_privs_ok : ∀ q ∈ lw_privs, lw_okq q := by
  show ∀ q ∈ lw_privs_1 ++ (lw_privs_2 ++ (lw_privs_3 ++ (lw_privs_4))), lw_okq q
  exact List.forall_mem_append.mpr ⟨lw_r1, List.forall_mem_append.mpr ⟨lw_r2, List.forall_mem_append.mpr ⟨lw_r3, lw_r4⟩⟩⟩
-- ===== end of PART A
def RX0 : String := "NoticeShifts$Chooser"
def TX0 : u_T := fun k => match k with
  | 0 => ("NoticeShifts$Chooser", "group", "I", false)
  | 1 => ("NoticeShifts$Chooser", "bound", "I", false)
  | 2 => ("NoticeShifts$Chooser", "chosen", "I", false)
  | 3 => ("NoticeShifts$Chooser", "chosenSet", "I", false)
  | 4 => ("NoticeShifts$Chooser", "seconds", "I", false)
  | _ => ("NoticeShifts$Chooser", "nextBound", "I", false)
def tyX0 : Nat → FieldType := fun k => match k with
  | 0 => .int
  | 1 => .int
  | 2 => .int
  | 3 => .int
  | 4 => .int
  | _ => .int
abbrev wsX00 : List Cond := u_ws RX0 TX0 6
theorem nmX0 : ∀ a, a < 6 → ∀ b, b < 6 → a ≠ b → (TX0 a).2.1 ≠ (TX0 b).2.1 := by decide +kernel
theorem tyX0_ok : ∀ k, k < 6 → parseFieldDescriptor (TX0 k).2.2.1 = some (tyX0 k) := by decide +kernel
abbrev cX0_init : ByteArray := prog_2_method_1_code
def yX0_init : MethodName := ⟨RX0, "<init>", "()V"⟩
abbrev cX0_begin : ByteArray := prog_2_method_2_code
def yX0_begin : MethodName := ⟨RX0, "begin", "(II)V"⟩
abbrev cX0_choose : ByteArray := prog_2_method_3_code
def yX0_choose : MethodName := ⟨RX0, "choose", "(LNoticeShifts$State;I)I"⟩
abbrev cX0_isFor : ByteArray := prog_2_method_4_code
def yX0_isFor : MethodName := ⟨RX0, "isFor", "(LNoticeShifts$State;I)Z"⟩
def RX1 : String := "NoticeShifts$Hearing"
def TX1 : u_T := fun k => match k with
  | 0 => ("NoticeShifts$Hearing", "sentences", "LNoticeShifts$Sentences;", true)
  | 1 => ("NoticeShifts$Hearing", "notices", "[I", true)
  | _ => ("NoticeShifts$Hearing", "noticeLengths", "[I", true)
def tyX1 : Nat → FieldType := fun k => match k with
  | 0 => .object "NoticeShifts$Sentences"
  | 1 => .array .int
  | _ => .array .int
abbrev wsX10 : List Cond := u_ws RX1 TX1 3
theorem nmX1 : ∀ a, a < 3 → ∀ b, b < 3 → a ≠ b → (TX1 a).2.1 ≠ (TX1 b).2.1 := by decide +kernel
theorem tyX1_ok : ∀ k, k < 3 → parseFieldDescriptor (TX1 k).2.2.1 = some (tyX1 k) := by decide +kernel
abbrev cX1_init : ByteArray := prog_3_method_1_code
def yX1_init : MethodName := ⟨RX1, "<init>", "()V"⟩
abbrev cX1_breakTime : ByteArray := prog_3_method_2_code
def yX1_breakTime : MethodName := ⟨RX1, "breakTime", "(I)I"⟩
abbrev cX1_sentenceTime : ByteArray := prog_3_method_3_code
def yX1_sentenceTime : MethodName := ⟨RX1, "sentenceTime", "(I)I"⟩
abbrev cX1_total : ByteArray := prog_3_method_4_code
def yX1_total : MethodName := ⟨RX1, "total", "()I"⟩
abbrev cX1_noticeSeconds : ByteArray := prog_3_method_5_code
def yX1_noticeSeconds : MethodName := ⟨RX1, "noticeSeconds", "()I"⟩
abbrev cX1_countNotices : ByteArray := prog_3_method_6_code
def yX1_countNotices : MethodName := ⟨RX1, "countNotices", "()I"⟩
abbrev cX1_placeHeardAt : ByteArray := prog_3_method_7_code
def yX1_placeHeardAt : MethodName := ⟨RX1, "placeHeardAt", "(I)I"⟩
abbrev cX1_copyFrom : ByteArray := prog_3_method_8_code
def yX1_copyFrom : MethodName := ⟨RX1, "copyFrom", "(LNoticeShifts$Hearing;)V"⟩
abbrev cX1_isLike : ByteArray := prog_3_method_9_code
def yX1_isLike : MethodName := ⟨RX1, "isLike", "(LNoticeShifts$Hearing;)Z"⟩
def RX2 : String := "NoticeShifts$History"
def TX2 : u_T := fun k => match k with
  | 0 => ("NoticeShifts$History", "states", "[LNoticeShifts$State;", true)
  | 1 => ("NoticeShifts$History", "next", "I", false)
  | _ => ("NoticeShifts$History", "size", "I", false)
def tyX2 : Nat → FieldType := fun k => match k with
  | 0 => .array (.object "NoticeShifts$State")
  | 1 => .int
  | _ => .int
abbrev wsX20 : List Cond := u_ws RX2 TX2 3
theorem nmX2 : ∀ a, a < 3 → ∀ b, b < 3 → a ≠ b → (TX2 a).2.1 ≠ (TX2 b).2.1 := by decide +kernel
theorem tyX2_ok : ∀ k, k < 3 → parseFieldDescriptor (TX2 k).2.2.1 = some (tyX2 k) := by decide +kernel
abbrev cX2_init : ByteArray := prog_4_method_1_code
def yX2_init : MethodName := ⟨RX2, "<init>", "()V"⟩
abbrev cX2_keep : ByteArray := prog_4_method_2_code
def yX2_keep : MethodName := ⟨RX2, "keep", "(LNoticeShifts$State;)V"⟩
abbrev cX2_takeBack : ByteArray := prog_4_method_3_code
def yX2_takeBack : MethodName := ⟨RX2, "takeBack", "(LNoticeShifts$State;)V"⟩
def RX3 : String := "NoticeShifts$Pad"
def TX3 : u_T := fun k => match k with
  | 0 => ("NoticeShifts$Pad", "characters", "[C", true)
  | _ => ("NoticeShifts$Pad", "length", "I", false)
def tyX3 : Nat → FieldType := fun k => match k with
  | 0 => .array .char
  | _ => .int
abbrev wsX30 : List Cond := u_ws RX3 TX3 2
theorem nmX3 : ∀ a, a < 2 → ∀ b, b < 2 → a ≠ b → (TX3 a).2.1 ≠ (TX3 b).2.1 := by decide +kernel
theorem tyX3_ok : ∀ k, k < 2 → parseFieldDescriptor (TX3 k).2.2.1 = some (tyX3 k) := by decide +kernel
abbrev cX3_init : ByteArray := prog_5_method_1_code
def yX3_init : MethodName := ⟨RX3, "<init>", "()V"⟩
abbrev cX3_isNotice : ByteArray := prog_5_method_2_code
def yX3_isNotice : MethodName := ⟨RX3, "isNotice", "(C)Z"⟩
abbrev cX3_countCharacters : ByteArray := prog_5_method_3_code
def yX3_countCharacters : MethodName := ⟨RX3, "countCharacters", "(J)I"⟩
abbrev cX3_characterAt : ByteArray := prog_5_method_4_code
def yX3_characterAt : MethodName := ⟨RX3, "characterAt", "(JI)C"⟩
abbrev cX3_append : ByteArray := prog_5_method_5_code
def yX3_append : MethodName := ⟨RX3, "append", "(JI)V"⟩
abbrev cX3_findFault : ByteArray := prog_5_method_6_code
def yX3_findFault : MethodName := ⟨RX3, "findFault", "()I"⟩
abbrev cX3_countRows : ByteArray := prog_5_method_7_code
def yX3_countRows : MethodName := ⟨RX3, "countRows", "()I"⟩
abbrev cX3_highestNotice : ByteArray := prog_5_method_8_code
def yX3_highestNotice : MethodName := ⟨RX3, "highestNotice", "()I"⟩
def RX4 : String := "NoticeShifts$Sentences"
def TX4 : u_T := fun k => match k with
  | 0 => ("NoticeShifts$Sentences", "marks", "[I", true)
  | 1 => ("NoticeShifts$Sentences", "lengths", "[I", true)
  | 2 => ("NoticeShifts$Sentences", "begins", "[I", true)
  | _ => ("NoticeShifts$Sentences", "size", "I", false)
def tyX4 : Nat → FieldType := fun k => match k with
  | 0 => .array .int
  | 1 => .array .int
  | 2 => .array .int
  | _ => .int
abbrev wsX40 : List Cond := u_ws RX4 TX4 4
theorem nmX4 : ∀ a, a < 4 → ∀ b, b < 4 → a ≠ b → (TX4 a).2.1 ≠ (TX4 b).2.1 := by decide +kernel
theorem tyX4_ok : ∀ k, k < 4 → parseFieldDescriptor (TX4 k).2.2.1 = some (tyX4 k) := by decide +kernel
abbrev cX4_init : ByteArray := prog_6_method_1_code
def yX4_init : MethodName := ⟨RX4, "<init>", "()V"⟩
abbrev cX4_timeOf : ByteArray := prog_6_method_2_code
def yX4_timeOf : MethodName := ⟨RX4, "timeOf", "(I)I"⟩
abbrev cX4_total : ByteArray := prog_6_method_3_code
def yX4_total : MethodName := ⟨RX4, "total", "()I"⟩
abbrev cX4_placeAtTime : ByteArray := prog_6_method_4_code
def yX4_placeAtTime : MethodName := ⟨RX4, "placeAtTime", "(I)I"⟩
abbrev cX4_placeOf : ByteArray := prog_6_method_5_code
def yX4_placeOf : MethodName := ⟨RX4, "placeOf", "(I)I"⟩
abbrev cX4_chapterOf : ByteArray := prog_6_method_6_code
def yX4_chapterOf : MethodName := ⟨RX4, "chapterOf", "(I)I"⟩
abbrev cX4_chapters : ByteArray := prog_6_method_7_code
def yX4_chapters : MethodName := ⟨RX4, "chapters", "()I"⟩
abbrev cX4_firstOfChapter : ByteArray := prog_6_method_8_code
def yX4_firstOfChapter : MethodName := ⟨RX4, "firstOfChapter", "(I)I"⟩
abbrev cX4_copyFrom : ByteArray := prog_6_method_9_code
def yX4_copyFrom : MethodName := ⟨RX4, "copyFrom", "(LNoticeShifts$Sentences;)V"⟩
abbrev cX4_isLike : ByteArray := prog_6_method_10_code
def yX4_isLike : MethodName := ⟨RX4, "isLike", "(LNoticeShifts$Sentences;)Z"⟩
def RX5 : String := "NoticeShifts$State"
def TX5 : u_T := fun k => match k with
  | 0 => ("NoticeShifts$State", "sentences", "LNoticeShifts$Sentences;", true)
  | 1 => ("NoticeShifts$State", "rowSizes", "[I", true)
  | 2 => ("NoticeShifts$State", "rows", "[I", true)
  | 3 => ("NoticeShifts$State", "noticeLengths", "[I", true)
  | 4 => ("NoticeShifts$State", "noticeGroups", "[I", true)
  | 5 => ("NoticeShifts$State", "groups", "[I", true)
  | 6 => ("NoticeShifts$State", "bounds", "[I", true)
  | 7 => ("NoticeShifts$State", "hasFile", "[Z", true)
  | 8 => ("NoticeShifts$State", "files", "[LNoticeShifts$Hearing;", true)
  | 9 => ("NoticeShifts$State", "nextMark", "I", false)
  | 10 => ("NoticeShifts$State", "notices", "I", false)
  | _ => ("NoticeShifts$State", "listeners", "I", false)
def tyX5 : Nat → FieldType := fun k => match k with
  | 0 => .object "NoticeShifts$Sentences"
  | 1 => .array .int
  | 2 => .array .int
  | 3 => .array .int
  | 4 => .array .int
  | 5 => .array .int
  | 6 => .array .int
  | 7 => .array .boolean
  | 8 => .array (.object "NoticeShifts$Hearing")
  | 9 => .int
  | 10 => .int
  | _ => .int
abbrev wsX50 : List Cond := u_ws RX5 TX5 12
theorem nmX5 : ∀ a, a < 12 → ∀ b, b < 12 → a ≠ b → (TX5 a).2.1 ≠ (TX5 b).2.1 := by decide +kernel
theorem tyX5_ok : ∀ k, k < 12 → parseFieldDescriptor (TX5 k).2.2.1 = some (tyX5 k) := by decide +kernel
abbrev cX5_init : ByteArray := prog_7_method_1_code
def yX5_init : MethodName := ⟨RX5, "<init>", "()V"⟩
abbrev cX5_hasSentence : ByteArray := prog_7_method_2_code
def yX5_hasSentence : MethodName := ⟨RX5, "hasSentence", "(I)Z"⟩
abbrev cX5_hasNotice : ByteArray := prog_7_method_3_code
def yX5_hasNotice : MethodName := ⟨RX5, "hasNotice", "(I)Z"⟩
abbrev cX5_hasListener : ByteArray := prog_7_method_4_code
def yX5_hasListener : MethodName := ⟨RX5, "hasListener", "(I)Z"⟩
abbrev cX5_isRowFull : ByteArray := prog_7_method_5_code
def yX5_isRowFull : MethodName := ⟨RX5, "isRowFull", "(I)Z"⟩
abbrev cX5_inRow : ByteArray := prog_7_method_6_code
def yX5_inRow : MethodName := ⟨RX5, "inRow", "(II)I"⟩
abbrev cX5_appendToRow : ByteArray := prog_7_method_7_code
def yX5_appendToRow : MethodName := ⟨RX5, "appendToRow", "(II)V"⟩
abbrev cX5_dropFromRow : ByteArray := prog_7_method_8_code
def yX5_dropFromRow : MethodName := ⟨RX5, "dropFromRow", "(I)V"⟩
abbrev cX5_isInRow : ByteArray := prog_7_method_9_code
def yX5_isInRow : MethodName := ⟨RX5, "isInRow", "(II)Z"⟩
abbrev cX5_countBreaksWith : ByteArray := prog_7_method_10_code
def yX5_countBreaksWith : MethodName := ⟨RX5, "countBreaksWith", "(I)I"⟩
abbrev cX5_insertSentence : ByteArray := prog_7_method_11_code
def yX5_insertSentence : MethodName := ⟨RX5, "insertSentence", "(II)V"⟩
abbrev cX5_removeSentence : ByteArray := prog_7_method_12_code
def yX5_removeSentence : MethodName := ⟨RX5, "removeSentence", "(I)V"⟩
abbrev cX5_moveSentence : ByteArray := prog_7_method_13_code
def yX5_moveSentence : MethodName := ⟨RX5, "moveSentence", "(II)V"⟩
abbrev cX5_copyFrom : ByteArray := prog_7_method_14_code
def yX5_copyFrom : MethodName := ⟨RX5, "copyFrom", "(LNoticeShifts$State;)V"⟩
def RX6 : String := "NoticeShifts"
def TX6 : u_T := fun k => match k with
  | 0 => ("NoticeShifts", "now", "LNoticeShifts$State;", true)
  | 1 => ("NoticeShifts", "history", "LNoticeShifts$History;", true)
  | 2 => ("NoticeShifts", "slots", "[LNoticeShifts$State;", true)
  | 3 => ("NoticeShifts", "isSaved", "[Z", true)
  | 4 => ("NoticeShifts", "pad", "LNoticeShifts$Pad;", true)
  | 5 => ("NoticeShifts", "chooser", "LNoticeShifts$Chooser;", true)
  | _ => ("NoticeShifts", "hearingNow", "LNoticeShifts$Hearing;", true)
def tyX6 : Nat → FieldType := fun k => match k with
  | 0 => .object "NoticeShifts$State"
  | 1 => .object "NoticeShifts$History"
  | 2 => .array (.object "NoticeShifts$State")
  | 3 => .array .boolean
  | 4 => .object "NoticeShifts$Pad"
  | 5 => .object "NoticeShifts$Chooser"
  | _ => .object "NoticeShifts$Hearing"
abbrev wsX60 : List Cond := u_ws RX6 TX6 7
theorem nmX6 : ∀ a, a < 7 → ∀ b, b < 7 → a ≠ b → (TX6 a).2.1 ≠ (TX6 b).2.1 := by decide +kernel
theorem tyX6_ok : ∀ k, k < 7 → parseFieldDescriptor (TX6 k).2.2.1 = some (tyX6 k) := by decide +kernel
abbrev cX6_init : ByteArray := prog_1_method_1_code
def yX6_init : MethodName := ⟨RX6, "<init>", "()V"⟩
abbrev cX6_putIn : ByteArray := prog_1_method_2_code
def yX6_putIn : MethodName := ⟨RX6, "putIn", "(II)I"⟩
abbrev cX6_cutOut : ByteArray := prog_1_method_3_code
def yX6_cutOut : MethodName := ⟨RX6, "cutOut", "(I)I"⟩
abbrev cX6_change : ByteArray := prog_1_method_4_code
def yX6_change : MethodName := ⟨RX6, "change", "(II)I"⟩
abbrev cX6_chapter : ByteArray := prog_1_method_5_code
def yX6_chapter : MethodName := ⟨RX6, "chapter", "(IZ)I"⟩
abbrev cX6_notice : ByteArray := prog_1_method_6_code
def yX6_notice : MethodName := ⟨RX6, "notice", "(II)I"⟩
abbrev cX6_book : ByteArray := prog_1_method_7_code
def yX6_book : MethodName := ⟨RX6, "book", "(II)I"⟩
abbrev cX6_empty : ByteArray := prog_1_method_8_code
def yX6_empty : MethodName := ⟨RX6, "empty", "(I)I"⟩
abbrev cX6_read : ByteArray := prog_1_method_9_code
def yX6_read : MethodName := ⟨RX6, "read", "()I"⟩
abbrev cX6_listener : ByteArray := prog_1_method_10_code
def yX6_listener : MethodName := ⟨RX6, "listener", "(II)I"⟩
abbrev cX6_load : ByteArray := prog_1_method_11_code
def yX6_load : MethodName := ⟨RX6, "load", "(IZ)I"⟩
abbrev cX6_sentence : ByteArray := prog_1_method_12_code
def yX6_sentence : MethodName := ⟨RX6, "sentence", "(II)I"⟩
abbrev cX6_marked : ByteArray := prog_1_method_13_code
def yX6_marked : MethodName := ⟨RX6, "marked", "(I)I"⟩
abbrev cX6_booked : ByteArray := prog_1_method_14_code
def yX6_booked : MethodName := ⟨RX6, "booked", "(II)I"⟩
abbrev cX6_ofNotice : ByteArray := prog_1_method_15_code
def yX6_ofNotice : MethodName := ⟨RX6, "ofNotice", "(II)I"⟩
abbrev cX6_of : ByteArray := prog_1_method_16_code
def yX6_of : MethodName := ⟨RX6, "of", "(II)I"⟩
abbrev cX6_count : ByteArray := prog_1_method_17_code
def yX6_count : MethodName := ⟨RX6, "count", "(I)I"⟩
abbrev cX6_heard : ByteArray := prog_1_method_18_code
def yX6_heard : MethodName := ⟨RX6, "heard", "(II)I"⟩
abbrev cX6_whenHeard : ByteArray := prog_1_method_19_code
def yX6_whenHeard : MethodName := ⟨RX6, "whenHeard", "(II)I"⟩
abbrev cX6_heardAt : ByteArray := prog_1_method_20_code
def yX6_heardAt : MethodName := ⟨RX6, "heardAt", "(III)I"⟩
abbrev cX6_chapterAt : ByteArray := prog_1_method_21_code
def yX6_chapterAt : MethodName := ⟨RX6, "chapterAt", "(II)I"⟩
abbrev cX6_open : ByteArray := prog_1_method_22_code
def yX6_open : MethodName := ⟨RX6, "open", "(III)I"⟩
abbrev cX6_wrongAt : ByteArray := prog_1_method_23_code
def yX6_wrongAt : MethodName := ⟨RX6, "wrongAt", "(III)I"⟩
abbrev cX6_ifBooked : ByteArray := prog_1_method_24_code
def yX6_ifBooked : MethodName := ⟨RX6, "ifBooked", "(II)I"⟩
abbrev cX6_bestBreak : ByteArray := prog_1_method_25_code
def yX6_bestBreak : MethodName := ⟨RX6, "bestBreak", "(II)I"⟩
abbrev cX6_enough : ByteArray := prog_1_method_26_code
def yX6_enough : MethodName := ⟨RX6, "enough", "(I)I"⟩
abbrev cX6_put : ByteArray := prog_1_method_27_code
def yX6_put : MethodName := ⟨RX6, "put", "(J)I"⟩
abbrev cX6_wipe : ByteArray := prog_1_method_28_code
def yX6_wipe : MethodName := ⟨RX6, "wipe", "()I"⟩
abbrev cX6_fault : ByteArray := prog_1_method_29_code
def yX6_fault : MethodName := ⟨RX6, "fault", "()I"⟩
abbrev cX6_undo : ByteArray := prog_1_method_30_code
def yX6_undo : MethodName := ⟨RX6, "undo", "()I"⟩
abbrev cX6_save : ByteArray := prog_1_method_31_code
def yX6_save : MethodName := ⟨RX6, "save", "(I)I"⟩
abbrev cX6_restore : ByteArray := prog_1_method_32_code
def yX6_restore : MethodName := ⟨RX6, "restore", "(I)I"⟩
abbrev cX6_isWithin : ByteArray := prog_1_method_33_code
def yX6_isWithin : MethodName := ⟨RX6, "isWithin", "(III)Z"⟩
abbrev cX6_asNumber : ByteArray := prog_1_method_34_code
def yX6_asNumber : MethodName := ⟨RX6, "asNumber", "(Z)I"⟩
abbrev cX6_takeRows : ByteArray := prog_1_method_35_code
def yX6_takeRows : MethodName := ⟨RX6, "takeRows", "()V"⟩
abbrev cX6_hearingOf : ByteArray := prog_1_method_36_code
def yX6_hearingOf : MethodName := ⟨RX6, "hearingOf", "(I)LNoticeShifts$Hearing;"⟩
abbrev cX6_hearNow : ByteArray := prog_1_method_37_code
def yX6_hearNow : MethodName := ⟨RX6, "hearNow", "(ILNoticeShifts$Hearing;)V"⟩
abbrev cX6_isOutOfDate : ByteArray := prog_1_method_38_code
def yX6_isOutOfDate : MethodName := ⟨RX6, "isOutOfDate", "(I)Z"⟩
abbrev cX6_outOfDateListeners : ByteArray := prog_1_method_39_code
def yX6_outOfDateListeners : MethodName := ⟨RX6, "outOfDateListeners", "()I"⟩
abbrev cX6_longestListener : ByteArray := prog_1_method_40_code
def yX6_longestListener : MethodName := ⟨RX6, "longestListener", "()I"⟩
abbrev cX6_momentNow : ByteArray := prog_1_method_41_code
def yX6_momentNow : MethodName := ⟨RX6, "momentNow", "(II)I"⟩
abbrev cX6_chooseAll : ByteArray := prog_1_method_42_code
def yX6_chooseAll : MethodName := ⟨RX6, "chooseAll", "(II)V"⟩
abbrev cX6_secondsOfAll : ByteArray := prog_1_method_43_code
def yX6_secondsOfAll : MethodName := ⟨RX6, "secondsOfAll", "()I"⟩
abbrev cX6_countHearers : ByteArray := prog_1_method_44_code
def yX6_countHearers : MethodName := ⟨RX6, "countHearers", "(I)I"⟩
abbrev cX6_hearersIfBooked : ByteArray := prog_1_method_45_code
def yX6_hearersIfBooked : MethodName := ⟨RX6, "hearersIfBooked", "(II)I"⟩
def RX7 : String := "NoticeShiftsModel"
def TX7 : u_T := fun k => match k with
  | 0 => ("NoticeShiftsModel", "z", "[I", true)
  | 1 => ("NoticeShiftsModel", "past", "[I", true)
  | 2 => ("NoticeShiftsModel", "slots", "[I", true)
  | 3 => ("NoticeShiftsModel", "isSaved", "[Z", true)
  | 4 => ("NoticeShiftsModel", "pastMany", "I", false)
  | 5 => ("NoticeShiftsModel", "pad", "[C", true)
  | 6 => ("NoticeShiftsModel", "typed", "I", false)
  | 7 => ("NoticeShiftsModel", "h", "[I", true)
  | 8 => ("NoticeShiftsModel", "sentenceNow", "I", false)
  | 9 => ("NoticeShiftsModel", "secondsNow", "I", false)
  | 10 => ("NoticeShiftsModel", "timeNow", "I", false)
  | 11 => ("NoticeShiftsModel", "rows", "[I", true)
  | 12 => ("NoticeShiftsModel", "rowMany", "I", false)
  | _ => ("NoticeShiftsModel", "isOver", "Z", false)
def tyX7 : Nat → FieldType := fun k => match k with
  | 0 => .array .int
  | 1 => .array .int
  | 2 => .array .int
  | 3 => .array .boolean
  | 4 => .int
  | 5 => .array .char
  | 6 => .int
  | 7 => .array .int
  | 8 => .int
  | 9 => .int
  | 10 => .int
  | 11 => .array .int
  | 12 => .int
  | _ => .boolean
abbrev wsX70 : List Cond := u_ws RX7 TX7 14
theorem nmX7 : ∀ a, a < 14 → ∀ b, b < 14 → a ≠ b → (TX7 a).2.1 ≠ (TX7 b).2.1 := by decide +kernel
theorem tyX7_ok : ∀ k, k < 14 → parseFieldDescriptor (TX7 k).2.2.1 = some (tyX7 k) := by decide +kernel
abbrev cX7_init : ByteArray := prog_9_method_1_code
def yX7_init : MethodName := ⟨RX7, "<init>", "()V"⟩
abbrev cX7_in : ByteArray := prog_9_method_2_code
def yX7_in : MethodName := ⟨RX7, "in", "(III)Z"⟩
abbrev cX7_isSentence : ByteArray := prog_9_method_3_code
def yX7_isSentence : MethodName := ⟨RX7, "isSentence", "(I)Z"⟩
abbrev cX7_isNotice : ByteArray := prog_9_method_4_code
def yX7_isNotice : MethodName := ⟨RX7, "isNotice", "(I)Z"⟩
abbrev cX7_isListener : ByteArray := prog_9_method_5_code
def yX7_isListener : MethodName := ⟨RX7, "isListener", "(I)Z"⟩
abbrev cX7_its : ByteArray := prog_9_method_6_code
def yX7_its : MethodName := ⟨RX7, "its", "(II)I"⟩
abbrev cX7_inBreak : ByteArray := prog_9_method_7_code
def yX7_inBreak : MethodName := ⟨RX7, "inBreak", "(I)I"⟩
abbrev cX7_inRow : ByteArray := prog_9_method_8_code
def yX7_inRow : MethodName := ⟨RX7, "inRow", "(II)I"⟩
abbrev cX7_lengthOf : ByteArray := prog_9_method_9_code
def yX7_lengthOf : MethodName := ⟨RX7, "lengthOf", "(I)I"⟩
abbrev cX7_groupsOf : ByteArray := prog_9_method_10_code
def yX7_groupsOf : MethodName := ⟨RX7, "groupsOf", "(I)I"⟩
abbrev cX7_groupOf : ByteArray := prog_9_method_11_code
def yX7_groupOf : MethodName := ⟨RX7, "groupOf", "(I)I"⟩
abbrev cX7_boundOf : ByteArray := prog_9_method_12_code
def yX7_boundOf : MethodName := ⟨RX7, "boundOf", "(I)I"⟩
abbrev cX7_hasFile : ByteArray := prog_9_method_13_code
def yX7_hasFile : MethodName := ⟨RX7, "hasFile", "(I)Z"⟩
abbrev cX7_record : ByteArray := prog_9_method_14_code
def yX7_record : MethodName := ⟨RX7, "record", "()V"⟩
abbrev cX7_undo : ByteArray := prog_9_method_15_code
def yX7_undo : MethodName := ⟨RX7, "undo", "()I"⟩
abbrev cX7_save : ByteArray := prog_9_method_16_code
def yX7_save : MethodName := ⟨RX7, "save", "(I)I"⟩
abbrev cX7_restore : ByteArray := prog_9_method_17_code
def yX7_restore : MethodName := ⟨RX7, "restore", "(I)I"⟩
abbrev cX7_layWith : ByteArray := prog_9_method_18_code
def yX7_layWith : MethodName := ⟨RX7, "layWith", "(II)V"⟩
abbrev cX7_layNow : ByteArray := prog_9_method_19_code
def yX7_layNow : MethodName := ⟨RX7, "layNow", "(I)V"⟩
abbrev cX7_lay : ByteArray := prog_9_method_20_code
def yX7_lay : MethodName := ⟨RX7, "lay", "(I)V"⟩
abbrev cX7_isOld : ByteArray := prog_9_method_21_code
def yX7_isOld : MethodName := ⟨RX7, "isOld", "(I)Z"⟩
abbrev cX7_seconds : ByteArray := prog_9_method_22_code
def yX7_seconds : MethodName := ⟨RX7, "seconds", "(Z)I"⟩
abbrev cX7_notices : ByteArray := prog_9_method_23_code
def yX7_notices : MethodName := ⟨RX7, "notices", "()I"⟩
abbrev cX7_hasHeard : ByteArray := prog_9_method_24_code
def yX7_hasHeard : MethodName := ⟨RX7, "hasHeard", "(I)Z"⟩
abbrev cX7_exchange : ByteArray := prog_9_method_25_code
def yX7_exchange : MethodName := ⟨RX7, "exchange", "(II)V"⟩
abbrev cX7_exchangeSentences : ByteArray := prog_9_method_26_code
def yX7_exchangeSentences : MethodName := ⟨RX7, "exchangeSentences", "(I)V"⟩
abbrev cX7_clearSentence : ByteArray := prog_9_method_27_code
def yX7_clearSentence : MethodName := ⟨RX7, "clearSentence", "(I)V"⟩
abbrev cX7_putIn : ByteArray := prog_9_method_28_code
def yX7_putIn : MethodName := ⟨RX7, "putIn", "(II)I"⟩
abbrev cX7_cutOut : ByteArray := prog_9_method_29_code
def yX7_cutOut : MethodName := ⟨RX7, "cutOut", "(I)I"⟩
abbrev cX7_change : ByteArray := prog_9_method_30_code
def yX7_change : MethodName := ⟨RX7, "change", "(II)I"⟩
abbrev cX7_chapters : ByteArray := prog_9_method_31_code
def yX7_chapters : MethodName := ⟨RX7, "chapters", "()I"⟩
abbrev cX7_chapter : ByteArray := prog_9_method_32_code
def yX7_chapter : MethodName := ⟨RX7, "chapter", "(IZ)I"⟩
abbrev cX7_notice : ByteArray := prog_9_method_33_code
def yX7_notice : MethodName := ⟨RX7, "notice", "(II)I"⟩
abbrev cX7_bookIt : ByteArray := prog_9_method_34_code
def yX7_bookIt : MethodName := ⟨RX7, "bookIt", "(II)V"⟩
abbrev cX7_unbookLast : ByteArray := prog_9_method_35_code
def yX7_unbookLast : MethodName := ⟨RX7, "unbookLast", "(I)V"⟩
abbrev cX7_whyNotBook : ByteArray := prog_9_method_36_code
def yX7_whyNotBook : MethodName := ⟨RX7, "whyNotBook", "(II)I"⟩
abbrev cX7_book : ByteArray := prog_9_method_37_code
def yX7_book : MethodName := ⟨RX7, "book", "(II)I"⟩
abbrev cX7_emptyIt : ByteArray := prog_9_method_38_code
def yX7_emptyIt : MethodName := ⟨RX7, "emptyIt", "(I)I"⟩
abbrev cX7_empty : ByteArray := prog_9_method_39_code
def yX7_empty : MethodName := ⟨RX7, "empty", "(I)I"⟩
abbrev cX7_listener : ByteArray := prog_9_method_40_code
def yX7_listener : MethodName := ⟨RX7, "listener", "(II)I"⟩
abbrev cX7_load : ByteArray := prog_9_method_41_code
def yX7_load : MethodName := ⟨RX7, "load", "(IZ)I"⟩
abbrev cX7_timeOf : ByteArray := prog_9_method_42_code
def yX7_timeOf : MethodName := ⟨RX7, "timeOf", "(I)I"⟩
abbrev cX7_chapterOf : ByteArray := prog_9_method_43_code
def yX7_chapterOf : MethodName := ⟨RX7, "chapterOf", "(I)I"⟩
abbrev cX7_sentence : ByteArray := prog_9_method_44_code
def yX7_sentence : MethodName := ⟨RX7, "sentence", "(II)I"⟩
abbrev cX7_marked : ByteArray := prog_9_method_45_code
def yX7_marked : MethodName := ⟨RX7, "marked", "(I)I"⟩
abbrev cX7_booked : ByteArray := prog_9_method_46_code
def yX7_booked : MethodName := ⟨RX7, "booked", "(II)I"⟩
abbrev cX7_breaksWith : ByteArray := prog_9_method_47_code
def yX7_breaksWith : MethodName := ⟨RX7, "breaksWith", "(I)I"⟩
abbrev cX7_hearers : ByteArray := prog_9_method_48_code
def yX7_hearers : MethodName := ⟨RX7, "hearers", "(I)I"⟩
abbrev cX7_ofNotice : ByteArray := prog_9_method_49_code
def yX7_ofNotice : MethodName := ⟨RX7, "ofNotice", "(II)I"⟩
abbrev cX7_of : ByteArray := prog_9_method_50_code
def yX7_of : MethodName := ⟨RX7, "of", "(II)I"⟩
abbrev cX7_oldOnes : ByteArray := prog_9_method_51_code
def yX7_oldOnes : MethodName := ⟨RX7, "oldOnes", "()I"⟩
abbrev cX7_longest : ByteArray := prog_9_method_52_code
def yX7_longest : MethodName := ⟨RX7, "longest", "()I"⟩
abbrev cX7_count : ByteArray := prog_9_method_53_code
def yX7_count : MethodName := ⟨RX7, "count", "(I)I"⟩
abbrev cX7_heard : ByteArray := prog_9_method_54_code
def yX7_heard : MethodName := ⟨RX7, "heard", "(II)I"⟩
abbrev cX7_whenHeard : ByteArray := prog_9_method_55_code
def yX7_whenHeard : MethodName := ⟨RX7, "whenHeard", "(II)I"⟩
abbrev cX7_find : ByteArray := prog_9_method_56_code
def yX7_find : MethodName := ⟨RX7, "find", "(I)Z"⟩
abbrev cX7_heardChapter : ByteArray := prog_9_method_57_code
def yX7_heardChapter : MethodName := ⟨RX7, "heardChapter", "(I)I"⟩
abbrev cX7_heardAt : ByteArray := prog_9_method_58_code
def yX7_heardAt : MethodName := ⟨RX7, "heardAt", "(III)I"⟩
abbrev cX7_chapterAt : ByteArray := prog_9_method_59_code
def yX7_chapterAt : MethodName := ⟨RX7, "chapterAt", "(II)I"⟩
abbrev cX7_open : ByteArray := prog_9_method_60_code
def yX7_open : MethodName := ⟨RX7, "open", "(III)I"⟩
abbrev cX7_momentAt : ByteArray := prog_9_method_61_code
def yX7_momentAt : MethodName := ⟨RX7, "momentAt", "(II)I"⟩
abbrev cX7_wrongAt : ByteArray := prog_9_method_62_code
def yX7_wrongAt : MethodName := ⟨RX7, "wrongAt", "(III)I"⟩
abbrev cX7_allSeconds : ByteArray := prog_9_method_63_code
def yX7_allSeconds : MethodName := ⟨RX7, "allSeconds", "()I"⟩
abbrev cX7_ifBooked : ByteArray := prog_9_method_64_code
def yX7_ifBooked : MethodName := ⟨RX7, "ifBooked", "(II)I"⟩
abbrev cX7_bestBreak : ByteArray := prog_9_method_65_code
def yX7_bestBreak : MethodName := ⟨RX7, "bestBreak", "(II)I"⟩
abbrev cX7_enough : ByteArray := prog_9_method_66_code
def yX7_enough : MethodName := ⟨RX7, "enough", "(I)I"⟩
abbrev cX7_put : ByteArray := prog_9_method_67_code
def yX7_put : MethodName := ⟨RX7, "put", "(J)I"⟩
abbrev cX7_wipe : ByteArray := prog_9_method_68_code
def yX7_wipe : MethodName := ⟨RX7, "wipe", "()I"⟩
abbrev cX7_stands : ByteArray := prog_9_method_69_code
def yX7_stands : MethodName := ⟨RX7, "stands", "(I)Z"⟩
abbrev cX7_readPad : ByteArray := prog_9_method_70_code
def yX7_readPad : MethodName := ⟨RX7, "readPad", "()I"⟩
abbrev cX7_fault : ByteArray := prog_9_method_71_code
def yX7_fault : MethodName := ⟨RX7, "fault", "()I"⟩
abbrev cX7_areRows : ByteArray := prog_9_method_72_code
def yX7_areRows : MethodName := ⟨RX7, "areRows", "()Z"⟩
abbrev cX7_read : ByteArray := prog_9_method_73_code
def yX7_read : MethodName := ⟨RX7, "read", "()I"⟩
def RL : String := "NoticeShiftsLaw"
abbrev cL_law : ByteArray := code
def yL_law : MethodName := ⟨RL, "law", "([I)Z"⟩
abbrev vwCl : List vw_C := [(RX0, TX0, 6), (RX1, TX1, 3), (RX2, TX2, 3), (RX3, TX3, 2), (RX4, TX4, 4), (RX5, TX5, 12), (RX6, TX6, 7), (RX7, TX7, 14)]
/-- the methods: name, bytes, locals, return type, arguments (with this), kind of answer (0 void, 1 int, 2 reference), class -/
abbrev Mrow : Type := MethodName × ByteArray × Nat × Option FieldType × Nat × Nat × Nat
def mt : List Mrow := [
(yX0_init, cX0_init, 1, none, 1, 0, 0),
(yX0_begin, cX0_begin, 3, none, 3, 0, 0),
(yX0_choose, cX0_choose, 6, (some FieldType.int), 3, 1, 0),
(yX0_isFor, cX0_isFor, 5, (some FieldType.boolean), 3, 1, 0),
(yX1_init, cX1_init, 1, none, 1, 0, 1),
(yX1_breakTime, cX1_breakTime, 4, (some FieldType.int), 2, 1, 1),
(yX1_sentenceTime, cX1_sentenceTime, 2, (some FieldType.int), 2, 1, 1),
(yX1_total, cX1_total, 1, (some FieldType.int), 1, 1, 1),
(yX1_noticeSeconds, cX1_noticeSeconds, 1, (some FieldType.int), 1, 1, 1),
(yX1_countNotices, cX1_countNotices, 3, (some FieldType.int), 1, 1, 1),
(yX1_placeHeardAt, cX1_placeHeardAt, 4, (some FieldType.int), 2, 1, 1),
(yX1_copyFrom, cX1_copyFrom, 2, none, 2, 0, 1),
(yX1_isLike, cX1_isLike, 3, (some FieldType.boolean), 2, 1, 1),
(yX2_init, cX2_init, 2, none, 1, 0, 2),
(yX2_keep, cX2_keep, 2, none, 2, 0, 2),
(yX2_takeBack, cX2_takeBack, 2, none, 2, 0, 2),
(yX3_init, cX3_init, 1, none, 1, 0, 3),
(yX3_isNotice, cX3_isNotice, 1, (some FieldType.boolean), 1, 1, 3),
(yX3_countCharacters, cX3_countCharacters, 4, (some FieldType.int), 1, 1, 3),
(yX3_characterAt, cX3_characterAt, 3, (some FieldType.char), 2, 1, 3),
(yX3_append, cX3_append, 5, none, 3, 0, 3),
(yX3_findFault, cX3_findFault, 6, (some FieldType.int), 1, 1, 3),
(yX3_countRows, cX3_countRows, 3, (some FieldType.int), 1, 1, 3),
(yX3_highestNotice, cX3_highestNotice, 3, (some FieldType.int), 1, 1, 3),
(yX4_init, cX4_init, 1, none, 1, 0, 4),
(yX4_timeOf, cX4_timeOf, 4, (some FieldType.int), 2, 1, 4),
(yX4_total, cX4_total, 1, (some FieldType.int), 1, 1, 4),
(yX4_placeAtTime, cX4_placeAtTime, 4, (some FieldType.int), 2, 1, 4),
(yX4_placeOf, cX4_placeOf, 3, (some FieldType.int), 2, 1, 4),
(yX4_chapterOf, cX4_chapterOf, 4, (some FieldType.int), 2, 1, 4),
(yX4_chapters, cX4_chapters, 1, (some FieldType.int), 1, 1, 4),
(yX4_firstOfChapter, cX4_firstOfChapter, 4, (some FieldType.int), 2, 1, 4),
(yX4_copyFrom, cX4_copyFrom, 2, none, 2, 0, 4),
(yX4_isLike, cX4_isLike, 3, (some FieldType.boolean), 2, 1, 4),
(yX5_init, cX5_init, 2, none, 1, 0, 5),
(yX5_hasSentence, cX5_hasSentence, 2, (some FieldType.boolean), 2, 1, 5),
(yX5_hasNotice, cX5_hasNotice, 2, (some FieldType.boolean), 2, 1, 5),
(yX5_hasListener, cX5_hasListener, 2, (some FieldType.boolean), 2, 1, 5),
(yX5_isRowFull, cX5_isRowFull, 2, (some FieldType.boolean), 2, 1, 5),
(yX5_inRow, cX5_inRow, 3, (some FieldType.int), 3, 1, 5),
(yX5_appendToRow, cX5_appendToRow, 3, none, 3, 0, 5),
(yX5_dropFromRow, cX5_dropFromRow, 2, none, 2, 0, 5),
(yX5_isInRow, cX5_isInRow, 4, (some FieldType.boolean), 3, 1, 5),
(yX5_countBreaksWith, cX5_countBreaksWith, 4, (some FieldType.int), 2, 1, 5),
(yX5_insertSentence, cX5_insertSentence, 4, none, 3, 0, 5),
(yX5_removeSentence, cX5_removeSentence, 3, none, 2, 0, 5),
(yX5_moveSentence, cX5_moveSentence, 3, none, 3, 0, 5),
(yX5_copyFrom, cX5_copyFrom, 3, none, 2, 0, 5),
(yX6_init, cX6_init, 2, none, 1, 0, 6),
(yX6_putIn, cX6_putIn, 3, (some FieldType.int), 3, 1, 6),
(yX6_cutOut, cX6_cutOut, 3, (some FieldType.int), 2, 1, 6),
(yX6_change, cX6_change, 4, (some FieldType.int), 3, 1, 6),
(yX6_chapter, cX6_chapter, 4, (some FieldType.int), 3, 1, 6),
(yX6_notice, cX6_notice, 4, (some FieldType.int), 3, 1, 6),
(yX6_book, cX6_book, 3, (some FieldType.int), 3, 1, 6),
(yX6_empty, cX6_empty, 3, (some FieldType.int), 2, 1, 6),
(yX6_read, cX6_read, 2, (some FieldType.int), 1, 1, 6),
(yX6_listener, cX6_listener, 4, (some FieldType.int), 3, 1, 6),
(yX6_load, cX6_load, 3, (some FieldType.int), 3, 1, 6),
(yX6_sentence, cX6_sentence, 3, (some FieldType.int), 3, 1, 6),
(yX6_marked, cX6_marked, 2, (some FieldType.int), 2, 1, 6),
(yX6_booked, cX6_booked, 3, (some FieldType.int), 3, 1, 6),
(yX6_ofNotice, cX6_ofNotice, 3, (some FieldType.int), 3, 1, 6),
(yX6_of, cX6_of, 3, (some FieldType.int), 3, 1, 6),
(yX6_count, cX6_count, 2, (some FieldType.int), 2, 1, 6),
(yX6_heard, cX6_heard, 4, (some FieldType.int), 3, 1, 6),
(yX6_whenHeard, cX6_whenHeard, 5, (some FieldType.int), 3, 1, 6),
(yX6_heardAt, cX6_heardAt, 8, (some FieldType.int), 4, 1, 6),
(yX6_chapterAt, cX6_chapterAt, 4, (some FieldType.int), 3, 1, 6),
(yX6_open, cX6_open, 6, (some FieldType.int), 4, 1, 6),
(yX6_wrongAt, cX6_wrongAt, 6, (some FieldType.int), 4, 1, 6),
(yX6_ifBooked, cX6_ifBooked, 5, (some FieldType.int), 3, 1, 6),
(yX6_bestBreak, cX6_bestBreak, 7, (some FieldType.int), 3, 1, 6),
(yX6_enough, cX6_enough, 5, (some FieldType.int), 2, 1, 6),
(yX6_put, cX6_put, 4, (some FieldType.int), 2, 1, 6),
(yX6_wipe, cX6_wipe, 2, (some FieldType.int), 1, 1, 6),
(yX6_fault, cX6_fault, 1, (some FieldType.int), 1, 1, 6),
(yX6_undo, cX6_undo, 1, (some FieldType.int), 1, 1, 6),
(yX6_save, cX6_save, 2, (some FieldType.int), 2, 1, 6),
(yX6_restore, cX6_restore, 2, (some FieldType.int), 2, 1, 6),
(yX6_isWithin, cX6_isWithin, 3, (some FieldType.boolean), 3, 1, 6),
(yX6_asNumber, cX6_asNumber, 1, (some FieldType.int), 1, 1, 6),
(yX6_takeRows, cX6_takeRows, 4, none, 1, 0, 6),
(yX6_hearingOf, cX6_hearingOf, 2, (some (FieldType.object "NoticeShifts$Hearing")), 2, 2, 6),
(yX6_hearNow, cX6_hearNow, 5, none, 3, 0, 6),
(yX6_isOutOfDate, cX6_isOutOfDate, 2, (some FieldType.boolean), 2, 1, 6),
(yX6_outOfDateListeners, cX6_outOfDateListeners, 3, (some FieldType.int), 1, 1, 6),
(yX6_longestListener, cX6_longestListener, 5, (some FieldType.int), 1, 1, 6),
(yX6_momentNow, cX6_momentNow, 6, (some FieldType.int), 3, 1, 6),
(yX6_chooseAll, cX6_chooseAll, 4, none, 3, 0, 6),
(yX6_secondsOfAll, cX6_secondsOfAll, 3, (some FieldType.int), 1, 1, 6),
(yX6_countHearers, cX6_countHearers, 4, (some FieldType.int), 2, 1, 6),
(yX6_hearersIfBooked, cX6_hearersIfBooked, 4, (some FieldType.int), 3, 1, 6),
(yX7_init, cX7_init, 1, none, 1, 0, 7),
(yX7_in, cX7_in, 3, (some FieldType.boolean), 3, 1, 7),
(yX7_isSentence, cX7_isSentence, 2, (some FieldType.boolean), 2, 1, 7),
(yX7_isNotice, cX7_isNotice, 2, (some FieldType.boolean), 2, 1, 7),
(yX7_isListener, cX7_isListener, 2, (some FieldType.boolean), 2, 1, 7),
(yX7_its, cX7_its, 3, (some FieldType.int), 3, 1, 7),
(yX7_inBreak, cX7_inBreak, 2, (some FieldType.int), 2, 1, 7),
(yX7_inRow, cX7_inRow, 3, (some FieldType.int), 3, 1, 7),
(yX7_lengthOf, cX7_lengthOf, 2, (some FieldType.int), 2, 1, 7),
(yX7_groupsOf, cX7_groupsOf, 2, (some FieldType.int), 2, 1, 7),
(yX7_groupOf, cX7_groupOf, 2, (some FieldType.int), 2, 1, 7),
(yX7_boundOf, cX7_boundOf, 2, (some FieldType.int), 2, 1, 7),
(yX7_hasFile, cX7_hasFile, 2, (some FieldType.boolean), 2, 1, 7),
(yX7_record, cX7_record, 2, none, 1, 0, 7),
(yX7_undo, cX7_undo, 2, (some FieldType.int), 1, 1, 7),
(yX7_save, cX7_save, 3, (some FieldType.int), 2, 1, 7),
(yX7_restore, cX7_restore, 3, (some FieldType.int), 2, 1, 7),
(yX7_layWith, cX7_layWith, 10, none, 3, 0, 7),
(yX7_layNow, cX7_layNow, 2, none, 2, 0, 7),
(yX7_lay, cX7_lay, 3, none, 2, 0, 7),
(yX7_isOld, cX7_isOld, 4, (some FieldType.boolean), 2, 1, 7),
(yX7_seconds, cX7_seconds, 4, (some FieldType.int), 2, 1, 7),
(yX7_notices, cX7_notices, 3, (some FieldType.int), 1, 1, 7),
(yX7_hasHeard, cX7_hasHeard, 4, (some FieldType.boolean), 2, 1, 7),
(yX7_exchange, cX7_exchange, 5, none, 3, 0, 7),
(yX7_exchangeSentences, cX7_exchangeSentences, 2, none, 2, 0, 7),
(yX7_clearSentence, cX7_clearSentence, 3, none, 2, 0, 7),
(yX7_putIn, cX7_putIn, 5, (some FieldType.int), 3, 1, 7),
(yX7_cutOut, cX7_cutOut, 4, (some FieldType.int), 2, 1, 7),
(yX7_change, cX7_change, 4, (some FieldType.int), 3, 1, 7),
(yX7_chapters, cX7_chapters, 3, (some FieldType.int), 1, 1, 7),
(yX7_chapter, cX7_chapter, 3, (some FieldType.int), 3, 1, 7),
(yX7_notice, cX7_notice, 3, (some FieldType.int), 3, 1, 7),
(yX7_bookIt, cX7_bookIt, 3, none, 3, 0, 7),
(yX7_unbookLast, cX7_unbookLast, 2, none, 2, 0, 7),
(yX7_whyNotBook, cX7_whyNotBook, 3, (some FieldType.int), 3, 1, 7),
(yX7_book, cX7_book, 4, (some FieldType.int), 3, 1, 7),
(yX7_emptyIt, cX7_emptyIt, 4, (some FieldType.int), 2, 1, 7),
(yX7_empty, cX7_empty, 2, (some FieldType.int), 2, 1, 7),
(yX7_listener, cX7_listener, 4, (some FieldType.int), 3, 1, 7),
(yX7_load, cX7_load, 4, (some FieldType.int), 3, 1, 7),
(yX7_timeOf, cX7_timeOf, 4, (some FieldType.int), 2, 1, 7),
(yX7_chapterOf, cX7_chapterOf, 4, (some FieldType.int), 2, 1, 7),
(yX7_sentence, cX7_sentence, 3, (some FieldType.int), 3, 1, 7),
(yX7_marked, cX7_marked, 3, (some FieldType.int), 2, 1, 7),
(yX7_booked, cX7_booked, 3, (some FieldType.int), 3, 1, 7),
(yX7_breaksWith, cX7_breaksWith, 6, (some FieldType.int), 2, 1, 7),
(yX7_hearers, cX7_hearers, 4, (some FieldType.int), 2, 1, 7),
(yX7_ofNotice, cX7_ofNotice, 3, (some FieldType.int), 3, 1, 7),
(yX7_of, cX7_of, 3, (some FieldType.int), 3, 1, 7),
(yX7_oldOnes, cX7_oldOnes, 3, (some FieldType.int), 1, 1, 7),
(yX7_longest, cX7_longest, 5, (some FieldType.int), 1, 1, 7),
(yX7_count, cX7_count, 2, (some FieldType.int), 2, 1, 7),
(yX7_heard, cX7_heard, 3, (some FieldType.int), 3, 1, 7),
(yX7_whenHeard, cX7_whenHeard, 6, (some FieldType.int), 3, 1, 7),
(yX7_find, cX7_find, 4, (some FieldType.boolean), 2, 1, 7),
(yX7_heardChapter, cX7_heardChapter, 4, (some FieldType.int), 2, 1, 7),
(yX7_heardAt, cX7_heardAt, 4, (some FieldType.int), 4, 1, 7),
(yX7_chapterAt, cX7_chapterAt, 6, (some FieldType.int), 3, 1, 7),
(yX7_open, cX7_open, 6, (some FieldType.int), 4, 1, 7),
(yX7_momentAt, cX7_momentAt, 4, (some FieldType.int), 3, 1, 7),
(yX7_wrongAt, cX7_wrongAt, 6, (some FieldType.int), 4, 1, 7),
(yX7_allSeconds, cX7_allSeconds, 3, (some FieldType.int), 1, 1, 7),
(yX7_ifBooked, cX7_ifBooked, 6, (some FieldType.int), 3, 1, 7),
(yX7_bestBreak, cX7_bestBreak, 7, (some FieldType.int), 3, 1, 7),
(yX7_enough, cX7_enough, 4, (some FieldType.int), 2, 1, 7),
(yX7_put, cX7_put, 8, (some FieldType.int), 2, 1, 7),
(yX7_wipe, cX7_wipe, 2, (some FieldType.int), 1, 1, 7),
(yX7_stands, cX7_stands, 5, (some FieldType.boolean), 2, 1, 7),
(yX7_readPad, cX7_readPad, 2, (some FieldType.int), 1, 1, 7),
(yX7_fault, cX7_fault, 1, (some FieldType.int), 1, 1, 7),
(yX7_areRows, cX7_areRows, 4, (some FieldType.boolean), 1, 1, 7),
(yX7_read, cX7_read, 3, (some FieldType.int), 1, 1, 7)]
def mrow (mi : Nat) : Mrow := mt.getD mi (yX0_init, cX0_init, 0, none, 0, 0, 0)
def yM (mi : Nat) : MethodName := (mrow mi).1
def bM (mi : Nat) : ByteArray := (mrow mi).2.1
def lM (mi : Nat) : Nat := (mrow mi).2.2.1
def rM (mi : Nat) : Option FieldType := (mrow mi).2.2.2.1
def nM (mi : Nat) : Nat := (mrow mi).2.2.2.2.1
def kM (mi : Nat) : Nat := (mrow mi).2.2.2.2.2.1
def oM (mi : Nat) : Nat := (mrow mi).2.2.2.2.2.2
abbrev Ent : Type := Nat × Instr × Nat × Nat × Nat × Nat
abbrev Blk : Type := Nat × List Ent × Nat
def gCode : List Cond := mt.map (fun r => Cond.code r.1 r.2.1 r.2.2.1 r.2.2.2.1)
def RX : Nat → String := fun c => match c with
  | 0 => RX0
  | 1 => RX1
  | 2 => RX2
  | 3 => RX3
  | 4 => RX4
  | 5 => RX5
  | 6 => RX6
  | _ => RX7
def TX : Nat → u_T := fun c => match c with
  | 0 => TX0
  | 1 => TX1
  | 2 => TX2
  | 3 => TX3
  | 4 => TX4
  | 5 => TX5
  | 6 => TX6
  | _ => TX7
def NX : Nat → Nat := fun c => match c with
  | 0 => 6
  | 1 => 3
  | 2 => 3
  | 3 => 2
  | 4 => 4
  | 5 => 12
  | 6 => 7
  | _ => 14
/-- field links: class, pool number, class of the field, its place -/
def flt : List (Nat × Nat × Nat × Nat) := [(6, 10, 6, 0), (6, 19, 6, 1), (6, 23, 6, 2), (6, 27, 6, 3), (6, 34, 6, 4), (6, 41, 6, 5), (6, 48, 6, 6), (6, 56, 5, 0), (6, 60, 4, 3), (6, 70, 5, 9), (6, 77, 4, 0), (6, 89, 4, 1), (6, 96, 4, 2), (6, 103, 5, 10), (6, 106, 5, 3), (6, 109, 5, 4), (6, 121, 5, 1), (6, 136, 3, 1), (6, 139, 5, 11), (6, 142, 5, 5), (6, 145, 5, 6), (6, 148, 5, 7), (6, 154, 5, 8), (6, 198, 1, 0), (6, 206, 2, 2), (6, 207, 1, 1), (6, 244, 0, 2), (6, 247, 0, 5), (6, 264, 3, 0), (6, 282, 1, 2), (6, 290, 0, 4), (6, 293, 0, 3), (0, 9, 0, 0), (0, 15, 0, 1), (0, 18, 0, 2), (0, 21, 0, 3), (0, 24, 0, 4), (0, 27, 0, 5), (0, 30, 5, 1), (0, 44, 5, 3), (0, 52, 5, 4), (1, 12, 1, 0), (1, 18, 1, 1), (1, 22, 1, 2), (1, 32, 4, 3), (1, 45, 4, 1), (2, 11, 2, 0), (2, 18, 2, 1), (2, 26, 2, 2), (3, 9, 3, 0), (3, 25, 3, 1), (4, 9, 4, 0), (4, 15, 4, 1), (4, 18, 4, 2), (4, 21, 4, 3), (5, 12, 5, 0), (5, 18, 5, 1), (5, 22, 5, 2), (5, 25, 5, 3), (5, 28, 5, 4), (5, 31, 5, 5), (5, 34, 5, 6), (5, 37, 5, 7), (5, 43, 5, 8), (5, 48, 4, 3), (5, 56, 5, 10), (5, 59, 5, 11), (5, 78, 4, 0), (5, 81, 5, 9), (5, 84, 4, 1), (5, 87, 4, 2), (7, 7, 7, 0), (7, 13, 7, 1), (7, 16, 7, 2), (7, 19, 7, 3), (7, 23, 7, 5), (7, 27, 7, 7), (7, 30, 7, 11), (7, 33, 7, 4), (7, 144, 7, 6), (7, 147, 7, 10), (7, 150, 7, 8), (7, 153, 7, 9), (7, 176, 7, 12), (7, 179, 7, 13)]
def gFld : List Cond := flt.map (fun q => Cond.fieldLink (RX q.1) q.2.1 ((TX q.2.2.1) q.2.2.2).1 ((TX q.2.2.1) q.2.2.2).2.1 ((TX q.2.2.1) q.2.2.2).2.2.1)
/-- calls: class, pool number, the method called -/
def cltV : List (Nat × Nat × Nat) := [(0, 36, 39), (0, 40, 3), (1, 25, 25), (1, 29, 5), (1, 36, 7), (1, 40, 26), (1, 48, 32), (1, 58, 33), (2, 22, 47), (4, 25, 25), (4, 29, 29), (5, 62, 39), (5, 66, 42), (5, 74, 46), (5, 96, 32), (5, 100, 11), (6, 52, 44), (6, 73, 14), (6, 81, 35), (6, 85, 45), (6, 99, 30), (6, 112, 36), (6, 115, 38), (6, 118, 40), (6, 124, 21), (6, 127, 22), (6, 130, 23), (6, 133, 82), (6, 151, 37), (6, 158, 84), (6, 162, 83), (6, 166, 7), (6, 169, 25), (6, 173, 29), (6, 176, 28), (6, 179, 39), (6, 183, 43), (6, 186, 91), (6, 189, 85), (6, 192, 9), (6, 195, 8), (6, 199, 26), (6, 200, 86), (6, 203, 87), (6, 209, 27), (6, 212, 6), (6, 215, 10), (6, 218, 31), (6, 221, 5), (6, 224, 88), (6, 232, 90), (6, 235, 41), (6, 238, 92), (6, 241, 89), (6, 254, 20), (6, 258, 15), (6, 261, 47), (6, 272, 32), (6, 275, 1), (6, 278, 2), (6, 283, 12), (7, 41, 106), (7, 44, 99), (7, 48, 100), (7, 52, 102), (7, 55, 103), (7, 58, 101), (7, 61, 98), (7, 64, 104), (7, 67, 110), (7, 71, 105), (7, 75, 111), (7, 79, 117), (7, 82, 119), (7, 85, 118), (7, 88, 95), (7, 91, 123), (7, 95, 96), (7, 98, 128), (7, 101, 126), (7, 104, 130), (7, 107, 97), (7, 110, 114), (7, 114, 134), (7, 117, 135), (7, 120, 116), (7, 123, 139), (7, 126, 140), (7, 129, 113), (7, 132, 112), (7, 135, 115), (7, 138, 143), (7, 141, 144), (7, 156, 148), (7, 159, 149), (7, 162, 137), (7, 165, 153), (7, 168, 155), (7, 171, 127), (7, 183, 161), (7, 186, 162), (7, 189, 164)]
def cltS : List (Nat × Nat × Nat) := [(3, 15, 19), (3, 29, 17), (6, 66, 80), (6, 92, 81), (6, 250, 18), (6, 268, 17), (7, 37, 94)]
def cltN : List (Nat × Nat × Nat) := [(1, 41, 81), (3, 19, 80), (3, 33, 81), (5, 52, 80), (5, 70, 81)]
def clt4 : List (Nat × Nat × Nat) := [(0, 47, 10), (1, 52, 13), (2, 29, 10), (3, 37, 11), (4, 32, 13), (5, 90, 13), (6, 227, 12), (6, 287, 11)]
def gCv1 : List Cond := cltV.map (fun q => Cond.methodLink (RX q.1) q.2.1 (yM q.2.2))
def gCs1 : List Cond := cltS.map (fun q => Cond.methodLink (RX q.1) q.2.1 (yM q.2.2))
def mVs : List Nat := [1, 2, 3, 5, 6, 7, 8, 9, 10, 11, 12, 14, 15, 20, 21, 22, 23, 25, 26, 27, 28, 29, 30, 31, 32, 33, 35, 36, 37, 38, 39, 40, 41, 42, 43, 44, 45, 46, 47, 49, 50, 51, 52, 53, 54, 55, 56, 57, 58, 59, 60, 61, 62, 63, 64, 65, 66, 67, 68, 69, 70, 71, 72, 73, 74, 75, 76, 77, 78, 79, 82, 83, 84, 85, 86, 87, 88, 89, 90, 91, 92, 95, 96, 97, 98, 99, 100, 101, 102, 103, 104, 105, 106, 107, 108, 109, 110, 111, 112, 113, 114, 115, 116, 117, 118, 119, 120, 121, 122, 123, 124, 125, 126, 127, 128, 129, 130, 131, 132, 133, 134, 135, 136, 137, 138, 139, 140, 141, 142, 143, 144, 145, 146, 147, 148, 149, 150, 151, 152, 153, 154, 155, 156, 157, 158, 159, 160, 161, 162, 163, 164, 165]
def mSs : List Nat := [17, 18, 19, 80, 81, 94]
def gCv2 : List Cond := mVs.map (fun k => Cond.instanceMethod (yM k))
def gCv3 : List Cond := mVs.map (fun k => Cond.selects (yM k).cls (yM k) (yM k))
def gCs2 : List Cond := mSs.map (fun k => Cond.static (yM k))
def gIni : List Cond := [0, 1, 2, 3, 4, 5, 6, 7].map (fun c => Cond.initialized (RX c))
def gLay0 : List Cond := u_ws RX0 TX0 6
def gLay1 : List Cond := u_ws RX1 TX1 3
def gLay2 : List Cond := u_ws RX2 TX2 3
def gLay3 : List Cond := u_ws RX3 TX3 2
def gLay4 : List Cond := u_ws RX4 TX4 4
def gLay5 : List Cond := u_ws RX5 TX5 12
def gLay6 : List Cond := u_ws RX6 TX6 7
def gLay7 : List Cond := u_ws RX7 TX7 14
def yN (c : Nat) : MethodName := if c = 10 then Lib.Math.min.name else if c = 11 then Lib.Math.max.name else if c = 12 then Lib.Math.abs.name else arraycopyName
def gNat : List Cond := clt4.map (fun q => Cond.methodLink (RX q.1) q.2.1 (yN q.2.2))
def gNa2 : List Cond := [.static Lib.Math.min.name, .static Lib.Math.max.name, .static Lib.Math.abs.name, .initialized "java/lang/Math", .code Lib.Math.min.name Lib.Math.min.code 2 (some .int), .code Lib.Math.max.name Lib.Math.max.code 2 (some .int), .code Lib.Math.abs.name Lib.Math.abs.code 1 (some .int), .native arraycopyName, .static arraycopyName, .initialized "java/lang/System"]
def cklt : List (Nat × Nat × Nat) := [(3, 23, 255), (7, 174, 255)]
def gCk : List Cond := cklt.map (fun q => Cond.constantLong (RX q.1) q.2.1 (Int64.ofNat q.2.2))
def gW : List Cond := gCode ++ (gFld ++ (gCv1 ++ (gCs1 ++ (gCv2 ++ (gCv3 ++ (gCs2 ++ (gIni ++ (gLay0 ++ (gLay1 ++ (gLay2 ++ (gLay3 ++ (gLay4 ++ (gLay5 ++ (gLay6 ++ (gLay7 ++ (gNat ++ (gNa2 ++ (gCk
))))))))))))))))))
def gPl : List Nat := [220, 414, 418, 426, 111, 439, 543, 435, 508, 503, 551, 306, 495, 184, 293, 632, 204, 376, 607, 610, 616, 373, 380, 385, 80, 443, 513, 539, 457, 341, 337, 559, 301, 499, 74, 319, 353, 405, 357, 422, 361, 588, 474, 470, 250, 324, 254, 297, 66, 286, 315, 328, 332, 345, 349, 365, 369, 397, 401, 447, 453, 461, 466, 487, 518, 531, 535, 547, 555, 564, 568, 580, 592, 600, 604, 620, 624, 628, 636, 641, 289, 260, 392, 431, 409, 491, 523, 527, 572, 483, 584, 479, 596, 646, 701, 737, 765, 793, 729, 769, 813, 825, 817, 821, 805, 797, 709, 694, 698, 705, 809, 801, 877, 873, 829, 881, 865, 725, 721, 717, 713, 733, 741, 749, 745, 753, 773, 942, 761, 757, 781, 777, 785, 789, 837, 841, 833, 845, 849, 857, 861, 853, 869, 889, 893, 885, 897, 901, 909, 913, 905, 917, 921, 929, 925, 938, 934, 946, 950, 954, 959, 971, 967, 963, 979, 975, 261, 262, 263, 264, 265, 266, 267, 130, 93, 149, 83, 86, 90, 152, 137, 140, 133, 209, 154, 142, 144, 146, 148, 116, 192, 118, 225, 231, 207, 120, 229, 227, 222, 223, 224, 226, 228, 230, 132, 136, 139, 115, 117, 119, 95, 87, 189, 190, 191, 206, 208, 82, 85, 89, 94, 129, 131, 134, 135, 138, 141, 143, 145, 147, 92, 151, 153, 84, 150, 88, 91, 648, 649, 650, 651, 653, 655, 659, 652, 654, 658, 656, 657, 660, 661, 419, 423, 440, 436, 509, 510, 307, 496, 294, 514, 338, 475, 471, 251, 298, 303, 247, 290, 316, 321, 334, 350, 354, 358, 370, 377, 382, 389, 402, 406, 428, 432, 448, 449, 454, 462, 467, 476, 488, 500, 505, 519, 520, 524, 536, 540, 548, 556, 560, 569, 581, 585, 593, 480, 613, 629, 637, 410, 411, 415, 492, 706, 766, 810, 814, 818, 822, 726, 802, 806, 794, 798, 722, 714, 718, 734, 746, 762, 758, 770, 778, 790, 826, 834, 838, 862, 854, 858, 870, 874, 878, 886, 890, 906, 910, 930, 926, 935, 939, 968, 964, 976, 608, 374, 287, 333, 605, 393, 699, 412, 416, 424, 437, 541, 433, 506, 501, 549, 304, 493, 291, 630, 614, 371, 378, 383, 441, 511, 537, 455, 339, 335, 557, 299, 497, 317, 351, 403, 355, 420, 359, 586, 472, 468, 248, 322, 252, 295, 284, 313, 326, 330, 343, 347, 363, 367, 395, 399, 445, 451, 459, 464, 485, 516, 529, 533, 545, 553, 562, 566, 578, 590, 598, 602, 618, 622, 626, 634, 639, 391, 430, 408, 490, 522, 526, 571, 482, 583, 478, 595, 736, 764, 792, 728, 768, 812, 824, 816, 820, 804, 796, 708, 692, 696, 703, 808, 800, 876, 872, 828, 880, 864, 724, 720, 716, 711, 731, 739, 748, 743, 751, 772, 941, 760, 755, 780, 775, 783, 787, 836, 840, 831, 843, 847, 856, 860, 851, 867, 888, 892, 883, 895, 899, 908, 912, 903, 915, 919, 928, 923, 937, 932, 944, 948, 952, 957, 970, 966, 961, 978, 973, 413, 417, 425, 438, 542, 434, 507, 502, 550, 305, 494, 292, 631, 615, 372, 379, 384, 442, 512, 538, 456, 340, 336, 558, 300, 498, 318, 352, 404, 356, 421, 360, 587, 473, 469, 249, 323, 253, 296, 285, 314, 327, 331, 344, 348, 364, 368, 396, 400, 446, 452, 460, 465, 486, 517, 530, 534, 546, 554, 563, 567, 579, 591, 599, 603, 619, 623, 627, 635, 640, 0, 2, 1, 5, 6, 7, 8, 4, 9, 3, 10, 16, 19, 23, 15, 20, 28, 31, 29, 30, 26, 24, 11, 693, 697, 704, 27, 25, 39, 38, 32, 40, 37, 14, 13, 12, 712, 732, 740, 17, 744, 752, 21, 47, 18, 756, 22, 776, 784, 788, 33, 34, 832, 844, 848, 35, 36, 852, 868, 41, 42, 884, 896, 900, 43, 44, 904, 916, 920, 45, 924, 46, 933, 945, 949, 953, 958, 49, 48, 962, 50, 974, 375, 606, 609, 288, 259, 700, 58, 55, 56, 57, 54, 53, 52, 60, 232, 234, 236, 238, 240, 242, 121, 123, 125, 193, 195, 197, 210, 212, 96, 98, 100, 102, 155, 157, 159, 161, 163, 165, 167, 169, 171, 173, 175, 177, 268, 270, 272, 274, 276, 278, 280, 662, 664, 666, 668, 670, 672, 674, 676, 678, 680, 682, 684, 686, 688, 427, 308, 309, 386, 302, 255, 574, 573, 310, 387, 575, 61, 311, 388, 576, 257, 256, 59, 611, 955]
theorem in_gCode : ∀ w ∈ gCode, w ∈ gW := fun _ h => (List.mem_append_left _ h)
theorem in_gFld : ∀ w ∈ gFld, w ∈ gW := fun _ h => (List.mem_append_right _ (List.mem_append_left _ h))
theorem in_gCv1 : ∀ w ∈ gCv1, w ∈ gW := fun _ h => (List.mem_append_right _ (List.mem_append_right _ (List.mem_append_left _ h)))
theorem in_gCs1 : ∀ w ∈ gCs1, w ∈ gW := fun _ h => (List.mem_append_right _ (List.mem_append_right _ (List.mem_append_right _ (List.mem_append_left _ h))))
theorem in_gCv2 : ∀ w ∈ gCv2, w ∈ gW := fun _ h => (List.mem_append_right _ (List.mem_append_right _ (List.mem_append_right _ (List.mem_append_right _ (List.mem_append_left _ h)))))
theorem in_gCv3 : ∀ w ∈ gCv3, w ∈ gW := fun _ h => (List.mem_append_right _ (List.mem_append_right _ (List.mem_append_right _ (List.mem_append_right _ (List.mem_append_right _ (List.mem_append_left _ h))))))
theorem in_gCs2 : ∀ w ∈ gCs2, w ∈ gW := fun _ h => (List.mem_append_right _ (List.mem_append_right _ (List.mem_append_right _ (List.mem_append_right _ (List.mem_append_right _ (List.mem_append_right _ (List.mem_append_left _ h)))))))
theorem in_gIni : ∀ w ∈ gIni, w ∈ gW := fun _ h => (List.mem_append_right _ (List.mem_append_right _ (List.mem_append_right _ (List.mem_append_right _ (List.mem_append_right _ (List.mem_append_right _ (List.mem_append_right _ (List.mem_append_left _ h))))))))
theorem in_gLay0 : ∀ w ∈ gLay0, w ∈ gW := fun _ h => (List.mem_append_right _ (List.mem_append_right _ (List.mem_append_right _ (List.mem_append_right _ (List.mem_append_right _ (List.mem_append_right _ (List.mem_append_right _ (List.mem_append_right _ (List.mem_append_left _ h)))))))))
theorem in_gLay1 : ∀ w ∈ gLay1, w ∈ gW := fun _ h => (List.mem_append_right _ (List.mem_append_right _ (List.mem_append_right _ (List.mem_append_right _ (List.mem_append_right _ (List.mem_append_right _ (List.mem_append_right _ (List.mem_append_right _ (List.mem_append_right _ (List.mem_append_left _ h))))))))))
theorem in_gLay2 : ∀ w ∈ gLay2, w ∈ gW := fun _ h => (List.mem_append_right _ (List.mem_append_right _ (List.mem_append_right _ (List.mem_append_right _ (List.mem_append_right _ (List.mem_append_right _ (List.mem_append_right _ (List.mem_append_right _ (List.mem_append_right _ (List.mem_append_right _ (List.mem_append_left _ h)))))))))))
theorem in_gLay3 : ∀ w ∈ gLay3, w ∈ gW := fun _ h => (List.mem_append_right _ (List.mem_append_right _ (List.mem_append_right _ (List.mem_append_right _ (List.mem_append_right _ (List.mem_append_right _ (List.mem_append_right _ (List.mem_append_right _ (List.mem_append_right _ (List.mem_append_right _ (List.mem_append_right _ (List.mem_append_left _ h))))))))))))
theorem in_gLay4 : ∀ w ∈ gLay4, w ∈ gW := fun _ h => (List.mem_append_right _ (List.mem_append_right _ (List.mem_append_right _ (List.mem_append_right _ (List.mem_append_right _ (List.mem_append_right _ (List.mem_append_right _ (List.mem_append_right _ (List.mem_append_right _ (List.mem_append_right _ (List.mem_append_right _ (List.mem_append_right _ (List.mem_append_left _ h)))))))))))))
theorem in_gLay5 : ∀ w ∈ gLay5, w ∈ gW := fun _ h => (List.mem_append_right _ (List.mem_append_right _ (List.mem_append_right _ (List.mem_append_right _ (List.mem_append_right _ (List.mem_append_right _ (List.mem_append_right _ (List.mem_append_right _ (List.mem_append_right _ (List.mem_append_right _ (List.mem_append_right _ (List.mem_append_right _ (List.mem_append_right _ (List.mem_append_left _ h))))))))))))))
theorem in_gLay6 : ∀ w ∈ gLay6, w ∈ gW := fun _ h => (List.mem_append_right _ (List.mem_append_right _ (List.mem_append_right _ (List.mem_append_right _ (List.mem_append_right _ (List.mem_append_right _ (List.mem_append_right _ (List.mem_append_right _ (List.mem_append_right _ (List.mem_append_right _ (List.mem_append_right _ (List.mem_append_right _ (List.mem_append_right _ (List.mem_append_right _ (List.mem_append_left _ h)))))))))))))))
theorem in_gLay7 : ∀ w ∈ gLay7, w ∈ gW := fun _ h => (List.mem_append_right _ (List.mem_append_right _ (List.mem_append_right _ (List.mem_append_right _ (List.mem_append_right _ (List.mem_append_right _ (List.mem_append_right _ (List.mem_append_right _ (List.mem_append_right _ (List.mem_append_right _ (List.mem_append_right _ (List.mem_append_right _ (List.mem_append_right _ (List.mem_append_right _ (List.mem_append_right _ (List.mem_append_left _ h))))))))))))))))
theorem in_gNat : ∀ w ∈ gNat, w ∈ gW := fun _ h => (List.mem_append_right _ (List.mem_append_right _ (List.mem_append_right _ (List.mem_append_right _ (List.mem_append_right _ (List.mem_append_right _ (List.mem_append_right _ (List.mem_append_right _ (List.mem_append_right _ (List.mem_append_right _ (List.mem_append_right _ (List.mem_append_right _ (List.mem_append_right _ (List.mem_append_right _ (List.mem_append_right _ (List.mem_append_right _ (List.mem_append_left _ h)))))))))))))))))
theorem in_gNa2 : ∀ w ∈ gNa2, w ∈ gW := fun _ h => (List.mem_append_right _ (List.mem_append_right _ (List.mem_append_right _ (List.mem_append_right _ (List.mem_append_right _ (List.mem_append_right _ (List.mem_append_right _ (List.mem_append_right _ (List.mem_append_right _ (List.mem_append_right _ (List.mem_append_right _ (List.mem_append_right _ (List.mem_append_right _ (List.mem_append_right _ (List.mem_append_right _ (List.mem_append_right _ (List.mem_append_right _ (List.mem_append_left _ h))))))))))))))))))
theorem in_gCk : ∀ w ∈ gCk, w ∈ gW := fun _ h => (List.mem_append_right _ (List.mem_append_right _ (List.mem_append_right _ (List.mem_append_right _ (List.mem_append_right _ (List.mem_append_right _ (List.mem_append_right _ (List.mem_append_right _ (List.mem_append_right _ (List.mem_append_right _ (List.mem_append_right _ (List.mem_append_right _ (List.mem_append_right _ (List.mem_append_right _ (List.mem_append_right _ (List.mem_append_right _ (List.mem_append_right _ (List.mem_append_right _ h))))))))))))))))))
set_option maxRecDepth 100000 in
theorem gW_pl : gW = gPl.filterMap (fun i => lw_tbl[i]?) := rfl
theorem gW_good : gW.all goodWord = true := by decide +kernel
theorem gW_in : ∀ w ∈ gW, w ∈ lw_tbl := by
  intro w hw
  rw [gW_pl] at hw
  obtain ⟨i, -, hi⟩ := List.mem_filterMap.mp hw
  exact List.mem_of_getElem? hi
theorem gW_gd {w : Cond} (hw : w ∈ gW) : (w.onTables && w.keeps) = true ∨ ∃ ty, w = .arrayClass ty := good_of_word (List.all_eq_true.mp gW_good w hw)
theorem gW_self : GoodIn gW gW := fun w hw => ⟨hw, gW_gd hw⟩
/-- the words of method mi -/
def wsM (mi : Nat) : List Cond := Cond.code (yM mi) (bM mi) (lM mi) (rM mi) :: gW
def nestW : List Cond := cltN.map (fun q => Cond.methodLinkNest (RX q.1) q.2.1 (yM q.2.2) RX6)
def nestPl : List Nat := [504, 612, 381, 320, 258]
set_option maxRecDepth 100000 in
theorem nest_pl : nestW = nestPl.filterMap (fun i => lw_tbl[i]?) := rfl
