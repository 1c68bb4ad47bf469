-- Cho.begin
theorem e_1 {σ : Sg} {d : Nat} {Q : QT} {μ : Mem} {a0 : Nat} {a1 : Int} {a2 : Int} (h : wp σ (Call σ d) 1 Q 0 [some (.inr (.inr a0)), some (.inl a1), some (.inl a2)] [] μ) : Call σ (d + 1) 1 [.inr (.inr a0), .inl a1, .inl a2] μ Q := Call_go rfl (Nat.le_of_ble_eq_true rfl) rfl h
-- Cho.choose
theorem e_2 {σ : Sg} {d : Nat} {Q : QT} {μ : Mem} {a0 : Nat} {a1 : Nat} {a2 : Int} (h : wp σ (Call σ d) 2 Q 0 [some (.inr (.inr a0)), some (.inr (.inr a1)), some (.inl a2), none, none, none] [] μ) : Call σ (d + 1) 2 [.inr (.inr a0), .inr (.inr a1), .inl a2] μ Q := Call_go rfl (Nat.le_of_ble_eq_true rfl) rfl h
-- Cho.isFor
theorem e_3 {σ : Sg} {d : Nat} {Q : QT} {μ : Mem} {a0 : Nat} {a1 : Nat} {a2 : Int} (h : wp σ (Call σ d) 3 Q 0 [some (.inr (.inr a0)), some (.inr (.inr a1)), some (.inl a2), none, none] [] μ) : Call σ (d + 1) 3 [.inr (.inr a0), .inr (.inr a1), .inl a2] μ Q := Call_go rfl (Nat.le_of_ble_eq_true rfl) rfl h
-- Hea.breakTime
theorem e_5 {σ : Sg} {d : Nat} {Q : QT} {μ : Mem} {a0 : Nat} {a1 : Int} (h : wp σ (Call σ d) 5 Q 0 [some (.inr (.inr a0)), some (.inl a1), none, none] [] μ) : Call σ (d + 1) 5 [.inr (.inr a0), .inl a1] μ Q := Call_go rfl (Nat.le_of_ble_eq_true rfl) rfl h
-- Hea.sentenceTime
theorem e_6 {σ : Sg} {d : Nat} {Q : QT} {μ : Mem} {a0 : Nat} {a1 : Int} (h : wp σ (Call σ d) 6 Q 0 [some (.inr (.inr a0)), some (.inl a1)] [] μ) : Call σ (d + 1) 6 [.inr (.inr a0), .inl a1] μ Q := Call_go rfl (Nat.le_of_ble_eq_true rfl) rfl h
-- Hea.total
theorem e_7 {σ : Sg} {d : Nat} {Q : QT} {μ : Mem} {a0 : Nat} (h : wp σ (Call σ d) 7 Q 0 [some (.inr (.inr a0))] [] μ) : Call σ (d + 1) 7 [.inr (.inr a0)] μ Q := Call_go rfl (Nat.le_of_ble_eq_true rfl) rfl h
-- Hea.noticeSeconds
theorem e_8 {σ : Sg} {d : Nat} {Q : QT} {μ : Mem} {a0 : Nat} (h : wp σ (Call σ d) 8 Q 0 [some (.inr (.inr a0))] [] μ) : Call σ (d + 1) 8 [.inr (.inr a0)] μ Q := Call_go rfl (Nat.le_of_ble_eq_true rfl) rfl h
-- Hea.countNotices
theorem e_9 {σ : Sg} {d : Nat} {Q : QT} {μ : Mem} {a0 : Nat} (h : wp σ (Call σ d) 9 Q 0 [some (.inr (.inr a0)), none, none] [] μ) : Call σ (d + 1) 9 [.inr (.inr a0)] μ Q := Call_go rfl (Nat.le_of_ble_eq_true rfl) rfl h
-- Hea.placeHeardAt
theorem e_10 {σ : Sg} {d : Nat} {Q : QT} {μ : Mem} {a0 : Nat} {a1 : Int} (h : wp σ (Call σ d) 10 Q 0 [some (.inr (.inr a0)), some (.inl a1), none, none] [] μ) : Call σ (d + 1) 10 [.inr (.inr a0), .inl a1] μ Q := Call_go rfl (Nat.le_of_ble_eq_true rfl) rfl h
-- Hea.copyFrom
theorem e_11 {σ : Sg} {d : Nat} {Q : QT} {μ : Mem} {a0 : Nat} {a1 : Nat} (h : wp σ (Call σ d) 11 Q 0 [some (.inr (.inr a0)), some (.inr (.inr a1))] [] μ) : Call σ (d + 1) 11 [.inr (.inr a0), .inr (.inr a1)] μ Q := Call_go rfl (Nat.le_of_ble_eq_true rfl) rfl h
-- Hea.isLike
theorem e_12 {σ : Sg} {d : Nat} {Q : QT} {μ : Mem} {a0 : Nat} {a1 : Nat} (h : wp σ (Call σ d) 12 Q 0 [some (.inr (.inr a0)), some (.inr (.inr a1)), none] [] μ) : Call σ (d + 1) 12 [.inr (.inr a0), .inr (.inr a1)] μ Q := Call_go rfl (Nat.le_of_ble_eq_true rfl) rfl h
-- His.keep
theorem e_14 {σ : Sg} {d : Nat} {Q : QT} {μ : Mem} {a0 : Nat} {a1 : Nat} (h : wp σ (Call σ d) 14 Q 0 [some (.inr (.inr a0)), some (.inr (.inr a1))] [] μ) : Call σ (d + 1) 14 [.inr (.inr a0), .inr (.inr a1)] μ Q := Call_go rfl (Nat.le_of_ble_eq_true rfl) rfl h
-- His.takeBack
theorem e_15 {σ : Sg} {d : Nat} {Q : QT} {μ : Mem} {a0 : Nat} {a1 : Nat} (h : wp σ (Call σ d) 15 Q 0 [some (.inr (.inr a0)), some (.inr (.inr a1))] [] μ) : Call σ (d + 1) 15 [.inr (.inr a0), .inr (.inr a1)] μ Q := Call_go rfl (Nat.le_of_ble_eq_true rfl) rfl h
-- Pad.isNotice
theorem e_17 {σ : Sg} {d : Nat} {Q : QT} {μ : Mem} {a0 : Int} (h : wp σ (Call σ d) 17 Q 0 [some (.inl a0)] [] μ) : Call σ (d + 1) 17 [.inl a0] μ Q := Call_go rfl (Nat.le_of_ble_eq_true rfl) rfl h
-- Pad.countCharacters
theorem e_18 {σ : Sg} {d : Nat} {Q : QT} {μ : Mem} {a0 : Int64} (h : wp σ (Call σ d) 18 Q 0 [some (.inr (.inl a0)), none, none, none] [] μ) : Call σ (d + 1) 18 [.inr (.inl a0)] μ Q := Call_go rfl (Nat.le_of_ble_eq_true rfl) rfl h
-- Pad.characterAt
theorem e_19 {σ : Sg} {d : Nat} {Q : QT} {μ : Mem} {a0 : Int64} {a1 : Int} (h : wp σ (Call σ d) 19 Q 0 [some (.inr (.inl a0)), none, some (.inl a1)] [] μ) : Call σ (d + 1) 19 [.inr (.inl a0), .inl a1] μ Q := Call_go rfl (Nat.le_of_ble_eq_true rfl) rfl h
-- Pad.append
theorem e_20 {σ : Sg} {d : Nat} {Q : QT} {μ : Mem} {a0 : Nat} {a1 : Int64} {a2 : Int} (h : wp σ (Call σ d) 20 Q 0 [some (.inr (.inr a0)), some (.inr (.inl a1)), none, some (.inl a2), none] [] μ) : Call σ (d + 1) 20 [.inr (.inr a0), .inr (.inl a1), .inl a2] μ Q := Call_go rfl (Nat.le_of_ble_eq_true rfl) rfl h
-- Pad.findFault
theorem e_21 {σ : Sg} {d : Nat} {Q : QT} {μ : Mem} {a0 : Nat} (h : wp σ (Call σ d) 21 Q 0 [some (.inr (.inr a0)), none, none, none, none, none] [] μ) : Call σ (d + 1) 21 [.inr (.inr a0)] μ Q := Call_go rfl (Nat.le_of_ble_eq_true rfl) rfl h
-- Pad.countRows
theorem e_22 {σ : Sg} {d : Nat} {Q : QT} {μ : Mem} {a0 : Nat} (h : wp σ (Call σ d) 22 Q 0 [some (.inr (.inr a0)), none, none] [] μ) : Call σ (d + 1) 22 [.inr (.inr a0)] μ Q := Call_go rfl (Nat.le_of_ble_eq_true rfl) rfl h
-- Pad.highestNotice
theorem e_23 {σ : Sg} {d : Nat} {Q : QT} {μ : Mem} {a0 : Nat} (h : wp σ (Call σ d) 23 Q 0 [some (.inr (.inr a0)), none, none] [] μ) : Call σ (d + 1) 23 [.inr (.inr a0)] μ Q := Call_go rfl (Nat.le_of_ble_eq_true rfl) rfl h
-- Sen.timeOf
theorem e_25 {σ : Sg} {d : Nat} {Q : QT} {μ : Mem} {a0 : Nat} {a1 : Int} (h : wp σ (Call σ d) 25 Q 0 [some (.inr (.inr a0)), some (.inl a1), none, none] [] μ) : Call σ (d + 1) 25 [.inr (.inr a0), .inl a1] μ Q := Call_go rfl (Nat.le_of_ble_eq_true rfl) rfl h
-- Sen.total
theorem e_26 {σ : Sg} {d : Nat} {Q : QT} {μ : Mem} {a0 : Nat} (h : wp σ (Call σ d) 26 Q 0 [some (.inr (.inr a0))] [] μ) : Call σ (d + 1) 26 [.inr (.inr a0)] μ Q := Call_go rfl (Nat.le_of_ble_eq_true rfl) rfl h
-- Sen.placeAtTime
theorem e_27 {σ : Sg} {d : Nat} {Q : QT} {μ : Mem} {a0 : Nat} {a1 : Int} (h : wp σ (Call σ d) 27 Q 0 [some (.inr (.inr a0)), some (.inl a1), none, none] [] μ) : Call σ (d + 1) 27 [.inr (.inr a0), .inl a1] μ Q := Call_go rfl (Nat.le_of_ble_eq_true rfl) rfl h
-- Sen.placeOf
theorem e_28 {σ : Sg} {d : Nat} {Q : QT} {μ : Mem} {a0 : Nat} {a1 : Int} (h : wp σ (Call σ d) 28 Q 0 [some (.inr (.inr a0)), some (.inl a1), none] [] μ) : Call σ (d + 1) 28 [.inr (.inr a0), .inl a1] μ Q := Call_go rfl (Nat.le_of_ble_eq_true rfl) rfl h
-- Sen.chapterOf
theorem e_29 {σ : Sg} {d : Nat} {Q : QT} {μ : Mem} {a0 : Nat} {a1 : Int} (h : wp σ (Call σ d) 29 Q 0 [some (.inr (.inr a0)), some (.inl a1), none, none] [] μ) : Call σ (d + 1) 29 [.inr (.inr a0), .inl a1] μ Q := Call_go rfl (Nat.le_of_ble_eq_true rfl) rfl h
-- Sen.chapters
theorem e_30 {σ : Sg} {d : Nat} {Q : QT} {μ : Mem} {a0 : Nat} (h : wp σ (Call σ d) 30 Q 0 [some (.inr (.inr a0))] [] μ) : Call σ (d + 1) 30 [.inr (.inr a0)] μ Q := Call_go rfl (Nat.le_of_ble_eq_true rfl) rfl h
-- Sen.firstOfChapter
theorem e_31 {σ : Sg} {d : Nat} {Q : QT} {μ : Mem} {a0 : Nat} {a1 : Int} (h : wp σ (Call σ d) 31 Q 0 [some (.inr (.inr a0)), some (.inl a1), none, none] [] μ) : Call σ (d + 1) 31 [.inr (.inr a0), .inl a1] μ Q := Call_go rfl (Nat.le_of_ble_eq_true rfl) rfl h
-- Sen.copyFrom
theorem e_32 {σ : Sg} {d : Nat} {Q : QT} {μ : Mem} {a0 : Nat} {a1 : Nat} (h : wp σ (Call σ d) 32 Q 0 [some (.inr (.inr a0)), some (.inr (.inr a1))] [] μ) : Call σ (d + 1) 32 [.inr (.inr a0), .inr (.inr a1)] μ Q := Call_go rfl (Nat.le_of_ble_eq_true rfl) rfl h
-- Sen.isLike
theorem e_33 {σ : Sg} {d : Nat} {Q : QT} {μ : Mem} {a0 : Nat} {a1 : Nat} (h : wp σ (Call σ d) 33 Q 0 [some (.inr (.inr a0)), some (.inr (.inr a1)), none] [] μ) : Call σ (d + 1) 33 [.inr (.inr a0), .inr (.inr a1)] μ Q := Call_go rfl (Nat.le_of_ble_eq_true rfl) rfl h
-- Sta.hasSentence
theorem e_35 {σ : Sg} {d : Nat} {Q : QT} {μ : Mem} {a0 : Nat} {a1 : Int} (h : wp σ (Call σ d) 35 Q 0 [some (.inr (.inr a0)), some (.inl a1)] [] μ) : Call σ (d + 1) 35 [.inr (.inr a0), .inl a1] μ Q := Call_go rfl (Nat.le_of_ble_eq_true rfl) rfl h
-- Sta.hasNotice
theorem e_36 {σ : Sg} {d : Nat} {Q : QT} {μ : Mem} {a0 : Nat} {a1 : Int} (h : wp σ (Call σ d) 36 Q 0 [some (.inr (.inr a0)), some (.inl a1)] [] μ) : Call σ (d + 1) 36 [.inr (.inr a0), .inl a1] μ Q := Call_go rfl (Nat.le_of_ble_eq_true rfl) rfl h
-- Sta.hasListener
theorem e_37 {σ : Sg} {d : Nat} {Q : QT} {μ : Mem} {a0 : Nat} {a1 : Int} (h : wp σ (Call σ d) 37 Q 0 [some (.inr (.inr a0)), some (.inl a1)] [] μ) : Call σ (d + 1) 37 [.inr (.inr a0), .inl a1] μ Q := Call_go rfl (Nat.le_of_ble_eq_true rfl) rfl h
-- Sta.isRowFull
theorem e_38 {σ : Sg} {d : Nat} {Q : QT} {μ : Mem} {a0 : Nat} {a1 : Int} (h : wp σ (Call σ d) 38 Q 0 [some (.inr (.inr a0)), some (.inl a1)] [] μ) : Call σ (d + 1) 38 [.inr (.inr a0), .inl a1] μ Q := Call_go rfl (Nat.le_of_ble_eq_true rfl) rfl h
-- Sta.inRow
theorem e_39 {σ : Sg} {d : Nat} {Q : QT} {μ : Mem} {a0 : Nat} {a1 : Int} {a2 : Int} (h : wp σ (Call σ d) 39 Q 0 [some (.inr (.inr a0)), some (.inl a1), some (.inl a2)] [] μ) : Call σ (d + 1) 39 [.inr (.inr a0), .inl a1, .inl a2] μ Q := Call_go rfl (Nat.le_of_ble_eq_true rfl) rfl h
-- Sta.appendToRow
theorem e_40 {σ : Sg} {d : Nat} {Q : QT} {μ : Mem} {a0 : Nat} {a1 : Int} {a2 : Int} (h : wp σ (Call σ d) 40 Q 0 [some (.inr (.inr a0)), some (.inl a1), some (.inl a2)] [] μ) : Call σ (d + 1) 40 [.inr (.inr a0), .inl a1, .inl a2] μ Q := Call_go rfl (Nat.le_of_ble_eq_true rfl) rfl h
-- Sta.dropFromRow
theorem e_41 {σ : Sg} {d : Nat} {Q : QT} {μ : Mem} {a0 : Nat} {a1 : Int} (h : wp σ (Call σ d) 41 Q 0 [some (.inr (.inr a0)), some (.inl a1)] [] μ) : Call σ (d + 1) 41 [.inr (.inr a0), .inl a1] μ Q := Call_go rfl (Nat.le_of_ble_eq_true rfl) rfl h
-- Sta.isInRow
theorem e_42 {σ : Sg} {d : Nat} {Q : QT} {μ : Mem} {a0 : Nat} {a1 : Int} {a2 : Int} (h : wp σ (Call σ d) 42 Q 0 [some (.inr (.inr a0)), some (.inl a1), some (.inl a2), none] [] μ) : Call σ (d + 1) 42 [.inr (.inr a0), .inl a1, .inl a2] μ Q := Call_go rfl (Nat.le_of_ble_eq_true rfl) rfl h
-- Sta.countBreaksWith
theorem e_43 {σ : Sg} {d : Nat} {Q : QT} {μ : Mem} {a0 : Nat} {a1 : Int} (h : wp σ (Call σ d) 43 Q 0 [some (.inr (.inr a0)), some (.inl a1), none, none] [] μ) : Call σ (d + 1) 43 [.inr (.inr a0), .inl a1] μ Q := Call_go rfl (Nat.le_of_ble_eq_true rfl) rfl h
-- Sta.insertSentence
theorem e_44 {σ : Sg} {d : Nat} {Q : QT} {μ : Mem} {a0 : Nat} {a1 : Int} {a2 : Int} (h : wp σ (Call σ d) 44 Q 0 [some (.inr (.inr a0)), some (.inl a1), some (.inl a2), none] [] μ) : Call σ (d + 1) 44 [.inr (.inr a0), .inl a1, .inl a2] μ Q := Call_go rfl (Nat.le_of_ble_eq_true rfl) rfl h
-- Sta.removeSentence
theorem e_45 {σ : Sg} {d : Nat} {Q : QT} {μ : Mem} {a0 : Nat} {a1 : Int} (h : wp σ (Call σ d) 45 Q 0 [some (.inr (.inr a0)), some (.inl a1), none] [] μ) : Call σ (d + 1) 45 [.inr (.inr a0), .inl a1] μ Q := Call_go rfl (Nat.le_of_ble_eq_true rfl) rfl h
-- Sta.moveSentence
theorem e_46 {σ : Sg} {d : Nat} {Q : QT} {μ : Mem} {a0 : Nat} {a1 : Int} {a2 : Int} (h : wp σ (Call σ d) 46 Q 0 [some (.inr (.inr a0)), some (.inl a1), some (.inl a2)] [] μ) : Call σ (d + 1) 46 [.inr (.inr a0), .inl a1, .inl a2] μ Q := Call_go rfl (Nat.le_of_ble_eq_true rfl) rfl h
-- Sta.copyFrom
theorem e_47 {σ : Sg} {d : Nat} {Q : QT} {μ : Mem} {a0 : Nat} {a1 : Nat} (h : wp σ (Call σ d) 47 Q 0 [some (.inr (.inr a0)), some (.inr (.inr a1)), none] [] μ) : Call σ (d + 1) 47 [.inr (.inr a0), .inr (.inr a1)] μ Q := Call_go rfl (Nat.le_of_ble_eq_true rfl) rfl h
-- NS.putIn
theorem e_49 {σ : Sg} {d : Nat} {Q : QT} {μ : Mem} {a0 : Nat} {a1 : Int} {a2 : Int} (h : wp σ (Call σ d) 49 Q 0 [some (.inr (.inr a0)), some (.inl a1), some (.inl a2)] [] μ) : Call σ (d + 1) 49 [.inr (.inr a0), .inl a1, .inl a2] μ Q := Call_go rfl (Nat.le_of_ble_eq_true rfl) rfl h
-- NS.cutOut
theorem e_50 {σ : Sg} {d : Nat} {Q : QT} {μ : Mem} {a0 : Nat} {a1 : Int} (h : wp σ (Call σ d) 50 Q 0 [some (.inr (.inr a0)), some (.inl a1), none] [] μ) : Call σ (d + 1) 50 [.inr (.inr a0), .inl a1] μ Q := Call_go rfl (Nat.le_of_ble_eq_true rfl) rfl h
-- NS.change
theorem e_51 {σ : Sg} {d : Nat} {Q : QT} {μ : Mem} {a0 : Nat} {a1 : Int} {a2 : Int} (h : wp σ (Call σ d) 51 Q 0 [some (.inr (.inr a0)), some (.inl a1), some (.inl a2), none] [] μ) : Call σ (d + 1) 51 [.inr (.inr a0), .inl a1, .inl a2] μ Q := Call_go rfl (Nat.le_of_ble_eq_true rfl) rfl h
-- NS.chapter
theorem e_52 {σ : Sg} {d : Nat} {Q : QT} {μ : Mem} {a0 : Nat} {a1 : Int} {a2 : Int} (h : wp σ (Call σ d) 52 Q 0 [some (.inr (.inr a0)), some (.inl a1), some (.inl a2), none] [] μ) : Call σ (d + 1) 52 [.inr (.inr a0), .inl a1, .inl a2] μ Q := Call_go rfl (Nat.le_of_ble_eq_true rfl) rfl h
-- NS.notice
theorem e_53 {σ : Sg} {d : Nat} {Q : QT} {μ : Mem} {a0 : Nat} {a1 : Int} {a2 : Int} (h : wp σ (Call σ d) 53 Q 0 [some (.inr (.inr a0)), some (.inl a1), some (.inl a2), none] [] μ) : Call σ (d + 1) 53 [.inr (.inr a0), .inl a1, .inl a2] μ Q := Call_go rfl (Nat.le_of_ble_eq_true rfl) rfl h
-- NS.book
theorem e_54 {σ : Sg} {d : Nat} {Q : QT} {μ : Mem} {a0 : Nat} {a1 : Int} {a2 : Int} (h : wp σ (Call σ d) 54 Q 0 [some (.inr (.inr a0)), some (.inl a1), some (.inl a2)] [] μ) : Call σ (d + 1) 54 [.inr (.inr a0), .inl a1, .inl a2] μ Q := Call_go rfl (Nat.le_of_ble_eq_true rfl) rfl h
-- NS.empty
theorem e_55 {σ : Sg} {d : Nat} {Q : QT} {μ : Mem} {a0 : Nat} {a1 : Int} (h : wp σ (Call σ d) 55 Q 0 [some (.inr (.inr a0)), some (.inl a1), none] [] μ) : Call σ (d + 1) 55 [.inr (.inr a0), .inl a1] μ Q := Call_go rfl (Nat.le_of_ble_eq_true rfl) rfl h
-- NS.read
theorem e_56 {σ : Sg} {d : Nat} {Q : QT} {μ : Mem} {a0 : Nat} (h : wp σ (Call σ d) 56 Q 0 [some (.inr (.inr a0)), none] [] μ) : Call σ (d + 1) 56 [.inr (.inr a0)] μ Q := Call_go rfl (Nat.le_of_ble_eq_true rfl) rfl h
-- NS.listener
theorem e_57 {σ : Sg} {d : Nat} {Q : QT} {μ : Mem} {a0 : Nat} {a1 : Int} {a2 : Int} (h : wp σ (Call σ d) 57 Q 0 [some (.inr (.inr a0)), some (.inl a1), some (.inl a2), none] [] μ) : Call σ (d + 1) 57 [.inr (.inr a0), .inl a1, .inl a2] μ Q := Call_go rfl (Nat.le_of_ble_eq_true rfl) rfl h
-- NS.load
theorem e_58 {σ : Sg} {d : Nat} {Q : QT} {μ : Mem} {a0 : Nat} {a1 : Int} {a2 : Int} (h : wp σ (Call σ d) 58 Q 0 [some (.inr (.inr a0)), some (.inl a1), some (.inl a2)] [] μ) : Call σ (d + 1) 58 [.inr (.inr a0), .inl a1, .inl a2] μ Q := Call_go rfl (Nat.le_of_ble_eq_true rfl) rfl h
-- NS.sentence
theorem e_59 {σ : Sg} {d : Nat} {Q : QT} {μ : Mem} {a0 : Nat} {a1 : Int} {a2 : Int} (h : wp σ (Call σ d) 59 Q 0 [some (.inr (.inr a0)), some (.inl a1), some (.inl a2)] [] μ) : Call σ (d + 1) 59 [.inr (.inr a0), .inl a1, .inl a2] μ Q := Call_go rfl (Nat.le_of_ble_eq_true rfl) rfl h
-- NS.marked
theorem e_60 {σ : Sg} {d : Nat} {Q : QT} {μ : Mem} {a0 : Nat} {a1 : Int} (h : wp σ (Call σ d) 60 Q 0 [some (.inr (.inr a0)), some (.inl a1)] [] μ) : Call σ (d + 1) 60 [.inr (.inr a0), .inl a1] μ Q := Call_go rfl (Nat.le_of_ble_eq_true rfl) rfl h
-- NS.booked
theorem e_61 {σ : Sg} {d : Nat} {Q : QT} {μ : Mem} {a0 : Nat} {a1 : Int} {a2 : Int} (h : wp σ (Call σ d) 61 Q 0 [some (.inr (.inr a0)), some (.inl a1), some (.inl a2)] [] μ) : Call σ (d + 1) 61 [.inr (.inr a0), .inl a1, .inl a2] μ Q := Call_go rfl (Nat.le_of_ble_eq_true rfl) rfl h
-- NS.ofNotice
theorem e_62 {σ : Sg} {d : Nat} {Q : QT} {μ : Mem} {a0 : Nat} {a1 : Int} {a2 : Int} (h : wp σ (Call σ d) 62 Q 0 [some (.inr (.inr a0)), some (.inl a1), some (.inl a2)] [] μ) : Call σ (d + 1) 62 [.inr (.inr a0), .inl a1, .inl a2] μ Q := Call_go rfl (Nat.le_of_ble_eq_true rfl) rfl h
-- NS.of
theorem e_63 {σ : Sg} {d : Nat} {Q : QT} {μ : Mem} {a0 : Nat} {a1 : Int} {a2 : Int} (h : wp σ (Call σ d) 63 Q 0 [some (.inr (.inr a0)), some (.inl a1), some (.inl a2)] [] μ) : Call σ (d + 1) 63 [.inr (.inr a0), .inl a1, .inl a2] μ Q := Call_go rfl (Nat.le_of_ble_eq_true rfl) rfl h
-- NS.count
theorem e_64 {σ : Sg} {d : Nat} {Q : QT} {μ : Mem} {a0 : Nat} {a1 : Int} (h : wp σ (Call σ d) 64 Q 0 [some (.inr (.inr a0)), some (.inl a1)] [] μ) : Call σ (d + 1) 64 [.inr (.inr a0), .inl a1] μ Q := Call_go rfl (Nat.le_of_ble_eq_true rfl) rfl h
-- NS.heard
theorem e_65 {σ : Sg} {d : Nat} {Q : QT} {μ : Mem} {a0 : Nat} {a1 : Int} {a2 : Int} (h : wp σ (Call σ d) 65 Q 0 [some (.inr (.inr a0)), some (.inl a1), some (.inl a2), none] [] μ) : Call σ (d + 1) 65 [.inr (.inr a0), .inl a1, .inl a2] μ Q := Call_go rfl (Nat.le_of_ble_eq_true rfl) rfl h
-- NS.whenHeard
theorem e_66 {σ : Sg} {d : Nat} {Q : QT} {μ : Mem} {a0 : Nat} {a1 : Int} {a2 : Int} (h : wp σ (Call σ d) 66 Q 0 [some (.inr (.inr a0)), some (.inl a1), some (.inl a2), none, none] [] μ) : Call σ (d + 1) 66 [.inr (.inr a0), .inl a1, .inl a2] μ Q := Call_go rfl (Nat.le_of_ble_eq_true rfl) rfl h
-- NS.heardAt
theorem e_67 {σ : Sg} {d : Nat} {Q : QT} {μ : Mem} {a0 : Nat} {a1 : Int} {a2 : Int} {a3 : Int} (h : wp σ (Call σ d) 67 Q 0 [some (.inr (.inr a0)), some (.inl a1), some (.inl a2), some (.inl a3), none, none, none, none] [] μ) : Call σ (d + 1) 67 [.inr (.inr a0), .inl a1, .inl a2, .inl a3] μ Q := Call_go rfl (Nat.le_of_ble_eq_true rfl) rfl h
-- NS.chapterAt
theorem e_68 {σ : Sg} {d : Nat} {Q : QT} {μ : Mem} {a0 : Nat} {a1 : Int} {a2 : Int} (h : wp σ (Call σ d) 68 Q 0 [some (.inr (.inr a0)), some (.inl a1), some (.inl a2), none] [] μ) : Call σ (d + 1) 68 [.inr (.inr a0), .inl a1, .inl a2] μ Q := Call_go rfl (Nat.le_of_ble_eq_true rfl) rfl h
-- NS.open
theorem e_69 {σ : Sg} {d : Nat} {Q : QT} {μ : Mem} {a0 : Nat} {a1 : Int} {a2 : Int} {a3 : Int} (h : wp σ (Call σ d) 69 Q 0 [some (.inr (.inr a0)), some (.inl a1), some (.inl a2), some (.inl a3), none, none] [] μ) : Call σ (d + 1) 69 [.inr (.inr a0), .inl a1, .inl a2, .inl a3] μ Q := Call_go rfl (Nat.le_of_ble_eq_true rfl) rfl h
-- NS.wrongAt
theorem e_70 {σ : Sg} {d : Nat} {Q : QT} {μ : Mem} {a0 : Nat} {a1 : Int} {a2 : Int} {a3 : Int} (h : wp σ (Call σ d) 70 Q 0 [some (.inr (.inr a0)), some (.inl a1), some (.inl a2), some (.inl a3), none, none] [] μ) : Call σ (d + 1) 70 [.inr (.inr a0), .inl a1, .inl a2, .inl a3] μ Q := Call_go rfl (Nat.le_of_ble_eq_true rfl) rfl h
-- NS.ifBooked
theorem e_71 {σ : Sg} {d : Nat} {Q : QT} {μ : Mem} {a0 : Nat} {a1 : Int} {a2 : Int} (h : wp σ (Call σ d) 71 Q 0 [some (.inr (.inr a0)), some (.inl a1), some (.inl a2), none, none] [] μ) : Call σ (d + 1) 71 [.inr (.inr a0), .inl a1, .inl a2] μ Q := Call_go rfl (Nat.le_of_ble_eq_true rfl) rfl h
-- NS.bestBreak
theorem e_72 {σ : Sg} {d : Nat} {Q : QT} {μ : Mem} {a0 : Nat} {a1 : Int} {a2 : Int} (h : wp σ (Call σ d) 72 Q 0 [some (.inr (.inr a0)), some (.inl a1), some (.inl a2), none, none, none, none] [] μ) : Call σ (d + 1) 72 [.inr (.inr a0), .inl a1, .inl a2] μ Q := Call_go rfl (Nat.le_of_ble_eq_true rfl) rfl h
-- NS.enough
theorem e_73 {σ : Sg} {d : Nat} {Q : QT} {μ : Mem} {a0 : Nat} {a1 : Int} (h : wp σ (Call σ d) 73 Q 0 [some (.inr (.inr a0)), some (.inl a1), none, none, none] [] μ) : Call σ (d + 1) 73 [.inr (.inr a0), .inl a1] μ Q := Call_go rfl (Nat.le_of_ble_eq_true rfl) rfl h
-- NS.put
theorem e_74 {σ : Sg} {d : Nat} {Q : QT} {μ : Mem} {a0 : Nat} {a1 : Int64} (h : wp σ (Call σ d) 74 Q 0 [some (.inr (.inr a0)), some (.inr (.inl a1)), none, none] [] μ) : Call σ (d + 1) 74 [.inr (.inr a0), .inr (.inl a1)] μ Q := Call_go rfl (Nat.le_of_ble_eq_true rfl) rfl h
-- NS.wipe
theorem e_75 {σ : Sg} {d : Nat} {Q : QT} {μ : Mem} {a0 : Nat} (h : wp σ (Call σ d) 75 Q 0 [some (.inr (.inr a0)), none] [] μ) : Call σ (d + 1) 75 [.inr (.inr a0)] μ Q := Call_go rfl (Nat.le_of_ble_eq_true rfl) rfl h
-- NS.fault
theorem e_76 {σ : Sg} {d : Nat} {Q : QT} {μ : Mem} {a0 : Nat} (h : wp σ (Call σ d) 76 Q 0 [some (.inr (.inr a0))] [] μ) : Call σ (d + 1) 76 [.inr (.inr a0)] μ Q := Call_go rfl (Nat.le_of_ble_eq_true rfl) rfl h
-- NS.undo
theorem e_77 {σ : Sg} {d : Nat} {Q : QT} {μ : Mem} {a0 : Nat} (h : wp σ (Call σ d) 77 Q 0 [some (.inr (.inr a0))] [] μ) : Call σ (d + 1) 77 [.inr (.inr a0)] μ Q := Call_go rfl (Nat.le_of_ble_eq_true rfl) rfl h
-- NS.save
theorem e_78 {σ : Sg} {d : Nat} {Q : QT} {μ : Mem} {a0 : Nat} {a1 : Int} (h : wp σ (Call σ d) 78 Q 0 [some (.inr (.inr a0)), some (.inl a1)] [] μ) : Call σ (d + 1) 78 [.inr (.inr a0), .inl a1] μ Q := Call_go rfl (Nat.le_of_ble_eq_true rfl) rfl h
-- NS.restore
theorem e_79 {σ : Sg} {d : Nat} {Q : QT} {μ : Mem} {a0 : Nat} {a1 : Int} (h : wp σ (Call σ d) 79 Q 0 [some (.inr (.inr a0)), some (.inl a1)] [] μ) : Call σ (d + 1) 79 [.inr (.inr a0), .inl a1] μ Q := Call_go rfl (Nat.le_of_ble_eq_true rfl) rfl h
-- NS.isWithin
theorem e_80 {σ : Sg} {d : Nat} {Q : QT} {μ : Mem} {a0 : Int} {a1 : Int} {a2 : Int} (h : wp σ (Call σ d) 80 Q 0 [some (.inl a0), some (.inl a1), some (.inl a2)] [] μ) : Call σ (d + 1) 80 [.inl a0, .inl a1, .inl a2] μ Q := Call_go rfl (Nat.le_of_ble_eq_true rfl) rfl h
-- NS.asNumber
theorem e_81 {σ : Sg} {d : Nat} {Q : QT} {μ : Mem} {a0 : Int} (h : wp σ (Call σ d) 81 Q 0 [some (.inl a0)] [] μ) : Call σ (d + 1) 81 [.inl a0] μ Q := Call_go rfl (Nat.le_of_ble_eq_true rfl) rfl h
-- NS.takeRows
theorem e_82 {σ : Sg} {d : Nat} {Q : QT} {μ : Mem} {a0 : Nat} (h : wp σ (Call σ d) 82 Q 0 [some (.inr (.inr a0)), none, none, none] [] μ) : Call σ (d + 1) 82 [.inr (.inr a0)] μ Q := Call_go rfl (Nat.le_of_ble_eq_true rfl) rfl h
-- NS.hearingOf
theorem e_83 {σ : Sg} {d : Nat} {Q : QT} {μ : Mem} {a0 : Nat} {a1 : Int} (h : wp σ (Call σ d) 83 Q 0 [some (.inr (.inr a0)), some (.inl a1)] [] μ) : Call σ (d + 1) 83 [.inr (.inr a0), .inl a1] μ Q := Call_go rfl (Nat.le_of_ble_eq_true rfl) rfl h
-- NS.hearNow
theorem e_84 {σ : Sg} {d : Nat} {Q : QT} {μ : Mem} {a0 : Nat} {a1 : Int} {a2 : Nat} (h : wp σ (Call σ d) 84 Q 0 [some (.inr (.inr a0)), some (.inl a1), some (.inr (.inr a2)), none, none] [] μ) : Call σ (d + 1) 84 [.inr (.inr a0), .inl a1, .inr (.inr a2)] μ Q := Call_go rfl (Nat.le_of_ble_eq_true rfl) rfl h
-- NS.isOutOfDate
theorem e_85 {σ : Sg} {d : Nat} {Q : QT} {μ : Mem} {a0 : Nat} {a1 : Int} (h : wp σ (Call σ d) 85 Q 0 [some (.inr (.inr a0)), some (.inl a1)] [] μ) : Call σ (d + 1) 85 [.inr (.inr a0), .inl a1] μ Q := Call_go rfl (Nat.le_of_ble_eq_true rfl) rfl h
-- NS.outOfDateListeners
theorem e_86 {σ : Sg} {d : Nat} {Q : QT} {μ : Mem} {a0 : Nat} (h : wp σ (Call σ d) 86 Q 0 [some (.inr (.inr a0)), none, none] [] μ) : Call σ (d + 1) 86 [.inr (.inr a0)] μ Q := Call_go rfl (Nat.le_of_ble_eq_true rfl) rfl h
-- NS.longestListener
theorem e_87 {σ : Sg} {d : Nat} {Q : QT} {μ : Mem} {a0 : Nat} (h : wp σ (Call σ d) 87 Q 0 [some (.inr (.inr a0)), none, none, none, none] [] μ) : Call σ (d + 1) 87 [.inr (.inr a0)] μ Q := Call_go rfl (Nat.le_of_ble_eq_true rfl) rfl h
-- NS.momentNow
theorem e_88 {σ : Sg} {d : Nat} {Q : QT} {μ : Mem} {a0 : Nat} {a1 : Int} {a2 : Int} (h : wp σ (Call σ d) 88 Q 0 [some (.inr (.inr a0)), some (.inl a1), some (.inl a2), none, none, none] [] μ) : Call σ (d + 1) 88 [.inr (.inr a0), .inl a1, .inl a2] μ Q := Call_go rfl (Nat.le_of_ble_eq_true rfl) rfl h
-- NS.chooseAll
theorem e_89 {σ : Sg} {d : Nat} {Q : QT} {μ : Mem} {a0 : Nat} {a1 : Int} {a2 : Int} (h : wp σ (Call σ d) 89 Q 0 [some (.inr (.inr a0)), some (.inl a1), some (.inl a2), none] [] μ) : Call σ (d + 1) 89 [.inr (.inr a0), .inl a1, .inl a2] μ Q := Call_go rfl (Nat.le_of_ble_eq_true rfl) rfl h
-- NS.secondsOfAll
theorem e_90 {σ : Sg} {d : Nat} {Q : QT} {μ : Mem} {a0 : Nat} (h : wp σ (Call σ d) 90 Q 0 [some (.inr (.inr a0)), none, none] [] μ) : Call σ (d + 1) 90 [.inr (.inr a0)] μ Q := Call_go rfl (Nat.le_of_ble_eq_true rfl) rfl h
-- NS.countHearers
theorem e_91 {σ : Sg} {d : Nat} {Q : QT} {μ : Mem} {a0 : Nat} {a1 : Int} (h : wp σ (Call σ d) 91 Q 0 [some (.inr (.inr a0)), some (.inl a1), none, none] [] μ) : Call σ (d + 1) 91 [.inr (.inr a0), .inl a1] μ Q := Call_go rfl (Nat.le_of_ble_eq_true rfl) rfl h
-- NS.hearersIfBooked
theorem e_92 {σ : Sg} {d : Nat} {Q : QT} {μ : Mem} {a0 : Nat} {a1 : Int} {a2 : Int} (h : wp σ (Call σ d) 92 Q 0 [some (.inr (.inr a0)), some (.inl a1), some (.inl a2), none] [] μ) : Call σ (d + 1) 92 [.inr (.inr a0), .inl a1, .inl a2] μ Q := Call_go rfl (Nat.le_of_ble_eq_true rfl) rfl h
-- Mo.in
theorem e_94 {σ : Sg} {d : Nat} {Q : QT} {μ : Mem} {a0 : Int} {a1 : Int} {a2 : Int} (h : wp σ (Call σ d) 94 Q 0 [some (.inl a0), some (.inl a1), some (.inl a2)] [] μ) : Call σ (d + 1) 94 [.inl a0, .inl a1, .inl a2] μ Q := Call_go rfl (Nat.le_of_ble_eq_true rfl) rfl h
-- Mo.isSentence
theorem e_95 {σ : Sg} {d : Nat} {Q : QT} {μ : Mem} {a0 : Nat} {a1 : Int} (h : wp σ (Call σ d) 95 Q 0 [some (.inr (.inr a0)), some (.inl a1)] [] μ) : Call σ (d + 1) 95 [.inr (.inr a0), .inl a1] μ Q := Call_go rfl (Nat.le_of_ble_eq_true rfl) rfl h
-- Mo.isNotice
theorem e_96 {σ : Sg} {d : Nat} {Q : QT} {μ : Mem} {a0 : Nat} {a1 : Int} (h : wp σ (Call σ d) 96 Q 0 [some (.inr (.inr a0)), some (.inl a1)] [] μ) : Call σ (d + 1) 96 [.inr (.inr a0), .inl a1] μ Q := Call_go rfl (Nat.le_of_ble_eq_true rfl) rfl h
-- Mo.isListener
theorem e_97 {σ : Sg} {d : Nat} {Q : QT} {μ : Mem} {a0 : Nat} {a1 : Int} (h : wp σ (Call σ d) 97 Q 0 [some (.inr (.inr a0)), some (.inl a1)] [] μ) : Call σ (d + 1) 97 [.inr (.inr a0), .inl a1] μ Q := Call_go rfl (Nat.le_of_ble_eq_true rfl) rfl h
-- Mo.its
theorem e_98 {σ : Sg} {d : Nat} {Q : QT} {μ : Mem} {a0 : Nat} {a1 : Int} {a2 : Int} (h : wp σ (Call σ d) 98 Q 0 [some (.inr (.inr a0)), some (.inl a1), some (.inl a2)] [] μ) : Call σ (d + 1) 98 [.inr (.inr a0), .inl a1, .inl a2] μ Q := Call_go rfl (Nat.le_of_ble_eq_true rfl) rfl h
-- Mo.inBreak
theorem e_99 {σ : Sg} {d : Nat} {Q : QT} {μ : Mem} {a0 : Nat} {a1 : Int} (h : wp σ (Call σ d) 99 Q 0 [some (.inr (.inr a0)), some (.inl a1)] [] μ) : Call σ (d + 1) 99 [.inr (.inr a0), .inl a1] μ Q := Call_go rfl (Nat.le_of_ble_eq_true rfl) rfl h
-- Mo.inRow
theorem e_100 {σ : Sg} {d : Nat} {Q : QT} {μ : Mem} {a0 : Nat} {a1 : Int} {a2 : Int} (h : wp σ (Call σ d) 100 Q 0 [some (.inr (.inr a0)), some (.inl a1), some (.inl a2)] [] μ) : Call σ (d + 1) 100 [.inr (.inr a0), .inl a1, .inl a2] μ Q := Call_go rfl (Nat.le_of_ble_eq_true rfl) rfl h
-- Mo.lengthOf
theorem e_101 {σ : Sg} {d : Nat} {Q : QT} {μ : Mem} {a0 : Nat} {a1 : Int} (h : wp σ (Call σ d) 101 Q 0 [some (.inr (.inr a0)), some (.inl a1)] [] μ) : Call σ (d + 1) 101 [.inr (.inr a0), .inl a1] μ Q := Call_go rfl (Nat.le_of_ble_eq_true rfl) rfl h
-- Mo.groupsOf
theorem e_102 {σ : Sg} {d : Nat} {Q : QT} {μ : Mem} {a0 : Nat} {a1 : Int} (h : wp σ (Call σ d) 102 Q 0 [some (.inr (.inr a0)), some (.inl a1)] [] μ) : Call σ (d + 1) 102 [.inr (.inr a0), .inl a1] μ Q := Call_go rfl (Nat.le_of_ble_eq_true rfl) rfl h
-- Mo.groupOf
theorem e_103 {σ : Sg} {d : Nat} {Q : QT} {μ : Mem} {a0 : Nat} {a1 : Int} (h : wp σ (Call σ d) 103 Q 0 [some (.inr (.inr a0)), some (.inl a1)] [] μ) : Call σ (d + 1) 103 [.inr (.inr a0), .inl a1] μ Q := Call_go rfl (Nat.le_of_ble_eq_true rfl) rfl h
-- Mo.boundOf
theorem e_104 {σ : Sg} {d : Nat} {Q : QT} {μ : Mem} {a0 : Nat} {a1 : Int} (h : wp σ (Call σ d) 104 Q 0 [some (.inr (.inr a0)), some (.inl a1)] [] μ) : Call σ (d + 1) 104 [.inr (.inr a0), .inl a1] μ Q := Call_go rfl (Nat.le_of_ble_eq_true rfl) rfl h
-- Mo.hasFile
theorem e_105 {σ : Sg} {d : Nat} {Q : QT} {μ : Mem} {a0 : Nat} {a1 : Int} (h : wp σ (Call σ d) 105 Q 0 [some (.inr (.inr a0)), some (.inl a1)] [] μ) : Call σ (d + 1) 105 [.inr (.inr a0), .inl a1] μ Q := Call_go rfl (Nat.le_of_ble_eq_true rfl) rfl h
-- Mo.record
theorem e_106 {σ : Sg} {d : Nat} {Q : QT} {μ : Mem} {a0 : Nat} (h : wp σ (Call σ d) 106 Q 0 [some (.inr (.inr a0)), none] [] μ) : Call σ (d + 1) 106 [.inr (.inr a0)] μ Q := Call_go rfl (Nat.le_of_ble_eq_true rfl) rfl h
-- Mo.undo
theorem e_107 {σ : Sg} {d : Nat} {Q : QT} {μ : Mem} {a0 : Nat} (h : wp σ (Call σ d) 107 Q 0 [some (.inr (.inr a0)), none] [] μ) : Call σ (d + 1) 107 [.inr (.inr a0)] μ Q := Call_go rfl (Nat.le_of_ble_eq_true rfl) rfl h
-- Mo.save
theorem e_108 {σ : Sg} {d : Nat} {Q : QT} {μ : Mem} {a0 : Nat} {a1 : Int} (h : wp σ (Call σ d) 108 Q 0 [some (.inr (.inr a0)), some (.inl a1), none] [] μ) : Call σ (d + 1) 108 [.inr (.inr a0), .inl a1] μ Q := Call_go rfl (Nat.le_of_ble_eq_true rfl) rfl h
-- Mo.restore
theorem e_109 {σ : Sg} {d : Nat} {Q : QT} {μ : Mem} {a0 : Nat} {a1 : Int} (h : wp σ (Call σ d) 109 Q 0 [some (.inr (.inr a0)), some (.inl a1), none] [] μ) : Call σ (d + 1) 109 [.inr (.inr a0), .inl a1] μ Q := Call_go rfl (Nat.le_of_ble_eq_true rfl) rfl h
-- Mo.layWith
theorem e_110 {σ : Sg} {d : Nat} {Q : QT} {μ : Mem} {a0 : Nat} {a1 : Int} {a2 : Int} (h : wp σ (Call σ d) 110 Q 0 [some (.inr (.inr a0)), some (.inl a1), some (.inl a2), none, none, none, none, none, none, none] [] μ) : Call σ (d + 1) 110 [.inr (.inr a0), .inl a1, .inl a2] μ Q := Call_go rfl (Nat.le_of_ble_eq_true rfl) rfl h
-- Mo.layNow
theorem e_111 {σ : Sg} {d : Nat} {Q : QT} {μ : Mem} {a0 : Nat} {a1 : Int} (h : wp σ (Call σ d) 111 Q 0 [some (.inr (.inr a0)), some (.inl a1)] [] μ) : Call σ (d + 1) 111 [.inr (.inr a0), .inl a1] μ Q := Call_go rfl (Nat.le_of_ble_eq_true rfl) rfl h
-- Mo.lay
theorem e_112 {σ : Sg} {d : Nat} {Q : QT} {μ : Mem} {a0 : Nat} {a1 : Int} (h : wp σ (Call σ d) 112 Q 0 [some (.inr (.inr a0)), some (.inl a1), none] [] μ) : Call σ (d + 1) 112 [.inr (.inr a0), .inl a1] μ Q := Call_go rfl (Nat.le_of_ble_eq_true rfl) rfl h
-- Mo.isOld
theorem e_113 {σ : Sg} {d : Nat} {Q : QT} {μ : Mem} {a0 : Nat} {a1 : Int} (h : wp σ (Call σ d) 113 Q 0 [some (.inr (.inr a0)), some (.inl a1), none, none] [] μ) : Call σ (d + 1) 113 [.inr (.inr a0), .inl a1] μ Q := Call_go rfl (Nat.le_of_ble_eq_true rfl) rfl h
-- Mo.seconds
theorem e_114 {σ : Sg} {d : Nat} {Q : QT} {μ : Mem} {a0 : Nat} {a1 : Int} (h : wp σ (Call σ d) 114 Q 0 [some (.inr (.inr a0)), some (.inl a1), none, none] [] μ) : Call σ (d + 1) 114 [.inr (.inr a0), .inl a1] μ Q := Call_go rfl (Nat.le_of_ble_eq_true rfl) rfl h
-- Mo.notices
theorem e_115 {σ : Sg} {d : Nat} {Q : QT} {μ : Mem} {a0 : Nat} (h : wp σ (Call σ d) 115 Q 0 [some (.inr (.inr a0)), none, none] [] μ) : Call σ (d + 1) 115 [.inr (.inr a0)] μ Q := Call_go rfl (Nat.le_of_ble_eq_true rfl) rfl h
-- Mo.hasHeard
theorem e_116 {σ : Sg} {d : Nat} {Q : QT} {μ : Mem} {a0 : Nat} {a1 : Int} (h : wp σ (Call σ d) 116 Q 0 [some (.inr (.inr a0)), some (.inl a1), none, none] [] μ) : Call σ (d + 1) 116 [.inr (.inr a0), .inl a1] μ Q := Call_go rfl (Nat.le_of_ble_eq_true rfl) rfl h
-- Mo.exchange
theorem e_117 {σ : Sg} {d : Nat} {Q : QT} {μ : Mem} {a0 : Nat} {a1 : Int} {a2 : Int} (h : wp σ (Call σ d) 117 Q 0 [some (.inr (.inr a0)), some (.inl a1), some (.inl a2), none, none] [] μ) : Call σ (d + 1) 117 [.inr (.inr a0), .inl a1, .inl a2] μ Q := Call_go rfl (Nat.le_of_ble_eq_true rfl) rfl h
-- Mo.exchangeSentences
theorem e_118 {σ : Sg} {d : Nat} {Q : QT} {μ : Mem} {a0 : Nat} {a1 : Int} (h : wp σ (Call σ d) 118 Q 0 [some (.inr (.inr a0)), some (.inl a1)] [] μ) : Call σ (d + 1) 118 [.inr (.inr a0), .inl a1] μ Q := Call_go rfl (Nat.le_of_ble_eq_true rfl) rfl h
-- Mo.clearSentence
theorem e_119 {σ : Sg} {d : Nat} {Q : QT} {μ : Mem} {a0 : Nat} {a1 : Int} (h : wp σ (Call σ d) 119 Q 0 [some (.inr (.inr a0)), some (.inl a1), none] [] μ) : Call σ (d + 1) 119 [.inr (.inr a0), .inl a1] μ Q := Call_go rfl (Nat.le_of_ble_eq_true rfl) rfl h
-- Mo.putIn
theorem e_120 {σ : Sg} {d : Nat} {Q : QT} {μ : Mem} {a0 : Nat} {a1 : Int} {a2 : Int} (h : wp σ (Call σ d) 120 Q 0 [some (.inr (.inr a0)), some (.inl a1), some (.inl a2), none, none] [] μ) : Call σ (d + 1) 120 [.inr (.inr a0), .inl a1, .inl a2] μ Q := Call_go rfl (Nat.le_of_ble_eq_true rfl) rfl h
-- Mo.cutOut
theorem e_121 {σ : Sg} {d : Nat} {Q : QT} {μ : Mem} {a0 : Nat} {a1 : Int} (h : wp σ (Call σ d) 121 Q 0 [some (.inr (.inr a0)), some (.inl a1), none, none] [] μ) : Call σ (d + 1) 121 [.inr (.inr a0), .inl a1] μ Q := Call_go rfl (Nat.le_of_ble_eq_true rfl) rfl h
-- Mo.change
theorem e_122 {σ : Sg} {d : Nat} {Q : QT} {μ : Mem} {a0 : Nat} {a1 : Int} {a2 : Int} (h : wp σ (Call σ d) 122 Q 0 [some (.inr (.inr a0)), some (.inl a1), some (.inl a2), none] [] μ) : Call σ (d + 1) 122 [.inr (.inr a0), .inl a1, .inl a2] μ Q := Call_go rfl (Nat.le_of_ble_eq_true rfl) rfl h
-- Mo.chapters
theorem e_123 {σ : Sg} {d : Nat} {Q : QT} {μ : Mem} {a0 : Nat} (h : wp σ (Call σ d) 123 Q 0 [some (.inr (.inr a0)), none, none] [] μ) : Call σ (d + 1) 123 [.inr (.inr a0)] μ Q := Call_go rfl (Nat.le_of_ble_eq_true rfl) rfl h
-- Mo.chapter
theorem e_124 {σ : Sg} {d : Nat} {Q : QT} {μ : Mem} {a0 : Nat} {a1 : Int} {a2 : Int} (h : wp σ (Call σ d) 124 Q 0 [some (.inr (.inr a0)), some (.inl a1), some (.inl a2)] [] μ) : Call σ (d + 1) 124 [.inr (.inr a0), .inl a1, .inl a2] μ Q := Call_go rfl (Nat.le_of_ble_eq_true rfl) rfl h
-- Mo.notice
theorem e_125 {σ : Sg} {d : Nat} {Q : QT} {μ : Mem} {a0 : Nat} {a1 : Int} {a2 : Int} (h : wp σ (Call σ d) 125 Q 0 [some (.inr (.inr a0)), some (.inl a1), some (.inl a2)] [] μ) : Call σ (d + 1) 125 [.inr (.inr a0), .inl a1, .inl a2] μ Q := Call_go rfl (Nat.le_of_ble_eq_true rfl) rfl h
-- Mo.bookIt
theorem e_126 {σ : Sg} {d : Nat} {Q : QT} {μ : Mem} {a0 : Nat} {a1 : Int} {a2 : Int} (h : wp σ (Call σ d) 126 Q 0 [some (.inr (.inr a0)), some (.inl a1), some (.inl a2)] [] μ) : Call σ (d + 1) 126 [.inr (.inr a0), .inl a1, .inl a2] μ Q := Call_go rfl (Nat.le_of_ble_eq_true rfl) rfl h
-- Mo.unbookLast
theorem e_127 {σ : Sg} {d : Nat} {Q : QT} {μ : Mem} {a0 : Nat} {a1 : Int} (h : wp σ (Call σ d) 127 Q 0 [some (.inr (.inr a0)), some (.inl a1)] [] μ) : Call σ (d + 1) 127 [.inr (.inr a0), .inl a1] μ Q := Call_go rfl (Nat.le_of_ble_eq_true rfl) rfl h
-- Mo.whyNotBook
theorem e_128 {σ : Sg} {d : Nat} {Q : QT} {μ : Mem} {a0 : Nat} {a1 : Int} {a2 : Int} (h : wp σ (Call σ d) 128 Q 0 [some (.inr (.inr a0)), some (.inl a1), some (.inl a2)] [] μ) : Call σ (d + 1) 128 [.inr (.inr a0), .inl a1, .inl a2] μ Q := Call_go rfl (Nat.le_of_ble_eq_true rfl) rfl h
-- Mo.book
theorem e_129 {σ : Sg} {d : Nat} {Q : QT} {μ : Mem} {a0 : Nat} {a1 : Int} {a2 : Int} (h : wp σ (Call σ d) 129 Q 0 [some (.inr (.inr a0)), some (.inl a1), some (.inl a2), none] [] μ) : Call σ (d + 1) 129 [.inr (.inr a0), .inl a1, .inl a2] μ Q := Call_go rfl (Nat.le_of_ble_eq_true rfl) rfl h
-- Mo.emptyIt
theorem e_130 {σ : Sg} {d : Nat} {Q : QT} {μ : Mem} {a0 : Nat} {a1 : Int} (h : wp σ (Call σ d) 130 Q 0 [some (.inr (.inr a0)), some (.inl a1), none, none] [] μ) : Call σ (d + 1) 130 [.inr (.inr a0), .inl a1] μ Q := Call_go rfl (Nat.le_of_ble_eq_true rfl) rfl h
-- Mo.empty
theorem e_131 {σ : Sg} {d : Nat} {Q : QT} {μ : Mem} {a0 : Nat} {a1 : Int} (h : wp σ (Call σ d) 131 Q 0 [some (.inr (.inr a0)), some (.inl a1)] [] μ) : Call σ (d + 1) 131 [.inr (.inr a0), .inl a1] μ Q := Call_go rfl (Nat.le_of_ble_eq_true rfl) rfl h
-- Mo.listener
theorem e_132 {σ : Sg} {d : Nat} {Q : QT} {μ : Mem} {a0 : Nat} {a1 : Int} {a2 : Int} (h : wp σ (Call σ d) 132 Q 0 [some (.inr (.inr a0)), some (.inl a1), some (.inl a2), none] [] μ) : Call σ (d + 1) 132 [.inr (.inr a0), .inl a1, .inl a2] μ Q := Call_go rfl (Nat.le_of_ble_eq_true rfl) rfl h
-- Mo.load
theorem e_133 {σ : Sg} {d : Nat} {Q : QT} {μ : Mem} {a0 : Nat} {a1 : Int} {a2 : Int} (h : wp σ (Call σ d) 133 Q 0 [some (.inr (.inr a0)), some (.inl a1), some (.inl a2), none] [] μ) : Call σ (d + 1) 133 [.inr (.inr a0), .inl a1, .inl a2] μ Q := Call_go rfl (Nat.le_of_ble_eq_true rfl) rfl h
-- Mo.timeOf
theorem e_134 {σ : Sg} {d : Nat} {Q : QT} {μ : Mem} {a0 : Nat} {a1 : Int} (h : wp σ (Call σ d) 134 Q 0 [some (.inr (.inr a0)), some (.inl a1), none, none] [] μ) : Call σ (d + 1) 134 [.inr (.inr a0), .inl a1] μ Q := Call_go rfl (Nat.le_of_ble_eq_true rfl) rfl h
-- Mo.chapterOf
theorem e_135 {σ : Sg} {d : Nat} {Q : QT} {μ : Mem} {a0 : Nat} {a1 : Int} (h : wp σ (Call σ d) 135 Q 0 [some (.inr (.inr a0)), some (.inl a1), none, none] [] μ) : Call σ (d + 1) 135 [.inr (.inr a0), .inl a1] μ Q := Call_go rfl (Nat.le_of_ble_eq_true rfl) rfl h
-- Mo.sentence
theorem e_136 {σ : Sg} {d : Nat} {Q : QT} {μ : Mem} {a0 : Nat} {a1 : Int} {a2 : Int} (h : wp σ (Call σ d) 136 Q 0 [some (.inr (.inr a0)), some (.inl a1), some (.inl a2)] [] μ) : Call σ (d + 1) 136 [.inr (.inr a0), .inl a1, .inl a2] μ Q := Call_go rfl (Nat.le_of_ble_eq_true rfl) rfl h
-- Mo.marked
theorem e_137 {σ : Sg} {d : Nat} {Q : QT} {μ : Mem} {a0 : Nat} {a1 : Int} (h : wp σ (Call σ d) 137 Q 0 [some (.inr (.inr a0)), some (.inl a1), none] [] μ) : Call σ (d + 1) 137 [.inr (.inr a0), .inl a1] μ Q := Call_go rfl (Nat.le_of_ble_eq_true rfl) rfl h
-- Mo.booked
theorem e_138 {σ : Sg} {d : Nat} {Q : QT} {μ : Mem} {a0 : Nat} {a1 : Int} {a2 : Int} (h : wp σ (Call σ d) 138 Q 0 [some (.inr (.inr a0)), some (.inl a1), some (.inl a2)] [] μ) : Call σ (d + 1) 138 [.inr (.inr a0), .inl a1, .inl a2] μ Q := Call_go rfl (Nat.le_of_ble_eq_true rfl) rfl h
-- Mo.breaksWith
theorem e_139 {σ : Sg} {d : Nat} {Q : QT} {μ : Mem} {a0 : Nat} {a1 : Int} (h : wp σ (Call σ d) 139 Q 0 [some (.inr (.inr a0)), some (.inl a1), none, none, none, none] [] μ) : Call σ (d + 1) 139 [.inr (.inr a0), .inl a1] μ Q := Call_go rfl (Nat.le_of_ble_eq_true rfl) rfl h
-- Mo.hearers
theorem e_140 {σ : Sg} {d : Nat} {Q : QT} {μ : Mem} {a0 : Nat} {a1 : Int} (h : wp σ (Call σ d) 140 Q 0 [some (.inr (.inr a0)), some (.inl a1), none, none] [] μ) : Call σ (d + 1) 140 [.inr (.inr a0), .inl a1] μ Q := Call_go rfl (Nat.le_of_ble_eq_true rfl) rfl h
-- Mo.ofNotice
theorem e_141 {σ : Sg} {d : Nat} {Q : QT} {μ : Mem} {a0 : Nat} {a1 : Int} {a2 : Int} (h : wp σ (Call σ d) 141 Q 0 [some (.inr (.inr a0)), some (.inl a1), some (.inl a2)] [] μ) : Call σ (d + 1) 141 [.inr (.inr a0), .inl a1, .inl a2] μ Q := Call_go rfl (Nat.le_of_ble_eq_true rfl) rfl h
-- Mo.of
theorem e_142 {σ : Sg} {d : Nat} {Q : QT} {μ : Mem} {a0 : Nat} {a1 : Int} {a2 : Int} (h : wp σ (Call σ d) 142 Q 0 [some (.inr (.inr a0)), some (.inl a1), some (.inl a2)] [] μ) : Call σ (d + 1) 142 [.inr (.inr a0), .inl a1, .inl a2] μ Q := Call_go rfl (Nat.le_of_ble_eq_true rfl) rfl h
-- Mo.oldOnes
theorem e_143 {σ : Sg} {d : Nat} {Q : QT} {μ : Mem} {a0 : Nat} (h : wp σ (Call σ d) 143 Q 0 [some (.inr (.inr a0)), none, none] [] μ) : Call σ (d + 1) 143 [.inr (.inr a0)] μ Q := Call_go rfl (Nat.le_of_ble_eq_true rfl) rfl h
-- Mo.longest
theorem e_144 {σ : Sg} {d : Nat} {Q : QT} {μ : Mem} {a0 : Nat} (h : wp σ (Call σ d) 144 Q 0 [some (.inr (.inr a0)), none, none, none, none] [] μ) : Call σ (d + 1) 144 [.inr (.inr a0)] μ Q := Call_go rfl (Nat.le_of_ble_eq_true rfl) rfl h
-- Mo.count
theorem e_145 {σ : Sg} {d : Nat} {Q : QT} {μ : Mem} {a0 : Nat} {a1 : Int} (h : wp σ (Call σ d) 145 Q 0 [some (.inr (.inr a0)), some (.inl a1)] [] μ) : Call σ (d + 1) 145 [.inr (.inr a0), .inl a1] μ Q := Call_go rfl (Nat.le_of_ble_eq_true rfl) rfl h
-- Mo.heard
theorem e_146 {σ : Sg} {d : Nat} {Q : QT} {μ : Mem} {a0 : Nat} {a1 : Int} {a2 : Int} (h : wp σ (Call σ d) 146 Q 0 [some (.inr (.inr a0)), some (.inl a1), some (.inl a2)] [] μ) : Call σ (d + 1) 146 [.inr (.inr a0), .inl a1, .inl a2] μ Q := Call_go rfl (Nat.le_of_ble_eq_true rfl) rfl h
-- Mo.whenHeard
theorem e_147 {σ : Sg} {d : Nat} {Q : QT} {μ : Mem} {a0 : Nat} {a1 : Int} {a2 : Int} (h : wp σ (Call σ d) 147 Q 0 [some (.inr (.inr a0)), some (.inl a1), some (.inl a2), none, none, none] [] μ) : Call σ (d + 1) 147 [.inr (.inr a0), .inl a1, .inl a2] μ Q := Call_go rfl (Nat.le_of_ble_eq_true rfl) rfl h
-- Mo.find
theorem e_148 {σ : Sg} {d : Nat} {Q : QT} {μ : Mem} {a0 : Nat} {a1 : Int} (h : wp σ (Call σ d) 148 Q 0 [some (.inr (.inr a0)), some (.inl a1), none, none] [] μ) : Call σ (d + 1) 148 [.inr (.inr a0), .inl a1] μ Q := Call_go rfl (Nat.le_of_ble_eq_true rfl) rfl h
-- Mo.heardChapter
theorem e_149 {σ : Sg} {d : Nat} {Q : QT} {μ : Mem} {a0 : Nat} {a1 : Int} (h : wp σ (Call σ d) 149 Q 0 [some (.inr (.inr a0)), some (.inl a1), none, none] [] μ) : Call σ (d + 1) 149 [.inr (.inr a0), .inl a1] μ Q := Call_go rfl (Nat.le_of_ble_eq_true rfl) rfl h
-- Mo.heardAt
theorem e_150 {σ : Sg} {d : Nat} {Q : QT} {μ : Mem} {a0 : Nat} {a1 : Int} {a2 : Int} {a3 : Int} (h : wp σ (Call σ d) 150 Q 0 [some (.inr (.inr a0)), some (.inl a1), some (.inl a2), some (.inl a3)] [] μ) : Call σ (d + 1) 150 [.inr (.inr a0), .inl a1, .inl a2, .inl a3] μ Q := Call_go rfl (Nat.le_of_ble_eq_true rfl) rfl h
-- Mo.chapterAt
theorem e_151 {σ : Sg} {d : Nat} {Q : QT} {μ : Mem} {a0 : Nat} {a1 : Int} {a2 : Int} (h : wp σ (Call σ d) 151 Q 0 [some (.inr (.inr a0)), some (.inl a1), some (.inl a2), none, none, none] [] μ) : Call σ (d + 1) 151 [.inr (.inr a0), .inl a1, .inl a2] μ Q := Call_go rfl (Nat.le_of_ble_eq_true rfl) rfl h
-- Mo.open
theorem e_152 {σ : Sg} {d : Nat} {Q : QT} {μ : Mem} {a0 : Nat} {a1 : Int} {a2 : Int} {a3 : Int} (h : wp σ (Call σ d) 152 Q 0 [some (.inr (.inr a0)), some (.inl a1), some (.inl a2), some (.inl a3), none, none] [] μ) : Call σ (d + 1) 152 [.inr (.inr a0), .inl a1, .inl a2, .inl a3] μ Q := Call_go rfl (Nat.le_of_ble_eq_true rfl) rfl h
-- Mo.momentAt
theorem e_153 {σ : Sg} {d : Nat} {Q : QT} {μ : Mem} {a0 : Nat} {a1 : Int} {a2 : Int} (h : wp σ (Call σ d) 153 Q 0 [some (.inr (.inr a0)), some (.inl a1), some (.inl a2), none] [] μ) : Call σ (d + 1) 153 [.inr (.inr a0), .inl a1, .inl a2] μ Q := Call_go rfl (Nat.le_of_ble_eq_true rfl) rfl h
-- Mo.wrongAt
theorem e_154 {σ : Sg} {d : Nat} {Q : QT} {μ : Mem} {a0 : Nat} {a1 : Int} {a2 : Int} {a3 : Int} (h : wp σ (Call σ d) 154 Q 0 [some (.inr (.inr a0)), some (.inl a1), some (.inl a2), some (.inl a3), none, none] [] μ) : Call σ (d + 1) 154 [.inr (.inr a0), .inl a1, .inl a2, .inl a3] μ Q := Call_go rfl (Nat.le_of_ble_eq_true rfl) rfl h
-- Mo.allSeconds
theorem e_155 {σ : Sg} {d : Nat} {Q : QT} {μ : Mem} {a0 : Nat} (h : wp σ (Call σ d) 155 Q 0 [some (.inr (.inr a0)), none, none] [] μ) : Call σ (d + 1) 155 [.inr (.inr a0)] μ Q := Call_go rfl (Nat.le_of_ble_eq_true rfl) rfl h
-- Mo.ifBooked
theorem e_156 {σ : Sg} {d : Nat} {Q : QT} {μ : Mem} {a0 : Nat} {a1 : Int} {a2 : Int} (h : wp σ (Call σ d) 156 Q 0 [some (.inr (.inr a0)), some (.inl a1), some (.inl a2), none, none, none] [] μ) : Call σ (d + 1) 156 [.inr (.inr a0), .inl a1, .inl a2] μ Q := Call_go rfl (Nat.le_of_ble_eq_true rfl) rfl h
-- Mo.bestBreak
theorem e_157 {σ : Sg} {d : Nat} {Q : QT} {μ : Mem} {a0 : Nat} {a1 : Int} {a2 : Int} (h : wp σ (Call σ d) 157 Q 0 [some (.inr (.inr a0)), some (.inl a1), some (.inl a2), none, none, none, none] [] μ) : Call σ (d + 1) 157 [.inr (.inr a0), .inl a1, .inl a2] μ Q := Call_go rfl (Nat.le_of_ble_eq_true rfl) rfl h
-- Mo.enough
theorem e_158 {σ : Sg} {d : Nat} {Q : QT} {μ : Mem} {a0 : Nat} {a1 : Int} (h : wp σ (Call σ d) 158 Q 0 [some (.inr (.inr a0)), some (.inl a1), none, none] [] μ) : Call σ (d + 1) 158 [.inr (.inr a0), .inl a1] μ Q := Call_go rfl (Nat.le_of_ble_eq_true rfl) rfl h
-- Mo.put
theorem e_159 {σ : Sg} {d : Nat} {Q : QT} {μ : Mem} {a0 : Nat} {a1 : Int64} (h : wp σ (Call σ d) 159 Q 0 [some (.inr (.inr a0)), some (.inr (.inl a1)), none, none, none, none, none, none] [] μ) : Call σ (d + 1) 159 [.inr (.inr a0), .inr (.inl a1)] μ Q := Call_go rfl (Nat.le_of_ble_eq_true rfl) rfl h
-- Mo.wipe
theorem e_160 {σ : Sg} {d : Nat} {Q : QT} {μ : Mem} {a0 : Nat} (h : wp σ (Call σ d) 160 Q 0 [some (.inr (.inr a0)), none] [] μ) : Call σ (d + 1) 160 [.inr (.inr a0)] μ Q := Call_go rfl (Nat.le_of_ble_eq_true rfl) rfl h
-- Mo.stands
theorem e_161 {σ : Sg} {d : Nat} {Q : QT} {μ : Mem} {a0 : Nat} {a1 : Int} (h : wp σ (Call σ d) 161 Q 0 [some (.inr (.inr a0)), some (.inl a1), none, none, none] [] μ) : Call σ (d + 1) 161 [.inr (.inr a0), .inl a1] μ Q := Call_go rfl (Nat.le_of_ble_eq_true rfl) rfl h
-- Mo.readPad
theorem e_162 {σ : Sg} {d : Nat} {Q : QT} {μ : Mem} {a0 : Nat} (h : wp σ (Call σ d) 162 Q 0 [some (.inr (.inr a0)), none] [] μ) : Call σ (d + 1) 162 [.inr (.inr a0)] μ Q := Call_go rfl (Nat.le_of_ble_eq_true rfl) rfl h
-- Mo.fault
theorem e_163 {σ : Sg} {d : Nat} {Q : QT} {μ : Mem} {a0 : Nat} (h : wp σ (Call σ d) 163 Q 0 [some (.inr (.inr a0))] [] μ) : Call σ (d + 1) 163 [.inr (.inr a0)] μ Q := Call_go rfl (Nat.le_of_ble_eq_true rfl) rfl h
-- Mo.areRows
theorem e_164 {σ : Sg} {d : Nat} {Q : QT} {μ : Mem} {a0 : Nat} (h : wp σ (Call σ d) 164 Q 0 [some (.inr (.inr a0)), none, none, none] [] μ) : Call σ (d + 1) 164 [.inr (.inr a0)] μ Q := Call_go rfl (Nat.le_of_ble_eq_true rfl) rfl h
-- Mo.read
theorem e_165 {σ : Sg} {d : Nat} {Q : QT} {μ : Mem} {a0 : Nat} (h : wp σ (Call σ d) 165 Q 0 [some (.inr (.inr a0)), none, none] [] μ) : Call σ (d + 1) 165 [.inr (.inr a0)] μ Q := Call_go rfl (Nat.le_of_ble_eq_true rfl) rfl h
