-- Cho.begin
theorem e_1 {σ : Sg} {d : Nat} {Q : QT} {μ : Mem} {a0 : Nat} {a1 : Int} {a2 : Int} (h : wp σ (Call σ d) 1 Q 0 [some (.inr (.inr a0)), some (.inl a1), some (.inl a2)] [] μ) : Call σ (d + 1) 1 [.inr (.inr a0), .inl a1, .inl a2] μ Q := Call_go rfl (Nat.le_of_ble_eq_true rfl) rfl h
-- Cho.choose
theorem e_2 {σ : Sg} {d : Nat} {Q : QT} {μ : Mem} {a0 : Nat} {a1 : Nat} {a2 : Int} (h : wp σ (Call σ d) 2 Q 0 [some (.inr (.inr a0)), some (.inr (.inr a1)), some (.inl a2), none, none, none] [] μ) : Call σ (d + 1) 2 [.inr (.inr a0), .inr (.inr a1), .inl a2] μ Q := Call_go rfl (Nat.le_of_ble_eq_true rfl) rfl h
-- Cho.isFor
theorem e_3 {σ : Sg} {d : Nat} {Q : QT} {μ : Mem} {a0 : Nat} {a1 : Nat} {a2 : Int} (h : wp σ (Call σ d) 3 Q 0 [some (.inr (.inr a0)), some (.inr (.inr a1)), some (.inl a2), none, none] [] μ) : Call σ (d + 1) 3 [.inr (.inr a0), .inr (.inr a1), .inl a2] μ Q := Call_go rfl (Nat.le_of_ble_eq_true rfl) rfl h
-- Hea.breakTime
theorem e_5 {σ : Sg} {d : Nat} {Q : QT} {μ : Mem} {a0 : Nat} {a1 : Int} (h : wp σ (Call σ d) 5 Q 0 [some (.inr (.inr a0)), some (.inl a1), none, none] [] μ) : Call σ (d + 1) 5 [.inr (.inr a0), .inl a1] μ Q := Call_go rfl (Nat.le_of_ble_eq_true rfl) rfl h
-- Hea.sentenceTime
theorem e_6 {σ : Sg} {d : Nat} {Q : QT} {μ : Mem} {a0 : Nat} {a1 : Int} (h : wp σ (Call σ d) 6 Q 0 [some (.inr (.inr a0)), some (.inl a1)] [] μ) : Call σ (d + 1) 6 [.inr (.inr a0), .inl a1] μ Q := Call_go rfl (Nat.le_of_ble_eq_true rfl) rfl h
-- Hea.total
theorem e_7 {σ : Sg} {d : Nat} {Q : QT} {μ : Mem} {a0 : Nat} (h : wp σ (Call σ d) 7 Q 0 [some (.inr (.inr a0))] [] μ) : Call σ (d + 1) 7 [.inr (.inr a0)] μ Q := Call_go rfl (Nat.le_of_ble_eq_true rfl) rfl h
-- Hea.noticeSeconds
theorem e_8 {σ : Sg} {d : Nat} {Q : QT} {μ : Mem} {a0 : Nat} (h : wp σ (Call σ d) 8 Q 0 [some (.inr (.inr a0))] [] μ) : Call σ (d + 1) 8 [.inr (.inr a0)] μ Q := Call_go rfl (Nat.le_of_ble_eq_true rfl) rfl h
-- Hea.countNotices
theorem e_9 {σ : Sg} {d : Nat} {Q : QT} {μ : Mem} {a0 : Nat} (h : wp σ (Call σ d) 9 Q 0 [some (.inr (.inr a0)), none, none] [] μ) : Call σ (d + 1) 9 [.inr (.inr a0)] μ Q := Call_go rfl (Nat.le_of_ble_eq_true rfl) rfl h
-- Hea.placeHeardAt
theorem e_10 {σ : Sg} {d : Nat} {Q : QT} {μ : Mem} {a0 : Nat} {a1 : Int} (h : wp σ (Call σ d) 10 Q 0 [some (.inr (.inr a0)), some (.inl a1), none, none] [] μ) : Call σ (d + 1) 10 [.inr (.inr a0), .inl a1] μ Q := Call_go rfl (Nat.le_of_ble_eq_true rfl) rfl h
-- Hea.copyFrom
theorem e_11 {σ : Sg} {d : Nat} {Q : QT} {μ : Mem} {a0 : Nat} {a1 : Nat} (h : wp σ (Call σ d) 11 Q 0 [some (.inr (.inr a0)), some (.inr (.inr a1))] [] μ) : Call σ (d + 1) 11 [.inr (.inr a0), .inr (.inr a1)] μ Q := Call_go rfl (Nat.le_of_ble_eq_true rfl) rfl h
-- Hea.isLike
theorem e_12 {σ : Sg} {d : Nat} {Q : QT} {μ : Mem} {a0 : Nat} {a1 : Nat} (h : wp σ (Call σ d) 12 Q 0 [some (.inr (.inr a0)), some (.inr (.inr a1)), none] [] μ) : Call σ (d + 1) 12 [.inr (.inr a0), .inr (.inr a1)] μ Q := Call_go rfl (Nat.le_of_ble_eq_true rfl) rfl h
-- His.keep
theorem e_14 {σ : Sg} {d : Nat} {Q : QT} {μ : Mem} {a0 : Nat} {a1 : Nat} (h : wp σ (Call σ d) 14 Q 0 [some (.inr (.inr a0)), some (.inr (.inr a1))] [] μ) : Call σ (d + 1) 14 [.inr (.inr a0), .inr (.inr a1)] μ Q := Call_go rfl (Nat.le_of_ble_eq_true rfl) rfl h
-- Sen.timeOf
theorem e_17 {σ : Sg} {d : Nat} {Q : QT} {μ : Mem} {a0 : Nat} {a1 : Int} (h : wp σ (Call σ d) 17 Q 0 [some (.inr (.inr a0)), some (.inl a1), none, none] [] μ) : Call σ (d + 1) 17 [.inr (.inr a0), .inl a1] μ Q := Call_go rfl (Nat.le_of_ble_eq_true rfl) rfl h
-- Sen.total
theorem e_18 {σ : Sg} {d : Nat} {Q : QT} {μ : Mem} {a0 : Nat} (h : wp σ (Call σ d) 18 Q 0 [some (.inr (.inr a0))] [] μ) : Call σ (d + 1) 18 [.inr (.inr a0)] μ Q := Call_go rfl (Nat.le_of_ble_eq_true rfl) rfl h
-- Sen.placeAtTime
theorem e_19 {σ : Sg} {d : Nat} {Q : QT} {μ : Mem} {a0 : Nat} {a1 : Int} (h : wp σ (Call σ d) 19 Q 0 [some (.inr (.inr a0)), some (.inl a1), none, none] [] μ) : Call σ (d + 1) 19 [.inr (.inr a0), .inl a1] μ Q := Call_go rfl (Nat.le_of_ble_eq_true rfl) rfl h
-- Sen.placeOf
theorem e_20 {σ : Sg} {d : Nat} {Q : QT} {μ : Mem} {a0 : Nat} {a1 : Int} (h : wp σ (Call σ d) 20 Q 0 [some (.inr (.inr a0)), some (.inl a1), none] [] μ) : Call σ (d + 1) 20 [.inr (.inr a0), .inl a1] μ Q := Call_go rfl (Nat.le_of_ble_eq_true rfl) rfl h
-- Sen.chapterOf
theorem e_21 {σ : Sg} {d : Nat} {Q : QT} {μ : Mem} {a0 : Nat} {a1 : Int} (h : wp σ (Call σ d) 21 Q 0 [some (.inr (.inr a0)), some (.inl a1), none, none] [] μ) : Call σ (d + 1) 21 [.inr (.inr a0), .inl a1] μ Q := Call_go rfl (Nat.le_of_ble_eq_true rfl) rfl h
-- Sen.chapters
theorem e_22 {σ : Sg} {d : Nat} {Q : QT} {μ : Mem} {a0 : Nat} (h : wp σ (Call σ d) 22 Q 0 [some (.inr (.inr a0))] [] μ) : Call σ (d + 1) 22 [.inr (.inr a0)] μ Q := Call_go rfl (Nat.le_of_ble_eq_true rfl) rfl h
-- Sen.firstOfChapter
theorem e_23 {σ : Sg} {d : Nat} {Q : QT} {μ : Mem} {a0 : Nat} {a1 : Int} (h : wp σ (Call σ d) 23 Q 0 [some (.inr (.inr a0)), some (.inl a1), none, none] [] μ) : Call σ (d + 1) 23 [.inr (.inr a0), .inl a1] μ Q := Call_go rfl (Nat.le_of_ble_eq_true rfl) rfl h
-- Sen.copyFrom
theorem e_24 {σ : Sg} {d : Nat} {Q : QT} {μ : Mem} {a0 : Nat} {a1 : Nat} (h : wp σ (Call σ d) 24 Q 0 [some (.inr (.inr a0)), some (.inr (.inr a1))] [] μ) : Call σ (d + 1) 24 [.inr (.inr a0), .inr (.inr a1)] μ Q := Call_go rfl (Nat.le_of_ble_eq_true rfl) rfl h
-- Sen.isLike
theorem e_25 {σ : Sg} {d : Nat} {Q : QT} {μ : Mem} {a0 : Nat} {a1 : Nat} (h : wp σ (Call σ d) 25 Q 0 [some (.inr (.inr a0)), some (.inr (.inr a1)), none] [] μ) : Call σ (d + 1) 25 [.inr (.inr a0), .inr (.inr a1)] μ Q := Call_go rfl (Nat.le_of_ble_eq_true rfl) rfl h
-- Sta.hasSentence
theorem e_27 {σ : Sg} {d : Nat} {Q : QT} {μ : Mem} {a0 : Nat} {a1 : Int} (h : wp σ (Call σ d) 27 Q 0 [some (.inr (.inr a0)), some (.inl a1)] [] μ) : Call σ (d + 1) 27 [.inr (.inr a0), .inl a1] μ Q := Call_go rfl (Nat.le_of_ble_eq_true rfl) rfl h
-- Sta.hasNotice
theorem e_28 {σ : Sg} {d : Nat} {Q : QT} {μ : Mem} {a0 : Nat} {a1 : Int} (h : wp σ (Call σ d) 28 Q 0 [some (.inr (.inr a0)), some (.inl a1)] [] μ) : Call σ (d + 1) 28 [.inr (.inr a0), .inl a1] μ Q := Call_go rfl (Nat.le_of_ble_eq_true rfl) rfl h
-- Sta.hasListener
theorem e_29 {σ : Sg} {d : Nat} {Q : QT} {μ : Mem} {a0 : Nat} {a1 : Int} (h : wp σ (Call σ d) 29 Q 0 [some (.inr (.inr a0)), some (.inl a1)] [] μ) : Call σ (d + 1) 29 [.inr (.inr a0), .inl a1] μ Q := Call_go rfl (Nat.le_of_ble_eq_true rfl) rfl h
-- Sta.isRowFull
theorem e_30 {σ : Sg} {d : Nat} {Q : QT} {μ : Mem} {a0 : Nat} {a1 : Int} (h : wp σ (Call σ d) 30 Q 0 [some (.inr (.inr a0)), some (.inl a1)] [] μ) : Call σ (d + 1) 30 [.inr (.inr a0), .inl a1] μ Q := Call_go rfl (Nat.le_of_ble_eq_true rfl) rfl h
-- Sta.inRow
theorem e_31 {σ : Sg} {d : Nat} {Q : QT} {μ : Mem} {a0 : Nat} {a1 : Int} {a2 : Int} (h : wp σ (Call σ d) 31 Q 0 [some (.inr (.inr a0)), some (.inl a1), some (.inl a2)] [] μ) : Call σ (d + 1) 31 [.inr (.inr a0), .inl a1, .inl a2] μ Q := Call_go rfl (Nat.le_of_ble_eq_true rfl) rfl h
-- Sta.appendToRow
theorem e_32 {σ : Sg} {d : Nat} {Q : QT} {μ : Mem} {a0 : Nat} {a1 : Int} {a2 : Int} (h : wp σ (Call σ d) 32 Q 0 [some (.inr (.inr a0)), some (.inl a1), some (.inl a2)] [] μ) : Call σ (d + 1) 32 [.inr (.inr a0), .inl a1, .inl a2] μ Q := Call_go rfl (Nat.le_of_ble_eq_true rfl) rfl h
-- Sta.isInRow
theorem e_33 {σ : Sg} {d : Nat} {Q : QT} {μ : Mem} {a0 : Nat} {a1 : Int} {a2 : Int} (h : wp σ (Call σ d) 33 Q 0 [some (.inr (.inr a0)), some (.inl a1), some (.inl a2), none] [] μ) : Call σ (d + 1) 33 [.inr (.inr a0), .inl a1, .inl a2] μ Q := Call_go rfl (Nat.le_of_ble_eq_true rfl) rfl h
-- Sta.countBreaksWith
theorem e_34 {σ : Sg} {d : Nat} {Q : QT} {μ : Mem} {a0 : Nat} {a1 : Int} (h : wp σ (Call σ d) 34 Q 0 [some (.inr (.inr a0)), some (.inl a1), none, none] [] μ) : Call σ (d + 1) 34 [.inr (.inr a0), .inl a1] μ Q := Call_go rfl (Nat.le_of_ble_eq_true rfl) rfl h
-- Sta.insertSentence
theorem e_35 {σ : Sg} {d : Nat} {Q : QT} {μ : Mem} {a0 : Nat} {a1 : Int} {a2 : Int} (h : wp σ (Call σ d) 35 Q 0 [some (.inr (.inr a0)), some (.inl a1), some (.inl a2), none] [] μ) : Call σ (d + 1) 35 [.inr (.inr a0), .inl a1, .inl a2] μ Q := Call_go rfl (Nat.le_of_ble_eq_true rfl) rfl h
-- Sta.removeSentence
theorem e_36 {σ : Sg} {d : Nat} {Q : QT} {μ : Mem} {a0 : Nat} {a1 : Int} (h : wp σ (Call σ d) 36 Q 0 [some (.inr (.inr a0)), some (.inl a1), none] [] μ) : Call σ (d + 1) 36 [.inr (.inr a0), .inl a1] μ Q := Call_go rfl (Nat.le_of_ble_eq_true rfl) rfl h
-- Sta.moveSentence
theorem e_37 {σ : Sg} {d : Nat} {Q : QT} {μ : Mem} {a0 : Nat} {a1 : Int} {a2 : Int} (h : wp σ (Call σ d) 37 Q 0 [some (.inr (.inr a0)), some (.inl a1), some (.inl a2)] [] μ) : Call σ (d + 1) 37 [.inr (.inr a0), .inl a1, .inl a2] μ Q := Call_go rfl (Nat.le_of_ble_eq_true rfl) rfl h
-- Sta.copyFrom
theorem e_38 {σ : Sg} {d : Nat} {Q : QT} {μ : Mem} {a0 : Nat} {a1 : Nat} (h : wp σ (Call σ d) 38 Q 0 [some (.inr (.inr a0)), some (.inr (.inr a1)), none] [] μ) : Call σ (d + 1) 38 [.inr (.inr a0), .inr (.inr a1)] μ Q := Call_go rfl (Nat.le_of_ble_eq_true rfl) rfl h
-- NS.putIn
theorem e_40 {σ : Sg} {d : Nat} {Q : QT} {μ : Mem} {a0 : Nat} {a1 : Int} {a2 : Int} (h : wp σ (Call σ d) 40 Q 0 [some (.inr (.inr a0)), some (.inl a1), some (.inl a2)] [] μ) : Call σ (d + 1) 40 [.inr (.inr a0), .inl a1, .inl a2] μ Q := Call_go rfl (Nat.le_of_ble_eq_true rfl) rfl h
-- NS.cutOut
theorem e_41 {σ : Sg} {d : Nat} {Q : QT} {μ : Mem} {a0 : Nat} {a1 : Int} (h : wp σ (Call σ d) 41 Q 0 [some (.inr (.inr a0)), some (.inl a1), none] [] μ) : Call σ (d + 1) 41 [.inr (.inr a0), .inl a1] μ Q := Call_go rfl (Nat.le_of_ble_eq_true rfl) rfl h
-- NS.change
theorem e_42 {σ : Sg} {d : Nat} {Q : QT} {μ : Mem} {a0 : Nat} {a1 : Int} {a2 : Int} (h : wp σ (Call σ d) 42 Q 0 [some (.inr (.inr a0)), some (.inl a1), some (.inl a2), none] [] μ) : Call σ (d + 1) 42 [.inr (.inr a0), .inl a1, .inl a2] μ Q := Call_go rfl (Nat.le_of_ble_eq_true rfl) rfl h
-- NS.chapter
theorem e_43 {σ : Sg} {d : Nat} {Q : QT} {μ : Mem} {a0 : Nat} {a1 : Int} {a2 : Int} (h : wp σ (Call σ d) 43 Q 0 [some (.inr (.inr a0)), some (.inl a1), some (.inl a2), none] [] μ) : Call σ (d + 1) 43 [.inr (.inr a0), .inl a1, .inl a2] μ Q := Call_go rfl (Nat.le_of_ble_eq_true rfl) rfl h
-- NS.notice
theorem e_44 {σ : Sg} {d : Nat} {Q : QT} {μ : Mem} {a0 : Nat} {a1 : Int} {a2 : Int} (h : wp σ (Call σ d) 44 Q 0 [some (.inr (.inr a0)), some (.inl a1), some (.inl a2), none] [] μ) : Call σ (d + 1) 44 [.inr (.inr a0), .inl a1, .inl a2] μ Q := Call_go rfl (Nat.le_of_ble_eq_true rfl) rfl h
-- NS.book
theorem e_45 {σ : Sg} {d : Nat} {Q : QT} {μ : Mem} {a0 : Nat} {a1 : Int} {a2 : Int} (h : wp σ (Call σ d) 45 Q 0 [some (.inr (.inr a0)), some (.inl a1), some (.inl a2)] [] μ) : Call σ (d + 1) 45 [.inr (.inr a0), .inl a1, .inl a2] μ Q := Call_go rfl (Nat.le_of_ble_eq_true rfl) rfl h
-- NS.empty
theorem e_46 {σ : Sg} {d : Nat} {Q : QT} {μ : Mem} {a0 : Nat} {a1 : Int} (h : wp σ (Call σ d) 46 Q 0 [some (.inr (.inr a0)), some (.inl a1), none] [] μ) : Call σ (d + 1) 46 [.inr (.inr a0), .inl a1] μ Q := Call_go rfl (Nat.le_of_ble_eq_true rfl) rfl h
-- NS.listener
theorem e_47 {σ : Sg} {d : Nat} {Q : QT} {μ : Mem} {a0 : Nat} {a1 : Int} {a2 : Int} (h : wp σ (Call σ d) 47 Q 0 [some (.inr (.inr a0)), some (.inl a1), some (.inl a2), none] [] μ) : Call σ (d + 1) 47 [.inr (.inr a0), .inl a1, .inl a2] μ Q := Call_go rfl (Nat.le_of_ble_eq_true rfl) rfl h
-- NS.load
theorem e_48 {σ : Sg} {d : Nat} {Q : QT} {μ : Mem} {a0 : Nat} {a1 : Int} {a2 : Int} (h : wp σ (Call σ d) 48 Q 0 [some (.inr (.inr a0)), some (.inl a1), some (.inl a2)] [] μ) : Call σ (d + 1) 48 [.inr (.inr a0), .inl a1, .inl a2] μ Q := Call_go rfl (Nat.le_of_ble_eq_true rfl) rfl h
-- NS.sentence
theorem e_49 {σ : Sg} {d : Nat} {Q : QT} {μ : Mem} {a0 : Nat} {a1 : Int} {a2 : Int} (h : wp σ (Call σ d) 49 Q 0 [some (.inr (.inr a0)), some (.inl a1), some (.inl a2)] [] μ) : Call σ (d + 1) 49 [.inr (.inr a0), .inl a1, .inl a2] μ Q := Call_go rfl (Nat.le_of_ble_eq_true rfl) rfl h
-- NS.marked
theorem e_50 {σ : Sg} {d : Nat} {Q : QT} {μ : Mem} {a0 : Nat} {a1 : Int} (h : wp σ (Call σ d) 50 Q 0 [some (.inr (.inr a0)), some (.inl a1)] [] μ) : Call σ (d + 1) 50 [.inr (.inr a0), .inl a1] μ Q := Call_go rfl (Nat.le_of_ble_eq_true rfl) rfl h
-- NS.booked
theorem e_51 {σ : Sg} {d : Nat} {Q : QT} {μ : Mem} {a0 : Nat} {a1 : Int} {a2 : Int} (h : wp σ (Call σ d) 51 Q 0 [some (.inr (.inr a0)), some (.inl a1), some (.inl a2)] [] μ) : Call σ (d + 1) 51 [.inr (.inr a0), .inl a1, .inl a2] μ Q := Call_go rfl (Nat.le_of_ble_eq_true rfl) rfl h
-- NS.ofNotice
theorem e_52 {σ : Sg} {d : Nat} {Q : QT} {μ : Mem} {a0 : Nat} {a1 : Int} {a2 : Int} (h : wp σ (Call σ d) 52 Q 0 [some (.inr (.inr a0)), some (.inl a1), some (.inl a2)] [] μ) : Call σ (d + 1) 52 [.inr (.inr a0), .inl a1, .inl a2] μ Q := Call_go rfl (Nat.le_of_ble_eq_true rfl) rfl h
-- NS.of
theorem e_53 {σ : Sg} {d : Nat} {Q : QT} {μ : Mem} {a0 : Nat} {a1 : Int} {a2 : Int} (h : wp σ (Call σ d) 53 Q 0 [some (.inr (.inr a0)), some (.inl a1), some (.inl a2)] [] μ) : Call σ (d + 1) 53 [.inr (.inr a0), .inl a1, .inl a2] μ Q := Call_go rfl (Nat.le_of_ble_eq_true rfl) rfl h
-- NS.count
theorem e_54 {σ : Sg} {d : Nat} {Q : QT} {μ : Mem} {a0 : Nat} {a1 : Int} (h : wp σ (Call σ d) 54 Q 0 [some (.inr (.inr a0)), some (.inl a1)] [] μ) : Call σ (d + 1) 54 [.inr (.inr a0), .inl a1] μ Q := Call_go rfl (Nat.le_of_ble_eq_true rfl) rfl h
-- NS.heard
theorem e_55 {σ : Sg} {d : Nat} {Q : QT} {μ : Mem} {a0 : Nat} {a1 : Int} {a2 : Int} (h : wp σ (Call σ d) 55 Q 0 [some (.inr (.inr a0)), some (.inl a1), some (.inl a2), none] [] μ) : Call σ (d + 1) 55 [.inr (.inr a0), .inl a1, .inl a2] μ Q := Call_go rfl (Nat.le_of_ble_eq_true rfl) rfl h
-- NS.whenHeard
theorem e_56 {σ : Sg} {d : Nat} {Q : QT} {μ : Mem} {a0 : Nat} {a1 : Int} {a2 : Int} (h : wp σ (Call σ d) 56 Q 0 [some (.inr (.inr a0)), some (.inl a1), some (.inl a2), none, none] [] μ) : Call σ (d + 1) 56 [.inr (.inr a0), .inl a1, .inl a2] μ Q := Call_go rfl (Nat.le_of_ble_eq_true rfl) rfl h
-- NS.heardAt
theorem e_57 {σ : Sg} {d : Nat} {Q : QT} {μ : Mem} {a0 : Nat} {a1 : Int} {a2 : Int} {a3 : Int} (h : wp σ (Call σ d) 57 Q 0 [some (.inr (.inr a0)), some (.inl a1), some (.inl a2), some (.inl a3), none, none, none, none] [] μ) : Call σ (d + 1) 57 [.inr (.inr a0), .inl a1, .inl a2, .inl a3] μ Q := Call_go rfl (Nat.le_of_ble_eq_true rfl) rfl h
-- NS.chapterAt
theorem e_58 {σ : Sg} {d : Nat} {Q : QT} {μ : Mem} {a0 : Nat} {a1 : Int} {a2 : Int} (h : wp σ (Call σ d) 58 Q 0 [some (.inr (.inr a0)), some (.inl a1), some (.inl a2), none] [] μ) : Call σ (d + 1) 58 [.inr (.inr a0), .inl a1, .inl a2] μ Q := Call_go rfl (Nat.le_of_ble_eq_true rfl) rfl h
-- NS.open
theorem e_59 {σ : Sg} {d : Nat} {Q : QT} {μ : Mem} {a0 : Nat} {a1 : Int} {a2 : Int} {a3 : Int} (h : wp σ (Call σ d) 59 Q 0 [some (.inr (.inr a0)), some (.inl a1), some (.inl a2), some (.inl a3), none, none] [] μ) : Call σ (d + 1) 59 [.inr (.inr a0), .inl a1, .inl a2, .inl a3] μ Q := Call_go rfl (Nat.le_of_ble_eq_true rfl) rfl h
-- NS.enough
theorem e_60 {σ : Sg} {d : Nat} {Q : QT} {μ : Mem} {a0 : Nat} {a1 : Int} (h : wp σ (Call σ d) 60 Q 0 [some (.inr (.inr a0)), some (.inl a1), none, none, none] [] μ) : Call σ (d + 1) 60 [.inr (.inr a0), .inl a1] μ Q := Call_go rfl (Nat.le_of_ble_eq_true rfl) rfl h
-- NS.isWithin
theorem e_61 {σ : Sg} {d : Nat} {Q : QT} {μ : Mem} {a0 : Int} {a1 : Int} {a2 : Int} (h : wp σ (Call σ d) 61 Q 0 [some (.inl a0), some (.inl a1), some (.inl a2)] [] μ) : Call σ (d + 1) 61 [.inl a0, .inl a1, .inl a2] μ Q := Call_go rfl (Nat.le_of_ble_eq_true rfl) rfl h
-- NS.asNumber
theorem e_62 {σ : Sg} {d : Nat} {Q : QT} {μ : Mem} {a0 : Int} (h : wp σ (Call σ d) 62 Q 0 [some (.inl a0)] [] μ) : Call σ (d + 1) 62 [.inl a0] μ Q := Call_go rfl (Nat.le_of_ble_eq_true rfl) rfl h
-- NS.hearingOf
theorem e_63 {σ : Sg} {d : Nat} {Q : QT} {μ : Mem} {a0 : Nat} {a1 : Int} (h : wp σ (Call σ d) 63 Q 0 [some (.inr (.inr a0)), some (.inl a1)] [] μ) : Call σ (d + 1) 63 [.inr (.inr a0), .inl a1] μ Q := Call_go rfl (Nat.le_of_ble_eq_true rfl) rfl h
-- NS.hearNow
theorem e_64 {σ : Sg} {d : Nat} {Q : QT} {μ : Mem} {a0 : Nat} {a1 : Int} {a2 : Nat} (h : wp σ (Call σ d) 64 Q 0 [some (.inr (.inr a0)), some (.inl a1), some (.inr (.inr a2)), none, none] [] μ) : Call σ (d + 1) 64 [.inr (.inr a0), .inl a1, .inr (.inr a2)] μ Q := Call_go rfl (Nat.le_of_ble_eq_true rfl) rfl h
-- NS.isOutOfDate
theorem e_65 {σ : Sg} {d : Nat} {Q : QT} {μ : Mem} {a0 : Nat} {a1 : Int} (h : wp σ (Call σ d) 65 Q 0 [some (.inr (.inr a0)), some (.inl a1)] [] μ) : Call σ (d + 1) 65 [.inr (.inr a0), .inl a1] μ Q := Call_go rfl (Nat.le_of_ble_eq_true rfl) rfl h
-- NS.outOfDateListeners
theorem e_66 {σ : Sg} {d : Nat} {Q : QT} {μ : Mem} {a0 : Nat} (h : wp σ (Call σ d) 66 Q 0 [some (.inr (.inr a0)), none, none] [] μ) : Call σ (d + 1) 66 [.inr (.inr a0)] μ Q := Call_go rfl (Nat.le_of_ble_eq_true rfl) rfl h
-- NS.longestListener
theorem e_67 {σ : Sg} {d : Nat} {Q : QT} {μ : Mem} {a0 : Nat} (h : wp σ (Call σ d) 67 Q 0 [some (.inr (.inr a0)), none, none, none, none] [] μ) : Call σ (d + 1) 67 [.inr (.inr a0)] μ Q := Call_go rfl (Nat.le_of_ble_eq_true rfl) rfl h
-- NS.chooseAll
theorem e_68 {σ : Sg} {d : Nat} {Q : QT} {μ : Mem} {a0 : Nat} {a1 : Int} {a2 : Int} (h : wp σ (Call σ d) 68 Q 0 [some (.inr (.inr a0)), some (.inl a1), some (.inl a2), none] [] μ) : Call σ (d + 1) 68 [.inr (.inr a0), .inl a1, .inl a2] μ Q := Call_go rfl (Nat.le_of_ble_eq_true rfl) rfl h
-- NS.countHearers
theorem e_69 {σ : Sg} {d : Nat} {Q : QT} {μ : Mem} {a0 : Nat} {a1 : Int} (h : wp σ (Call σ d) 69 Q 0 [some (.inr (.inr a0)), some (.inl a1), none, none] [] μ) : Call σ (d + 1) 69 [.inr (.inr a0), .inl a1] μ Q := Call_go rfl (Nat.le_of_ble_eq_true rfl) rfl h
