-- NoticeShifts$Chooser.begin
def l1_0 : List Ent := [(0, .aload_n 0, 0, 0, 0, 0), (1, .iload_n 1, 0, 0, 0, 0), (2, .putfield 9, 0, 0, 0, 0), (5, .aload_n 0, 0, 0, 0, 0), (6, .iload_n 2, 0, 0, 0, 0), (7, .putfield 15, 0, 1, 0, 0), (10, .aload_n 0, 0, 0, 0, 0), (11, .iconst 0, 0, 0, 0, 0), (12, .putfield 18, 0, 2, 0, 0), (15, .aload_n 0, 0, 0, 0, 0), (16, .iconst 0, 0, 0, 0, 0), (17, .putfield 21, 0, 3, 0, 0), (20, .aload_n 0, 0, 0, 0, 0), (21, .iconst 0, 0, 0, 0, 0), (22, .putfield 24, 0, 4, 0, 0), (25, .aload_n 0, 0, 0, 0, 0), (26, .sipush 600, 0, 0, 0, 0), (29, .putfield 27, 0, 5, 0, 0), (32, .return_, 0, 0, 0, 0)]
def bk1 : List Blk := [(0, l1_0, 33)]
-- NoticeShifts$Chooser.choose
def l2_0 : List Ent := [(0, .iconst 0, 0, 0, 0, 0), (1, .istore_n 3, 0, 0, 0, 0)]
def l2_2 : List Ent := [(2, .iload_n 3, 0, 0, 0, 0), (3, .aload_n 1, 0, 0, 0, 0), (4, .getfield 30, 5, 1, 7, 0), (7, .iload_n 2, 0, 0, 0, 0), (8, .iaload, 0, 0, 0, 0), (9, .if_icmp .ge 98, 107, 0, 0, 0), (12, .aload_n 1, 0, 0, 0, 0), (13, .iload_n 2, 0, 0, 0, 0), (14, .iload_n 3, 0, 0, 0, 0), (15, .invokevirtual 36, 31, 3, 1, 5)]
def l2_18 : List Ent := [(18, .istore 4, 0, 0, 0, 0), (20, .aload_n 0, 0, 0, 0, 0), (21, .aload_n 1, 0, 0, 0, 0), (22, .iload 4, 0, 0, 0, 0), (24, .invokevirtual 40, 3, 3, 1, 0)]
def l2_27 : List Ent := [(27, .ifCond .ne 6, 33, 0, 0, 0), (30, .goto 71, 101, 0, 0, 0)]
def l2_33 : List Ent := [(33, .aload_n 0, 0, 0, 0, 0), (34, .getfield 24, 0, 4, 0, 0), (37, .aload_n 1, 0, 0, 0, 0), (38, .getfield 44, 5, 3, 9, 0), (41, .iload 4, 0, 0, 0, 0), (43, .iaload, 0, 0, 0, 0), (44, .iadd, 0, 0, 0, 0), (45, .istore 5, 0, 0, 0, 0), (47, .iload 5, 0, 0, 0, 0), (49, .aload_n 0, 0, 0, 0, 0), (50, .getfield 15, 0, 1, 0, 0), (53, .if_icmp .gt 35, 88, 0, 0, 0), (56, .aload_n 0, 0, 0, 0, 0), (57, .dup, 0, 0, 0, 0), (58, .getfield 18, 0, 2, 0, 0), (61, .iconst 1, 0, 0, 0, 0), (62, .iadd, 0, 0, 0, 0), (63, .putfield 18, 0, 2, 0, 0), (66, .aload_n 0, 0, 0, 0, 0), (67, .dup, 0, 0, 0, 0), (68, .getfield 21, 0, 3, 0, 0), (71, .iconst 1, 0, 0, 0, 0), (72, .iload 4, 0, 0, 0, 0), (74, .ishl, 0, 0, 0, 0), (75, .ior, 0, 0, 0, 0), (76, .putfield 21, 0, 3, 0, 0), (79, .aload_n 0, 0, 0, 0, 0), (80, .iload 5, 0, 0, 0, 0), (82, .putfield 24, 0, 4, 0, 0), (85, .iload 4, 0, 0, 0, 0), (87, .ireturn, 0, 0, 0, 0)]
def l2_88 : List Ent := [(88, .aload_n 0, 0, 0, 0, 0), (89, .aload_n 0, 0, 0, 0, 0), (90, .getfield 27, 0, 5, 0, 0), (93, .iload 5, 0, 0, 0, 0), (95, .invokestatic 47, 0, 0, 10, 0), (98, .putfield 27, 0, 5, 0, 0)]
def l2_101 : List Ent := [(101, .iinc 3 1, 0, 0, 0, 0), (104, .goto (-102), 2, 0, 0, 0)]
def l2_107 : List Ent := [(107, .bipush (-6), 0, 0, 0, 0), (109, .ireturn, 0, 0, 0, 0)]
def bk2 : List Blk := [(0, l2_0, 2), (2, l2_2, 18), (18, l2_18, 27), (27, l2_27, 33), (33, l2_33, 88), (88, l2_88, 101), (101, l2_101, 107), (107, l2_107, 110)]
-- NoticeShifts$Chooser.isFor
def l3_0 : List Ent := [(0, .aload_n 1, 0, 0, 0, 0), (1, .getfield 52, 5, 4, 10, 0), (4, .iload_n 2, 0, 0, 0, 0), (5, .iaload, 0, 0, 0, 0), (6, .aload_n 0, 0, 0, 0, 0), (7, .getfield 9, 0, 0, 0, 0), (10, .ishr, 0, 0, 0, 0), (11, .iconst 1, 0, 0, 0, 0), (12, .iand, 0, 0, 0, 0), (13, .iconst 1, 0, 0, 0, 0), (14, .if_icmp .ne 7, 21, 0, 0, 0), (17, .iconst 1, 0, 0, 0, 0), (18, .goto 4, 22, 0, 0, 0)]
def l3_21 : List Ent := [(21, .iconst 0, 0, 0, 0, 0)]
def l3_22 : List Ent := [(22, .istore_n 3, 0, 0, 0, 0), (23, .aload_n 0, 0, 0, 0, 0), (24, .getfield 21, 0, 3, 0, 0), (27, .iload_n 2, 0, 0, 0, 0), (28, .ishr, 0, 0, 0, 0), (29, .iconst 1, 0, 0, 0, 0), (30, .iand, 0, 0, 0, 0), (31, .iconst 1, 0, 0, 0, 0), (32, .if_icmp .ne 7, 39, 0, 0, 0), (35, .iconst 1, 0, 0, 0, 0), (36, .goto 4, 40, 0, 0, 0)]
def l3_39 : List Ent := [(39, .iconst 0, 0, 0, 0, 0)]
def l3_40 : List Ent := [(40, .istore 4, 0, 0, 0, 0), (42, .iload_n 3, 0, 0, 0, 0), (43, .ifCond .eq 12, 55, 0, 0, 0), (46, .iload 4, 0, 0, 0, 0), (48, .ifCond .ne 7, 55, 0, 0, 0), (51, .iconst 1, 0, 0, 0, 0), (52, .goto 4, 56, 0, 0, 0)]
def l3_55 : List Ent := [(55, .iconst 0, 0, 0, 0, 0)]
def l3_56 : List Ent := [(56, .ireturn, 1, 0, 0, 0)]
def bk3 : List Blk := [(0, l3_0, 21), (21, l3_21, 22), (22, l3_22, 39), (39, l3_39, 40), (40, l3_40, 55), (55, l3_55, 56), (56, l3_56, 57)]
-- NoticeShifts$Hearing.breakTime
def l5_0 : List Ent := [(0, .aload_n 0, 0, 0, 0, 0), (1, .getfield 12, 1, 0, 3, 0), (4, .iload_n 1, 0, 0, 0, 0), (5, .invokevirtual 25, 17, 2, 1, 4)]
def l5_8 : List Ent := [(8, .istore_n 2, 0, 0, 0, 0), (9, .iconst 0, 0, 0, 0, 0), (10, .istore_n 3, 0, 0, 0, 0)]
def l5_11 : List Ent := [(11, .iload_n 3, 0, 0, 0, 0), (12, .iload_n 1, 0, 0, 0, 0), (13, .if_icmp .ge 18, 31, 0, 0, 0), (16, .iload_n 2, 0, 0, 0, 0), (17, .aload_n 0, 0, 0, 0, 0), (18, .getfield 22, 1, 2, 8, 0), (21, .iload_n 3, 0, 0, 0, 0), (22, .iaload, 0, 0, 0, 0), (23, .iadd, 0, 0, 0, 0), (24, .istore_n 2, 0, 0, 0, 0), (25, .iinc 3 1, 0, 0, 0, 0), (28, .goto (-17), 11, 0, 0, 0)]
def l5_31 : List Ent := [(31, .iload_n 2, 0, 0, 0, 0), (32, .ireturn, 0, 0, 0, 0)]
def bk5 : List Blk := [(0, l5_0, 8), (8, l5_8, 11), (11, l5_11, 31), (31, l5_31, 33)]
-- NoticeShifts$Hearing.sentenceTime
def l6_0 : List Ent := [(0, .aload_n 0, 0, 0, 0, 0), (1, .iload_n 1, 0, 0, 0, 0), (2, .invokevirtual 29, 5, 2, 1, 1)]
def l6_5 : List Ent := [(5, .aload_n 0, 0, 0, 0, 0), (6, .getfield 22, 1, 2, 8, 0), (9, .iload_n 1, 0, 0, 0, 0), (10, .iaload, 0, 0, 0, 0), (11, .iadd, 0, 0, 0, 0), (12, .ireturn, 0, 0, 0, 0)]
def bk6 : List Blk := [(0, l6_0, 5), (5, l6_5, 13)]
-- NoticeShifts$Hearing.total
def l7_0 : List Ent := [(0, .aload_n 0, 0, 0, 0, 0), (1, .aload_n 0, 0, 0, 0, 0), (2, .getfield 12, 1, 0, 3, 0), (5, .getfield 32, 4, 3, 0, 0), (8, .invokevirtual 29, 5, 2, 1, 1)]
def l7_11 : List Ent := [(11, .ireturn, 0, 0, 0, 0)]
def bk7 : List Blk := [(0, l7_0, 11), (11, l7_11, 12)]
-- NoticeShifts$Hearing.noticeSeconds
def l8_0 : List Ent := [(0, .aload_n 0, 0, 0, 0, 0), (1, .invokevirtual 36, 7, 1, 1, 1)]
def l8_4 : List Ent := [(4, .aload_n 0, 0, 0, 0, 0), (5, .getfield 12, 1, 0, 3, 0), (8, .invokevirtual 40, 18, 1, 1, 4)]
def l8_11 : List Ent := [(11, .isub, 0, 0, 0, 0), (12, .ireturn, 0, 0, 0, 0)]
def bk8 : List Blk := [(0, l8_0, 4), (4, l8_4, 11), (11, l8_11, 13)]
-- NoticeShifts$Hearing.countNotices
def l9_0 : List Ent := [(0, .iconst 0, 0, 0, 0, 0), (1, .istore_n 1, 0, 0, 0, 0), (2, .iconst 0, 0, 0, 0, 0), (3, .istore_n 2, 0, 0, 0, 0)]
def l9_4 : List Ent := [(4, .iload_n 2, 0, 0, 0, 0), (5, .aload_n 0, 0, 0, 0, 0), (6, .getfield 12, 1, 0, 3, 0), (9, .getfield 32, 4, 3, 0, 0), (12, .if_icmp .ge 31, 43, 0, 0, 0), (15, .iload_n 1, 0, 0, 0, 0), (16, .aload_n 0, 0, 0, 0, 0), (17, .getfield 18, 1, 1, 7, 0), (20, .iload_n 2, 0, 0, 0, 0), (21, .iaload, 0, 0, 0, 0), (22, .bipush (-6), 0, 0, 0, 0), (24, .if_icmp .eq 7, 31, 0, 0, 0), (27, .iconst 1, 0, 0, 0, 0), (28, .goto 4, 32, 0, 0, 0)]
def l9_31 : List Ent := [(31, .iconst 0, 0, 0, 0, 0)]
def l9_32 : List Ent := [(32, .invokestatic 41, 62, 1, 2, 0)]
def l9_35 : List Ent := [(35, .iadd, 0, 0, 0, 0), (36, .istore_n 1, 0, 0, 0, 0), (37, .iinc 2 1, 0, 0, 0, 0), (40, .goto (-36), 4, 0, 0, 0)]
def l9_43 : List Ent := [(43, .iload_n 1, 0, 0, 0, 0), (44, .ireturn, 0, 0, 0, 0)]
def bk9 : List Blk := [(0, l9_0, 4), (4, l9_4, 31), (31, l9_31, 32), (32, l9_32, 35), (35, l9_35, 43), (43, l9_43, 45)]
-- NoticeShifts$Hearing.placeHeardAt
def l10_0 : List Ent := [(0, .iconst 0, 0, 0, 0, 0), (1, .istore_n 2, 0, 0, 0, 0), (2, .iconst 0, 0, 0, 0, 0), (3, .istore_n 3, 0, 0, 0, 0)]
def l10_4 : List Ent := [(4, .iload_n 3, 0, 0, 0, 0), (5, .aload_n 0, 0, 0, 0, 0), (6, .getfield 12, 1, 0, 3, 0), (9, .getfield 32, 4, 3, 0, 0), (12, .if_icmp .ge 35, 47, 0, 0, 0), (15, .iload_n 2, 0, 0, 0, 0), (16, .aload_n 0, 0, 0, 0, 0), (17, .getfield 22, 1, 2, 8, 0), (20, .iload_n 3, 0, 0, 0, 0), (21, .iaload, 0, 0, 0, 0), (22, .aload_n 0, 0, 0, 0, 0), (23, .getfield 12, 1, 0, 3, 0), (26, .getfield 45, 4, 1, 4, 0), (29, .iload_n 3, 0, 0, 0, 0), (30, .iaload, 0, 0, 0, 0), (31, .iadd, 0, 0, 0, 0), (32, .iadd, 0, 0, 0, 0), (33, .istore_n 2, 0, 0, 0, 0), (34, .iload_n 1, 0, 0, 0, 0), (35, .iload_n 2, 0, 0, 0, 0), (36, .if_icmp .ge 5, 41, 0, 0, 0), (39, .iload_n 3, 0, 0, 0, 0), (40, .ireturn, 0, 0, 0, 0)]
def l10_41 : List Ent := [(41, .iinc 3 1, 0, 0, 0, 0), (44, .goto (-40), 4, 0, 0, 0)]
def l10_47 : List Ent := [(47, .bipush (-6), 0, 0, 0, 0), (49, .ireturn, 0, 0, 0, 0)]
def bk10 : List Blk := [(0, l10_0, 4), (4, l10_4, 41), (41, l10_41, 47), (47, l10_47, 50)]
-- NoticeShifts$Hearing.copyFrom
def l11_0 : List Ent := [(0, .aload_n 0, 0, 0, 0, 0), (1, .getfield 12, 1, 0, 3, 0), (4, .aload_n 1, 0, 0, 0, 0), (5, .getfield 12, 1, 0, 3, 0), (8, .invokevirtual 48, 24, 2, 0, 4)]
def l11_11 : List Ent := [(11, .aload_n 1, 0, 0, 0, 0), (12, .getfield 18, 1, 1, 7, 0), (15, .iconst 0, 0, 0, 0, 0), (16, .aload_n 0, 0, 0, 0, 0), (17, .getfield 18, 1, 1, 7, 0), (20, .iconst 0, 0, 0, 0, 0), (21, .aload_n 0, 0, 0, 0, 0), (22, .getfield 12, 1, 0, 3, 0), (25, .getfield 32, 4, 3, 0, 0), (28, .invokestatic 52, 0, 0, 13, 0), (31, .aload_n 1, 0, 0, 0, 0), (32, .getfield 22, 1, 2, 8, 0), (35, .iconst 0, 0, 0, 0, 0), (36, .aload_n 0, 0, 0, 0, 0), (37, .getfield 22, 1, 2, 8, 0), (40, .iconst 0, 0, 0, 0, 0), (41, .aload_n 0, 0, 0, 0, 0), (42, .getfield 12, 1, 0, 3, 0), (45, .getfield 32, 4, 3, 0, 0), (48, .invokestatic 52, 0, 0, 13, 0), (51, .return_, 0, 0, 0, 0)]
def bk11 : List Blk := [(0, l11_0, 11), (11, l11_11, 52)]
-- NoticeShifts$Hearing.isLike
def l12_0 : List Ent := [(0, .aload_n 0, 0, 0, 0, 0), (1, .getfield 12, 1, 0, 3, 0), (4, .aload_n 1, 0, 0, 0, 0), (5, .getfield 12, 1, 0, 3, 0), (8, .invokevirtual 58, 25, 2, 1, 4)]
def l12_11 : List Ent := [(11, .ifCond .ne 5, 16, 0, 0, 0), (14, .iconst 0, 0, 0, 0, 0), (15, .ireturn, 1, 0, 0, 0)]
def l12_16 : List Ent := [(16, .iconst 0, 0, 0, 0, 0), (17, .istore_n 2, 0, 0, 0, 0)]
def l12_18 : List Ent := [(18, .iload_n 2, 0, 0, 0, 0), (19, .aload_n 0, 0, 0, 0, 0), (20, .getfield 12, 1, 0, 3, 0), (23, .getfield 32, 4, 3, 0, 0), (26, .if_icmp .ge 41, 67, 0, 0, 0), (29, .aload_n 0, 0, 0, 0, 0), (30, .getfield 18, 1, 1, 7, 0), (33, .iload_n 2, 0, 0, 0, 0), (34, .iaload, 0, 0, 0, 0), (35, .aload_n 1, 0, 0, 0, 0), (36, .getfield 18, 1, 1, 7, 0), (39, .iload_n 2, 0, 0, 0, 0), (40, .iaload, 0, 0, 0, 0), (41, .if_icmp .ne 18, 59, 0, 0, 0), (44, .aload_n 0, 0, 0, 0, 0), (45, .getfield 22, 1, 2, 8, 0), (48, .iload_n 2, 0, 0, 0, 0), (49, .iaload, 0, 0, 0, 0), (50, .aload_n 1, 0, 0, 0, 0), (51, .getfield 22, 1, 2, 8, 0), (54, .iload_n 2, 0, 0, 0, 0), (55, .iaload, 0, 0, 0, 0), (56, .if_icmp .eq 5, 61, 0, 0, 0)]
def l12_59 : List Ent := [(59, .iconst 0, 0, 0, 0, 0), (60, .ireturn, 1, 0, 0, 0)]
def l12_61 : List Ent := [(61, .iinc 2 1, 0, 0, 0, 0), (64, .goto (-46), 18, 0, 0, 0)]
def l12_67 : List Ent := [(67, .iconst 1, 0, 0, 0, 0), (68, .ireturn, 1, 0, 0, 0)]
def bk12 : List Blk := [(0, l12_0, 11), (11, l12_11, 16), (16, l12_16, 18), (18, l12_18, 59), (59, l12_59, 61), (61, l12_61, 67), (67, l12_67, 69)]
-- NoticeShifts$History.keep
def l14_0 : List Ent := [(0, .aload_n 0, 0, 0, 0, 0), (1, .getfield 11, 2, 0, 3, 0), (4, .aload_n 0, 0, 0, 0, 0), (5, .getfield 18, 2, 1, 0, 0), (8, .aaload, 104, 1, 55, 0), (9, .aload_n 1, 0, 0, 0, 0), (10, .invokevirtual 22, 38, 2, 0, 5)]
def l14_13 : List Ent := [(13, .aload_n 0, 0, 0, 0, 0), (14, .aload_n 0, 0, 0, 0, 0), (15, .getfield 18, 2, 1, 0, 0), (18, .iconst 5, 0, 0, 0, 0), (19, .if_icmp .ne 7, 26, 0, 0, 0), (22, .iconst 0, 0, 0, 0, 0), (23, .goto 9, 32, 0, 0, 0)]
def l14_26 : List Ent := [(26, .aload_n 0, 0, 0, 0, 0), (27, .getfield 18, 2, 1, 0, 0), (30, .iconst 1, 0, 0, 0, 0), (31, .iadd, 0, 0, 0, 0)]
def l14_32 : List Ent := [(32, .putfield 18, 2, 1, 0, 0), (35, .aload_n 0, 0, 0, 0, 0), (36, .aload_n 0, 0, 0, 0, 0), (37, .getfield 26, 2, 2, 0, 0), (40, .iconst 1, 0, 0, 0, 0), (41, .iadd, 0, 0, 0, 0), (42, .bipush 6, 0, 0, 0, 0), (44, .invokestatic 29, 0, 0, 10, 0), (47, .putfield 26, 2, 2, 0, 0), (50, .return_, 0, 0, 0, 0)]
def bk14 : List Blk := [(0, l14_0, 13), (13, l14_13, 26), (26, l14_26, 32), (32, l14_32, 51)]
-- NoticeShifts$Sentences.timeOf
def l17_0 : List Ent := [(0, .iconst 0, 0, 0, 0, 0), (1, .istore_n 2, 0, 0, 0, 0), (2, .iconst 0, 0, 0, 0, 0), (3, .istore_n 3, 0, 0, 0, 0)]
def l17_4 : List Ent := [(4, .iload_n 3, 0, 0, 0, 0), (5, .iload_n 1, 0, 0, 0, 0), (6, .if_icmp .ge 18, 24, 0, 0, 0), (9, .iload_n 2, 0, 0, 0, 0), (10, .aload_n 0, 0, 0, 0, 0), (11, .getfield 15, 4, 1, 4, 0), (14, .iload_n 3, 0, 0, 0, 0), (15, .iaload, 0, 0, 0, 0), (16, .iadd, 0, 0, 0, 0), (17, .istore_n 2, 0, 0, 0, 0), (18, .iinc 3 1, 0, 0, 0, 0), (21, .goto (-17), 4, 0, 0, 0)]
def l17_24 : List Ent := [(24, .iload_n 2, 0, 0, 0, 0), (25, .ireturn, 0, 0, 0, 0)]
def bk17 : List Blk := [(0, l17_0, 4), (4, l17_4, 24), (24, l17_24, 26)]
-- NoticeShifts$Sentences.total
def l18_0 : List Ent := [(0, .aload_n 0, 0, 0, 0, 0), (1, .aload_n 0, 0, 0, 0, 0), (2, .getfield 21, 4, 3, 0, 0), (5, .invokevirtual 25, 17, 2, 1, 4)]
def l18_8 : List Ent := [(8, .ireturn, 0, 0, 0, 0)]
def bk18 : List Blk := [(0, l18_0, 8), (8, l18_8, 9)]
-- NoticeShifts$Sentences.placeAtTime
def l19_0 : List Ent := [(0, .iconst 0, 0, 0, 0, 0), (1, .istore_n 2, 0, 0, 0, 0), (2, .iconst 0, 0, 0, 0, 0), (3, .istore_n 3, 0, 0, 0, 0)]
def l19_4 : List Ent := [(4, .iload_n 3, 0, 0, 0, 0), (5, .aload_n 0, 0, 0, 0, 0), (6, .getfield 21, 4, 3, 0, 0), (9, .if_icmp .ge 25, 34, 0, 0, 0), (12, .iload_n 2, 0, 0, 0, 0), (13, .aload_n 0, 0, 0, 0, 0), (14, .getfield 15, 4, 1, 4, 0), (17, .iload_n 3, 0, 0, 0, 0), (18, .iaload, 0, 0, 0, 0), (19, .iadd, 0, 0, 0, 0), (20, .istore_n 2, 0, 0, 0, 0), (21, .iload_n 1, 0, 0, 0, 0), (22, .iload_n 2, 0, 0, 0, 0), (23, .if_icmp .ge 5, 28, 0, 0, 0), (26, .iload_n 3, 0, 0, 0, 0), (27, .ireturn, 0, 0, 0, 0)]
def l19_28 : List Ent := [(28, .iinc 3 1, 0, 0, 0, 0), (31, .goto (-27), 4, 0, 0, 0)]
def l19_34 : List Ent := [(34, .bipush (-6), 0, 0, 0, 0), (36, .ireturn, 0, 0, 0, 0)]
def bk19 : List Blk := [(0, l19_0, 4), (4, l19_4, 28), (28, l19_28, 34), (34, l19_34, 37)]
-- NoticeShifts$Sentences.placeOf
def l20_0 : List Ent := [(0, .iconst 0, 0, 0, 0, 0), (1, .istore_n 2, 0, 0, 0, 0)]
def l20_2 : List Ent := [(2, .iload_n 2, 0, 0, 0, 0), (3, .aload_n 0, 0, 0, 0, 0), (4, .getfield 21, 4, 3, 0, 0), (7, .if_icmp .ge 21, 28, 0, 0, 0), (10, .aload_n 0, 0, 0, 0, 0), (11, .getfield 9, 4, 0, 3, 0), (14, .iload_n 2, 0, 0, 0, 0), (15, .iaload, 0, 0, 0, 0), (16, .iload_n 1, 0, 0, 0, 0), (17, .if_icmp .ne 5, 22, 0, 0, 0), (20, .iload_n 2, 0, 0, 0, 0), (21, .ireturn, 0, 0, 0, 0)]
def l20_22 : List Ent := [(22, .iinc 2 1, 0, 0, 0, 0), (25, .goto (-23), 2, 0, 0, 0)]
def l20_28 : List Ent := [(28, .iconst (-1), 0, 0, 0, 0), (29, .ireturn, 0, 0, 0, 0)]
def bk20 : List Blk := [(0, l20_0, 2), (2, l20_2, 22), (22, l20_22, 28), (28, l20_28, 30)]
-- NoticeShifts$Sentences.chapterOf
def l21_0 : List Ent := [(0, .iconst 0, 0, 0, 0, 0), (1, .istore_n 2, 0, 0, 0, 0), (2, .iconst 1, 0, 0, 0, 0), (3, .istore_n 3, 0, 0, 0, 0)]
def l21_4 : List Ent := [(4, .iload_n 3, 0, 0, 0, 0), (5, .iload_n 1, 0, 0, 0, 0), (6, .if_icmp .gt 18, 24, 0, 0, 0), (9, .iload_n 2, 0, 0, 0, 0), (10, .aload_n 0, 0, 0, 0, 0), (11, .getfield 18, 4, 2, 5, 0), (14, .iload_n 3, 0, 0, 0, 0), (15, .iaload, 0, 0, 0, 0), (16, .iadd, 0, 0, 0, 0), (17, .istore_n 2, 0, 0, 0, 0), (18, .iinc 3 1, 0, 0, 0, 0), (21, .goto (-17), 4, 0, 0, 0)]
def l21_24 : List Ent := [(24, .iload_n 2, 0, 0, 0, 0), (25, .ireturn, 0, 0, 0, 0)]
def bk21 : List Blk := [(0, l21_0, 4), (4, l21_4, 24), (24, l21_24, 26)]
-- NoticeShifts$Sentences.chapters
def l22_0 : List Ent := [(0, .aload_n 0, 0, 0, 0, 0), (1, .aload_n 0, 0, 0, 0, 0), (2, .getfield 21, 4, 3, 0, 0), (5, .iconst 1, 0, 0, 0, 0), (6, .isub, 0, 0, 0, 0), (7, .invokevirtual 29, 21, 2, 1, 4)]
def l22_10 : List Ent := [(10, .iconst 1, 0, 0, 0, 0), (11, .iadd, 0, 0, 0, 0), (12, .ireturn, 0, 0, 0, 0)]
def bk22 : List Blk := [(0, l22_0, 10), (10, l22_10, 13)]
-- NoticeShifts$Sentences.firstOfChapter
def l23_0 : List Ent := [(0, .iconst 0, 0, 0, 0, 0), (1, .istore_n 2, 0, 0, 0, 0), (2, .iconst 0, 0, 0, 0, 0), (3, .istore_n 3, 0, 0, 0, 0)]
def l23_4 : List Ent := [(4, .iload_n 3, 0, 0, 0, 0), (5, .aload_n 0, 0, 0, 0, 0), (6, .getfield 21, 4, 3, 0, 0), (9, .if_icmp .ge 25, 34, 0, 0, 0), (12, .iload_n 2, 0, 0, 0, 0), (13, .aload_n 0, 0, 0, 0, 0), (14, .getfield 18, 4, 2, 5, 0), (17, .iload_n 3, 0, 0, 0, 0), (18, .iaload, 0, 0, 0, 0), (19, .iadd, 0, 0, 0, 0), (20, .istore_n 2, 0, 0, 0, 0), (21, .iload_n 2, 0, 0, 0, 0), (22, .iload_n 1, 0, 0, 0, 0), (23, .if_icmp .le 5, 28, 0, 0, 0), (26, .iload_n 3, 0, 0, 0, 0), (27, .ireturn, 0, 0, 0, 0)]
def l23_28 : List Ent := [(28, .iinc 3 1, 0, 0, 0, 0), (31, .goto (-27), 4, 0, 0, 0)]
def l23_34 : List Ent := [(34, .iconst 0, 0, 0, 0, 0), (35, .ireturn, 0, 0, 0, 0)]
def bk23 : List Blk := [(0, l23_0, 4), (4, l23_4, 28), (28, l23_28, 34), (34, l23_34, 36)]
-- NoticeShifts$Sentences.copyFrom
def l24_0 : List Ent := [(0, .aload_n 0, 0, 0, 0, 0), (1, .aload_n 1, 0, 0, 0, 0), (2, .getfield 21, 4, 3, 0, 0), (5, .putfield 21, 4, 3, 0, 0), (8, .aload_n 1, 0, 0, 0, 0), (9, .getfield 9, 4, 0, 3, 0), (12, .iconst 0, 0, 0, 0, 0), (13, .aload_n 0, 0, 0, 0, 0), (14, .getfield 9, 4, 0, 3, 0), (17, .iconst 0, 0, 0, 0, 0), (18, .aload_n 0, 0, 0, 0, 0), (19, .getfield 21, 4, 3, 0, 0), (22, .invokestatic 32, 0, 0, 13, 0), (25, .aload_n 1, 0, 0, 0, 0), (26, .getfield 15, 4, 1, 4, 0), (29, .iconst 0, 0, 0, 0, 0), (30, .aload_n 0, 0, 0, 0, 0), (31, .getfield 15, 4, 1, 4, 0), (34, .iconst 0, 0, 0, 0, 0), (35, .aload_n 0, 0, 0, 0, 0), (36, .getfield 21, 4, 3, 0, 0), (39, .invokestatic 32, 0, 0, 13, 0), (42, .aload_n 1, 0, 0, 0, 0), (43, .getfield 18, 4, 2, 5, 0), (46, .iconst 0, 0, 0, 0, 0), (47, .aload_n 0, 0, 0, 0, 0), (48, .getfield 18, 4, 2, 5, 0), (51, .iconst 0, 0, 0, 0, 0), (52, .aload_n 0, 0, 0, 0, 0), (53, .getfield 21, 4, 3, 0, 0), (56, .invokestatic 32, 0, 0, 13, 0), (59, .return_, 0, 0, 0, 0)]
def bk24 : List Blk := [(0, l24_0, 60)]
-- NoticeShifts$Sentences.isLike
def l25_0 : List Ent := [(0, .aload_n 0, 0, 0, 0, 0), (1, .getfield 21, 4, 3, 0, 0), (4, .aload_n 1, 0, 0, 0, 0), (5, .getfield 21, 4, 3, 0, 0), (8, .if_icmp .eq 5, 13, 0, 0, 0), (11, .iconst 0, 0, 0, 0, 0), (12, .ireturn, 1, 0, 0, 0)]
def l25_13 : List Ent := [(13, .iconst 0, 0, 0, 0, 0), (14, .istore_n 2, 0, 0, 0, 0)]
def l25_15 : List Ent := [(15, .iload_n 2, 0, 0, 0, 0), (16, .aload_n 0, 0, 0, 0, 0), (17, .getfield 21, 4, 3, 0, 0), (20, .if_icmp .ge 56, 76, 0, 0, 0), (23, .aload_n 0, 0, 0, 0, 0), (24, .getfield 9, 4, 0, 3, 0), (27, .iload_n 2, 0, 0, 0, 0), (28, .iaload, 0, 0, 0, 0), (29, .aload_n 1, 0, 0, 0, 0), (30, .getfield 9, 4, 0, 3, 0), (33, .iload_n 2, 0, 0, 0, 0), (34, .iaload, 0, 0, 0, 0), (35, .if_icmp .ne 33, 68, 0, 0, 0), (38, .aload_n 0, 0, 0, 0, 0), (39, .getfield 15, 4, 1, 4, 0), (42, .iload_n 2, 0, 0, 0, 0), (43, .iaload, 0, 0, 0, 0), (44, .aload_n 1, 0, 0, 0, 0), (45, .getfield 15, 4, 1, 4, 0), (48, .iload_n 2, 0, 0, 0, 0), (49, .iaload, 0, 0, 0, 0), (50, .if_icmp .ne 18, 68, 0, 0, 0), (53, .aload_n 0, 0, 0, 0, 0), (54, .getfield 18, 4, 2, 5, 0), (57, .iload_n 2, 0, 0, 0, 0), (58, .iaload, 0, 0, 0, 0), (59, .aload_n 1, 0, 0, 0, 0), (60, .getfield 18, 4, 2, 5, 0), (63, .iload_n 2, 0, 0, 0, 0), (64, .iaload, 0, 0, 0, 0), (65, .if_icmp .eq 5, 70, 0, 0, 0)]
def l25_68 : List Ent := [(68, .iconst 0, 0, 0, 0, 0), (69, .ireturn, 1, 0, 0, 0)]
def l25_70 : List Ent := [(70, .iinc 2 1, 0, 0, 0, 0), (73, .goto (-58), 15, 0, 0, 0)]
def l25_76 : List Ent := [(76, .iconst 1, 0, 0, 0, 0), (77, .ireturn, 1, 0, 0, 0)]
def bk25 : List Blk := [(0, l25_0, 13), (13, l25_13, 15), (15, l25_15, 68), (68, l25_68, 70), (70, l25_70, 76), (76, l25_76, 78)]
-- NoticeShifts$State.hasSentence
def l27_0 : List Ent := [(0, .iload_n 1, 0, 0, 0, 0), (1, .iconst 0, 0, 0, 0, 0), (2, .aload_n 0, 0, 0, 0, 0), (3, .getfield 12, 5, 0, 3, 0), (6, .getfield 48, 4, 3, 0, 0), (9, .iconst 1, 0, 0, 0, 0), (10, .isub, 0, 0, 0, 0), (11, .invokestatic 52, 61, 3, 2, 0)]
def l27_14 : List Ent := [(14, .ireturn, 1, 0, 0, 0)]
def bk27 : List Blk := [(0, l27_0, 14), (14, l27_14, 15)]
-- NoticeShifts$State.hasNotice
def l28_0 : List Ent := [(0, .iload_n 1, 0, 0, 0, 0), (1, .iconst 0, 0, 0, 0, 0), (2, .aload_n 0, 0, 0, 0, 0), (3, .getfield 56, 5, 10, 0, 0), (6, .iconst 1, 0, 0, 0, 0), (7, .isub, 0, 0, 0, 0), (8, .invokestatic 52, 61, 3, 2, 0)]
def l28_11 : List Ent := [(11, .ireturn, 1, 0, 0, 0)]
def bk28 : List Blk := [(0, l28_0, 11), (11, l28_11, 12)]
-- NoticeShifts$State.hasListener
def l29_0 : List Ent := [(0, .iload_n 1, 0, 0, 0, 0), (1, .iconst 0, 0, 0, 0, 0), (2, .aload_n 0, 0, 0, 0, 0), (3, .getfield 59, 5, 11, 0, 0), (6, .iconst 1, 0, 0, 0, 0), (7, .isub, 0, 0, 0, 0), (8, .invokestatic 52, 61, 3, 2, 0)]
def l29_11 : List Ent := [(11, .ireturn, 1, 0, 0, 0)]
def bk29 : List Blk := [(0, l29_0, 11), (11, l29_11, 12)]
-- NoticeShifts$State.isRowFull
def l30_0 : List Ent := [(0, .aload_n 0, 0, 0, 0, 0), (1, .getfield 18, 5, 1, 7, 0), (4, .iload_n 1, 0, 0, 0, 0), (5, .iaload, 0, 0, 0, 0), (6, .iconst 4, 0, 0, 0, 0), (7, .if_icmp .lt 7, 14, 0, 0, 0), (10, .iconst 1, 0, 0, 0, 0), (11, .goto 4, 15, 0, 0, 0)]
def l30_14 : List Ent := [(14, .iconst 0, 0, 0, 0, 0)]
def l30_15 : List Ent := [(15, .ireturn, 1, 0, 0, 0)]
def bk30 : List Blk := [(0, l30_0, 14), (14, l30_14, 15), (15, l30_15, 16)]
-- NoticeShifts$State.inRow
def l31_0 : List Ent := [(0, .aload_n 0, 0, 0, 0, 0), (1, .getfield 22, 5, 2, 8, 0), (4, .iload_n 1, 0, 0, 0, 0), (5, .iconst 4, 0, 0, 0, 0), (6, .imul, 0, 0, 0, 0), (7, .iload_n 2, 0, 0, 0, 0), (8, .iadd, 0, 0, 0, 0), (9, .iaload, 0, 0, 0, 0), (10, .ireturn, 0, 0, 0, 0)]
def bk31 : List Blk := [(0, l31_0, 11)]
-- NoticeShifts$State.appendToRow
def l32_0 : List Ent := [(0, .aload_n 0, 0, 0, 0, 0), (1, .getfield 22, 5, 2, 8, 0), (4, .iload_n 1, 0, 0, 0, 0), (5, .iconst 4, 0, 0, 0, 0), (6, .imul, 0, 0, 0, 0), (7, .aload_n 0, 0, 0, 0, 0), (8, .getfield 18, 5, 1, 7, 0), (11, .iload_n 1, 0, 0, 0, 0), (12, .iaload, 0, 0, 0, 0), (13, .iadd, 0, 0, 0, 0), (14, .iload_n 2, 0, 0, 0, 0), (15, .iastore, 0, 0, 0, 0), (16, .aload_n 0, 0, 0, 0, 0), (17, .getfield 18, 5, 1, 7, 0), (20, .iload_n 1, 0, 0, 0, 0), (21, .dup2, 0, 0, 0, 0), (22, .iaload, 0, 0, 0, 0), (23, .iconst 1, 0, 0, 0, 0), (24, .iadd, 0, 0, 0, 0), (25, .iastore, 0, 0, 0, 0), (26, .return_, 0, 0, 0, 0)]
def bk32 : List Blk := [(0, l32_0, 27)]
-- NoticeShifts$State.isInRow
def l33_0 : List Ent := [(0, .iconst 0, 0, 0, 0, 0), (1, .istore_n 3, 0, 0, 0, 0)]
def l33_2 : List Ent := [(2, .iload_n 3, 0, 0, 0, 0), (3, .aload_n 0, 0, 0, 0, 0), (4, .getfield 18, 5, 1, 7, 0), (7, .iload_n 1, 0, 0, 0, 0), (8, .iaload, 0, 0, 0, 0), (9, .if_icmp .ge 21, 30, 0, 0, 0), (12, .aload_n 0, 0, 0, 0, 0), (13, .iload_n 1, 0, 0, 0, 0), (14, .iload_n 3, 0, 0, 0, 0), (15, .invokevirtual 62, 31, 3, 1, 5)]
def l33_18 : List Ent := [(18, .iload_n 2, 0, 0, 0, 0), (19, .if_icmp .ne 5, 24, 0, 0, 0), (22, .iconst 1, 0, 0, 0, 0), (23, .ireturn, 1, 0, 0, 0)]
def l33_24 : List Ent := [(24, .iinc 3 1, 0, 0, 0, 0), (27, .goto (-25), 2, 0, 0, 0)]
def l33_30 : List Ent := [(30, .iconst 0, 0, 0, 0, 0), (31, .ireturn, 1, 0, 0, 0)]
def bk33 : List Blk := [(0, l33_0, 2), (2, l33_2, 18), (18, l33_18, 24), (24, l33_24, 30), (30, l33_30, 32)]
-- NoticeShifts$State.countBreaksWith
def l34_0 : List Ent := [(0, .iconst 0, 0, 0, 0, 0), (1, .istore_n 2, 0, 0, 0, 0), (2, .iconst 0, 0, 0, 0, 0), (3, .istore_n 3, 0, 0, 0, 0)]
def l34_4 : List Ent := [(4, .iload_n 3, 0, 0, 0, 0), (5, .aload_n 0, 0, 0, 0, 0), (6, .getfield 12, 5, 0, 3, 0), (9, .getfield 48, 4, 3, 0, 0), (12, .if_icmp .ge 21, 33, 0, 0, 0), (15, .iload_n 2, 0, 0, 0, 0), (16, .aload_n 0, 0, 0, 0, 0), (17, .iload_n 3, 0, 0, 0, 0), (18, .iload_n 1, 0, 0, 0, 0), (19, .invokevirtual 66, 33, 3, 1, 5)]
def l34_22 : List Ent := [(22, .invokestatic 70, 62, 1, 2, 0)]
def l34_25 : List Ent := [(25, .iadd, 0, 0, 0, 0), (26, .istore_n 2, 0, 0, 0, 0), (27, .iinc 3 1, 0, 0, 0, 0), (30, .goto (-26), 4, 0, 0, 0)]
def l34_33 : List Ent := [(33, .iload_n 2, 0, 0, 0, 0), (34, .ireturn, 0, 0, 0, 0)]
def bk34 : List Blk := [(0, l34_0, 4), (4, l34_4, 22), (22, l34_22, 25), (25, l34_25, 33), (33, l34_33, 35)]
-- NoticeShifts$State.insertSentence
def l35_0 : List Ent := [(0, .aload_n 0, 0, 0, 0, 0), (1, .getfield 12, 5, 0, 3, 0), (4, .getfield 48, 4, 3, 0, 0), (7, .istore_n 3, 0, 0, 0, 0)]
def l35_8 : List Ent := [(8, .iload_n 3, 0, 0, 0, 0), (9, .iload_n 1, 0, 0, 0, 0), (10, .if_icmp .le 17, 27, 0, 0, 0), (13, .aload_n 0, 0, 0, 0, 0), (14, .iload_n 3, 0, 0, 0, 0), (15, .iconst 1, 0, 0, 0, 0), (16, .isub, 0, 0, 0, 0), (17, .iload_n 3, 0, 0, 0, 0), (18, .invokevirtual 74, 37, 3, 0, 5)]
def l35_21 : List Ent := [(21, .iinc 3 (-1), 0, 0, 0, 0), (24, .goto (-16), 8, 0, 0, 0)]
def l35_27 : List Ent := [(27, .aload_n 0, 0, 0, 0, 0), (28, .getfield 12, 5, 0, 3, 0), (31, .dup, 0, 0, 0, 0), (32, .getfield 48, 4, 3, 0, 0), (35, .iconst 1, 0, 0, 0, 0), (36, .iadd, 0, 0, 0, 0), (37, .putfield 48, 4, 3, 0, 0), (40, .aload_n 0, 0, 0, 0, 0), (41, .getfield 12, 5, 0, 3, 0), (44, .getfield 78, 4, 0, 3, 0), (47, .iload_n 1, 0, 0, 0, 0), (48, .aload_n 0, 0, 0, 0, 0), (49, .getfield 81, 5, 9, 0, 0), (52, .iastore, 0, 0, 0, 0), (53, .aload_n 0, 0, 0, 0, 0), (54, .getfield 12, 5, 0, 3, 0), (57, .getfield 84, 4, 1, 4, 0), (60, .iload_n 1, 0, 0, 0, 0), (61, .iload_n 2, 0, 0, 0, 0), (62, .iastore, 0, 0, 0, 0), (63, .aload_n 0, 0, 0, 0, 0), (64, .getfield 12, 5, 0, 3, 0), (67, .getfield 87, 4, 2, 5, 0), (70, .iload_n 1, 0, 0, 0, 0), (71, .iload_n 1, 0, 0, 0, 0), (72, .ifCond .ne 7, 79, 0, 0, 0), (75, .iconst 1, 0, 0, 0, 0), (76, .goto 4, 80, 0, 0, 0)]
def l35_79 : List Ent := [(79, .iconst 0, 0, 0, 0, 0)]
def l35_80 : List Ent := [(80, .invokestatic 70, 62, 1, 2, 0)]
def l35_83 : List Ent := [(83, .iastore, 0, 0, 0, 0), (84, .aload_n 0, 0, 0, 0, 0), (85, .getfield 18, 5, 1, 7, 0), (88, .iload_n 1, 0, 0, 0, 0), (89, .iconst 0, 0, 0, 0, 0), (90, .iastore, 0, 0, 0, 0), (91, .aload_n 0, 0, 0, 0, 0), (92, .dup, 0, 0, 0, 0), (93, .getfield 81, 5, 9, 0, 0), (96, .iconst 1, 0, 0, 0, 0), (97, .iadd, 0, 0, 0, 0), (98, .putfield 81, 5, 9, 0, 0), (101, .return_, 0, 0, 0, 0)]
def bk35 : List Blk := [(0, l35_0, 8), (8, l35_8, 21), (21, l35_21, 27), (27, l35_27, 79), (79, l35_79, 80), (80, l35_80, 83), (83, l35_83, 102)]
-- NoticeShifts$State.removeSentence
def l36_0 : List Ent := [(0, .aload_n 0, 0, 0, 0, 0), (1, .getfield 12, 5, 0, 3, 0), (4, .dup, 0, 0, 0, 0), (5, .getfield 48, 4, 3, 0, 0), (8, .iconst 1, 0, 0, 0, 0), (9, .isub, 0, 0, 0, 0), (10, .putfield 48, 4, 3, 0, 0), (13, .iload_n 1, 0, 0, 0, 0), (14, .istore_n 2, 0, 0, 0, 0)]
def l36_15 : List Ent := [(15, .iload_n 2, 0, 0, 0, 0), (16, .aload_n 0, 0, 0, 0, 0), (17, .getfield 12, 5, 0, 3, 0), (20, .getfield 48, 4, 3, 0, 0), (23, .if_icmp .ge 17, 40, 0, 0, 0), (26, .aload_n 0, 0, 0, 0, 0), (27, .iload_n 2, 0, 0, 0, 0), (28, .iconst 1, 0, 0, 0, 0), (29, .iadd, 0, 0, 0, 0), (30, .iload_n 2, 0, 0, 0, 0), (31, .invokevirtual 74, 37, 3, 0, 5)]
def l36_34 : List Ent := [(34, .iinc 2 1, 0, 0, 0, 0), (37, .goto (-22), 15, 0, 0, 0)]
def l36_40 : List Ent := [(40, .aload_n 0, 0, 0, 0, 0), (41, .getfield 12, 5, 0, 3, 0), (44, .getfield 87, 4, 2, 5, 0), (47, .iconst 0, 0, 0, 0, 0), (48, .iconst 1, 0, 0, 0, 0), (49, .iastore, 0, 0, 0, 0), (50, .return_, 0, 0, 0, 0)]
def bk36 : List Blk := [(0, l36_0, 15), (15, l36_15, 34), (34, l36_34, 40), (40, l36_40, 51)]
-- NoticeShifts$State.moveSentence
def l37_0 : List Ent := [(0, .aload_n 0, 0, 0, 0, 0), (1, .getfield 12, 5, 0, 3, 0), (4, .getfield 78, 4, 0, 3, 0), (7, .iload_n 2, 0, 0, 0, 0), (8, .aload_n 0, 0, 0, 0, 0), (9, .getfield 12, 5, 0, 3, 0), (12, .getfield 78, 4, 0, 3, 0), (15, .iload_n 1, 0, 0, 0, 0), (16, .iaload, 0, 0, 0, 0), (17, .iastore, 0, 0, 0, 0), (18, .aload_n 0, 0, 0, 0, 0), (19, .getfield 12, 5, 0, 3, 0), (22, .getfield 84, 4, 1, 4, 0), (25, .iload_n 2, 0, 0, 0, 0), (26, .aload_n 0, 0, 0, 0, 0), (27, .getfield 12, 5, 0, 3, 0), (30, .getfield 84, 4, 1, 4, 0), (33, .iload_n 1, 0, 0, 0, 0), (34, .iaload, 0, 0, 0, 0), (35, .iastore, 0, 0, 0, 0), (36, .aload_n 0, 0, 0, 0, 0), (37, .getfield 12, 5, 0, 3, 0), (40, .getfield 87, 4, 2, 5, 0), (43, .iload_n 2, 0, 0, 0, 0), (44, .aload_n 0, 0, 0, 0, 0), (45, .getfield 12, 5, 0, 3, 0), (48, .getfield 87, 4, 2, 5, 0), (51, .iload_n 1, 0, 0, 0, 0), (52, .iaload, 0, 0, 0, 0), (53, .iastore, 0, 0, 0, 0), (54, .aload_n 0, 0, 0, 0, 0), (55, .getfield 18, 5, 1, 7, 0), (58, .iload_n 2, 0, 0, 0, 0), (59, .aload_n 0, 0, 0, 0, 0), (60, .getfield 18, 5, 1, 7, 0), (63, .iload_n 1, 0, 0, 0, 0), (64, .iaload, 0, 0, 0, 0), (65, .iastore, 0, 0, 0, 0), (66, .aload_n 0, 0, 0, 0, 0), (67, .getfield 22, 5, 2, 8, 0), (70, .iload_n 1, 0, 0, 0, 0), (71, .iconst 4, 0, 0, 0, 0), (72, .imul, 0, 0, 0, 0), (73, .aload_n 0, 0, 0, 0, 0), (74, .getfield 22, 5, 2, 8, 0), (77, .iload_n 2, 0, 0, 0, 0), (78, .iconst 4, 0, 0, 0, 0), (79, .imul, 0, 0, 0, 0), (80, .iconst 4, 0, 0, 0, 0), (81, .invokestatic 90, 0, 0, 13, 0), (84, .return_, 0, 0, 0, 0)]
def bk37 : List Blk := [(0, l37_0, 85)]
-- NoticeShifts$State.copyFrom
def l38_0 : List Ent := [(0, .aload_n 0, 0, 0, 0, 0), (1, .getfield 12, 5, 0, 3, 0), (4, .aload_n 1, 0, 0, 0, 0), (5, .getfield 12, 5, 0, 3, 0), (8, .invokevirtual 96, 24, 2, 0, 4)]
def l38_11 : List Ent := [(11, .aload_n 0, 0, 0, 0, 0), (12, .aload_n 1, 0, 0, 0, 0), (13, .getfield 81, 5, 9, 0, 0), (16, .putfield 81, 5, 9, 0, 0), (19, .aload_n 1, 0, 0, 0, 0), (20, .getfield 18, 5, 1, 7, 0), (23, .iconst 0, 0, 0, 0, 0), (24, .aload_n 0, 0, 0, 0, 0), (25, .getfield 18, 5, 1, 7, 0), (28, .iconst 0, 0, 0, 0, 0), (29, .bipush 24, 0, 0, 0, 0), (31, .invokestatic 90, 0, 0, 13, 0), (34, .aload_n 1, 0, 0, 0, 0), (35, .getfield 22, 5, 2, 8, 0), (38, .iconst 0, 0, 0, 0, 0), (39, .aload_n 0, 0, 0, 0, 0), (40, .getfield 22, 5, 2, 8, 0), (43, .iconst 0, 0, 0, 0, 0), (44, .bipush 96, 0, 0, 0, 0), (46, .invokestatic 90, 0, 0, 13, 0), (49, .aload_n 0, 0, 0, 0, 0), (50, .aload_n 1, 0, 0, 0, 0), (51, .getfield 56, 5, 10, 0, 0), (54, .putfield 56, 5, 10, 0, 0), (57, .aload_n 1, 0, 0, 0, 0), (58, .getfield 25, 5, 3, 9, 0), (61, .iconst 0, 0, 0, 0, 0), (62, .aload_n 0, 0, 0, 0, 0), (63, .getfield 25, 5, 3, 9, 0), (66, .iconst 0, 0, 0, 0, 0), (67, .bipush 8, 0, 0, 0, 0), (69, .invokestatic 90, 0, 0, 13, 0), (72, .aload_n 1, 0, 0, 0, 0), (73, .getfield 28, 5, 4, 10, 0), (76, .iconst 0, 0, 0, 0, 0), (77, .aload_n 0, 0, 0, 0, 0), (78, .getfield 28, 5, 4, 10, 0), (81, .iconst 0, 0, 0, 0, 0), (82, .bipush 8, 0, 0, 0, 0), (84, .invokestatic 90, 0, 0, 13, 0), (87, .aload_n 0, 0, 0, 0, 0), (88, .aload_n 1, 0, 0, 0, 0), (89, .getfield 59, 5, 11, 0, 0), (92, .putfield 59, 5, 11, 0, 0), (95, .aload_n 1, 0, 0, 0, 0), (96, .getfield 31, 5, 5, 11, 0), (99, .iconst 0, 0, 0, 0, 0), (100, .aload_n 0, 0, 0, 0, 0), (101, .getfield 31, 5, 5, 11, 0), (104, .iconst 0, 0, 0, 0, 0), (105, .bipush 6, 0, 0, 0, 0), (107, .invokestatic 90, 0, 0, 13, 0), (110, .aload_n 1, 0, 0, 0, 0), (111, .getfield 34, 5, 6, 12, 0), (114, .iconst 0, 0, 0, 0, 0), (115, .aload_n 0, 0, 0, 0, 0), (116, .getfield 34, 5, 6, 12, 0), (119, .iconst 0, 0, 0, 0, 0), (120, .bipush 6, 0, 0, 0, 0), (122, .invokestatic 90, 0, 0, 13, 0), (125, .iconst 0, 0, 0, 0, 0), (126, .istore_n 2, 0, 0, 0, 0)]
def l38_127 : List Ent := [(127, .iload_n 2, 0, 0, 0, 0), (128, .aload_n 0, 0, 0, 0, 0), (129, .getfield 59, 5, 11, 0, 0), (132, .if_icmp .ge 45, 177, 0, 0, 0), (135, .aload_n 0, 0, 0, 0, 0), (136, .getfield 37, 5, 7, 13, 0), (139, .iload_n 2, 0, 0, 0, 0), (140, .aload_n 1, 0, 0, 0, 0), (141, .getfield 37, 5, 7, 13, 0), (144, .iload_n 2, 0, 0, 0, 0), (145, .baload, 0, 0, 0, 0), (146, .bastore, 0, 0, 0, 0), (147, .aload_n 0, 0, 0, 0, 0), (148, .getfield 37, 5, 7, 13, 0), (151, .iload_n 2, 0, 0, 0, 0), (152, .baload, 0, 0, 0, 0), (153, .ifCond .eq 18, 171, 0, 0, 0), (156, .aload_n 0, 0, 0, 0, 0), (157, .getfield 43, 5, 8, 14, 0), (160, .iload_n 2, 0, 0, 0, 0), (161, .aaload, 103, 1, 7, 0), (162, .aload_n 1, 0, 0, 0, 0), (163, .getfield 43, 5, 8, 14, 0), (166, .iload_n 2, 0, 0, 0, 0), (167, .aaload, 103, 1, 7, 0), (168, .invokevirtual 100, 11, 2, 0, 1)]
def l38_171 : List Ent := [(171, .iinc 2 1, 0, 0, 0, 0), (174, .goto (-47), 127, 0, 0, 0)]
def l38_177 : List Ent := [(177, .return_, 0, 0, 0, 0)]
def bk38 : List Blk := [(0, l38_0, 11), (11, l38_11, 127), (127, l38_127, 171), (171, l38_171, 177), (177, l38_177, 178)]
-- NoticeShifts.putIn
def l40_0 : List Ent := [(0, .iload_n 1, 0, 0, 0, 0), (1, .iconst 0, 0, 0, 0, 0), (2, .aload_n 0, 0, 0, 0, 0), (3, .getfield 10, 6, 0, 3, 0), (6, .getfield 56, 5, 0, 3, 0), (9, .getfield 60, 4, 3, 0, 0), (12, .invokestatic 66, 61, 3, 1, 0)]
def l40_15 : List Ent := [(15, .ifCond .ne 5, 20, 0, 0, 0), (18, .iconst (-1), 0, 0, 0, 0), (19, .ireturn, 0, 0, 0, 0)]
def l40_20 : List Ent := [(20, .iload_n 2, 0, 0, 0, 0), (21, .iconst 1, 0, 0, 0, 0), (22, .sipush 300, 0, 0, 0, 0), (25, .invokestatic 66, 61, 3, 1, 0)]
def l40_28 : List Ent := [(28, .ifCond .ne 6, 34, 0, 0, 0), (31, .bipush (-2), 0, 0, 0, 0), (33, .ireturn, 0, 0, 0, 0)]
def l40_34 : List Ent := [(34, .aload_n 0, 0, 0, 0, 0), (35, .getfield 10, 6, 0, 3, 0), (38, .getfield 56, 5, 0, 3, 0), (41, .getfield 60, 4, 3, 0, 0), (44, .bipush 24, 0, 0, 0, 0), (46, .if_icmp .ge 15, 61, 0, 0, 0), (49, .aload_n 0, 0, 0, 0, 0), (50, .getfield 10, 6, 0, 3, 0), (53, .getfield 70, 5, 9, 0, 0), (56, .bipush 100, 0, 0, 0, 0), (58, .if_icmp .lt 6, 64, 0, 0, 0)]
def l40_61 : List Ent := [(61, .bipush (-4), 0, 0, 0, 0), (63, .ireturn, 0, 0, 0, 0)]
def l40_64 : List Ent := [(64, .aload_n 0, 0, 0, 0, 0), (65, .getfield 19, 6, 1, 58, 0), (68, .aload_n 0, 0, 0, 0, 0), (69, .getfield 10, 6, 0, 3, 0), (72, .invokevirtual 73, 14, 2, 0, 2)]
def l40_75 : List Ent := [(75, .aload_n 0, 0, 0, 0, 0), (76, .getfield 10, 6, 0, 3, 0), (79, .iload_n 1, 0, 0, 0, 0), (80, .iload_n 2, 0, 0, 0, 0), (81, .invokevirtual 52, 35, 3, 0, 5)]
def l40_84 : List Ent := [(84, .aload_n 0, 0, 0, 0, 0), (85, .getfield 10, 6, 0, 3, 0), (88, .getfield 56, 5, 0, 3, 0), (91, .getfield 77, 4, 0, 3, 0), (94, .iload_n 1, 0, 0, 0, 0), (95, .iaload, 0, 0, 0, 0), (96, .ireturn, 0, 0, 0, 0)]
def bk40 : List Blk := [(0, l40_0, 15), (15, l40_15, 20), (20, l40_20, 28), (28, l40_28, 34), (34, l40_34, 61), (61, l40_61, 64), (64, l40_64, 75), (75, l40_75, 84), (84, l40_84, 97)]
-- NoticeShifts.cutOut
def l41_0 : List Ent := [(0, .aload_n 0, 0, 0, 0, 0), (1, .getfield 10, 6, 0, 3, 0), (4, .iload_n 1, 0, 0, 0, 0), (5, .invokevirtual 81, 27, 2, 1, 5)]
def l41_8 : List Ent := [(8, .ifCond .ne 5, 13, 0, 0, 0), (11, .iconst (-1), 0, 0, 0, 0), (12, .ireturn, 0, 0, 0, 0)]
def l41_13 : List Ent := [(13, .aload_n 0, 0, 0, 0, 0), (14, .getfield 10, 6, 0, 3, 0), (17, .getfield 56, 5, 0, 3, 0), (20, .getfield 60, 4, 3, 0, 0), (23, .iconst 1, 0, 0, 0, 0), (24, .if_icmp .ne 6, 30, 0, 0, 0), (27, .bipush (-5), 0, 0, 0, 0), (29, .ireturn, 0, 0, 0, 0)]
def l41_30 : List Ent := [(30, .aload_n 0, 0, 0, 0, 0), (31, .getfield 19, 6, 1, 58, 0), (34, .aload_n 0, 0, 0, 0, 0), (35, .getfield 10, 6, 0, 3, 0), (38, .invokevirtual 73, 14, 2, 0, 2)]
def l41_41 : List Ent := [(41, .aload_n 0, 0, 0, 0, 0), (42, .getfield 10, 6, 0, 3, 0), (45, .getfield 56, 5, 0, 3, 0), (48, .getfield 77, 4, 0, 3, 0), (51, .iload_n 1, 0, 0, 0, 0), (52, .iaload, 0, 0, 0, 0), (53, .istore_n 2, 0, 0, 0, 0), (54, .aload_n 0, 0, 0, 0, 0), (55, .getfield 10, 6, 0, 3, 0), (58, .iload_n 1, 0, 0, 0, 0), (59, .invokevirtual 85, 36, 2, 0, 5)]
def l41_62 : List Ent := [(62, .iload_n 2, 0, 0, 0, 0), (63, .ireturn, 0, 0, 0, 0)]
def bk41 : List Blk := [(0, l41_0, 8), (8, l41_8, 13), (13, l41_13, 30), (30, l41_30, 41), (41, l41_41, 62), (62, l41_62, 64)]
-- NoticeShifts.change
def l42_0 : List Ent := [(0, .aload_n 0, 0, 0, 0, 0), (1, .getfield 10, 6, 0, 3, 0), (4, .iload_n 1, 0, 0, 0, 0), (5, .invokevirtual 81, 27, 2, 1, 5)]
def l42_8 : List Ent := [(8, .ifCond .ne 5, 13, 0, 0, 0), (11, .iconst (-1), 0, 0, 0, 0), (12, .ireturn, 0, 0, 0, 0)]
def l42_13 : List Ent := [(13, .iload_n 2, 0, 0, 0, 0), (14, .iconst 1, 0, 0, 0, 0), (15, .sipush 300, 0, 0, 0, 0), (18, .invokestatic 66, 61, 3, 1, 0)]
def l42_21 : List Ent := [(21, .ifCond .ne 6, 27, 0, 0, 0), (24, .bipush (-2), 0, 0, 0, 0), (26, .ireturn, 0, 0, 0, 0)]
def l42_27 : List Ent := [(27, .aload_n 0, 0, 0, 0, 0), (28, .getfield 19, 6, 1, 58, 0), (31, .aload_n 0, 0, 0, 0, 0), (32, .getfield 10, 6, 0, 3, 0), (35, .invokevirtual 73, 14, 2, 0, 2)]
def l42_38 : List Ent := [(38, .aload_n 0, 0, 0, 0, 0), (39, .getfield 10, 6, 0, 3, 0), (42, .getfield 56, 5, 0, 3, 0), (45, .getfield 89, 4, 1, 4, 0), (48, .iload_n 1, 0, 0, 0, 0), (49, .iaload, 0, 0, 0, 0), (50, .istore_n 3, 0, 0, 0, 0), (51, .aload_n 0, 0, 0, 0, 0), (52, .getfield 10, 6, 0, 3, 0), (55, .getfield 56, 5, 0, 3, 0), (58, .getfield 89, 4, 1, 4, 0), (61, .iload_n 1, 0, 0, 0, 0), (62, .iload_n 2, 0, 0, 0, 0), (63, .iastore, 0, 0, 0, 0), (64, .iload_n 3, 0, 0, 0, 0), (65, .ireturn, 0, 0, 0, 0)]
def bk42 : List Blk := [(0, l42_0, 8), (8, l42_8, 13), (13, l42_13, 21), (21, l42_21, 27), (27, l42_27, 38), (38, l42_38, 66)]
-- NoticeShifts.chapter
def l43_0 : List Ent := [(0, .aload_n 0, 0, 0, 0, 0), (1, .getfield 10, 6, 0, 3, 0), (4, .iload_n 1, 0, 0, 0, 0), (5, .invokevirtual 81, 27, 2, 1, 5)]
def l43_8 : List Ent := [(8, .ifCond .ne 5, 13, 0, 0, 0), (11, .iconst (-1), 0, 0, 0, 0), (12, .ireturn, 0, 0, 0, 0)]
def l43_13 : List Ent := [(13, .iload_n 2, 0, 0, 0, 0), (14, .invokestatic 92, 62, 1, 1, 0)]
def l43_17 : List Ent := [(17, .istore_n 3, 0, 0, 0, 0), (18, .iload_n 1, 0, 0, 0, 0), (19, .ifCond .eq 19, 38, 0, 0, 0), (22, .aload_n 0, 0, 0, 0, 0), (23, .getfield 10, 6, 0, 3, 0), (26, .getfield 56, 5, 0, 3, 0), (29, .getfield 96, 4, 2, 5, 0), (32, .iload_n 1, 0, 0, 0, 0), (33, .iaload, 0, 0, 0, 0), (34, .iload_n 3, 0, 0, 0, 0), (35, .if_icmp .ne 6, 41, 0, 0, 0)]
def l43_38 : List Ent := [(38, .bipush (-5), 0, 0, 0, 0), (40, .ireturn, 0, 0, 0, 0)]
def l43_41 : List Ent := [(41, .aload_n 0, 0, 0, 0, 0), (42, .getfield 19, 6, 1, 58, 0), (45, .aload_n 0, 0, 0, 0, 0), (46, .getfield 10, 6, 0, 3, 0), (49, .invokevirtual 73, 14, 2, 0, 2)]
def l43_52 : List Ent := [(52, .aload_n 0, 0, 0, 0, 0), (53, .getfield 10, 6, 0, 3, 0), (56, .getfield 56, 5, 0, 3, 0), (59, .getfield 96, 4, 2, 5, 0), (62, .iload_n 1, 0, 0, 0, 0), (63, .iload_n 3, 0, 0, 0, 0), (64, .iastore, 0, 0, 0, 0), (65, .aload_n 0, 0, 0, 0, 0), (66, .getfield 10, 6, 0, 3, 0), (69, .getfield 56, 5, 0, 3, 0), (72, .invokevirtual 99, 22, 1, 1, 4)]
def l43_75 : List Ent := [(75, .ireturn, 0, 0, 0, 0)]
def bk43 : List Blk := [(0, l43_0, 8), (8, l43_8, 13), (13, l43_13, 17), (17, l43_17, 38), (38, l43_38, 41), (41, l43_41, 52), (52, l43_52, 75), (75, l43_75, 76)]
-- NoticeShifts.notice
def l44_0 : List Ent := [(0, .iload_n 1, 0, 0, 0, 0), (1, .iconst 1, 0, 0, 0, 0), (2, .bipush 120, 0, 0, 0, 0), (4, .invokestatic 66, 61, 3, 1, 0)]
def l44_7 : List Ent := [(7, .ifCond .eq 13, 20, 0, 0, 0), (10, .iload_n 2, 0, 0, 0, 0), (11, .iconst 1, 0, 0, 0, 0), (12, .bipush 63, 0, 0, 0, 0), (14, .invokestatic 66, 61, 3, 1, 0)]
def l44_17 : List Ent := [(17, .ifCond .ne 6, 23, 0, 0, 0)]
def l44_20 : List Ent := [(20, .bipush (-2), 0, 0, 0, 0), (22, .ireturn, 0, 0, 0, 0)]
def l44_23 : List Ent := [(23, .aload_n 0, 0, 0, 0, 0), (24, .getfield 10, 6, 0, 3, 0), (27, .getfield 103, 5, 10, 0, 0), (30, .bipush 8, 0, 0, 0, 0), (32, .if_icmp .lt 6, 38, 0, 0, 0), (35, .bipush (-4), 0, 0, 0, 0), (37, .ireturn, 0, 0, 0, 0)]
def l44_38 : List Ent := [(38, .aload_n 0, 0, 0, 0, 0), (39, .getfield 19, 6, 1, 58, 0), (42, .aload_n 0, 0, 0, 0, 0), (43, .getfield 10, 6, 0, 3, 0), (46, .invokevirtual 73, 14, 2, 0, 2)]
def l44_49 : List Ent := [(49, .aload_n 0, 0, 0, 0, 0), (50, .getfield 10, 6, 0, 3, 0), (53, .getfield 103, 5, 10, 0, 0), (56, .istore_n 3, 0, 0, 0, 0), (57, .aload_n 0, 0, 0, 0, 0), (58, .getfield 10, 6, 0, 3, 0), (61, .getfield 106, 5, 3, 9, 0), (64, .iload_n 3, 0, 0, 0, 0), (65, .iload_n 1, 0, 0, 0, 0), (66, .iastore, 0, 0, 0, 0), (67, .aload_n 0, 0, 0, 0, 0), (68, .getfield 10, 6, 0, 3, 0), (71, .getfield 109, 5, 4, 10, 0), (74, .iload_n 3, 0, 0, 0, 0), (75, .iload_n 2, 0, 0, 0, 0), (76, .iastore, 0, 0, 0, 0), (77, .aload_n 0, 0, 0, 0, 0), (78, .getfield 10, 6, 0, 3, 0), (81, .dup, 0, 0, 0, 0), (82, .getfield 103, 5, 10, 0, 0), (85, .iconst 1, 0, 0, 0, 0), (86, .iadd, 0, 0, 0, 0), (87, .putfield 103, 5, 10, 0, 0), (90, .iload_n 3, 0, 0, 0, 0), (91, .ireturn, 0, 0, 0, 0)]
def bk44 : List Blk := [(0, l44_0, 7), (7, l44_7, 17), (17, l44_17, 20), (20, l44_20, 23), (23, l44_23, 38), (38, l44_38, 49), (49, l44_49, 92)]
-- NoticeShifts.book
def l45_0 : List Ent := [(0, .aload_n 0, 0, 0, 0, 0), (1, .getfield 10, 6, 0, 3, 0), (4, .iload_n 1, 0, 0, 0, 0), (5, .invokevirtual 81, 27, 2, 1, 5)]
def l45_8 : List Ent := [(8, .ifCond .eq 14, 22, 0, 0, 0), (11, .aload_n 0, 0, 0, 0, 0), (12, .getfield 10, 6, 0, 3, 0), (15, .iload_n 2, 0, 0, 0, 0), (16, .invokevirtual 112, 28, 2, 1, 5)]
def l45_19 : List Ent := [(19, .ifCond .ne 5, 24, 0, 0, 0)]
def l45_22 : List Ent := [(22, .iconst (-1), 0, 0, 0, 0), (23, .ireturn, 0, 0, 0, 0)]
def l45_24 : List Ent := [(24, .aload_n 0, 0, 0, 0, 0), (25, .getfield 10, 6, 0, 3, 0), (28, .iload_n 1, 0, 0, 0, 0), (29, .invokevirtual 115, 30, 2, 1, 5)]
def l45_32 : List Ent := [(32, .ifCond .eq 6, 38, 0, 0, 0), (35, .bipush (-4), 0, 0, 0, 0), (37, .ireturn, 0, 0, 0, 0)]
def l45_38 : List Ent := [(38, .aload_n 0, 0, 0, 0, 0), (39, .getfield 19, 6, 1, 58, 0), (42, .aload_n 0, 0, 0, 0, 0), (43, .getfield 10, 6, 0, 3, 0), (46, .invokevirtual 73, 14, 2, 0, 2)]
def l45_49 : List Ent := [(49, .aload_n 0, 0, 0, 0, 0), (50, .getfield 10, 6, 0, 3, 0), (53, .iload_n 1, 0, 0, 0, 0), (54, .iload_n 2, 0, 0, 0, 0), (55, .invokevirtual 118, 32, 3, 0, 5)]
def l45_58 : List Ent := [(58, .aload_n 0, 0, 0, 0, 0), (59, .getfield 10, 6, 0, 3, 0), (62, .getfield 121, 5, 1, 7, 0), (65, .iload_n 1, 0, 0, 0, 0), (66, .iaload, 0, 0, 0, 0), (67, .ireturn, 0, 0, 0, 0)]
def bk45 : List Blk := [(0, l45_0, 8), (8, l45_8, 19), (19, l45_19, 22), (22, l45_22, 24), (24, l45_24, 32), (32, l45_32, 38), (38, l45_38, 49), (49, l45_49, 58), (58, l45_58, 68)]
-- NoticeShifts.empty
def l46_0 : List Ent := [(0, .aload_n 0, 0, 0, 0, 0), (1, .getfield 10, 6, 0, 3, 0), (4, .iload_n 1, 0, 0, 0, 0), (5, .invokevirtual 81, 27, 2, 1, 5)]
def l46_8 : List Ent := [(8, .ifCond .ne 5, 13, 0, 0, 0), (11, .iconst (-1), 0, 0, 0, 0), (12, .ireturn, 0, 0, 0, 0)]
def l46_13 : List Ent := [(13, .aload_n 0, 0, 0, 0, 0), (14, .getfield 19, 6, 1, 58, 0), (17, .aload_n 0, 0, 0, 0, 0), (18, .getfield 10, 6, 0, 3, 0), (21, .invokevirtual 73, 14, 2, 0, 2)]
def l46_24 : List Ent := [(24, .aload_n 0, 0, 0, 0, 0), (25, .getfield 10, 6, 0, 3, 0), (28, .getfield 121, 5, 1, 7, 0), (31, .iload_n 1, 0, 0, 0, 0), (32, .iaload, 0, 0, 0, 0), (33, .istore_n 2, 0, 0, 0, 0), (34, .aload_n 0, 0, 0, 0, 0), (35, .getfield 10, 6, 0, 3, 0), (38, .getfield 121, 5, 1, 7, 0), (41, .iload_n 1, 0, 0, 0, 0), (42, .iconst 0, 0, 0, 0, 0), (43, .iastore, 0, 0, 0, 0), (44, .iload_n 2, 0, 0, 0, 0), (45, .ireturn, 0, 0, 0, 0)]
def bk46 : List Blk := [(0, l46_0, 8), (8, l46_8, 13), (13, l46_13, 24), (24, l46_24, 46)]
-- NoticeShifts.listener
def l47_0 : List Ent := [(0, .iload_n 1, 0, 0, 0, 0), (1, .iconst 0, 0, 0, 0, 0), (2, .iconst 5, 0, 0, 0, 0), (3, .invokestatic 66, 61, 3, 1, 0)]
def l47_6 : List Ent := [(6, .ifCond .eq 14, 20, 0, 0, 0), (9, .iload_n 2, 0, 0, 0, 0), (10, .iconst 0, 0, 0, 0, 0), (11, .sipush 600, 0, 0, 0, 0), (14, .invokestatic 66, 61, 3, 1, 0)]
def l47_17 : List Ent := [(17, .ifCond .ne 6, 23, 0, 0, 0)]
def l47_20 : List Ent := [(20, .bipush (-2), 0, 0, 0, 0), (22, .ireturn, 0, 0, 0, 0)]
def l47_23 : List Ent := [(23, .aload_n 0, 0, 0, 0, 0), (24, .getfield 10, 6, 0, 3, 0), (27, .getfield 139, 5, 11, 0, 0), (30, .bipush 6, 0, 0, 0, 0), (32, .if_icmp .lt 6, 38, 0, 0, 0), (35, .bipush (-4), 0, 0, 0, 0), (37, .ireturn, 0, 0, 0, 0)]
def l47_38 : List Ent := [(38, .aload_n 0, 0, 0, 0, 0), (39, .getfield 19, 6, 1, 58, 0), (42, .aload_n 0, 0, 0, 0, 0), (43, .getfield 10, 6, 0, 3, 0), (46, .invokevirtual 73, 14, 2, 0, 2)]
def l47_49 : List Ent := [(49, .aload_n 0, 0, 0, 0, 0), (50, .getfield 10, 6, 0, 3, 0), (53, .getfield 139, 5, 11, 0, 0), (56, .istore_n 3, 0, 0, 0, 0), (57, .aload_n 0, 0, 0, 0, 0), (58, .getfield 10, 6, 0, 3, 0), (61, .getfield 142, 5, 5, 11, 0), (64, .iload_n 3, 0, 0, 0, 0), (65, .iload_n 1, 0, 0, 0, 0), (66, .iastore, 0, 0, 0, 0), (67, .aload_n 0, 0, 0, 0, 0), (68, .getfield 10, 6, 0, 3, 0), (71, .getfield 145, 5, 6, 12, 0), (74, .iload_n 3, 0, 0, 0, 0), (75, .iload_n 2, 0, 0, 0, 0), (76, .iastore, 0, 0, 0, 0), (77, .aload_n 0, 0, 0, 0, 0), (78, .getfield 10, 6, 0, 3, 0), (81, .getfield 148, 5, 7, 13, 0), (84, .iload_n 3, 0, 0, 0, 0), (85, .iconst 0, 0, 0, 0, 0), (86, .bastore, 0, 0, 0, 0), (87, .aload_n 0, 0, 0, 0, 0), (88, .getfield 10, 6, 0, 3, 0), (91, .dup, 0, 0, 0, 0), (92, .getfield 139, 5, 11, 0, 0), (95, .iconst 1, 0, 0, 0, 0), (96, .iadd, 0, 0, 0, 0), (97, .putfield 139, 5, 11, 0, 0), (100, .iload_n 3, 0, 0, 0, 0), (101, .ireturn, 0, 0, 0, 0)]
def bk47 : List Blk := [(0, l47_0, 6), (6, l47_6, 17), (17, l47_17, 20), (20, l47_20, 23), (23, l47_23, 38), (38, l47_38, 49), (49, l47_49, 102)]
-- NoticeShifts.load
def l48_0 : List Ent := [(0, .aload_n 0, 0, 0, 0, 0), (1, .getfield 10, 6, 0, 3, 0), (4, .iload_n 1, 0, 0, 0, 0), (5, .invokevirtual 151, 29, 2, 1, 5)]
def l48_8 : List Ent := [(8, .ifCond .ne 5, 13, 0, 0, 0), (11, .iconst (-1), 0, 0, 0, 0), (12, .ireturn, 0, 0, 0, 0)]
def l48_13 : List Ent := [(13, .iload_n 2, 0, 0, 0, 0), (14, .ifCond .eq 18, 32, 0, 0, 0), (17, .aload_n 0, 0, 0, 0, 0), (18, .getfield 10, 6, 0, 3, 0), (21, .getfield 148, 5, 7, 13, 0), (24, .iload_n 1, 0, 0, 0, 0), (25, .baload, 0, 0, 0, 0), (26, .ifCond .ne 6, 32, 0, 0, 0), (29, .bipush (-5), 0, 0, 0, 0), (31, .ireturn, 0, 0, 0, 0)]
def l48_32 : List Ent := [(32, .aload_n 0, 0, 0, 0, 0), (33, .getfield 19, 6, 1, 58, 0), (36, .aload_n 0, 0, 0, 0, 0), (37, .getfield 10, 6, 0, 3, 0), (40, .invokevirtual 73, 14, 2, 0, 2)]
def l48_43 : List Ent := [(43, .aload_n 0, 0, 0, 0, 0), (44, .getfield 10, 6, 0, 3, 0), (47, .getfield 148, 5, 7, 13, 0), (50, .iload_n 1, 0, 0, 0, 0), (51, .iload_n 2, 0, 0, 0, 0), (52, .ifCond .ne 7, 59, 0, 0, 0), (55, .iconst 1, 0, 0, 0, 0), (56, .goto 4, 60, 0, 0, 0)]
def l48_59 : List Ent := [(59, .iconst 0, 0, 0, 0, 0)]
def l48_60 : List Ent := [(60, .bastore, 0, 0, 0, 0), (61, .iload_n 2, 0, 0, 0, 0), (62, .ifCond .ne 17, 79, 0, 0, 0), (65, .aload_n 0, 0, 0, 0, 0), (66, .iload_n 1, 0, 0, 0, 0), (67, .aload_n 0, 0, 0, 0, 0), (68, .getfield 10, 6, 0, 3, 0), (71, .getfield 154, 5, 8, 14, 0), (74, .iload_n 1, 0, 0, 0, 0), (75, .aaload, 103, 1, 7, 0), (76, .invokevirtual 158, 64, 3, 0, 6)]
def l48_79 : List Ent := [(79, .aload_n 0, 0, 0, 0, 0), (80, .iload_n 1, 0, 0, 0, 0), (81, .invokevirtual 162, 63, 2, 2, 6)]
def l48_84 : List Ent := [(84, .invokevirtual 166, 7, 1, 1, 1)]
def l48_87 : List Ent := [(87, .ireturn, 0, 0, 0, 0)]
def bk48 : List Blk := [(0, l48_0, 8), (8, l48_8, 13), (13, l48_13, 32), (32, l48_32, 43), (43, l48_43, 59), (59, l48_59, 60), (60, l48_60, 79), (79, l48_79, 84), (84, l48_84, 87), (87, l48_87, 88)]
-- NoticeShifts.sentence
def l49_0 : List Ent := [(0, .aload_n 0, 0, 0, 0, 0), (1, .getfield 10, 6, 0, 3, 0), (4, .iload_n 1, 0, 0, 0, 0), (5, .invokevirtual 81, 27, 2, 1, 5)]
def l49_8 : List Ent := [(8, .ifCond .ne 5, 13, 0, 0, 0), (11, .iconst (-1), 0, 0, 0, 0), (12, .ireturn, 0, 0, 0, 0)]
def l49_13 : List Ent := [(13, .iload_n 2, 0, 0, 0, 0), (14, .tableswitch 111 0 5 #[38, 51, 64, 76, 88, 101], 0, 0, 0, 0)]
def l49_52 : List Ent := [(52, .aload_n 0, 0, 0, 0, 0), (53, .getfield 10, 6, 0, 3, 0), (56, .getfield 56, 5, 0, 3, 0), (59, .getfield 77, 4, 0, 3, 0), (62, .iload_n 1, 0, 0, 0, 0), (63, .iaload, 0, 0, 0, 0), (64, .ireturn, 0, 0, 0, 0)]
def l49_65 : List Ent := [(65, .aload_n 0, 0, 0, 0, 0), (66, .getfield 10, 6, 0, 3, 0), (69, .getfield 56, 5, 0, 3, 0), (72, .getfield 89, 4, 1, 4, 0), (75, .iload_n 1, 0, 0, 0, 0), (76, .iaload, 0, 0, 0, 0), (77, .ireturn, 0, 0, 0, 0)]
def l49_78 : List Ent := [(78, .aload_n 0, 0, 0, 0, 0), (79, .getfield 10, 6, 0, 3, 0), (82, .getfield 56, 5, 0, 3, 0), (85, .iload_n 1, 0, 0, 0, 0), (86, .invokevirtual 169, 17, 2, 1, 4)]
def l49_89 : List Ent := [(89, .ireturn, 0, 0, 0, 0)]
def l49_90 : List Ent := [(90, .aload_n 0, 0, 0, 0, 0), (91, .getfield 10, 6, 0, 3, 0), (94, .getfield 56, 5, 0, 3, 0), (97, .iload_n 1, 0, 0, 0, 0), (98, .invokevirtual 173, 21, 2, 1, 4)]
def l49_101 : List Ent := [(101, .ireturn, 0, 0, 0, 0)]
def l49_102 : List Ent := [(102, .aload_n 0, 0, 0, 0, 0), (103, .getfield 10, 6, 0, 3, 0), (106, .getfield 56, 5, 0, 3, 0), (109, .getfield 96, 4, 2, 5, 0), (112, .iload_n 1, 0, 0, 0, 0), (113, .iaload, 0, 0, 0, 0), (114, .ireturn, 0, 0, 0, 0)]
def l49_115 : List Ent := [(115, .aload_n 0, 0, 0, 0, 0), (116, .getfield 10, 6, 0, 3, 0), (119, .getfield 121, 5, 1, 7, 0), (122, .iload_n 1, 0, 0, 0, 0), (123, .iaload, 0, 0, 0, 0), (124, .ireturn, 0, 0, 0, 0)]
def l49_125 : List Ent := [(125, .bipush (-2), 0, 0, 0, 0), (127, .ireturn, 0, 0, 0, 0)]
def bk49 : List Blk := [(0, l49_0, 8), (8, l49_8, 13), (13, l49_13, 52), (52, l49_52, 65), (65, l49_65, 78), (78, l49_78, 89), (89, l49_89, 90), (90, l49_90, 101), (101, l49_101, 102), (102, l49_102, 115), (115, l49_115, 125), (125, l49_125, 128)]
-- NoticeShifts.marked
def l50_0 : List Ent := [(0, .aload_n 0, 0, 0, 0, 0), (1, .getfield 10, 6, 0, 3, 0), (4, .getfield 56, 5, 0, 3, 0), (7, .iload_n 1, 0, 0, 0, 0), (8, .invokevirtual 176, 20, 2, 1, 4)]
def l50_11 : List Ent := [(11, .ireturn, 0, 0, 0, 0)]
def bk50 : List Blk := [(0, l50_0, 11), (11, l50_11, 12)]
-- NoticeShifts.booked
def l51_0 : List Ent := [(0, .aload_n 0, 0, 0, 0, 0), (1, .getfield 10, 6, 0, 3, 0), (4, .iload_n 1, 0, 0, 0, 0), (5, .invokevirtual 81, 27, 2, 1, 5)]
def l51_8 : List Ent := [(8, .ifCond .eq 22, 30, 0, 0, 0), (11, .iload_n 2, 0, 0, 0, 0), (12, .iconst 0, 0, 0, 0, 0), (13, .aload_n 0, 0, 0, 0, 0), (14, .getfield 10, 6, 0, 3, 0), (17, .getfield 121, 5, 1, 7, 0), (20, .iload_n 1, 0, 0, 0, 0), (21, .iaload, 0, 0, 0, 0), (22, .iconst 1, 0, 0, 0, 0), (23, .isub, 0, 0, 0, 0), (24, .invokestatic 66, 61, 3, 1, 0)]
def l51_27 : List Ent := [(27, .ifCond .ne 5, 32, 0, 0, 0)]
def l51_30 : List Ent := [(30, .iconst (-1), 0, 0, 0, 0), (31, .ireturn, 0, 0, 0, 0)]
def l51_32 : List Ent := [(32, .aload_n 0, 0, 0, 0, 0), (33, .getfield 10, 6, 0, 3, 0), (36, .iload_n 1, 0, 0, 0, 0), (37, .iload_n 2, 0, 0, 0, 0), (38, .invokevirtual 179, 31, 3, 1, 5)]
def l51_41 : List Ent := [(41, .ireturn, 0, 0, 0, 0)]
def bk51 : List Blk := [(0, l51_0, 8), (8, l51_8, 27), (27, l51_27, 30), (30, l51_30, 32), (32, l51_32, 41), (41, l51_41, 42)]
-- NoticeShifts.ofNotice
def l52_0 : List Ent := [(0, .aload_n 0, 0, 0, 0, 0), (1, .getfield 10, 6, 0, 3, 0), (4, .iload_n 1, 0, 0, 0, 0), (5, .invokevirtual 112, 28, 2, 1, 5)]
def l52_8 : List Ent := [(8, .ifCond .ne 5, 13, 0, 0, 0), (11, .iconst (-1), 0, 0, 0, 0), (12, .ireturn, 0, 0, 0, 0)]
def l52_13 : List Ent := [(13, .iload_n 2, 0, 0, 0, 0), (14, .tableswitch 65 0 3 #[30, 40, 50, 59], 0, 0, 0, 0)]
def l52_44 : List Ent := [(44, .aload_n 0, 0, 0, 0, 0), (45, .getfield 10, 6, 0, 3, 0), (48, .getfield 106, 5, 3, 9, 0), (51, .iload_n 1, 0, 0, 0, 0), (52, .iaload, 0, 0, 0, 0), (53, .ireturn, 0, 0, 0, 0)]
def l52_54 : List Ent := [(54, .aload_n 0, 0, 0, 0, 0), (55, .getfield 10, 6, 0, 3, 0), (58, .getfield 109, 5, 4, 10, 0), (61, .iload_n 1, 0, 0, 0, 0), (62, .iaload, 0, 0, 0, 0), (63, .ireturn, 0, 0, 0, 0)]
def l52_64 : List Ent := [(64, .aload_n 0, 0, 0, 0, 0), (65, .getfield 10, 6, 0, 3, 0), (68, .iload_n 1, 0, 0, 0, 0), (69, .invokevirtual 183, 34, 2, 1, 5)]
def l52_72 : List Ent := [(72, .ireturn, 0, 0, 0, 0)]
def l52_73 : List Ent := [(73, .aload_n 0, 0, 0, 0, 0), (74, .iload_n 1, 0, 0, 0, 0), (75, .invokevirtual 186, 69, 2, 1, 6)]
def l52_78 : List Ent := [(78, .ireturn, 0, 0, 0, 0)]
def l52_79 : List Ent := [(79, .bipush (-2), 0, 0, 0, 0), (81, .ireturn, 0, 0, 0, 0)]
def bk52 : List Blk := [(0, l52_0, 8), (8, l52_8, 13), (13, l52_13, 44), (44, l52_44, 54), (54, l52_54, 64), (64, l52_64, 72), (72, l52_72, 73), (73, l52_73, 78), (78, l52_78, 79), (79, l52_79, 82)]
-- NoticeShifts.of
def l53_0 : List Ent := [(0, .aload_n 0, 0, 0, 0, 0), (1, .getfield 10, 6, 0, 3, 0), (4, .iload_n 1, 0, 0, 0, 0), (5, .invokevirtual 151, 29, 2, 1, 5)]
def l53_8 : List Ent := [(8, .ifCond .ne 5, 13, 0, 0, 0), (11, .iconst (-1), 0, 0, 0, 0), (12, .ireturn, 0, 0, 0, 0)]
def l53_13 : List Ent := [(13, .iload_n 2, 0, 0, 0, 0), (14, .tableswitch 127 0 7 #[46, 56, 66, 79, 88, 97, 106, 115], 0, 0, 0, 0)]
def l53_60 : List Ent := [(60, .aload_n 0, 0, 0, 0, 0), (61, .getfield 10, 6, 0, 3, 0), (64, .getfield 142, 5, 5, 11, 0), (67, .iload_n 1, 0, 0, 0, 0), (68, .iaload, 0, 0, 0, 0), (69, .ireturn, 0, 0, 0, 0)]
def l53_70 : List Ent := [(70, .aload_n 0, 0, 0, 0, 0), (71, .getfield 10, 6, 0, 3, 0), (74, .getfield 145, 5, 6, 12, 0), (77, .iload_n 1, 0, 0, 0, 0), (78, .iaload, 0, 0, 0, 0), (79, .ireturn, 0, 0, 0, 0)]
def l53_80 : List Ent := [(80, .aload_n 0, 0, 0, 0, 0), (81, .getfield 10, 6, 0, 3, 0), (84, .getfield 148, 5, 7, 13, 0), (87, .iload_n 1, 0, 0, 0, 0), (88, .baload, 0, 0, 0, 0), (89, .invokestatic 92, 62, 1, 1, 0)]
def l53_92 : List Ent := [(92, .ireturn, 0, 0, 0, 0)]
def l53_93 : List Ent := [(93, .aload_n 0, 0, 0, 0, 0), (94, .iload_n 1, 0, 0, 0, 0), (95, .invokevirtual 189, 65, 2, 1, 6)]
def l53_98 : List Ent := [(98, .invokestatic 92, 62, 1, 1, 0)]
def l53_101 : List Ent := [(101, .ireturn, 0, 0, 0, 0)]
def l53_102 : List Ent := [(102, .aload_n 0, 0, 0, 0, 0), (103, .iload_n 1, 0, 0, 0, 0), (104, .invokevirtual 162, 63, 2, 2, 6)]
def l53_107 : List Ent := [(107, .invokevirtual 166, 7, 1, 1, 1)]
def l53_110 : List Ent := [(110, .ireturn, 0, 0, 0, 0)]
def l53_111 : List Ent := [(111, .aload_n 0, 0, 0, 0, 0), (112, .iload_n 1, 0, 0, 0, 0), (113, .invokevirtual 162, 63, 2, 2, 6)]
def l53_116 : List Ent := [(116, .invokevirtual 192, 9, 1, 1, 1)]
def l53_119 : List Ent := [(119, .ireturn, 0, 0, 0, 0)]
def l53_120 : List Ent := [(120, .aload_n 0, 0, 0, 0, 0), (121, .iload_n 1, 0, 0, 0, 0), (122, .invokevirtual 162, 63, 2, 2, 6)]
def l53_125 : List Ent := [(125, .invokevirtual 195, 8, 1, 1, 1)]
def l53_128 : List Ent := [(128, .ireturn, 0, 0, 0, 0)]
def l53_129 : List Ent := [(129, .aload_n 0, 0, 0, 0, 0), (130, .iload_n 1, 0, 0, 0, 0), (131, .invokevirtual 162, 63, 2, 2, 6)]
def l53_134 : List Ent := [(134, .getfield 198, 1, 0, 3, 0), (137, .getfield 60, 4, 3, 0, 0), (140, .ireturn, 0, 0, 0, 0)]
def l53_141 : List Ent := [(141, .bipush (-2), 0, 0, 0, 0), (143, .ireturn, 0, 0, 0, 0)]
def bk53 : List Blk := [(0, l53_0, 8), (8, l53_8, 13), (13, l53_13, 60), (60, l53_60, 70), (70, l53_70, 80), (80, l53_80, 92), (92, l53_92, 93), (93, l53_93, 98), (98, l53_98, 101), (101, l53_101, 102), (102, l53_102, 107), (107, l53_107, 110), (110, l53_110, 111), (111, l53_111, 116), (116, l53_116, 119), (119, l53_119, 120), (120, l53_120, 125), (125, l53_125, 128), (128, l53_128, 129), (129, l53_129, 134), (134, l53_134, 141), (141, l53_141, 144)]
-- NoticeShifts.count
def l54_0 : List Ent := [(0, .iload_n 1, 0, 0, 0, 0), (1, .tableswitch 126 0 8 #[51, 62, 73, 84, 92, 100, 105, 110, 118], 0, 0, 0, 0)]
def l54_52 : List Ent := [(52, .aload_n 0, 0, 0, 0, 0), (53, .getfield 10, 6, 0, 3, 0), (56, .getfield 56, 5, 0, 3, 0), (59, .getfield 60, 4, 3, 0, 0), (62, .ireturn, 0, 0, 0, 0)]
def l54_63 : List Ent := [(63, .aload_n 0, 0, 0, 0, 0), (64, .getfield 10, 6, 0, 3, 0), (67, .getfield 56, 5, 0, 3, 0), (70, .invokevirtual 199, 18, 1, 1, 4)]
def l54_73 : List Ent := [(73, .ireturn, 0, 0, 0, 0)]
def l54_74 : List Ent := [(74, .aload_n 0, 0, 0, 0, 0), (75, .getfield 10, 6, 0, 3, 0), (78, .getfield 56, 5, 0, 3, 0), (81, .invokevirtual 99, 22, 1, 1, 4)]
def l54_84 : List Ent := [(84, .ireturn, 0, 0, 0, 0)]
def l54_85 : List Ent := [(85, .aload_n 0, 0, 0, 0, 0), (86, .getfield 10, 6, 0, 3, 0), (89, .getfield 103, 5, 10, 0, 0), (92, .ireturn, 0, 0, 0, 0)]
def l54_93 : List Ent := [(93, .aload_n 0, 0, 0, 0, 0), (94, .getfield 10, 6, 0, 3, 0), (97, .getfield 139, 5, 11, 0, 0), (100, .ireturn, 0, 0, 0, 0)]
def l54_101 : List Ent := [(101, .aload_n 0, 0, 0, 0, 0), (102, .invokevirtual 200, 66, 1, 1, 6)]
def l54_105 : List Ent := [(105, .ireturn, 0, 0, 0, 0)]
def l54_106 : List Ent := [(106, .aload_n 0, 0, 0, 0, 0), (107, .invokevirtual 203, 67, 1, 1, 6)]
def l54_110 : List Ent := [(110, .ireturn, 0, 0, 0, 0)]
def l54_111 : List Ent := [(111, .aload_n 0, 0, 0, 0, 0), (112, .getfield 34, 6, 4, 392, 0), (115, .getfield 136, 3, 1, 0, 0), (118, .ireturn, 0, 0, 0, 0)]
def l54_119 : List Ent := [(119, .aload_n 0, 0, 0, 0, 0), (120, .getfield 19, 6, 1, 58, 0), (123, .getfield 206, 2, 2, 0, 0), (126, .ireturn, 0, 0, 0, 0)]
def l54_127 : List Ent := [(127, .bipush (-2), 0, 0, 0, 0), (129, .ireturn, 0, 0, 0, 0)]
def bk54 : List Blk := [(0, l54_0, 52), (52, l54_52, 63), (63, l54_63, 73), (73, l54_73, 74), (74, l54_74, 84), (84, l54_84, 85), (85, l54_85, 93), (93, l54_93, 101), (101, l54_101, 105), (105, l54_105, 106), (106, l54_106, 110), (110, l54_110, 111), (111, l54_111, 119), (119, l54_119, 127), (127, l54_127, 130)]
-- NoticeShifts.heard
def l55_0 : List Ent := [(0, .aload_n 0, 0, 0, 0, 0), (1, .getfield 10, 6, 0, 3, 0), (4, .iload_n 1, 0, 0, 0, 0), (5, .invokevirtual 151, 29, 2, 1, 5)]
def l55_8 : List Ent := [(8, .ifCond .ne 5, 13, 0, 0, 0), (11, .iconst (-1), 0, 0, 0, 0), (12, .ireturn, 0, 0, 0, 0)]
def l55_13 : List Ent := [(13, .aload_n 0, 0, 0, 0, 0), (14, .iload_n 1, 0, 0, 0, 0), (15, .invokevirtual 162, 63, 2, 2, 6)]
def l55_18 : List Ent := [(18, .astore_n 3, 0, 0, 0, 0), (19, .iload_n 2, 0, 0, 0, 0), (20, .iconst 0, 0, 0, 0, 0), (21, .aload_n 3, 0, 0, 0, 0), (22, .getfield 198, 1, 0, 3, 0), (25, .getfield 60, 4, 3, 0, 0), (28, .iconst 1, 0, 0, 0, 0), (29, .isub, 0, 0, 0, 0), (30, .invokestatic 66, 61, 3, 1, 0)]
def l55_33 : List Ent := [(33, .ifCond .ne 5, 38, 0, 0, 0), (36, .iconst (-1), 0, 0, 0, 0), (37, .ireturn, 0, 0, 0, 0)]
def l55_38 : List Ent := [(38, .aload_n 3, 0, 0, 0, 0), (39, .getfield 207, 1, 1, 7, 0), (42, .iload_n 2, 0, 0, 0, 0), (43, .iaload, 0, 0, 0, 0), (44, .ireturn, 0, 0, 0, 0)]
def bk55 : List Blk := [(0, l55_0, 8), (8, l55_8, 13), (13, l55_13, 18), (18, l55_18, 33), (33, l55_33, 38), (38, l55_38, 45)]
-- NoticeShifts.whenHeard
def l56_0 : List Ent := [(0, .aload_n 0, 0, 0, 0, 0), (1, .getfield 10, 6, 0, 3, 0), (4, .iload_n 1, 0, 0, 0, 0), (5, .invokevirtual 151, 29, 2, 1, 5)]
def l56_8 : List Ent := [(8, .ifCond .ne 5, 13, 0, 0, 0), (11, .iconst (-1), 0, 0, 0, 0), (12, .ireturn, 0, 0, 0, 0)]
def l56_13 : List Ent := [(13, .iload_n 2, 0, 0, 0, 0), (14, .iconst 0, 0, 0, 0, 0), (15, .sipush 7199, 0, 0, 0, 0), (18, .invokestatic 66, 61, 3, 1, 0)]
def l56_21 : List Ent := [(21, .ifCond .ne 6, 27, 0, 0, 0), (24, .bipush (-2), 0, 0, 0, 0), (26, .ireturn, 0, 0, 0, 0)]
def l56_27 : List Ent := [(27, .aload_n 0, 0, 0, 0, 0), (28, .iload_n 1, 0, 0, 0, 0), (29, .invokevirtual 162, 63, 2, 2, 6)]
def l56_32 : List Ent := [(32, .astore_n 3, 0, 0, 0, 0), (33, .aload_n 3, 0, 0, 0, 0), (34, .getfield 198, 1, 0, 3, 0), (37, .iload_n 2, 0, 0, 0, 0), (38, .invokevirtual 209, 19, 2, 1, 4)]
def l56_41 : List Ent := [(41, .istore 4, 0, 0, 0, 0), (43, .iload 4, 0, 0, 0, 0), (45, .bipush (-6), 0, 0, 0, 0), (47, .if_icmp .ne 6, 53, 0, 0, 0), (50, .bipush (-6), 0, 0, 0, 0), (52, .ireturn, 0, 0, 0, 0)]
def l56_53 : List Ent := [(53, .aload_n 3, 0, 0, 0, 0), (54, .iload 4, 0, 0, 0, 0), (56, .invokevirtual 212, 6, 2, 1, 1)]
def l56_59 : List Ent := [(59, .iload_n 2, 0, 0, 0, 0), (60, .iadd, 0, 0, 0, 0), (61, .aload_n 3, 0, 0, 0, 0), (62, .getfield 198, 1, 0, 3, 0), (65, .iload 4, 0, 0, 0, 0), (67, .invokevirtual 169, 17, 2, 1, 4)]
def l56_70 : List Ent := [(70, .isub, 0, 0, 0, 0), (71, .ireturn, 0, 0, 0, 0)]
def bk56 : List Blk := [(0, l56_0, 8), (8, l56_8, 13), (13, l56_13, 21), (21, l56_21, 27), (27, l56_27, 32), (32, l56_32, 41), (41, l56_41, 53), (53, l56_53, 59), (59, l56_59, 70), (70, l56_70, 72)]
-- NoticeShifts.heardAt
def l57_0 : List Ent := [(0, .aload_n 0, 0, 0, 0, 0), (1, .getfield 10, 6, 0, 3, 0), (4, .iload_n 1, 0, 0, 0, 0), (5, .invokevirtual 151, 29, 2, 1, 5)]
def l57_8 : List Ent := [(8, .ifCond .ne 5, 13, 0, 0, 0), (11, .iconst (-1), 0, 0, 0, 0), (12, .ireturn, 0, 0, 0, 0)]
def l57_13 : List Ent := [(13, .iload_n 2, 0, 0, 0, 0), (14, .iconst 0, 0, 0, 0, 0), (15, .sipush 9999, 0, 0, 0, 0), (18, .invokestatic 66, 61, 3, 1, 0)]
def l57_21 : List Ent := [(21, .ifCond .eq 12, 33, 0, 0, 0), (24, .iload_n 3, 0, 0, 0, 0), (25, .iconst 0, 0, 0, 0, 0), (26, .iconst 3, 0, 0, 0, 0), (27, .invokestatic 66, 61, 3, 1, 0)]
def l57_30 : List Ent := [(30, .ifCond .ne 6, 36, 0, 0, 0)]
def l57_33 : List Ent := [(33, .bipush (-2), 0, 0, 0, 0), (35, .ireturn, 0, 0, 0, 0)]
def l57_36 : List Ent := [(36, .aload_n 0, 0, 0, 0, 0), (37, .iload_n 1, 0, 0, 0, 0), (38, .invokevirtual 162, 63, 2, 2, 6)]
def l57_41 : List Ent := [(41, .astore 4, 0, 0, 0, 0), (43, .aload 4, 0, 0, 0, 0), (45, .iload_n 2, 0, 0, 0, 0), (46, .invokevirtual 215, 10, 2, 1, 1)]
def l57_49 : List Ent := [(49, .istore 5, 0, 0, 0, 0), (51, .iload 5, 0, 0, 0, 0), (53, .bipush (-6), 0, 0, 0, 0), (55, .if_icmp .ne 6, 61, 0, 0, 0), (58, .bipush (-5), 0, 0, 0, 0), (60, .ireturn, 0, 0, 0, 0)]
def l57_61 : List Ent := [(61, .iload_n 2, 0, 0, 0, 0), (62, .aload 4, 0, 0, 0, 0), (64, .iload 5, 0, 0, 0, 0), (66, .invokevirtual 212, 6, 2, 1, 1)]
def l57_69 : List Ent := [(69, .isub, 0, 0, 0, 0), (70, .istore 6, 0, 0, 0, 0), (72, .iload 6, 0, 0, 0, 0), (74, .ifCond .ge 7, 81, 0, 0, 0), (77, .iconst 1, 0, 0, 0, 0), (78, .goto 4, 82, 0, 0, 0)]
def l57_81 : List Ent := [(81, .iconst 0, 0, 0, 0, 0)]
def l57_82 : List Ent := [(82, .istore 7, 0, 0, 0, 0), (84, .iload_n 3, 0, 0, 0, 0), (85, .tableswitch 73 0 2 #[27, 51, 70], 0, 0, 0, 0)]
def l57_112 : List Ent := [(112, .iload 7, 0, 0, 0, 0), (114, .ifCond .eq 8, 122, 0, 0, 0), (117, .bipush (-6), 0, 0, 0, 0), (119, .goto 16, 135, 0, 0, 0)]
def l57_122 : List Ent := [(122, .aload 4, 0, 0, 0, 0), (124, .getfield 198, 1, 0, 3, 0), (127, .iload 5, 0, 0, 0, 0), (129, .invokevirtual 169, 17, 2, 1, 4)]
def l57_132 : List Ent := [(132, .iload 6, 0, 0, 0, 0), (134, .iadd, 0, 0, 0, 0)]
def l57_135 : List Ent := [(135, .ireturn, 0, 0, 0, 0)]
def l57_136 : List Ent := [(136, .iload 7, 0, 0, 0, 0), (138, .ifCond .eq 14, 152, 0, 0, 0), (141, .aload 4, 0, 0, 0, 0), (143, .getfield 207, 1, 1, 7, 0), (146, .iload 5, 0, 0, 0, 0), (148, .iaload, 0, 0, 0, 0), (149, .goto 5, 154, 0, 0, 0)]
def l57_152 : List Ent := [(152, .bipush (-6), 0, 0, 0, 0)]
def l57_154 : List Ent := [(154, .ireturn, 0, 0, 0, 0)]
def l57_155 : List Ent := [(155, .iload 5, 0, 0, 0, 0), (157, .ireturn, 0, 0, 0, 0)]
def l57_158 : List Ent := [(158, .aload 4, 0, 0, 0, 0), (160, .getfield 198, 1, 0, 3, 0), (163, .iload 5, 0, 0, 0, 0), (165, .invokevirtual 173, 21, 2, 1, 4)]
def l57_168 : List Ent := [(168, .ireturn, 0, 0, 0, 0)]
def bk57 : List Blk := [(0, l57_0, 8), (8, l57_8, 13), (13, l57_13, 21), (21, l57_21, 30), (30, l57_30, 33), (33, l57_33, 36), (36, l57_36, 41), (41, l57_41, 49), (49, l57_49, 61), (61, l57_61, 69), (69, l57_69, 81), (81, l57_81, 82), (82, l57_82, 112), (112, l57_112, 122), (122, l57_122, 132), (132, l57_132, 135), (135, l57_135, 136), (136, l57_136, 152), (152, l57_152, 154), (154, l57_154, 155), (155, l57_155, 158), (158, l57_158, 168), (168, l57_168, 169)]
-- NoticeShifts.chapterAt
def l58_0 : List Ent := [(0, .aload_n 0, 0, 0, 0, 0), (1, .getfield 10, 6, 0, 3, 0), (4, .iload_n 1, 0, 0, 0, 0), (5, .invokevirtual 151, 29, 2, 1, 5)]
def l58_8 : List Ent := [(8, .ifCond .ne 5, 13, 0, 0, 0), (11, .iconst (-1), 0, 0, 0, 0), (12, .ireturn, 0, 0, 0, 0)]
def l58_13 : List Ent := [(13, .aload_n 0, 0, 0, 0, 0), (14, .iload_n 1, 0, 0, 0, 0), (15, .invokevirtual 162, 63, 2, 2, 6)]
def l58_18 : List Ent := [(18, .astore_n 3, 0, 0, 0, 0), (19, .iload_n 2, 0, 0, 0, 0), (20, .iconst 0, 0, 0, 0, 0), (21, .aload_n 3, 0, 0, 0, 0), (22, .getfield 198, 1, 0, 3, 0), (25, .invokevirtual 99, 22, 1, 1, 4)]
def l58_28 : List Ent := [(28, .iconst 1, 0, 0, 0, 0), (29, .isub, 0, 0, 0, 0), (30, .invokestatic 66, 61, 3, 1, 0)]
def l58_33 : List Ent := [(33, .ifCond .ne 5, 38, 0, 0, 0), (36, .iconst (-1), 0, 0, 0, 0), (37, .ireturn, 0, 0, 0, 0)]
def l58_38 : List Ent := [(38, .aload_n 3, 0, 0, 0, 0), (39, .aload_n 3, 0, 0, 0, 0), (40, .getfield 198, 1, 0, 3, 0), (43, .iload_n 2, 0, 0, 0, 0), (44, .invokevirtual 218, 23, 2, 1, 4)]
def l58_47 : List Ent := [(47, .invokevirtual 221, 5, 2, 1, 1)]
def l58_50 : List Ent := [(50, .ireturn, 0, 0, 0, 0)]
def bk58 : List Blk := [(0, l58_0, 8), (8, l58_8, 13), (13, l58_13, 18), (18, l58_18, 28), (28, l58_28, 33), (33, l58_33, 38), (38, l58_38, 47), (47, l58_47, 50), (50, l58_50, 51)]
-- NoticeShifts.open
def l59_0 : List Ent := [(0, .aload_n 0, 0, 0, 0, 0), (1, .getfield 10, 6, 0, 3, 0), (4, .iload_n 1, 0, 0, 0, 0), (5, .invokevirtual 151, 29, 2, 1, 5)]
def l59_8 : List Ent := [(8, .ifCond .ne 5, 13, 0, 0, 0), (11, .iconst (-1), 0, 0, 0, 0), (12, .ireturn, 0, 0, 0, 0)]
def l59_13 : List Ent := [(13, .iload_n 3, 0, 0, 0, 0), (14, .iconst 0, 0, 0, 0, 0), (15, .sipush 299, 0, 0, 0, 0), (18, .invokestatic 66, 61, 3, 1, 0)]
def l59_21 : List Ent := [(21, .ifCond .ne 6, 27, 0, 0, 0), (24, .bipush (-2), 0, 0, 0, 0), (26, .ireturn, 0, 0, 0, 0)]
def l59_27 : List Ent := [(27, .aload_n 0, 0, 0, 0, 0), (28, .iload_n 1, 0, 0, 0, 0), (29, .invokevirtual 162, 63, 2, 2, 6)]
def l59_32 : List Ent := [(32, .astore 4, 0, 0, 0, 0), (34, .aload 4, 0, 0, 0, 0), (36, .getfield 198, 1, 0, 3, 0), (39, .iload_n 2, 0, 0, 0, 0), (40, .invokevirtual 176, 20, 2, 1, 4)]
def l59_43 : List Ent := [(43, .istore 5, 0, 0, 0, 0), (45, .iload 5, 0, 0, 0, 0), (47, .iconst (-1), 0, 0, 0, 0), (48, .if_icmp .eq 18, 66, 0, 0, 0), (51, .iload_n 3, 0, 0, 0, 0), (52, .aload 4, 0, 0, 0, 0), (54, .getfield 198, 1, 0, 3, 0), (57, .getfield 89, 4, 1, 4, 0), (60, .iload 5, 0, 0, 0, 0), (62, .iaload, 0, 0, 0, 0), (63, .if_icmp .lt 6, 69, 0, 0, 0)]
def l59_66 : List Ent := [(66, .bipush (-5), 0, 0, 0, 0), (68, .ireturn, 0, 0, 0, 0)]
def l59_69 : List Ent := [(69, .aload 4, 0, 0, 0, 0), (71, .iload 5, 0, 0, 0, 0), (73, .invokevirtual 212, 6, 2, 1, 1)]
def l59_76 : List Ent := [(76, .iload_n 3, 0, 0, 0, 0), (77, .iadd, 0, 0, 0, 0), (78, .ireturn, 0, 0, 0, 0)]
def bk59 : List Blk := [(0, l59_0, 8), (8, l59_8, 13), (13, l59_13, 21), (21, l59_21, 27), (27, l59_27, 32), (32, l59_32, 43), (43, l59_43, 66), (66, l59_66, 69), (69, l59_69, 76), (76, l59_76, 79)]
-- NoticeShifts.enough
def l60_0 : List Ent := [(0, .aload_n 0, 0, 0, 0, 0), (1, .getfield 10, 6, 0, 3, 0), (4, .iload_n 1, 0, 0, 0, 0), (5, .invokevirtual 151, 29, 2, 1, 5)]
def l60_8 : List Ent := [(8, .ifCond .ne 5, 13, 0, 0, 0), (11, .iconst (-1), 0, 0, 0, 0), (12, .ireturn, 0, 0, 0, 0)]
def l60_13 : List Ent := [(13, .aload_n 0, 0, 0, 0, 0), (14, .iload_n 1, 0, 0, 0, 0), (15, .sipush 600, 0, 0, 0, 0), (18, .invokevirtual 241, 68, 3, 0, 6)]
def l60_21 : List Ent := [(21, .aload_n 0, 0, 0, 0, 0), (22, .getfield 41, 6, 5, 394, 0), (25, .getfield 244, 0, 2, 0, 0), (28, .istore_n 2, 0, 0, 0, 0), (29, .iconst 0, 0, 0, 0, 0), (30, .istore_n 3, 0, 0, 0, 0), (31, .iconst 0, 0, 0, 0, 0), (32, .istore 4, 0, 0, 0, 0)]
def l60_34 : List Ent := [(34, .iload 4, 0, 0, 0, 0), (36, .sipush 600, 0, 0, 0, 0), (39, .if_icmp .ge 47, 86, 0, 0, 0), (42, .iload 4, 0, 0, 0, 0), (44, .iload_n 3, 0, 0, 0, 0), (45, .if_icmp .ge 6, 51, 0, 0, 0), (48, .goto 32, 80, 0, 0, 0)]
def l60_51 : List Ent := [(51, .aload_n 0, 0, 0, 0, 0), (52, .iload_n 1, 0, 0, 0, 0), (53, .iload 4, 0, 0, 0, 0), (55, .invokevirtual 241, 68, 3, 0, 6)]
def l60_58 : List Ent := [(58, .aload_n 0, 0, 0, 0, 0), (59, .getfield 41, 6, 5, 394, 0), (62, .getfield 244, 0, 2, 0, 0), (65, .iload_n 2, 0, 0, 0, 0), (66, .if_icmp .ne 6, 72, 0, 0, 0), (69, .iload 4, 0, 0, 0, 0), (71, .ireturn, 0, 0, 0, 0)]
def l60_72 : List Ent := [(72, .aload_n 0, 0, 0, 0, 0), (73, .getfield 41, 6, 5, 394, 0), (76, .getfield 247, 0, 5, 0, 0), (79, .istore_n 3, 0, 0, 0, 0)]
def l60_80 : List Ent := [(80, .iinc 4 1, 0, 0, 0, 0), (83, .goto (-49), 34, 0, 0, 0)]
def l60_86 : List Ent := [(86, .sipush 600, 0, 0, 0, 0), (89, .ireturn, 0, 0, 0, 0)]
def bk60 : List Blk := [(0, l60_0, 8), (8, l60_8, 13), (13, l60_13, 21), (21, l60_21, 34), (34, l60_34, 51), (51, l60_51, 58), (58, l60_58, 72), (72, l60_72, 80), (80, l60_80, 86), (86, l60_86, 90)]
-- NoticeShifts.isWithin
def l61_0 : List Ent := [(0, .iload_n 0, 0, 0, 0, 0), (1, .iload_n 1, 0, 0, 0, 0), (2, .if_icmp .lt 12, 14, 0, 0, 0), (5, .iload_n 0, 0, 0, 0, 0), (6, .iload_n 2, 0, 0, 0, 0), (7, .if_icmp .gt 7, 14, 0, 0, 0), (10, .iconst 1, 0, 0, 0, 0), (11, .goto 4, 15, 0, 0, 0)]
def l61_14 : List Ent := [(14, .iconst 0, 0, 0, 0, 0)]
def l61_15 : List Ent := [(15, .ireturn, 1, 0, 0, 0)]
def bk61 : List Blk := [(0, l61_0, 14), (14, l61_14, 15), (15, l61_15, 16)]
-- NoticeShifts.asNumber
def l62_0 : List Ent := [(0, .iload_n 0, 0, 0, 0, 0), (1, .ifCond .eq 7, 8, 0, 0, 0), (4, .iconst 1, 0, 0, 0, 0), (5, .goto 4, 9, 0, 0, 0)]
def l62_8 : List Ent := [(8, .iconst 0, 0, 0, 0, 0)]
def l62_9 : List Ent := [(9, .ireturn, 0, 0, 0, 0)]
def bk62 : List Blk := [(0, l62_0, 8), (8, l62_8, 9), (9, l62_9, 10)]
-- NoticeShifts.hearingOf
def l63_0 : List Ent := [(0, .aload_n 0, 0, 0, 0, 0), (1, .getfield 10, 6, 0, 3, 0), (4, .getfield 148, 5, 7, 13, 0), (7, .iload_n 1, 0, 0, 0, 0), (8, .baload, 0, 0, 0, 0), (9, .ifCond .eq 13, 22, 0, 0, 0), (12, .aload_n 0, 0, 0, 0, 0), (13, .getfield 10, 6, 0, 3, 0), (16, .getfield 154, 5, 8, 14, 0), (19, .iload_n 1, 0, 0, 0, 0), (20, .aaload, 103, 1, 7, 0), (21, .areturn, 0, 0, 0, 0)]
def l63_22 : List Ent := [(22, .aload_n 0, 0, 0, 0, 0), (23, .iload_n 1, 0, 0, 0, 0), (24, .aload_n 0, 0, 0, 0, 0), (25, .getfield 48, 6, 6, 395, 0), (28, .invokevirtual 158, 64, 3, 0, 6)]
def l63_31 : List Ent := [(31, .aload_n 0, 0, 0, 0, 0), (32, .getfield 48, 6, 6, 395, 0), (35, .areturn, 0, 0, 0, 0)]
def bk63 : List Blk := [(0, l63_0, 22), (22, l63_22, 31), (31, l63_31, 36)]
-- NoticeShifts.hearNow
def l64_0 : List Ent := [(0, .aload_n 2, 0, 0, 0, 0), (1, .getfield 198, 1, 0, 3, 0), (4, .aload_n 0, 0, 0, 0, 0), (5, .getfield 10, 6, 0, 3, 0), (8, .getfield 56, 5, 0, 3, 0), (11, .invokevirtual 272, 24, 2, 0, 4)]
def l64_14 : List Ent := [(14, .aload_n 0, 0, 0, 0, 0), (15, .getfield 41, 6, 5, 394, 0), (18, .aload_n 0, 0, 0, 0, 0), (19, .getfield 10, 6, 0, 3, 0), (22, .getfield 142, 5, 5, 11, 0), (25, .iload_n 1, 0, 0, 0, 0), (26, .iaload, 0, 0, 0, 0), (27, .aload_n 0, 0, 0, 0, 0), (28, .getfield 10, 6, 0, 3, 0), (31, .getfield 145, 5, 6, 12, 0), (34, .iload_n 1, 0, 0, 0, 0), (35, .iaload, 0, 0, 0, 0), (36, .invokevirtual 275, 1, 3, 0, 0)]
def l64_39 : List Ent := [(39, .iconst 0, 0, 0, 0, 0), (40, .istore_n 3, 0, 0, 0, 0)]
def l64_41 : List Ent := [(41, .iload_n 3, 0, 0, 0, 0), (42, .aload_n 0, 0, 0, 0, 0), (43, .getfield 10, 6, 0, 3, 0), (46, .getfield 56, 5, 0, 3, 0), (49, .getfield 60, 4, 3, 0, 0), (52, .if_icmp .ge 58, 110, 0, 0, 0), (55, .aload_n 0, 0, 0, 0, 0), (56, .getfield 41, 6, 5, 394, 0), (59, .aload_n 0, 0, 0, 0, 0), (60, .getfield 10, 6, 0, 3, 0), (63, .iload_n 3, 0, 0, 0, 0), (64, .invokevirtual 278, 2, 3, 1, 0)]
def l64_67 : List Ent := [(67, .istore 4, 0, 0, 0, 0), (69, .aload_n 2, 0, 0, 0, 0), (70, .getfield 207, 1, 1, 7, 0), (73, .iload_n 3, 0, 0, 0, 0), (74, .iload 4, 0, 0, 0, 0), (76, .iastore, 0, 0, 0, 0), (77, .aload_n 2, 0, 0, 0, 0), (78, .getfield 282, 1, 2, 8, 0), (81, .iload_n 3, 0, 0, 0, 0), (82, .iload 4, 0, 0, 0, 0), (84, .bipush (-6), 0, 0, 0, 0), (86, .if_icmp .ne 7, 93, 0, 0, 0), (89, .iconst 0, 0, 0, 0, 0), (90, .goto 13, 103, 0, 0, 0)]
def l64_93 : List Ent := [(93, .aload_n 0, 0, 0, 0, 0), (94, .getfield 10, 6, 0, 3, 0), (97, .getfield 106, 5, 3, 9, 0), (100, .iload 4, 0, 0, 0, 0), (102, .iaload, 0, 0, 0, 0)]
def l64_103 : List Ent := [(103, .iastore, 0, 0, 0, 0), (104, .iinc 3 1, 0, 0, 0, 0), (107, .goto (-66), 41, 0, 0, 0)]
def l64_110 : List Ent := [(110, .return_, 0, 0, 0, 0)]
def bk64 : List Blk := [(0, l64_0, 14), (14, l64_14, 39), (39, l64_39, 41), (41, l64_41, 67), (67, l64_67, 93), (93, l64_93, 103), (103, l64_103, 110), (110, l64_110, 111)]
-- NoticeShifts.isOutOfDate
def l65_0 : List Ent := [(0, .aload_n 0, 0, 0, 0, 0), (1, .getfield 10, 6, 0, 3, 0), (4, .getfield 148, 5, 7, 13, 0), (7, .iload_n 1, 0, 0, 0, 0), (8, .baload, 0, 0, 0, 0), (9, .ifCond .ne 5, 14, 0, 0, 0), (12, .iconst 0, 0, 0, 0, 0), (13, .ireturn, 1, 0, 0, 0)]
def l65_14 : List Ent := [(14, .aload_n 0, 0, 0, 0, 0), (15, .iload_n 1, 0, 0, 0, 0), (16, .aload_n 0, 0, 0, 0, 0), (17, .getfield 48, 6, 6, 395, 0), (20, .invokevirtual 158, 64, 3, 0, 6)]
def l65_23 : List Ent := [(23, .aload_n 0, 0, 0, 0, 0), (24, .getfield 48, 6, 6, 395, 0), (27, .aload_n 0, 0, 0, 0, 0), (28, .getfield 10, 6, 0, 3, 0), (31, .getfield 154, 5, 8, 14, 0), (34, .iload_n 1, 0, 0, 0, 0), (35, .aaload, 103, 1, 7, 0), (36, .invokevirtual 283, 12, 2, 1, 1)]
def l65_39 : List Ent := [(39, .ifCond .ne 7, 46, 0, 0, 0), (42, .iconst 1, 0, 0, 0, 0), (43, .goto 4, 47, 0, 0, 0)]
def l65_46 : List Ent := [(46, .iconst 0, 0, 0, 0, 0)]
def l65_47 : List Ent := [(47, .ireturn, 1, 0, 0, 0)]
def bk65 : List Blk := [(0, l65_0, 14), (14, l65_14, 23), (23, l65_23, 39), (39, l65_39, 46), (46, l65_46, 47), (47, l65_47, 48)]
-- NoticeShifts.outOfDateListeners
def l66_0 : List Ent := [(0, .iconst 0, 0, 0, 0, 0), (1, .istore_n 1, 0, 0, 0, 0), (2, .iconst 0, 0, 0, 0, 0), (3, .istore_n 2, 0, 0, 0, 0)]
def l66_4 : List Ent := [(4, .iload_n 2, 0, 0, 0, 0), (5, .aload_n 0, 0, 0, 0, 0), (6, .getfield 10, 6, 0, 3, 0), (9, .getfield 139, 5, 11, 0, 0), (12, .if_icmp .ge 23, 35, 0, 0, 0), (15, .aload_n 0, 0, 0, 0, 0), (16, .iload_n 2, 0, 0, 0, 0), (17, .invokevirtual 189, 65, 2, 1, 6)]
def l66_20 : List Ent := [(20, .ifCond .eq 9, 29, 0, 0, 0), (23, .iload_n 1, 0, 0, 0, 0), (24, .iconst 1, 0, 0, 0, 0), (25, .iload_n 2, 0, 0, 0, 0), (26, .ishl, 0, 0, 0, 0), (27, .ior, 0, 0, 0, 0), (28, .istore_n 1, 0, 0, 0, 0)]
def l66_29 : List Ent := [(29, .iinc 2 1, 0, 0, 0, 0), (32, .goto (-28), 4, 0, 0, 0)]
def l66_35 : List Ent := [(35, .iload_n 1, 0, 0, 0, 0), (36, .ireturn, 0, 0, 0, 0)]
def bk66 : List Blk := [(0, l66_0, 4), (4, l66_4, 20), (20, l66_20, 29), (29, l66_29, 35), (35, l66_35, 37)]
-- NoticeShifts.longestListener
def l67_0 : List Ent := [(0, .bipush (-6), 0, 0, 0, 0), (2, .istore_n 1, 0, 0, 0, 0), (3, .bipush (-6), 0, 0, 0, 0), (5, .istore_n 2, 0, 0, 0, 0), (6, .iconst 0, 0, 0, 0, 0), (7, .istore_n 3, 0, 0, 0, 0)]
def l67_8 : List Ent := [(8, .iload_n 3, 0, 0, 0, 0), (9, .aload_n 0, 0, 0, 0, 0), (10, .getfield 10, 6, 0, 3, 0), (13, .getfield 139, 5, 11, 0, 0), (16, .if_icmp .ge 30, 46, 0, 0, 0), (19, .aload_n 0, 0, 0, 0, 0), (20, .iload_n 3, 0, 0, 0, 0), (21, .invokevirtual 162, 63, 2, 2, 6)]
def l67_24 : List Ent := [(24, .invokevirtual 166, 7, 1, 1, 1)]
def l67_27 : List Ent := [(27, .istore 4, 0, 0, 0, 0), (29, .iload 4, 0, 0, 0, 0), (31, .iload_n 2, 0, 0, 0, 0), (32, .if_icmp .le 8, 40, 0, 0, 0), (35, .iload_n 3, 0, 0, 0, 0), (36, .istore_n 1, 0, 0, 0, 0), (37, .iload 4, 0, 0, 0, 0), (39, .istore_n 2, 0, 0, 0, 0)]
def l67_40 : List Ent := [(40, .iinc 3 1, 0, 0, 0, 0), (43, .goto (-35), 8, 0, 0, 0)]
def l67_46 : List Ent := [(46, .iload_n 1, 0, 0, 0, 0), (47, .ireturn, 0, 0, 0, 0)]
def bk67 : List Blk := [(0, l67_0, 8), (8, l67_8, 24), (24, l67_24, 27), (27, l67_27, 40), (40, l67_40, 46), (46, l67_46, 48)]
-- NoticeShifts.chooseAll
def l68_0 : List Ent := [(0, .aload_n 0, 0, 0, 0, 0), (1, .getfield 41, 6, 5, 394, 0), (4, .aload_n 0, 0, 0, 0, 0), (5, .getfield 10, 6, 0, 3, 0), (8, .getfield 142, 5, 5, 11, 0), (11, .iload_n 1, 0, 0, 0, 0), (12, .iaload, 0, 0, 0, 0), (13, .iload_n 2, 0, 0, 0, 0), (14, .invokevirtual 275, 1, 3, 0, 0)]
def l68_17 : List Ent := [(17, .iconst 0, 0, 0, 0, 0), (18, .istore_n 3, 0, 0, 0, 0)]
def l68_19 : List Ent := [(19, .iload_n 3, 0, 0, 0, 0), (20, .aload_n 0, 0, 0, 0, 0), (21, .getfield 10, 6, 0, 3, 0), (24, .getfield 56, 5, 0, 3, 0), (27, .getfield 60, 4, 3, 0, 0), (30, .if_icmp .ge 22, 52, 0, 0, 0), (33, .aload_n 0, 0, 0, 0, 0), (34, .getfield 41, 6, 5, 394, 0), (37, .aload_n 0, 0, 0, 0, 0), (38, .getfield 10, 6, 0, 3, 0), (41, .iload_n 3, 0, 0, 0, 0), (42, .invokevirtual 278, 2, 3, 1, 0)]
def l68_45 : List Ent := [(45, .pop, 0, 0, 0, 0), (46, .iinc 3 1, 0, 0, 0, 0), (49, .goto (-30), 19, 0, 0, 0)]
def l68_52 : List Ent := [(52, .return_, 0, 0, 0, 0)]
def bk68 : List Blk := [(0, l68_0, 17), (17, l68_17, 19), (19, l68_19, 45), (45, l68_45, 52), (52, l68_52, 53)]
-- NoticeShifts.countHearers
def l69_0 : List Ent := [(0, .iconst 0, 0, 0, 0, 0), (1, .istore_n 2, 0, 0, 0, 0), (2, .iconst 0, 0, 0, 0, 0), (3, .istore_n 3, 0, 0, 0, 0)]
def l69_4 : List Ent := [(4, .iload_n 3, 0, 0, 0, 0), (5, .aload_n 0, 0, 0, 0, 0), (6, .getfield 10, 6, 0, 3, 0), (9, .getfield 139, 5, 11, 0, 0), (12, .if_icmp .ge 37, 49, 0, 0, 0), (15, .aload_n 0, 0, 0, 0, 0), (16, .iload_n 3, 0, 0, 0, 0), (17, .aload_n 0, 0, 0, 0, 0), (18, .getfield 10, 6, 0, 3, 0), (21, .getfield 145, 5, 6, 12, 0), (24, .iload_n 3, 0, 0, 0, 0), (25, .iaload, 0, 0, 0, 0), (26, .invokevirtual 241, 68, 3, 0, 6)]
def l69_29 : List Ent := [(29, .iload_n 2, 0, 0, 0, 0), (30, .aload_n 0, 0, 0, 0, 0), (31, .getfield 41, 6, 5, 394, 0), (34, .getfield 293, 0, 3, 0, 0), (37, .iload_n 1, 0, 0, 0, 0), (38, .ishr, 0, 0, 0, 0), (39, .iconst 1, 0, 0, 0, 0), (40, .iand, 0, 0, 0, 0), (41, .iadd, 0, 0, 0, 0), (42, .istore_n 2, 0, 0, 0, 0), (43, .iinc 3 1, 0, 0, 0, 0), (46, .goto (-42), 4, 0, 0, 0)]
def l69_49 : List Ent := [(49, .iload_n 2, 0, 0, 0, 0), (50, .ireturn, 0, 0, 0, 0)]
def bk69 : List Blk := [(0, l69_0, 4), (4, l69_4, 29), (29, l69_29, 49), (49, l69_49, 51)]
def bks : List (List Blk) := [[], bk1, bk2, bk3, [], bk5, bk6, bk7, bk8, bk9, bk10, bk11, bk12, [], bk14, [], [], bk17, bk18, bk19, bk20, bk21, bk22, bk23, bk24, bk25, [], bk27, bk28, bk29, bk30, bk31, bk32, bk33, bk34, bk35, bk36, bk37, bk38, [], bk40, bk41, bk42, bk43, bk44, bk45, bk46, bk47, bk48, bk49, bk50, bk51, bk52, bk53, bk54, bk55, bk56, bk57, bk58, bk59, bk60, bk61, bk62, bk63, bk64, bk65, bk66, bk67, bk68, bk69]
def bkOf (mi : Nat) : List Blk := bks.getD mi []
def blk (mi pc : Nat) : Option (List Ent × Nat) := ((bkOf mi).find? (fun b => b.1 == pc)).map (fun b => b.2)
theorem bo1 : bkOf 1 = bk1 := rfl
theorem b1_0 : blk 1 0 = some (l1_0, 33) := rfl
theorem bo2 : bkOf 2 = bk2 := rfl
theorem b2_0 : blk 2 0 = some (l2_0, 2) := rfl
theorem b2_2 : blk 2 2 = some (l2_2, 18) := rfl
theorem b2_18 : blk 2 18 = some (l2_18, 27) := rfl
theorem b2_27 : blk 2 27 = some (l2_27, 33) := rfl
theorem b2_33 : blk 2 33 = some (l2_33, 88) := rfl
theorem b2_88 : blk 2 88 = some (l2_88, 101) := rfl
theorem b2_101 : blk 2 101 = some (l2_101, 107) := rfl
theorem b2_107 : blk 2 107 = some (l2_107, 110) := rfl
theorem bo3 : bkOf 3 = bk3 := rfl
theorem b3_0 : blk 3 0 = some (l3_0, 21) := rfl
theorem b3_21 : blk 3 21 = some (l3_21, 22) := rfl
theorem b3_22 : blk 3 22 = some (l3_22, 39) := rfl
theorem b3_39 : blk 3 39 = some (l3_39, 40) := rfl
theorem b3_40 : blk 3 40 = some (l3_40, 55) := rfl
theorem b3_55 : blk 3 55 = some (l3_55, 56) := rfl
theorem b3_56 : blk 3 56 = some (l3_56, 57) := rfl
theorem bo5 : bkOf 5 = bk5 := rfl
theorem b5_0 : blk 5 0 = some (l5_0, 8) := rfl
theorem b5_8 : blk 5 8 = some (l5_8, 11) := rfl
theorem b5_11 : blk 5 11 = some (l5_11, 31) := rfl
theorem b5_31 : blk 5 31 = some (l5_31, 33) := rfl
theorem bo6 : bkOf 6 = bk6 := rfl
theorem b6_0 : blk 6 0 = some (l6_0, 5) := rfl
theorem b6_5 : blk 6 5 = some (l6_5, 13) := rfl
theorem bo7 : bkOf 7 = bk7 := rfl
theorem b7_0 : blk 7 0 = some (l7_0, 11) := rfl
theorem b7_11 : blk 7 11 = some (l7_11, 12) := rfl
theorem bo8 : bkOf 8 = bk8 := rfl
theorem b8_0 : blk 8 0 = some (l8_0, 4) := rfl
theorem b8_4 : blk 8 4 = some (l8_4, 11) := rfl
theorem b8_11 : blk 8 11 = some (l8_11, 13) := rfl
theorem bo9 : bkOf 9 = bk9 := rfl
theorem b9_0 : blk 9 0 = some (l9_0, 4) := rfl
theorem b9_4 : blk 9 4 = some (l9_4, 31) := rfl
theorem b9_31 : blk 9 31 = some (l9_31, 32) := rfl
theorem b9_32 : blk 9 32 = some (l9_32, 35) := rfl
theorem b9_35 : blk 9 35 = some (l9_35, 43) := rfl
theorem b9_43 : blk 9 43 = some (l9_43, 45) := rfl
theorem bo10 : bkOf 10 = bk10 := rfl
theorem b10_0 : blk 10 0 = some (l10_0, 4) := rfl
theorem b10_4 : blk 10 4 = some (l10_4, 41) := rfl
theorem b10_41 : blk 10 41 = some (l10_41, 47) := rfl
theorem b10_47 : blk 10 47 = some (l10_47, 50) := rfl
theorem bo11 : bkOf 11 = bk11 := rfl
theorem b11_0 : blk 11 0 = some (l11_0, 11) := rfl
theorem b11_11 : blk 11 11 = some (l11_11, 52) := rfl
theorem bo12 : bkOf 12 = bk12 := rfl
theorem b12_0 : blk 12 0 = some (l12_0, 11) := rfl
theorem b12_11 : blk 12 11 = some (l12_11, 16) := rfl
theorem b12_16 : blk 12 16 = some (l12_16, 18) := rfl
theorem b12_18 : blk 12 18 = some (l12_18, 59) := rfl
theorem b12_59 : blk 12 59 = some (l12_59, 61) := rfl
theorem b12_61 : blk 12 61 = some (l12_61, 67) := rfl
theorem b12_67 : blk 12 67 = some (l12_67, 69) := rfl
theorem bo14 : bkOf 14 = bk14 := rfl
theorem b14_0 : blk 14 0 = some (l14_0, 13) := rfl
theorem b14_13 : blk 14 13 = some (l14_13, 26) := rfl
theorem b14_26 : blk 14 26 = some (l14_26, 32) := rfl
theorem b14_32 : blk 14 32 = some (l14_32, 51) := rfl
theorem bo17 : bkOf 17 = bk17 := rfl
theorem b17_0 : blk 17 0 = some (l17_0, 4) := rfl
theorem b17_4 : blk 17 4 = some (l17_4, 24) := rfl
theorem b17_24 : blk 17 24 = some (l17_24, 26) := rfl
theorem bo18 : bkOf 18 = bk18 := rfl
theorem b18_0 : blk 18 0 = some (l18_0, 8) := rfl
theorem b18_8 : blk 18 8 = some (l18_8, 9) := rfl
theorem bo19 : bkOf 19 = bk19 := rfl
theorem b19_0 : blk 19 0 = some (l19_0, 4) := rfl
theorem b19_4 : blk 19 4 = some (l19_4, 28) := rfl
theorem b19_28 : blk 19 28 = some (l19_28, 34) := rfl
theorem b19_34 : blk 19 34 = some (l19_34, 37) := rfl
theorem bo20 : bkOf 20 = bk20 := rfl
theorem b20_0 : blk 20 0 = some (l20_0, 2) := rfl
theorem b20_2 : blk 20 2 = some (l20_2, 22) := rfl
theorem b20_22 : blk 20 22 = some (l20_22, 28) := rfl
theorem b20_28 : blk 20 28 = some (l20_28, 30) := rfl
theorem bo21 : bkOf 21 = bk21 := rfl
theorem b21_0 : blk 21 0 = some (l21_0, 4) := rfl
theorem b21_4 : blk 21 4 = some (l21_4, 24) := rfl
theorem b21_24 : blk 21 24 = some (l21_24, 26) := rfl
theorem bo22 : bkOf 22 = bk22 := rfl
theorem b22_0 : blk 22 0 = some (l22_0, 10) := rfl
theorem b22_10 : blk 22 10 = some (l22_10, 13) := rfl
theorem bo23 : bkOf 23 = bk23 := rfl
theorem b23_0 : blk 23 0 = some (l23_0, 4) := rfl
theorem b23_4 : blk 23 4 = some (l23_4, 28) := rfl
theorem b23_28 : blk 23 28 = some (l23_28, 34) := rfl
theorem b23_34 : blk 23 34 = some (l23_34, 36) := rfl
theorem bo24 : bkOf 24 = bk24 := rfl
theorem b24_0 : blk 24 0 = some (l24_0, 60) := rfl
theorem bo25 : bkOf 25 = bk25 := rfl
theorem b25_0 : blk 25 0 = some (l25_0, 13) := rfl
theorem b25_13 : blk 25 13 = some (l25_13, 15) := rfl
theorem b25_15 : blk 25 15 = some (l25_15, 68) := rfl
theorem b25_68 : blk 25 68 = some (l25_68, 70) := rfl
theorem b25_70 : blk 25 70 = some (l25_70, 76) := rfl
theorem b25_76 : blk 25 76 = some (l25_76, 78) := rfl
theorem bo27 : bkOf 27 = bk27 := rfl
theorem b27_0 : blk 27 0 = some (l27_0, 14) := rfl
theorem b27_14 : blk 27 14 = some (l27_14, 15) := rfl
theorem bo28 : bkOf 28 = bk28 := rfl
theorem b28_0 : blk 28 0 = some (l28_0, 11) := rfl
theorem b28_11 : blk 28 11 = some (l28_11, 12) := rfl
theorem bo29 : bkOf 29 = bk29 := rfl
theorem b29_0 : blk 29 0 = some (l29_0, 11) := rfl
theorem b29_11 : blk 29 11 = some (l29_11, 12) := rfl
theorem bo30 : bkOf 30 = bk30 := rfl
theorem b30_0 : blk 30 0 = some (l30_0, 14) := rfl
theorem b30_14 : blk 30 14 = some (l30_14, 15) := rfl
theorem b30_15 : blk 30 15 = some (l30_15, 16) := rfl
theorem bo31 : bkOf 31 = bk31 := rfl
theorem b31_0 : blk 31 0 = some (l31_0, 11) := rfl
theorem bo32 : bkOf 32 = bk32 := rfl
theorem b32_0 : blk 32 0 = some (l32_0, 27) := rfl
theorem bo33 : bkOf 33 = bk33 := rfl
theorem b33_0 : blk 33 0 = some (l33_0, 2) := rfl
theorem b33_2 : blk 33 2 = some (l33_2, 18) := rfl
theorem b33_18 : blk 33 18 = some (l33_18, 24) := rfl
theorem b33_24 : blk 33 24 = some (l33_24, 30) := rfl
theorem b33_30 : blk 33 30 = some (l33_30, 32) := rfl
theorem bo34 : bkOf 34 = bk34 := rfl
theorem b34_0 : blk 34 0 = some (l34_0, 4) := rfl
theorem b34_4 : blk 34 4 = some (l34_4, 22) := rfl
theorem b34_22 : blk 34 22 = some (l34_22, 25) := rfl
theorem b34_25 : blk 34 25 = some (l34_25, 33) := rfl
theorem b34_33 : blk 34 33 = some (l34_33, 35) := rfl
theorem bo35 : bkOf 35 = bk35 := rfl
theorem b35_0 : blk 35 0 = some (l35_0, 8) := rfl
theorem b35_8 : blk 35 8 = some (l35_8, 21) := rfl
theorem b35_21 : blk 35 21 = some (l35_21, 27) := rfl
theorem b35_27 : blk 35 27 = some (l35_27, 79) := rfl
theorem b35_79 : blk 35 79 = some (l35_79, 80) := rfl
theorem b35_80 : blk 35 80 = some (l35_80, 83) := rfl
theorem b35_83 : blk 35 83 = some (l35_83, 102) := rfl
theorem bo36 : bkOf 36 = bk36 := rfl
theorem b36_0 : blk 36 0 = some (l36_0, 15) := rfl
theorem b36_15 : blk 36 15 = some (l36_15, 34) := rfl
theorem b36_34 : blk 36 34 = some (l36_34, 40) := rfl
theorem b36_40 : blk 36 40 = some (l36_40, 51) := rfl
theorem bo37 : bkOf 37 = bk37 := rfl
theorem b37_0 : blk 37 0 = some (l37_0, 85) := rfl
theorem bo38 : bkOf 38 = bk38 := rfl
theorem b38_0 : blk 38 0 = some (l38_0, 11) := rfl
theorem b38_11 : blk 38 11 = some (l38_11, 127) := rfl
theorem b38_127 : blk 38 127 = some (l38_127, 171) := rfl
theorem b38_171 : blk 38 171 = some (l38_171, 177) := rfl
theorem b38_177 : blk 38 177 = some (l38_177, 178) := rfl
theorem bo40 : bkOf 40 = bk40 := rfl
theorem b40_0 : blk 40 0 = some (l40_0, 15) := rfl
theorem b40_15 : blk 40 15 = some (l40_15, 20) := rfl
theorem b40_20 : blk 40 20 = some (l40_20, 28) := rfl
theorem b40_28 : blk 40 28 = some (l40_28, 34) := rfl
theorem b40_34 : blk 40 34 = some (l40_34, 61) := rfl
theorem b40_61 : blk 40 61 = some (l40_61, 64) := rfl
theorem b40_64 : blk 40 64 = some (l40_64, 75) := rfl
theorem b40_75 : blk 40 75 = some (l40_75, 84) := rfl
theorem b40_84 : blk 40 84 = some (l40_84, 97) := rfl
theorem bo41 : bkOf 41 = bk41 := rfl
theorem b41_0 : blk 41 0 = some (l41_0, 8) := rfl
theorem b41_8 : blk 41 8 = some (l41_8, 13) := rfl
theorem b41_13 : blk 41 13 = some (l41_13, 30) := rfl
theorem b41_30 : blk 41 30 = some (l41_30, 41) := rfl
theorem b41_41 : blk 41 41 = some (l41_41, 62) := rfl
theorem b41_62 : blk 41 62 = some (l41_62, 64) := rfl
theorem bo42 : bkOf 42 = bk42 := rfl
theorem b42_0 : blk 42 0 = some (l42_0, 8) := rfl
theorem b42_8 : blk 42 8 = some (l42_8, 13) := rfl
theorem b42_13 : blk 42 13 = some (l42_13, 21) := rfl
theorem b42_21 : blk 42 21 = some (l42_21, 27) := rfl
theorem b42_27 : blk 42 27 = some (l42_27, 38) := rfl
theorem b42_38 : blk 42 38 = some (l42_38, 66) := rfl
theorem bo43 : bkOf 43 = bk43 := rfl
theorem b43_0 : blk 43 0 = some (l43_0, 8) := rfl
theorem b43_8 : blk 43 8 = some (l43_8, 13) := rfl
theorem b43_13 : blk 43 13 = some (l43_13, 17) := rfl
theorem b43_17 : blk 43 17 = some (l43_17, 38) := rfl
theorem b43_38 : blk 43 38 = some (l43_38, 41) := rfl
theorem b43_41 : blk 43 41 = some (l43_41, 52) := rfl
theorem b43_52 : blk 43 52 = some (l43_52, 75) := rfl
theorem b43_75 : blk 43 75 = some (l43_75, 76) := rfl
theorem bo44 : bkOf 44 = bk44 := rfl
theorem b44_0 : blk 44 0 = some (l44_0, 7) := rfl
theorem b44_7 : blk 44 7 = some (l44_7, 17) := rfl
theorem b44_17 : blk 44 17 = some (l44_17, 20) := rfl
theorem b44_20 : blk 44 20 = some (l44_20, 23) := rfl
theorem b44_23 : blk 44 23 = some (l44_23, 38) := rfl
theorem b44_38 : blk 44 38 = some (l44_38, 49) := rfl
theorem b44_49 : blk 44 49 = some (l44_49, 92) := rfl
theorem bo45 : bkOf 45 = bk45 := rfl
theorem b45_0 : blk 45 0 = some (l45_0, 8) := rfl
theorem b45_8 : blk 45 8 = some (l45_8, 19) := rfl
theorem b45_19 : blk 45 19 = some (l45_19, 22) := rfl
theorem b45_22 : blk 45 22 = some (l45_22, 24) := rfl
theorem b45_24 : blk 45 24 = some (l45_24, 32) := rfl
theorem b45_32 : blk 45 32 = some (l45_32, 38) := rfl
theorem b45_38 : blk 45 38 = some (l45_38, 49) := rfl
theorem b45_49 : blk 45 49 = some (l45_49, 58) := rfl
theorem b45_58 : blk 45 58 = some (l45_58, 68) := rfl
theorem bo46 : bkOf 46 = bk46 := rfl
theorem b46_0 : blk 46 0 = some (l46_0, 8) := rfl
theorem b46_8 : blk 46 8 = some (l46_8, 13) := rfl
theorem b46_13 : blk 46 13 = some (l46_13, 24) := rfl
theorem b46_24 : blk 46 24 = some (l46_24, 46) := rfl
theorem bo47 : bkOf 47 = bk47 := rfl
theorem b47_0 : blk 47 0 = some (l47_0, 6) := rfl
theorem b47_6 : blk 47 6 = some (l47_6, 17) := rfl
theorem b47_17 : blk 47 17 = some (l47_17, 20) := rfl
theorem b47_20 : blk 47 20 = some (l47_20, 23) := rfl
theorem b47_23 : blk 47 23 = some (l47_23, 38) := rfl
theorem b47_38 : blk 47 38 = some (l47_38, 49) := rfl
theorem b47_49 : blk 47 49 = some (l47_49, 102) := rfl
theorem bo48 : bkOf 48 = bk48 := rfl
theorem b48_0 : blk 48 0 = some (l48_0, 8) := rfl
theorem b48_8 : blk 48 8 = some (l48_8, 13) := rfl
theorem b48_13 : blk 48 13 = some (l48_13, 32) := rfl
theorem b48_32 : blk 48 32 = some (l48_32, 43) := rfl
theorem b48_43 : blk 48 43 = some (l48_43, 59) := rfl
theorem b48_59 : blk 48 59 = some (l48_59, 60) := rfl
theorem b48_60 : blk 48 60 = some (l48_60, 79) := rfl
theorem b48_79 : blk 48 79 = some (l48_79, 84) := rfl
theorem b48_84 : blk 48 84 = some (l48_84, 87) := rfl
theorem b48_87 : blk 48 87 = some (l48_87, 88) := rfl
theorem bo49 : bkOf 49 = bk49 := rfl
theorem b49_0 : blk 49 0 = some (l49_0, 8) := rfl
theorem b49_8 : blk 49 8 = some (l49_8, 13) := rfl
theorem b49_13 : blk 49 13 = some (l49_13, 52) := rfl
theorem b49_52 : blk 49 52 = some (l49_52, 65) := rfl
theorem b49_65 : blk 49 65 = some (l49_65, 78) := rfl
theorem b49_78 : blk 49 78 = some (l49_78, 89) := rfl
theorem b49_89 : blk 49 89 = some (l49_89, 90) := rfl
theorem b49_90 : blk 49 90 = some (l49_90, 101) := rfl
theorem b49_101 : blk 49 101 = some (l49_101, 102) := rfl
theorem b49_102 : blk 49 102 = some (l49_102, 115) := rfl
theorem b49_115 : blk 49 115 = some (l49_115, 125) := rfl
theorem b49_125 : blk 49 125 = some (l49_125, 128) := rfl
theorem bo50 : bkOf 50 = bk50 := rfl
theorem b50_0 : blk 50 0 = some (l50_0, 11) := rfl
theorem b50_11 : blk 50 11 = some (l50_11, 12) := rfl
theorem bo51 : bkOf 51 = bk51 := rfl
theorem b51_0 : blk 51 0 = some (l51_0, 8) := rfl
theorem b51_8 : blk 51 8 = some (l51_8, 27) := rfl
theorem b51_27 : blk 51 27 = some (l51_27, 30) := rfl
theorem b51_30 : blk 51 30 = some (l51_30, 32) := rfl
theorem b51_32 : blk 51 32 = some (l51_32, 41) := rfl
theorem b51_41 : blk 51 41 = some (l51_41, 42) := rfl
theorem bo52 : bkOf 52 = bk52 := rfl
theorem b52_0 : blk 52 0 = some (l52_0, 8) := rfl
theorem b52_8 : blk 52 8 = some (l52_8, 13) := rfl
theorem b52_13 : blk 52 13 = some (l52_13, 44) := rfl
theorem b52_44 : blk 52 44 = some (l52_44, 54) := rfl
theorem b52_54 : blk 52 54 = some (l52_54, 64) := rfl
theorem b52_64 : blk 52 64 = some (l52_64, 72) := rfl
theorem b52_72 : blk 52 72 = some (l52_72, 73) := rfl
theorem b52_73 : blk 52 73 = some (l52_73, 78) := rfl
theorem b52_78 : blk 52 78 = some (l52_78, 79) := rfl
theorem b52_79 : blk 52 79 = some (l52_79, 82) := rfl
theorem bo53 : bkOf 53 = bk53 := rfl
theorem b53_0 : blk 53 0 = some (l53_0, 8) := rfl
theorem b53_8 : blk 53 8 = some (l53_8, 13) := rfl
theorem b53_13 : blk 53 13 = some (l53_13, 60) := rfl
theorem b53_60 : blk 53 60 = some (l53_60, 70) := rfl
theorem b53_70 : blk 53 70 = some (l53_70, 80) := rfl
theorem b53_80 : blk 53 80 = some (l53_80, 92) := rfl
theorem b53_92 : blk 53 92 = some (l53_92, 93) := rfl
theorem b53_93 : blk 53 93 = some (l53_93, 98) := rfl
theorem b53_98 : blk 53 98 = some (l53_98, 101) := rfl
theorem b53_101 : blk 53 101 = some (l53_101, 102) := rfl
theorem b53_102 : blk 53 102 = some (l53_102, 107) := rfl
theorem b53_107 : blk 53 107 = some (l53_107, 110) := rfl
theorem b53_110 : blk 53 110 = some (l53_110, 111) := rfl
theorem b53_111 : blk 53 111 = some (l53_111, 116) := rfl
theorem b53_116 : blk 53 116 = some (l53_116, 119) := rfl
theorem b53_119 : blk 53 119 = some (l53_119, 120) := rfl
theorem b53_120 : blk 53 120 = some (l53_120, 125) := rfl
theorem b53_125 : blk 53 125 = some (l53_125, 128) := rfl
theorem b53_128 : blk 53 128 = some (l53_128, 129) := rfl
theorem b53_129 : blk 53 129 = some (l53_129, 134) := rfl
theorem b53_134 : blk 53 134 = some (l53_134, 141) := rfl
theorem b53_141 : blk 53 141 = some (l53_141, 144) := rfl
theorem bo54 : bkOf 54 = bk54 := rfl
theorem b54_0 : blk 54 0 = some (l54_0, 52) := rfl
theorem b54_52 : blk 54 52 = some (l54_52, 63) := rfl
theorem b54_63 : blk 54 63 = some (l54_63, 73) := rfl
theorem b54_73 : blk 54 73 = some (l54_73, 74) := rfl
theorem b54_74 : blk 54 74 = some (l54_74, 84) := rfl
theorem b54_84 : blk 54 84 = some (l54_84, 85) := rfl
theorem b54_85 : blk 54 85 = some (l54_85, 93) := rfl
theorem b54_93 : blk 54 93 = some (l54_93, 101) := rfl
theorem b54_101 : blk 54 101 = some (l54_101, 105) := rfl
theorem b54_105 : blk 54 105 = some (l54_105, 106) := rfl
theorem b54_106 : blk 54 106 = some (l54_106, 110) := rfl
theorem b54_110 : blk 54 110 = some (l54_110, 111) := rfl
theorem b54_111 : blk 54 111 = some (l54_111, 119) := rfl
theorem b54_119 : blk 54 119 = some (l54_119, 127) := rfl
theorem b54_127 : blk 54 127 = some (l54_127, 130) := rfl
theorem bo55 : bkOf 55 = bk55 := rfl
theorem b55_0 : blk 55 0 = some (l55_0, 8) := rfl
theorem b55_8 : blk 55 8 = some (l55_8, 13) := rfl
theorem b55_13 : blk 55 13 = some (l55_13, 18) := rfl
theorem b55_18 : blk 55 18 = some (l55_18, 33) := rfl
theorem b55_33 : blk 55 33 = some (l55_33, 38) := rfl
theorem b55_38 : blk 55 38 = some (l55_38, 45) := rfl
theorem bo56 : bkOf 56 = bk56 := rfl
theorem b56_0 : blk 56 0 = some (l56_0, 8) := rfl
theorem b56_8 : blk 56 8 = some (l56_8, 13) := rfl
theorem b56_13 : blk 56 13 = some (l56_13, 21) := rfl
theorem b56_21 : blk 56 21 = some (l56_21, 27) := rfl
theorem b56_27 : blk 56 27 = some (l56_27, 32) := rfl
theorem b56_32 : blk 56 32 = some (l56_32, 41) := rfl
theorem b56_41 : blk 56 41 = some (l56_41, 53) := rfl
theorem b56_53 : blk 56 53 = some (l56_53, 59) := rfl
theorem b56_59 : blk 56 59 = some (l56_59, 70) := rfl
theorem b56_70 : blk 56 70 = some (l56_70, 72) := rfl
theorem bo57 : bkOf 57 = bk57 := rfl
theorem b57_0 : blk 57 0 = some (l57_0, 8) := rfl
theorem b57_8 : blk 57 8 = some (l57_8, 13) := rfl
theorem b57_13 : blk 57 13 = some (l57_13, 21) := rfl
theorem b57_21 : blk 57 21 = some (l57_21, 30) := rfl
theorem b57_30 : blk 57 30 = some (l57_30, 33) := rfl
theorem b57_33 : blk 57 33 = some (l57_33, 36) := rfl
theorem b57_36 : blk 57 36 = some (l57_36, 41) := rfl
theorem b57_41 : blk 57 41 = some (l57_41, 49) := rfl
theorem b57_49 : blk 57 49 = some (l57_49, 61) := rfl
theorem b57_61 : blk 57 61 = some (l57_61, 69) := rfl
theorem b57_69 : blk 57 69 = some (l57_69, 81) := rfl
theorem b57_81 : blk 57 81 = some (l57_81, 82) := rfl
theorem b57_82 : blk 57 82 = some (l57_82, 112) := rfl
theorem b57_112 : blk 57 112 = some (l57_112, 122) := rfl
theorem b57_122 : blk 57 122 = some (l57_122, 132) := rfl
theorem b57_132 : blk 57 132 = some (l57_132, 135) := rfl
theorem b57_135 : blk 57 135 = some (l57_135, 136) := rfl
theorem b57_136 : blk 57 136 = some (l57_136, 152) := rfl
theorem b57_152 : blk 57 152 = some (l57_152, 154) := rfl
theorem b57_154 : blk 57 154 = some (l57_154, 155) := rfl
theorem b57_155 : blk 57 155 = some (l57_155, 158) := rfl
theorem b57_158 : blk 57 158 = some (l57_158, 168) := rfl
theorem b57_168 : blk 57 168 = some (l57_168, 169) := rfl
theorem bo58 : bkOf 58 = bk58 := rfl
theorem b58_0 : blk 58 0 = some (l58_0, 8) := rfl
theorem b58_8 : blk 58 8 = some (l58_8, 13) := rfl
theorem b58_13 : blk 58 13 = some (l58_13, 18) := rfl
theorem b58_18 : blk 58 18 = some (l58_18, 28) := rfl
theorem b58_28 : blk 58 28 = some (l58_28, 33) := rfl
theorem b58_33 : blk 58 33 = some (l58_33, 38) := rfl
theorem b58_38 : blk 58 38 = some (l58_38, 47) := rfl
theorem b58_47 : blk 58 47 = some (l58_47, 50) := rfl
theorem b58_50 : blk 58 50 = some (l58_50, 51) := rfl
theorem bo59 : bkOf 59 = bk59 := rfl
theorem b59_0 : blk 59 0 = some (l59_0, 8) := rfl
theorem b59_8 : blk 59 8 = some (l59_8, 13) := rfl
theorem b59_13 : blk 59 13 = some (l59_13, 21) := rfl
theorem b59_21 : blk 59 21 = some (l59_21, 27) := rfl
theorem b59_27 : blk 59 27 = some (l59_27, 32) := rfl
theorem b59_32 : blk 59 32 = some (l59_32, 43) := rfl
theorem b59_43 : blk 59 43 = some (l59_43, 66) := rfl
theorem b59_66 : blk 59 66 = some (l59_66, 69) := rfl
theorem b59_69 : blk 59 69 = some (l59_69, 76) := rfl
theorem b59_76 : blk 59 76 = some (l59_76, 79) := rfl
theorem bo60 : bkOf 60 = bk60 := rfl
theorem b60_0 : blk 60 0 = some (l60_0, 8) := rfl
theorem b60_8 : blk 60 8 = some (l60_8, 13) := rfl
theorem b60_13 : blk 60 13 = some (l60_13, 21) := rfl
theorem b60_21 : blk 60 21 = some (l60_21, 34) := rfl
theorem b60_34 : blk 60 34 = some (l60_34, 51) := rfl
theorem b60_51 : blk 60 51 = some (l60_51, 58) := rfl
theorem b60_58 : blk 60 58 = some (l60_58, 72) := rfl
theorem b60_72 : blk 60 72 = some (l60_72, 80) := rfl
theorem b60_80 : blk 60 80 = some (l60_80, 86) := rfl
theorem b60_86 : blk 60 86 = some (l60_86, 90) := rfl
theorem bo61 : bkOf 61 = bk61 := rfl
theorem b61_0 : blk 61 0 = some (l61_0, 14) := rfl
theorem b61_14 : blk 61 14 = some (l61_14, 15) := rfl
theorem b61_15 : blk 61 15 = some (l61_15, 16) := rfl
theorem bo62 : bkOf 62 = bk62 := rfl
theorem b62_0 : blk 62 0 = some (l62_0, 8) := rfl
theorem b62_8 : blk 62 8 = some (l62_8, 9) := rfl
theorem b62_9 : blk 62 9 = some (l62_9, 10) := rfl
theorem bo63 : bkOf 63 = bk63 := rfl
theorem b63_0 : blk 63 0 = some (l63_0, 22) := rfl
theorem b63_22 : blk 63 22 = some (l63_22, 31) := rfl
theorem b63_31 : blk 63 31 = some (l63_31, 36) := rfl
theorem bo64 : bkOf 64 = bk64 := rfl
theorem b64_0 : blk 64 0 = some (l64_0, 14) := rfl
theorem b64_14 : blk 64 14 = some (l64_14, 39) := rfl
theorem b64_39 : blk 64 39 = some (l64_39, 41) := rfl
theorem b64_41 : blk 64 41 = some (l64_41, 67) := rfl
theorem b64_67 : blk 64 67 = some (l64_67, 93) := rfl
theorem b64_93 : blk 64 93 = some (l64_93, 103) := rfl
theorem b64_103 : blk 64 103 = some (l64_103, 110) := rfl
theorem b64_110 : blk 64 110 = some (l64_110, 111) := rfl
theorem bo65 : bkOf 65 = bk65 := rfl
theorem b65_0 : blk 65 0 = some (l65_0, 14) := rfl
theorem b65_14 : blk 65 14 = some (l65_14, 23) := rfl
theorem b65_23 : blk 65 23 = some (l65_23, 39) := rfl
theorem b65_39 : blk 65 39 = some (l65_39, 46) := rfl
theorem b65_46 : blk 65 46 = some (l65_46, 47) := rfl
theorem b65_47 : blk 65 47 = some (l65_47, 48) := rfl
theorem bo66 : bkOf 66 = bk66 := rfl
theorem b66_0 : blk 66 0 = some (l66_0, 4) := rfl
theorem b66_4 : blk 66 4 = some (l66_4, 20) := rfl
theorem b66_20 : blk 66 20 = some (l66_20, 29) := rfl
theorem b66_29 : blk 66 29 = some (l66_29, 35) := rfl
theorem b66_35 : blk 66 35 = some (l66_35, 37) := rfl
theorem bo67 : bkOf 67 = bk67 := rfl
theorem b67_0 : blk 67 0 = some (l67_0, 8) := rfl
theorem b67_8 : blk 67 8 = some (l67_8, 24) := rfl
theorem b67_24 : blk 67 24 = some (l67_24, 27) := rfl
theorem b67_27 : blk 67 27 = some (l67_27, 40) := rfl
theorem b67_40 : blk 67 40 = some (l67_40, 46) := rfl
theorem b67_46 : blk 67 46 = some (l67_46, 48) := rfl
theorem bo68 : bkOf 68 = bk68 := rfl
theorem b68_0 : blk 68 0 = some (l68_0, 17) := rfl
theorem b68_17 : blk 68 17 = some (l68_17, 19) := rfl
theorem b68_19 : blk 68 19 = some (l68_19, 45) := rfl
theorem b68_45 : blk 68 45 = some (l68_45, 52) := rfl
theorem b68_52 : blk 68 52 = some (l68_52, 53) := rfl
theorem bo69 : bkOf 69 = bk69 := rfl
theorem b69_0 : blk 69 0 = some (l69_0, 4) := rfl
theorem b69_4 : blk 69 4 = some (l69_4, 29) := rfl
theorem b69_29 : blk 69 29 = some (l69_29, 49) := rfl
theorem b69_49 : blk 69 49 = some (l69_49, 51) := rfl
