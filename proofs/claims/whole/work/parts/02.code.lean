-- NoticeShifts$Chooser.begin
def l1_0 : List Ent := [(0, .aload_n 0, 0, 0, 0, 0), (1, .iload_n 1, 0, 0, 0, 0), (2, .putfield 9, 0, 0, 0, 0), (5, .aload_n 0, 0, 0, 0, 0), (6, .iload_n 2, 0, 0, 0, 0), (7, .putfield 15, 0, 1, 0, 0), (10, .aload_n 0, 0, 0, 0, 0), (11, .iconst 0, 0, 0, 0, 0), (12, .putfield 18, 0, 2, 0, 0), (15, .aload_n 0, 0, 0, 0, 0), (16, .iconst 0, 0, 0, 0, 0), (17, .putfield 21, 0, 3, 0, 0), (20, .aload_n 0, 0, 0, 0, 0), (21, .iconst 0, 0, 0, 0, 0), (22, .putfield 24, 0, 4, 0, 0), (25, .aload_n 0, 0, 0, 0, 0), (26, .sipush 600, 0, 0, 0, 0), (29, .putfield 27, 0, 5, 0, 0), (32, .return_, 0, 0, 0, 0)]
def bk1 : List Blk := [(0, l1_0, 33)]
-- NoticeShifts$Chooser.choose
def l2_0 : List Ent := [(0, .iconst 0, 0, 0, 0, 0), (1, .istore_n 3, 0, 0, 0, 0)]
def l2_2 : List Ent := [(2, .iload_n 3, 0, 0, 0, 0), (3, .aload_n 1, 0, 0, 0, 0), (4, .getfield 30, 5, 1, 7, 0), (7, .iload_n 2, 0, 0, 0, 0), (8, .iaload, 0, 0, 0, 0), (9, .if_icmp .ge 98, 107, 0, 0, 0), (12, .aload_n 1, 0, 0, 0, 0), (13, .iload_n 2, 0, 0, 0, 0), (14, .iload_n 3, 0, 0, 0, 0), (15, .invokevirtual 36, 39, 3, 1, 5)]
def l2_18 : List Ent := [(18, .istore 4, 0, 0, 0, 0), (20, .aload_n 0, 0, 0, 0, 0), (21, .aload_n 1, 0, 0, 0, 0), (22, .iload 4, 0, 0, 0, 0), (24, .invokevirtual 40, 3, 3, 1, 0)]
def l2_27 : List Ent := [(27, .ifCond .ne 6, 33, 0, 0, 0), (30, .goto 71, 101, 0, 0, 0)]
def l2_33 : List Ent := [(33, .aload_n 0, 0, 0, 0, 0), (34, .getfield 24, 0, 4, 0, 0), (37, .aload_n 1, 0, 0, 0, 0), (38, .getfield 44, 5, 3, 9, 0), (41, .iload 4, 0, 0, 0, 0), (43, .iaload, 0, 0, 0, 0), (44, .iadd, 0, 0, 0, 0), (45, .istore 5, 0, 0, 0, 0), (47, .iload 5, 0, 0, 0, 0), (49, .aload_n 0, 0, 0, 0, 0), (50, .getfield 15, 0, 1, 0, 0), (53, .if_icmp .gt 35, 88, 0, 0, 0), (56, .aload_n 0, 0, 0, 0, 0), (57, .dup, 0, 0, 0, 0), (58, .getfield 18, 0, 2, 0, 0), (61, .iconst 1, 0, 0, 0, 0), (62, .iadd, 0, 0, 0, 0), (63, .putfield 18, 0, 2, 0, 0), (66, .aload_n 0, 0, 0, 0, 0), (67, .dup, 0, 0, 0, 0), (68, .getfield 21, 0, 3, 0, 0), (71, .iconst 1, 0, 0, 0, 0), (72, .iload 4, 0, 0, 0, 0), (74, .ishl, 0, 0, 0, 0), (75, .ior, 0, 0, 0, 0), (76, .putfield 21, 0, 3, 0, 0), (79, .aload_n 0, 0, 0, 0, 0), (80, .iload 5, 0, 0, 0, 0), (82, .putfield 24, 0, 4, 0, 0), (85, .iload 4, 0, 0, 0, 0), (87, .ireturn, 0, 0, 0, 0)]
def l2_88 : List Ent := [(88, .aload_n 0, 0, 0, 0, 0), (89, .aload_n 0, 0, 0, 0, 0), (90, .getfield 27, 0, 5, 0, 0), (93, .iload 5, 0, 0, 0, 0), (95, .invokestatic 47, 0, 0, 10, 0), (98, .putfield 27, 0, 5, 0, 0)]
def l2_101 : List Ent := [(101, .iinc 3 1, 0, 0, 0, 0), (104, .goto (-102), 2, 0, 0, 0)]
def l2_107 : List Ent := [(107, .bipush (-6), 0, 0, 0, 0), (109, .ireturn, 0, 0, 0, 0)]
def bk2 : List Blk := [(0, l2_0, 2), (2, l2_2, 18), (18, l2_18, 27), (27, l2_27, 33), (33, l2_33, 88), (88, l2_88, 101), (101, l2_101, 107), (107, l2_107, 110)]
-- NoticeShifts$Chooser.isFor
def l3_0 : List Ent := [(0, .aload_n 1, 0, 0, 0, 0), (1, .getfield 52, 5, 4, 10, 0), (4, .iload_n 2, 0, 0, 0, 0), (5, .iaload, 0, 0, 0, 0), (6, .aload_n 0, 0, 0, 0, 0), (7, .getfield 9, 0, 0, 0, 0), (10, .ishr, 0, 0, 0, 0), (11, .iconst 1, 0, 0, 0, 0), (12, .iand, 0, 0, 0, 0), (13, .iconst 1, 0, 0, 0, 0), (14, .if_icmp .ne 7, 21, 0, 0, 0), (17, .iconst 1, 0, 0, 0, 0), (18, .goto 4, 22, 0, 0, 0)]
def l3_21 : List Ent := [(21, .iconst 0, 0, 0, 0, 0)]
def l3_22 : List Ent := [(22, .istore_n 3, 0, 0, 0, 0), (23, .aload_n 0, 0, 0, 0, 0), (24, .getfield 21, 0, 3, 0, 0), (27, .iload_n 2, 0, 0, 0, 0), (28, .ishr, 0, 0, 0, 0), (29, .iconst 1, 0, 0, 0, 0), (30, .iand, 0, 0, 0, 0), (31, .iconst 1, 0, 0, 0, 0), (32, .if_icmp .ne 7, 39, 0, 0, 0), (35, .iconst 1, 0, 0, 0, 0), (36, .goto 4, 40, 0, 0, 0)]
def l3_39 : List Ent := [(39, .iconst 0, 0, 0, 0, 0)]
def l3_40 : List Ent := [(40, .istore 4, 0, 0, 0, 0), (42, .iload_n 3, 0, 0, 0, 0), (43, .ifCond .eq 12, 55, 0, 0, 0), (46, .iload 4, 0, 0, 0, 0), (48, .ifCond .ne 7, 55, 0, 0, 0), (51, .iconst 1, 0, 0, 0, 0), (52, .goto 4, 56, 0, 0, 0)]
def l3_55 : List Ent := [(55, .iconst 0, 0, 0, 0, 0)]
def l3_56 : List Ent := [(56, .ireturn, 1, 0, 0, 0)]
def bk3 : List Blk := [(0, l3_0, 21), (21, l3_21, 22), (22, l3_22, 39), (39, l3_39, 40), (40, l3_40, 55), (55, l3_55, 56), (56, l3_56, 57)]
-- NoticeShifts$Hearing.breakTime
def l5_0 : List Ent := [(0, .aload_n 0, 0, 0, 0, 0), (1, .getfield 12, 1, 0, 3, 0), (4, .iload_n 1, 0, 0, 0, 0), (5, .invokevirtual 25, 25, 2, 1, 4)]
def l5_8 : List Ent := [(8, .istore_n 2, 0, 0, 0, 0), (9, .iconst 0, 0, 0, 0, 0), (10, .istore_n 3, 0, 0, 0, 0)]
def l5_11 : List Ent := [(11, .iload_n 3, 0, 0, 0, 0), (12, .iload_n 1, 0, 0, 0, 0), (13, .if_icmp .ge 18, 31, 0, 0, 0), (16, .iload_n 2, 0, 0, 0, 0), (17, .aload_n 0, 0, 0, 0, 0), (18, .getfield 22, 1, 2, 8, 0), (21, .iload_n 3, 0, 0, 0, 0), (22, .iaload, 0, 0, 0, 0), (23, .iadd, 0, 0, 0, 0), (24, .istore_n 2, 0, 0, 0, 0), (25, .iinc 3 1, 0, 0, 0, 0), (28, .goto (-17), 11, 0, 0, 0)]
def l5_31 : List Ent := [(31, .iload_n 2, 0, 0, 0, 0), (32, .ireturn, 0, 0, 0, 0)]
def bk5 : List Blk := [(0, l5_0, 8), (8, l5_8, 11), (11, l5_11, 31), (31, l5_31, 33)]
-- NoticeShifts$Hearing.sentenceTime
def l6_0 : List Ent := [(0, .aload_n 0, 0, 0, 0, 0), (1, .iload_n 1, 0, 0, 0, 0), (2, .invokevirtual 29, 5, 2, 1, 1)]
def l6_5 : List Ent := [(5, .aload_n 0, 0, 0, 0, 0), (6, .getfield 22, 1, 2, 8, 0), (9, .iload_n 1, 0, 0, 0, 0), (10, .iaload, 0, 0, 0, 0), (11, .iadd, 0, 0, 0, 0), (12, .ireturn, 0, 0, 0, 0)]
def bk6 : List Blk := [(0, l6_0, 5), (5, l6_5, 13)]
-- NoticeShifts$Hearing.total
def l7_0 : List Ent := [(0, .aload_n 0, 0, 0, 0, 0), (1, .aload_n 0, 0, 0, 0, 0), (2, .getfield 12, 1, 0, 3, 0), (5, .getfield 32, 4, 3, 0, 0), (8, .invokevirtual 29, 5, 2, 1, 1)]
def l7_11 : List Ent := [(11, .ireturn, 0, 0, 0, 0)]
def bk7 : List Blk := [(0, l7_0, 11), (11, l7_11, 12)]
-- NoticeShifts$Hearing.noticeSeconds
def l8_0 : List Ent := [(0, .aload_n 0, 0, 0, 0, 0), (1, .invokevirtual 36, 7, 1, 1, 1)]
def l8_4 : List Ent := [(4, .aload_n 0, 0, 0, 0, 0), (5, .getfield 12, 1, 0, 3, 0), (8, .invokevirtual 40, 26, 1, 1, 4)]
def l8_11 : List Ent := [(11, .isub, 0, 0, 0, 0), (12, .ireturn, 0, 0, 0, 0)]
def bk8 : List Blk := [(0, l8_0, 4), (4, l8_4, 11), (11, l8_11, 13)]
-- NoticeShifts$Hearing.countNotices
def l9_0 : List Ent := [(0, .iconst 0, 0, 0, 0, 0), (1, .istore_n 1, 0, 0, 0, 0), (2, .iconst 0, 0, 0, 0, 0), (3, .istore_n 2, 0, 0, 0, 0)]
def l9_4 : List Ent := [(4, .iload_n 2, 0, 0, 0, 0), (5, .aload_n 0, 0, 0, 0, 0), (6, .getfield 12, 1, 0, 3, 0), (9, .getfield 32, 4, 3, 0, 0), (12, .if_icmp .ge 31, 43, 0, 0, 0), (15, .iload_n 1, 0, 0, 0, 0), (16, .aload_n 0, 0, 0, 0, 0), (17, .getfield 18, 1, 1, 7, 0), (20, .iload_n 2, 0, 0, 0, 0), (21, .iaload, 0, 0, 0, 0), (22, .bipush (-6), 0, 0, 0, 0), (24, .if_icmp .eq 7, 31, 0, 0, 0), (27, .iconst 1, 0, 0, 0, 0), (28, .goto 4, 32, 0, 0, 0)]
def l9_31 : List Ent := [(31, .iconst 0, 0, 0, 0, 0)]
def l9_32 : List Ent := [(32, .invokestatic 41, 81, 1, 2, 0)]
def l9_35 : List Ent := [(35, .iadd, 0, 0, 0, 0), (36, .istore_n 1, 0, 0, 0, 0), (37, .iinc 2 1, 0, 0, 0, 0), (40, .goto (-36), 4, 0, 0, 0)]
def l9_43 : List Ent := [(43, .iload_n 1, 0, 0, 0, 0), (44, .ireturn, 0, 0, 0, 0)]
def bk9 : List Blk := [(0, l9_0, 4), (4, l9_4, 31), (31, l9_31, 32), (32, l9_32, 35), (35, l9_35, 43), (43, l9_43, 45)]
-- NoticeShifts$Hearing.placeHeardAt
def l10_0 : List Ent := [(0, .iconst 0, 0, 0, 0, 0), (1, .istore_n 2, 0, 0, 0, 0), (2, .iconst 0, 0, 0, 0, 0), (3, .istore_n 3, 0, 0, 0, 0)]
def l10_4 : List Ent := [(4, .iload_n 3, 0, 0, 0, 0), (5, .aload_n 0, 0, 0, 0, 0), (6, .getfield 12, 1, 0, 3, 0), (9, .getfield 32, 4, 3, 0, 0), (12, .if_icmp .ge 35, 47, 0, 0, 0), (15, .iload_n 2, 0, 0, 0, 0), (16, .aload_n 0, 0, 0, 0, 0), (17, .getfield 22, 1, 2, 8, 0), (20, .iload_n 3, 0, 0, 0, 0), (21, .iaload, 0, 0, 0, 0), (22, .aload_n 0, 0, 0, 0, 0), (23, .getfield 12, 1, 0, 3, 0), (26, .getfield 45, 4, 1, 4, 0), (29, .iload_n 3, 0, 0, 0, 0), (30, .iaload, 0, 0, 0, 0), (31, .iadd, 0, 0, 0, 0), (32, .iadd, 0, 0, 0, 0), (33, .istore_n 2, 0, 0, 0, 0), (34, .iload_n 1, 0, 0, 0, 0), (35, .iload_n 2, 0, 0, 0, 0), (36, .if_icmp .ge 5, 41, 0, 0, 0), (39, .iload_n 3, 0, 0, 0, 0), (40, .ireturn, 0, 0, 0, 0)]
def l10_41 : List Ent := [(41, .iinc 3 1, 0, 0, 0, 0), (44, .goto (-40), 4, 0, 0, 0)]
def l10_47 : List Ent := [(47, .bipush (-6), 0, 0, 0, 0), (49, .ireturn, 0, 0, 0, 0)]
def bk10 : List Blk := [(0, l10_0, 4), (4, l10_4, 41), (41, l10_41, 47), (47, l10_47, 50)]
-- NoticeShifts$Hearing.copyFrom
def l11_0 : List Ent := [(0, .aload_n 0, 0, 0, 0, 0), (1, .getfield 12, 1, 0, 3, 0), (4, .aload_n 1, 0, 0, 0, 0), (5, .getfield 12, 1, 0, 3, 0), (8, .invokevirtual 48, 32, 2, 0, 4)]
def l11_11 : List Ent := [(11, .aload_n 1, 0, 0, 0, 0), (12, .getfield 18, 1, 1, 7, 0), (15, .iconst 0, 0, 0, 0, 0), (16, .aload_n 0, 0, 0, 0, 0), (17, .getfield 18, 1, 1, 7, 0), (20, .iconst 0, 0, 0, 0, 0), (21, .aload_n 0, 0, 0, 0, 0), (22, .getfield 12, 1, 0, 3, 0), (25, .getfield 32, 4, 3, 0, 0), (28, .invokestatic 52, 0, 0, 13, 0), (31, .aload_n 1, 0, 0, 0, 0), (32, .getfield 22, 1, 2, 8, 0), (35, .iconst 0, 0, 0, 0, 0), (36, .aload_n 0, 0, 0, 0, 0), (37, .getfield 22, 1, 2, 8, 0), (40, .iconst 0, 0, 0, 0, 0), (41, .aload_n 0, 0, 0, 0, 0), (42, .getfield 12, 1, 0, 3, 0), (45, .getfield 32, 4, 3, 0, 0), (48, .invokestatic 52, 0, 0, 13, 0), (51, .return_, 0, 0, 0, 0)]
def bk11 : List Blk := [(0, l11_0, 11), (11, l11_11, 52)]
-- NoticeShifts$Hearing.isLike
def l12_0 : List Ent := [(0, .aload_n 0, 0, 0, 0, 0), (1, .getfield 12, 1, 0, 3, 0), (4, .aload_n 1, 0, 0, 0, 0), (5, .getfield 12, 1, 0, 3, 0), (8, .invokevirtual 58, 33, 2, 1, 4)]
def l12_11 : List Ent := [(11, .ifCond .ne 5, 16, 0, 0, 0), (14, .iconst 0, 0, 0, 0, 0), (15, .ireturn, 1, 0, 0, 0)]
def l12_16 : List Ent := [(16, .iconst 0, 0, 0, 0, 0), (17, .istore_n 2, 0, 0, 0, 0)]
def l12_18 : List Ent := [(18, .iload_n 2, 0, 0, 0, 0), (19, .aload_n 0, 0, 0, 0, 0), (20, .getfield 12, 1, 0, 3, 0), (23, .getfield 32, 4, 3, 0, 0), (26, .if_icmp .ge 41, 67, 0, 0, 0), (29, .aload_n 0, 0, 0, 0, 0), (30, .getfield 18, 1, 1, 7, 0), (33, .iload_n 2, 0, 0, 0, 0), (34, .iaload, 0, 0, 0, 0), (35, .aload_n 1, 0, 0, 0, 0), (36, .getfield 18, 1, 1, 7, 0), (39, .iload_n 2, 0, 0, 0, 0), (40, .iaload, 0, 0, 0, 0), (41, .if_icmp .ne 18, 59, 0, 0, 0), (44, .aload_n 0, 0, 0, 0, 0), (45, .getfield 22, 1, 2, 8, 0), (48, .iload_n 2, 0, 0, 0, 0), (49, .iaload, 0, 0, 0, 0), (50, .aload_n 1, 0, 0, 0, 0), (51, .getfield 22, 1, 2, 8, 0), (54, .iload_n 2, 0, 0, 0, 0), (55, .iaload, 0, 0, 0, 0), (56, .if_icmp .eq 5, 61, 0, 0, 0)]
def l12_59 : List Ent := [(59, .iconst 0, 0, 0, 0, 0), (60, .ireturn, 1, 0, 0, 0)]
def l12_61 : List Ent := [(61, .iinc 2 1, 0, 0, 0, 0), (64, .goto (-46), 18, 0, 0, 0)]
def l12_67 : List Ent := [(67, .iconst 1, 0, 0, 0, 0), (68, .ireturn, 1, 0, 0, 0)]
def bk12 : List Blk := [(0, l12_0, 11), (11, l12_11, 16), (16, l12_16, 18), (18, l12_18, 59), (59, l12_59, 61), (61, l12_61, 67), (67, l12_67, 69)]
-- NoticeShifts$History.keep
def l14_0 : List Ent := [(0, .aload_n 0, 0, 0, 0, 0), (1, .getfield 11, 2, 0, 3, 0), (4, .aload_n 0, 0, 0, 0, 0), (5, .getfield 18, 2, 1, 0, 0), (8, .aaload, 104, 1, 55, 0), (9, .aload_n 1, 0, 0, 0, 0), (10, .invokevirtual 22, 47, 2, 0, 5)]
def l14_13 : List Ent := [(13, .aload_n 0, 0, 0, 0, 0), (14, .aload_n 0, 0, 0, 0, 0), (15, .getfield 18, 2, 1, 0, 0), (18, .iconst 5, 0, 0, 0, 0), (19, .if_icmp .ne 7, 26, 0, 0, 0), (22, .iconst 0, 0, 0, 0, 0), (23, .goto 9, 32, 0, 0, 0)]
def l14_26 : List Ent := [(26, .aload_n 0, 0, 0, 0, 0), (27, .getfield 18, 2, 1, 0, 0), (30, .iconst 1, 0, 0, 0, 0), (31, .iadd, 0, 0, 0, 0)]
def l14_32 : List Ent := [(32, .putfield 18, 2, 1, 0, 0), (35, .aload_n 0, 0, 0, 0, 0), (36, .aload_n 0, 0, 0, 0, 0), (37, .getfield 26, 2, 2, 0, 0), (40, .iconst 1, 0, 0, 0, 0), (41, .iadd, 0, 0, 0, 0), (42, .bipush 6, 0, 0, 0, 0), (44, .invokestatic 29, 0, 0, 10, 0), (47, .putfield 26, 2, 2, 0, 0), (50, .return_, 0, 0, 0, 0)]
def bk14 : List Blk := [(0, l14_0, 13), (13, l14_13, 26), (26, l14_26, 32), (32, l14_32, 51)]
-- NoticeShifts$History.takeBack
def l15_0 : List Ent := [(0, .aload_n 0, 0, 0, 0, 0), (1, .aload_n 0, 0, 0, 0, 0), (2, .getfield 18, 2, 1, 0, 0), (5, .ifCond .ne 7, 12, 0, 0, 0), (8, .iconst 5, 0, 0, 0, 0), (9, .goto 9, 18, 0, 0, 0)]
def l15_12 : List Ent := [(12, .aload_n 0, 0, 0, 0, 0), (13, .getfield 18, 2, 1, 0, 0), (16, .iconst 1, 0, 0, 0, 0), (17, .isub, 0, 0, 0, 0)]
def l15_18 : List Ent := [(18, .putfield 18, 2, 1, 0, 0), (21, .aload_n 0, 0, 0, 0, 0), (22, .dup, 0, 0, 0, 0), (23, .getfield 26, 2, 2, 0, 0), (26, .iconst 1, 0, 0, 0, 0), (27, .isub, 0, 0, 0, 0), (28, .putfield 26, 2, 2, 0, 0), (31, .aload_n 1, 0, 0, 0, 0), (32, .aload_n 0, 0, 0, 0, 0), (33, .getfield 11, 2, 0, 3, 0), (36, .aload_n 0, 0, 0, 0, 0), (37, .getfield 18, 2, 1, 0, 0), (40, .aaload, 104, 1, 55, 0), (41, .invokevirtual 22, 47, 2, 0, 5)]
def l15_44 : List Ent := [(44, .return_, 0, 0, 0, 0)]
def bk15 : List Blk := [(0, l15_0, 12), (12, l15_12, 18), (18, l15_18, 44), (44, l15_44, 45)]
-- NoticeShifts$Pad.isNotice
def l17_0 : List Ent := [(0, .iload_n 0, 0, 0, 0, 0), (1, .bipush 48, 0, 0, 0, 0), (3, .if_icmp .lt 13, 16, 0, 0, 0), (6, .iload_n 0, 0, 0, 0, 0), (7, .bipush 55, 0, 0, 0, 0), (9, .if_icmp .gt 7, 16, 0, 0, 0), (12, .iconst 1, 0, 0, 0, 0), (13, .goto 4, 17, 0, 0, 0)]
def l17_16 : List Ent := [(16, .iconst 0, 0, 0, 0, 0)]
def l17_17 : List Ent := [(17, .ireturn, 1, 0, 0, 0)]
def bk17 : List Blk := [(0, l17_0, 16), (16, l17_16, 17), (17, l17_17, 18)]
-- NoticeShifts$Pad.countCharacters
def l18_0 : List Ent := [(0, .iconst 0, 0, 0, 0, 0), (1, .istore_n 2, 0, 0, 0, 0), (2, .iconst 0, 0, 0, 0, 0), (3, .istore_n 3, 0, 0, 0, 0)]
def l18_4 : List Ent := [(4, .iload_n 3, 0, 0, 0, 0), (5, .bipush 8, 0, 0, 0, 0), (7, .if_icmp .ge 41, 48, 0, 0, 0), (10, .lload_n 0, 0, 0, 0, 0), (11, .bipush 8, 0, 0, 0, 0), (13, .iload_n 3, 0, 0, 0, 0), (14, .imul, 0, 0, 0, 0), (15, .lushr, 0, 0, 0, 0), (16, .lconst 0, 0, 0, 0, 0), (17, .lcmp, 0, 0, 0, 0), (18, .ifCond .eq 30, 48, 0, 0, 0), (21, .lload_n 0, 0, 0, 0, 0), (22, .iload_n 3, 0, 0, 0, 0), (23, .invokestatic 15, 19, 2, 1, 0)]
def l18_26 : List Ent := [(26, .bipush 33, 0, 0, 0, 0), (28, .bipush 126, 0, 0, 0, 0), (30, .invokestatic 19, 80, 3, 2, 0)]
def l18_33 : List Ent := [(33, .ifCond .ne 6, 39, 0, 0, 0), (36, .bipush (-2), 0, 0, 0, 0), (38, .ireturn, 0, 0, 0, 0)]
def l18_39 : List Ent := [(39, .iinc 2 1, 0, 0, 0, 0), (42, .iinc 3 1, 0, 0, 0, 0), (45, .goto (-41), 4, 0, 0, 0)]
def l18_48 : List Ent := [(48, .iload_n 2, 0, 0, 0, 0), (49, .ifCond .ne 8, 57, 0, 0, 0), (52, .bipush (-2), 0, 0, 0, 0), (54, .goto 4, 58, 0, 0, 0)]
def l18_57 : List Ent := [(57, .iload_n 2, 0, 0, 0, 0)]
def l18_58 : List Ent := [(58, .ireturn, 0, 0, 0, 0)]
def bk18 : List Blk := [(0, l18_0, 4), (4, l18_4, 26), (26, l18_26, 33), (33, l18_33, 39), (39, l18_39, 48), (48, l18_48, 57), (57, l18_57, 58), (58, l18_58, 59)]
-- NoticeShifts$Pad.characterAt
def l19_0 : List Ent := [(0, .lload_n 0, 0, 0, 0, 0), (1, .bipush 8, 0, 0, 0, 0), (3, .iload_n 2, 0, 0, 0, 0), (4, .imul, 0, 0, 0, 0), (5, .lushr, 0, 0, 0, 0), (6, .ldc2_w 23, 255, 0, 0, 0), (9, .land, 0, 0, 0, 0), (10, .l2i, 0, 0, 0, 0), (11, .i2c, 0, 0, 0, 0), (12, .ireturn, 2, 0, 0, 0)]
def bk19 : List Blk := [(0, l19_0, 13)]
-- NoticeShifts$Pad.append
def l20_0 : List Ent := [(0, .iload_n 3, 0, 0, 0, 0), (1, .iconst 1, 0, 0, 0, 0), (2, .isub, 0, 0, 0, 0), (3, .istore 4, 0, 0, 0, 0)]
def l20_5 : List Ent := [(5, .iload 4, 0, 0, 0, 0), (7, .ifCond .lt 34, 41, 0, 0, 0), (10, .aload_n 0, 0, 0, 0, 0), (11, .getfield 9, 3, 0, 3, 0), (14, .aload_n 0, 0, 0, 0, 0), (15, .getfield 25, 3, 1, 0, 0), (18, .lload_n 1, 0, 0, 0, 0), (19, .iload 4, 0, 0, 0, 0), (21, .invokestatic 15, 19, 2, 1, 0)]
def l20_24 : List Ent := [(24, .castore, 0, 0, 0, 0), (25, .aload_n 0, 0, 0, 0, 0), (26, .dup, 0, 0, 0, 0), (27, .getfield 25, 3, 1, 0, 0), (30, .iconst 1, 0, 0, 0, 0), (31, .iadd, 0, 0, 0, 0), (32, .putfield 25, 3, 1, 0, 0), (35, .iinc 4 (-1), 0, 0, 0, 0), (38, .goto (-33), 5, 0, 0, 0)]
def l20_41 : List Ent := [(41, .return_, 0, 0, 0, 0)]
def bk20 : List Blk := [(0, l20_0, 5), (5, l20_5, 24), (24, l20_24, 41), (41, l20_41, 42)]
-- NoticeShifts$Pad.findFault
def l21_0 : List Ent := [(0, .iconst 0, 0, 0, 0, 0), (1, .istore_n 1, 0, 0, 0, 0), (2, .iconst 4, 0, 0, 0, 0), (3, .istore_n 2, 0, 0, 0, 0), (4, .iconst 0, 0, 0, 0, 0), (5, .istore_n 3, 0, 0, 0, 0), (6, .iconst 0, 0, 0, 0, 0), (7, .istore 4, 0, 0, 0, 0)]
def l21_9 : List Ent := [(9, .iload 4, 0, 0, 0, 0), (11, .aload_n 0, 0, 0, 0, 0), (12, .getfield 25, 3, 1, 0, 0), (15, .if_icmp .ge 89, 104, 0, 0, 0), (18, .aload_n 0, 0, 0, 0, 0), (19, .getfield 9, 3, 0, 3, 0), (22, .iload 4, 0, 0, 0, 0), (24, .caload, 0, 0, 0, 0), (25, .istore 5, 0, 0, 0, 0), (27, .iload 5, 0, 0, 0, 0), (29, .bipush 47, 0, 0, 0, 0), (31, .if_icmp .ne 26, 57, 0, 0, 0), (34, .iinc 1 1, 0, 0, 0, 0), (37, .iload_n 3, 0, 0, 0, 0), (38, .ifCond .eq 9, 47, 0, 0, 0), (41, .iload_n 1, 0, 0, 0, 0), (42, .bipush 24, 0, 0, 0, 0), (44, .if_icmp .ne 6, 50, 0, 0, 0)]
def l21_47 : List Ent := [(47, .iload 4, 0, 0, 0, 0), (49, .ireturn, 0, 0, 0, 0)]
def l21_50 : List Ent := [(50, .iconst 4, 0, 0, 0, 0), (51, .istore_n 2, 0, 0, 0, 0), (52, .iconst 0, 0, 0, 0, 0), (53, .istore_n 3, 0, 0, 0, 0), (54, .goto 44, 98, 0, 0, 0)]
def l21_57 : List Ent := [(57, .iload 5, 0, 0, 0, 0), (59, .bipush 46, 0, 0, 0, 0), (61, .if_icmp .ne 14, 75, 0, 0, 0), (64, .iload_n 3, 0, 0, 0, 0), (65, .ifCond .ne 10, 75, 0, 0, 0), (68, .iconst 0, 0, 0, 0, 0), (69, .istore_n 2, 0, 0, 0, 0), (70, .iconst 1, 0, 0, 0, 0), (71, .istore_n 3, 0, 0, 0, 0), (72, .goto 26, 98, 0, 0, 0)]
def l21_75 : List Ent := [(75, .iload 5, 0, 0, 0, 0), (77, .invokestatic 29, 17, 1, 1, 0)]
def l21_80 : List Ent := [(80, .ifCond .eq 15, 95, 0, 0, 0), (83, .iload_n 2, 0, 0, 0, 0), (84, .ifCond .le 11, 95, 0, 0, 0), (87, .iinc 2 (-1), 0, 0, 0, 0), (90, .iconst 1, 0, 0, 0, 0), (91, .istore_n 3, 0, 0, 0, 0), (92, .goto 6, 98, 0, 0, 0)]
def l21_95 : List Ent := [(95, .iload 4, 0, 0, 0, 0), (97, .ireturn, 0, 0, 0, 0)]
def l21_98 : List Ent := [(98, .iinc 4 1, 0, 0, 0, 0), (101, .goto (-92), 9, 0, 0, 0)]
def l21_104 : List Ent := [(104, .iload_n 3, 0, 0, 0, 0), (105, .ifCond .eq 8, 113, 0, 0, 0), (108, .bipush (-6), 0, 0, 0, 0), (110, .goto 7, 117, 0, 0, 0)]
def l21_113 : List Ent := [(113, .aload_n 0, 0, 0, 0, 0), (114, .getfield 25, 3, 1, 0, 0)]
def l21_117 : List Ent := [(117, .ireturn, 0, 0, 0, 0)]
def bk21 : List Blk := [(0, l21_0, 9), (9, l21_9, 47), (47, l21_47, 50), (50, l21_50, 57), (57, l21_57, 75), (75, l21_75, 80), (80, l21_80, 95), (95, l21_95, 98), (98, l21_98, 104), (104, l21_104, 113), (113, l21_113, 117), (117, l21_117, 118)]
-- NoticeShifts$Pad.countRows
def l22_0 : List Ent := [(0, .iconst 1, 0, 0, 0, 0), (1, .istore_n 1, 0, 0, 0, 0), (2, .iconst 0, 0, 0, 0, 0), (3, .istore_n 2, 0, 0, 0, 0)]
def l22_4 : List Ent := [(4, .iload_n 2, 0, 0, 0, 0), (5, .aload_n 0, 0, 0, 0, 0), (6, .getfield 25, 3, 1, 0, 0), (9, .if_icmp .ge 31, 40, 0, 0, 0), (12, .iload_n 1, 0, 0, 0, 0), (13, .aload_n 0, 0, 0, 0, 0), (14, .getfield 9, 3, 0, 3, 0), (17, .iload_n 2, 0, 0, 0, 0), (18, .caload, 0, 0, 0, 0), (19, .bipush 47, 0, 0, 0, 0), (21, .if_icmp .ne 7, 28, 0, 0, 0), (24, .iconst 1, 0, 0, 0, 0), (25, .goto 4, 29, 0, 0, 0)]
def l22_28 : List Ent := [(28, .iconst 0, 0, 0, 0, 0)]
def l22_29 : List Ent := [(29, .invokestatic 33, 81, 1, 2, 0)]
def l22_32 : List Ent := [(32, .iadd, 0, 0, 0, 0), (33, .istore_n 1, 0, 0, 0, 0), (34, .iinc 2 1, 0, 0, 0, 0), (37, .goto (-33), 4, 0, 0, 0)]
def l22_40 : List Ent := [(40, .iload_n 1, 0, 0, 0, 0), (41, .ireturn, 0, 0, 0, 0)]
def bk22 : List Blk := [(0, l22_0, 4), (4, l22_4, 28), (28, l22_28, 29), (29, l22_29, 32), (32, l22_32, 40), (40, l22_40, 42)]
-- NoticeShifts$Pad.highestNotice
def l23_0 : List Ent := [(0, .iconst (-1), 0, 0, 0, 0), (1, .istore_n 1, 0, 0, 0, 0), (2, .iconst 0, 0, 0, 0, 0), (3, .istore_n 2, 0, 0, 0, 0)]
def l23_4 : List Ent := [(4, .iload_n 2, 0, 0, 0, 0), (5, .aload_n 0, 0, 0, 0, 0), (6, .getfield 25, 3, 1, 0, 0), (9, .if_icmp .ge 35, 44, 0, 0, 0), (12, .aload_n 0, 0, 0, 0, 0), (13, .getfield 9, 3, 0, 3, 0), (16, .iload_n 2, 0, 0, 0, 0), (17, .caload, 0, 0, 0, 0), (18, .invokestatic 29, 17, 1, 1, 0)]
def l23_21 : List Ent := [(21, .ifCond .eq 17, 38, 0, 0, 0), (24, .iload_n 1, 0, 0, 0, 0), (25, .aload_n 0, 0, 0, 0, 0), (26, .getfield 9, 3, 0, 3, 0), (29, .iload_n 2, 0, 0, 0, 0), (30, .caload, 0, 0, 0, 0), (31, .bipush 48, 0, 0, 0, 0), (33, .isub, 0, 0, 0, 0), (34, .invokestatic 37, 0, 0, 11, 0), (37, .istore_n 1, 0, 0, 0, 0)]
def l23_38 : List Ent := [(38, .iinc 2 1, 0, 0, 0, 0), (41, .goto (-37), 4, 0, 0, 0)]
def l23_44 : List Ent := [(44, .iload_n 1, 0, 0, 0, 0), (45, .ireturn, 0, 0, 0, 0)]
def bk23 : List Blk := [(0, l23_0, 4), (4, l23_4, 21), (21, l23_21, 38), (38, l23_38, 44), (44, l23_44, 46)]
-- NoticeShifts$Sentences.timeOf
def l25_0 : List Ent := [(0, .iconst 0, 0, 0, 0, 0), (1, .istore_n 2, 0, 0, 0, 0), (2, .iconst 0, 0, 0, 0, 0), (3, .istore_n 3, 0, 0, 0, 0)]
def l25_4 : List Ent := [(4, .iload_n 3, 0, 0, 0, 0), (5, .iload_n 1, 0, 0, 0, 0), (6, .if_icmp .ge 18, 24, 0, 0, 0), (9, .iload_n 2, 0, 0, 0, 0), (10, .aload_n 0, 0, 0, 0, 0), (11, .getfield 15, 4, 1, 4, 0), (14, .iload_n 3, 0, 0, 0, 0), (15, .iaload, 0, 0, 0, 0), (16, .iadd, 0, 0, 0, 0), (17, .istore_n 2, 0, 0, 0, 0), (18, .iinc 3 1, 0, 0, 0, 0), (21, .goto (-17), 4, 0, 0, 0)]
def l25_24 : List Ent := [(24, .iload_n 2, 0, 0, 0, 0), (25, .ireturn, 0, 0, 0, 0)]
def bk25 : List Blk := [(0, l25_0, 4), (4, l25_4, 24), (24, l25_24, 26)]
-- NoticeShifts$Sentences.total
def l26_0 : List Ent := [(0, .aload_n 0, 0, 0, 0, 0), (1, .aload_n 0, 0, 0, 0, 0), (2, .getfield 21, 4, 3, 0, 0), (5, .invokevirtual 25, 25, 2, 1, 4)]
def l26_8 : List Ent := [(8, .ireturn, 0, 0, 0, 0)]
def bk26 : List Blk := [(0, l26_0, 8), (8, l26_8, 9)]
-- NoticeShifts$Sentences.placeAtTime
def l27_0 : List Ent := [(0, .iconst 0, 0, 0, 0, 0), (1, .istore_n 2, 0, 0, 0, 0), (2, .iconst 0, 0, 0, 0, 0), (3, .istore_n 3, 0, 0, 0, 0)]
def l27_4 : List Ent := [(4, .iload_n 3, 0, 0, 0, 0), (5, .aload_n 0, 0, 0, 0, 0), (6, .getfield 21, 4, 3, 0, 0), (9, .if_icmp .ge 25, 34, 0, 0, 0), (12, .iload_n 2, 0, 0, 0, 0), (13, .aload_n 0, 0, 0, 0, 0), (14, .getfield 15, 4, 1, 4, 0), (17, .iload_n 3, 0, 0, 0, 0), (18, .iaload, 0, 0, 0, 0), (19, .iadd, 0, 0, 0, 0), (20, .istore_n 2, 0, 0, 0, 0), (21, .iload_n 1, 0, 0, 0, 0), (22, .iload_n 2, 0, 0, 0, 0), (23, .if_icmp .ge 5, 28, 0, 0, 0), (26, .iload_n 3, 0, 0, 0, 0), (27, .ireturn, 0, 0, 0, 0)]
def l27_28 : List Ent := [(28, .iinc 3 1, 0, 0, 0, 0), (31, .goto (-27), 4, 0, 0, 0)]
def l27_34 : List Ent := [(34, .bipush (-6), 0, 0, 0, 0), (36, .ireturn, 0, 0, 0, 0)]
def bk27 : List Blk := [(0, l27_0, 4), (4, l27_4, 28), (28, l27_28, 34), (34, l27_34, 37)]
-- NoticeShifts$Sentences.placeOf
def l28_0 : List Ent := [(0, .iconst 0, 0, 0, 0, 0), (1, .istore_n 2, 0, 0, 0, 0)]
def l28_2 : List Ent := [(2, .iload_n 2, 0, 0, 0, 0), (3, .aload_n 0, 0, 0, 0, 0), (4, .getfield 21, 4, 3, 0, 0), (7, .if_icmp .ge 21, 28, 0, 0, 0), (10, .aload_n 0, 0, 0, 0, 0), (11, .getfield 9, 4, 0, 3, 0), (14, .iload_n 2, 0, 0, 0, 0), (15, .iaload, 0, 0, 0, 0), (16, .iload_n 1, 0, 0, 0, 0), (17, .if_icmp .ne 5, 22, 0, 0, 0), (20, .iload_n 2, 0, 0, 0, 0), (21, .ireturn, 0, 0, 0, 0)]
def l28_22 : List Ent := [(22, .iinc 2 1, 0, 0, 0, 0), (25, .goto (-23), 2, 0, 0, 0)]
def l28_28 : List Ent := [(28, .iconst (-1), 0, 0, 0, 0), (29, .ireturn, 0, 0, 0, 0)]
def bk28 : List Blk := [(0, l28_0, 2), (2, l28_2, 22), (22, l28_22, 28), (28, l28_28, 30)]
-- NoticeShifts$Sentences.chapterOf
def l29_0 : List Ent := [(0, .iconst 0, 0, 0, 0, 0), (1, .istore_n 2, 0, 0, 0, 0), (2, .iconst 1, 0, 0, 0, 0), (3, .istore_n 3, 0, 0, 0, 0)]
def l29_4 : List Ent := [(4, .iload_n 3, 0, 0, 0, 0), (5, .iload_n 1, 0, 0, 0, 0), (6, .if_icmp .gt 18, 24, 0, 0, 0), (9, .iload_n 2, 0, 0, 0, 0), (10, .aload_n 0, 0, 0, 0, 0), (11, .getfield 18, 4, 2, 5, 0), (14, .iload_n 3, 0, 0, 0, 0), (15, .iaload, 0, 0, 0, 0), (16, .iadd, 0, 0, 0, 0), (17, .istore_n 2, 0, 0, 0, 0), (18, .iinc 3 1, 0, 0, 0, 0), (21, .goto (-17), 4, 0, 0, 0)]
def l29_24 : List Ent := [(24, .iload_n 2, 0, 0, 0, 0), (25, .ireturn, 0, 0, 0, 0)]
def bk29 : List Blk := [(0, l29_0, 4), (4, l29_4, 24), (24, l29_24, 26)]
-- NoticeShifts$Sentences.chapters
def l30_0 : List Ent := [(0, .aload_n 0, 0, 0, 0, 0), (1, .aload_n 0, 0, 0, 0, 0), (2, .getfield 21, 4, 3, 0, 0), (5, .iconst 1, 0, 0, 0, 0), (6, .isub, 0, 0, 0, 0), (7, .invokevirtual 29, 29, 2, 1, 4)]
def l30_10 : List Ent := [(10, .iconst 1, 0, 0, 0, 0), (11, .iadd, 0, 0, 0, 0), (12, .ireturn, 0, 0, 0, 0)]
def bk30 : List Blk := [(0, l30_0, 10), (10, l30_10, 13)]
-- NoticeShifts$Sentences.firstOfChapter
def l31_0 : List Ent := [(0, .iconst 0, 0, 0, 0, 0), (1, .istore_n 2, 0, 0, 0, 0), (2, .iconst 0, 0, 0, 0, 0), (3, .istore_n 3, 0, 0, 0, 0)]
def l31_4 : List Ent := [(4, .iload_n 3, 0, 0, 0, 0), (5, .aload_n 0, 0, 0, 0, 0), (6, .getfield 21, 4, 3, 0, 0), (9, .if_icmp .ge 25, 34, 0, 0, 0), (12, .iload_n 2, 0, 0, 0, 0), (13, .aload_n 0, 0, 0, 0, 0), (14, .getfield 18, 4, 2, 5, 0), (17, .iload_n 3, 0, 0, 0, 0), (18, .iaload, 0, 0, 0, 0), (19, .iadd, 0, 0, 0, 0), (20, .istore_n 2, 0, 0, 0, 0), (21, .iload_n 2, 0, 0, 0, 0), (22, .iload_n 1, 0, 0, 0, 0), (23, .if_icmp .le 5, 28, 0, 0, 0), (26, .iload_n 3, 0, 0, 0, 0), (27, .ireturn, 0, 0, 0, 0)]
def l31_28 : List Ent := [(28, .iinc 3 1, 0, 0, 0, 0), (31, .goto (-27), 4, 0, 0, 0)]
def l31_34 : List Ent := [(34, .iconst 0, 0, 0, 0, 0), (35, .ireturn, 0, 0, 0, 0)]
def bk31 : List Blk := [(0, l31_0, 4), (4, l31_4, 28), (28, l31_28, 34), (34, l31_34, 36)]
-- NoticeShifts$Sentences.copyFrom
def l32_0 : List Ent := [(0, .aload_n 0, 0, 0, 0, 0), (1, .aload_n 1, 0, 0, 0, 0), (2, .getfield 21, 4, 3, 0, 0), (5, .putfield 21, 4, 3, 0, 0), (8, .aload_n 1, 0, 0, 0, 0), (9, .getfield 9, 4, 0, 3, 0), (12, .iconst 0, 0, 0, 0, 0), (13, .aload_n 0, 0, 0, 0, 0), (14, .getfield 9, 4, 0, 3, 0), (17, .iconst 0, 0, 0, 0, 0), (18, .aload_n 0, 0, 0, 0, 0), (19, .getfield 21, 4, 3, 0, 0), (22, .invokestatic 32, 0, 0, 13, 0), (25, .aload_n 1, 0, 0, 0, 0), (26, .getfield 15, 4, 1, 4, 0), (29, .iconst 0, 0, 0, 0, 0), (30, .aload_n 0, 0, 0, 0, 0), (31, .getfield 15, 4, 1, 4, 0), (34, .iconst 0, 0, 0, 0, 0), (35, .aload_n 0, 0, 0, 0, 0), (36, .getfield 21, 4, 3, 0, 0), (39, .invokestatic 32, 0, 0, 13, 0), (42, .aload_n 1, 0, 0, 0, 0), (43, .getfield 18, 4, 2, 5, 0), (46, .iconst 0, 0, 0, 0, 0), (47, .aload_n 0, 0, 0, 0, 0), (48, .getfield 18, 4, 2, 5, 0), (51, .iconst 0, 0, 0, 0, 0), (52, .aload_n 0, 0, 0, 0, 0), (53, .getfield 21, 4, 3, 0, 0), (56, .invokestatic 32, 0, 0, 13, 0), (59, .return_, 0, 0, 0, 0)]
def bk32 : List Blk := [(0, l32_0, 60)]
-- NoticeShifts$Sentences.isLike
def l33_0 : List Ent := [(0, .aload_n 0, 0, 0, 0, 0), (1, .getfield 21, 4, 3, 0, 0), (4, .aload_n 1, 0, 0, 0, 0), (5, .getfield 21, 4, 3, 0, 0), (8, .if_icmp .eq 5, 13, 0, 0, 0), (11, .iconst 0, 0, 0, 0, 0), (12, .ireturn, 1, 0, 0, 0)]
def l33_13 : List Ent := [(13, .iconst 0, 0, 0, 0, 0), (14, .istore_n 2, 0, 0, 0, 0)]
def l33_15 : List Ent := [(15, .iload_n 2, 0, 0, 0, 0), (16, .aload_n 0, 0, 0, 0, 0), (17, .getfield 21, 4, 3, 0, 0), (20, .if_icmp .ge 56, 76, 0, 0, 0), (23, .aload_n 0, 0, 0, 0, 0), (24, .getfield 9, 4, 0, 3, 0), (27, .iload_n 2, 0, 0, 0, 0), (28, .iaload, 0, 0, 0, 0), (29, .aload_n 1, 0, 0, 0, 0), (30, .getfield 9, 4, 0, 3, 0), (33, .iload_n 2, 0, 0, 0, 0), (34, .iaload, 0, 0, 0, 0), (35, .if_icmp .ne 33, 68, 0, 0, 0), (38, .aload_n 0, 0, 0, 0, 0), (39, .getfield 15, 4, 1, 4, 0), (42, .iload_n 2, 0, 0, 0, 0), (43, .iaload, 0, 0, 0, 0), (44, .aload_n 1, 0, 0, 0, 0), (45, .getfield 15, 4, 1, 4, 0), (48, .iload_n 2, 0, 0, 0, 0), (49, .iaload, 0, 0, 0, 0), (50, .if_icmp .ne 18, 68, 0, 0, 0), (53, .aload_n 0, 0, 0, 0, 0), (54, .getfield 18, 4, 2, 5, 0), (57, .iload_n 2, 0, 0, 0, 0), (58, .iaload, 0, 0, 0, 0), (59, .aload_n 1, 0, 0, 0, 0), (60, .getfield 18, 4, 2, 5, 0), (63, .iload_n 2, 0, 0, 0, 0), (64, .iaload, 0, 0, 0, 0), (65, .if_icmp .eq 5, 70, 0, 0, 0)]
def l33_68 : List Ent := [(68, .iconst 0, 0, 0, 0, 0), (69, .ireturn, 1, 0, 0, 0)]
def l33_70 : List Ent := [(70, .iinc 2 1, 0, 0, 0, 0), (73, .goto (-58), 15, 0, 0, 0)]
def l33_76 : List Ent := [(76, .iconst 1, 0, 0, 0, 0), (77, .ireturn, 1, 0, 0, 0)]
def bk33 : List Blk := [(0, l33_0, 13), (13, l33_13, 15), (15, l33_15, 68), (68, l33_68, 70), (70, l33_70, 76), (76, l33_76, 78)]
-- NoticeShifts$State.hasSentence
def l35_0 : List Ent := [(0, .iload_n 1, 0, 0, 0, 0), (1, .iconst 0, 0, 0, 0, 0), (2, .aload_n 0, 0, 0, 0, 0), (3, .getfield 12, 5, 0, 3, 0), (6, .getfield 48, 4, 3, 0, 0), (9, .iconst 1, 0, 0, 0, 0), (10, .isub, 0, 0, 0, 0), (11, .invokestatic 52, 80, 3, 2, 0)]
def l35_14 : List Ent := [(14, .ireturn, 1, 0, 0, 0)]
def bk35 : List Blk := [(0, l35_0, 14), (14, l35_14, 15)]
-- NoticeShifts$State.hasNotice
def l36_0 : List Ent := [(0, .iload_n 1, 0, 0, 0, 0), (1, .iconst 0, 0, 0, 0, 0), (2, .aload_n 0, 0, 0, 0, 0), (3, .getfield 56, 5, 10, 0, 0), (6, .iconst 1, 0, 0, 0, 0), (7, .isub, 0, 0, 0, 0), (8, .invokestatic 52, 80, 3, 2, 0)]
def l36_11 : List Ent := [(11, .ireturn, 1, 0, 0, 0)]
def bk36 : List Blk := [(0, l36_0, 11), (11, l36_11, 12)]
-- NoticeShifts$State.hasListener
def l37_0 : List Ent := [(0, .iload_n 1, 0, 0, 0, 0), (1, .iconst 0, 0, 0, 0, 0), (2, .aload_n 0, 0, 0, 0, 0), (3, .getfield 59, 5, 11, 0, 0), (6, .iconst 1, 0, 0, 0, 0), (7, .isub, 0, 0, 0, 0), (8, .invokestatic 52, 80, 3, 2, 0)]
def l37_11 : List Ent := [(11, .ireturn, 1, 0, 0, 0)]
def bk37 : List Blk := [(0, l37_0, 11), (11, l37_11, 12)]
-- NoticeShifts$State.isRowFull
def l38_0 : List Ent := [(0, .aload_n 0, 0, 0, 0, 0), (1, .getfield 18, 5, 1, 7, 0), (4, .iload_n 1, 0, 0, 0, 0), (5, .iaload, 0, 0, 0, 0), (6, .iconst 4, 0, 0, 0, 0), (7, .if_icmp .lt 7, 14, 0, 0, 0), (10, .iconst 1, 0, 0, 0, 0), (11, .goto 4, 15, 0, 0, 0)]
def l38_14 : List Ent := [(14, .iconst 0, 0, 0, 0, 0)]
def l38_15 : List Ent := [(15, .ireturn, 1, 0, 0, 0)]
def bk38 : List Blk := [(0, l38_0, 14), (14, l38_14, 15), (15, l38_15, 16)]
-- NoticeShifts$State.inRow
def l39_0 : List Ent := [(0, .aload_n 0, 0, 0, 0, 0), (1, .getfield 22, 5, 2, 8, 0), (4, .iload_n 1, 0, 0, 0, 0), (5, .iconst 4, 0, 0, 0, 0), (6, .imul, 0, 0, 0, 0), (7, .iload_n 2, 0, 0, 0, 0), (8, .iadd, 0, 0, 0, 0), (9, .iaload, 0, 0, 0, 0), (10, .ireturn, 0, 0, 0, 0)]
def bk39 : List Blk := [(0, l39_0, 11)]
-- NoticeShifts$State.appendToRow
def l40_0 : List Ent := [(0, .aload_n 0, 0, 0, 0, 0), (1, .getfield 22, 5, 2, 8, 0), (4, .iload_n 1, 0, 0, 0, 0), (5, .iconst 4, 0, 0, 0, 0), (6, .imul, 0, 0, 0, 0), (7, .aload_n 0, 0, 0, 0, 0), (8, .getfield 18, 5, 1, 7, 0), (11, .iload_n 1, 0, 0, 0, 0), (12, .iaload, 0, 0, 0, 0), (13, .iadd, 0, 0, 0, 0), (14, .iload_n 2, 0, 0, 0, 0), (15, .iastore, 0, 0, 0, 0), (16, .aload_n 0, 0, 0, 0, 0), (17, .getfield 18, 5, 1, 7, 0), (20, .iload_n 1, 0, 0, 0, 0), (21, .dup2, 0, 0, 0, 0), (22, .iaload, 0, 0, 0, 0), (23, .iconst 1, 0, 0, 0, 0), (24, .iadd, 0, 0, 0, 0), (25, .iastore, 0, 0, 0, 0), (26, .return_, 0, 0, 0, 0)]
def bk40 : List Blk := [(0, l40_0, 27)]
-- NoticeShifts$State.dropFromRow
def l41_0 : List Ent := [(0, .aload_n 0, 0, 0, 0, 0), (1, .getfield 18, 5, 1, 7, 0), (4, .iload_n 1, 0, 0, 0, 0), (5, .dup2, 0, 0, 0, 0), (6, .iaload, 0, 0, 0, 0), (7, .iconst 1, 0, 0, 0, 0), (8, .isub, 0, 0, 0, 0), (9, .iastore, 0, 0, 0, 0), (10, .return_, 0, 0, 0, 0)]
def bk41 : List Blk := [(0, l41_0, 11)]
-- NoticeShifts$State.isInRow
def l42_0 : List Ent := [(0, .iconst 0, 0, 0, 0, 0), (1, .istore_n 3, 0, 0, 0, 0)]
def l42_2 : List Ent := [(2, .iload_n 3, 0, 0, 0, 0), (3, .aload_n 0, 0, 0, 0, 0), (4, .getfield 18, 5, 1, 7, 0), (7, .iload_n 1, 0, 0, 0, 0), (8, .iaload, 0, 0, 0, 0), (9, .if_icmp .ge 21, 30, 0, 0, 0), (12, .aload_n 0, 0, 0, 0, 0), (13, .iload_n 1, 0, 0, 0, 0), (14, .iload_n 3, 0, 0, 0, 0), (15, .invokevirtual 62, 39, 3, 1, 5)]
def l42_18 : List Ent := [(18, .iload_n 2, 0, 0, 0, 0), (19, .if_icmp .ne 5, 24, 0, 0, 0), (22, .iconst 1, 0, 0, 0, 0), (23, .ireturn, 1, 0, 0, 0)]
def l42_24 : List Ent := [(24, .iinc 3 1, 0, 0, 0, 0), (27, .goto (-25), 2, 0, 0, 0)]
def l42_30 : List Ent := [(30, .iconst 0, 0, 0, 0, 0), (31, .ireturn, 1, 0, 0, 0)]
def bk42 : List Blk := [(0, l42_0, 2), (2, l42_2, 18), (18, l42_18, 24), (24, l42_24, 30), (30, l42_30, 32)]
-- NoticeShifts$State.countBreaksWith
def l43_0 : List Ent := [(0, .iconst 0, 0, 0, 0, 0), (1, .istore_n 2, 0, 0, 0, 0), (2, .iconst 0, 0, 0, 0, 0), (3, .istore_n 3, 0, 0, 0, 0)]
def l43_4 : List Ent := [(4, .iload_n 3, 0, 0, 0, 0), (5, .aload_n 0, 0, 0, 0, 0), (6, .getfield 12, 5, 0, 3, 0), (9, .getfield 48, 4, 3, 0, 0), (12, .if_icmp .ge 21, 33, 0, 0, 0), (15, .iload_n 2, 0, 0, 0, 0), (16, .aload_n 0, 0, 0, 0, 0), (17, .iload_n 3, 0, 0, 0, 0), (18, .iload_n 1, 0, 0, 0, 0), (19, .invokevirtual 66, 42, 3, 1, 5)]
def l43_22 : List Ent := [(22, .invokestatic 70, 81, 1, 2, 0)]
def l43_25 : List Ent := [(25, .iadd, 0, 0, 0, 0), (26, .istore_n 2, 0, 0, 0, 0), (27, .iinc 3 1, 0, 0, 0, 0), (30, .goto (-26), 4, 0, 0, 0)]
def l43_33 : List Ent := [(33, .iload_n 2, 0, 0, 0, 0), (34, .ireturn, 0, 0, 0, 0)]
def bk43 : List Blk := [(0, l43_0, 4), (4, l43_4, 22), (22, l43_22, 25), (25, l43_25, 33), (33, l43_33, 35)]
-- NoticeShifts$State.insertSentence
def l44_0 : List Ent := [(0, .aload_n 0, 0, 0, 0, 0), (1, .getfield 12, 5, 0, 3, 0), (4, .getfield 48, 4, 3, 0, 0), (7, .istore_n 3, 0, 0, 0, 0)]
def l44_8 : List Ent := [(8, .iload_n 3, 0, 0, 0, 0), (9, .iload_n 1, 0, 0, 0, 0), (10, .if_icmp .le 17, 27, 0, 0, 0), (13, .aload_n 0, 0, 0, 0, 0), (14, .iload_n 3, 0, 0, 0, 0), (15, .iconst 1, 0, 0, 0, 0), (16, .isub, 0, 0, 0, 0), (17, .iload_n 3, 0, 0, 0, 0), (18, .invokevirtual 74, 46, 3, 0, 5)]
def l44_21 : List Ent := [(21, .iinc 3 (-1), 0, 0, 0, 0), (24, .goto (-16), 8, 0, 0, 0)]
def l44_27 : List Ent := [(27, .aload_n 0, 0, 0, 0, 0), (28, .getfield 12, 5, 0, 3, 0), (31, .dup, 0, 0, 0, 0), (32, .getfield 48, 4, 3, 0, 0), (35, .iconst 1, 0, 0, 0, 0), (36, .iadd, 0, 0, 0, 0), (37, .putfield 48, 4, 3, 0, 0), (40, .aload_n 0, 0, 0, 0, 0), (41, .getfield 12, 5, 0, 3, 0), (44, .getfield 78, 4, 0, 3, 0), (47, .iload_n 1, 0, 0, 0, 0), (48, .aload_n 0, 0, 0, 0, 0), (49, .getfield 81, 5, 9, 0, 0), (52, .iastore, 0, 0, 0, 0), (53, .aload_n 0, 0, 0, 0, 0), (54, .getfield 12, 5, 0, 3, 0), (57, .getfield 84, 4, 1, 4, 0), (60, .iload_n 1, 0, 0, 0, 0), (61, .iload_n 2, 0, 0, 0, 0), (62, .iastore, 0, 0, 0, 0), (63, .aload_n 0, 0, 0, 0, 0), (64, .getfield 12, 5, 0, 3, 0), (67, .getfield 87, 4, 2, 5, 0), (70, .iload_n 1, 0, 0, 0, 0), (71, .iload_n 1, 0, 0, 0, 0), (72, .ifCond .ne 7, 79, 0, 0, 0), (75, .iconst 1, 0, 0, 0, 0), (76, .goto 4, 80, 0, 0, 0)]
def l44_79 : List Ent := [(79, .iconst 0, 0, 0, 0, 0)]
def l44_80 : List Ent := [(80, .invokestatic 70, 81, 1, 2, 0)]
def l44_83 : List Ent := [(83, .iastore, 0, 0, 0, 0), (84, .aload_n 0, 0, 0, 0, 0), (85, .getfield 18, 5, 1, 7, 0), (88, .iload_n 1, 0, 0, 0, 0), (89, .iconst 0, 0, 0, 0, 0), (90, .iastore, 0, 0, 0, 0), (91, .aload_n 0, 0, 0, 0, 0), (92, .dup, 0, 0, 0, 0), (93, .getfield 81, 5, 9, 0, 0), (96, .iconst 1, 0, 0, 0, 0), (97, .iadd, 0, 0, 0, 0), (98, .putfield 81, 5, 9, 0, 0), (101, .return_, 0, 0, 0, 0)]
def bk44 : List Blk := [(0, l44_0, 8), (8, l44_8, 21), (21, l44_21, 27), (27, l44_27, 79), (79, l44_79, 80), (80, l44_80, 83), (83, l44_83, 102)]
-- NoticeShifts$State.removeSentence
def l45_0 : List Ent := [(0, .aload_n 0, 0, 0, 0, 0), (1, .getfield 12, 5, 0, 3, 0), (4, .dup, 0, 0, 0, 0), (5, .getfield 48, 4, 3, 0, 0), (8, .iconst 1, 0, 0, 0, 0), (9, .isub, 0, 0, 0, 0), (10, .putfield 48, 4, 3, 0, 0), (13, .iload_n 1, 0, 0, 0, 0), (14, .istore_n 2, 0, 0, 0, 0)]
def l45_15 : List Ent := [(15, .iload_n 2, 0, 0, 0, 0), (16, .aload_n 0, 0, 0, 0, 0), (17, .getfield 12, 5, 0, 3, 0), (20, .getfield 48, 4, 3, 0, 0), (23, .if_icmp .ge 17, 40, 0, 0, 0), (26, .aload_n 0, 0, 0, 0, 0), (27, .iload_n 2, 0, 0, 0, 0), (28, .iconst 1, 0, 0, 0, 0), (29, .iadd, 0, 0, 0, 0), (30, .iload_n 2, 0, 0, 0, 0), (31, .invokevirtual 74, 46, 3, 0, 5)]
def l45_34 : List Ent := [(34, .iinc 2 1, 0, 0, 0, 0), (37, .goto (-22), 15, 0, 0, 0)]
def l45_40 : List Ent := [(40, .aload_n 0, 0, 0, 0, 0), (41, .getfield 12, 5, 0, 3, 0), (44, .getfield 87, 4, 2, 5, 0), (47, .iconst 0, 0, 0, 0, 0), (48, .iconst 1, 0, 0, 0, 0), (49, .iastore, 0, 0, 0, 0), (50, .return_, 0, 0, 0, 0)]
def bk45 : List Blk := [(0, l45_0, 15), (15, l45_15, 34), (34, l45_34, 40), (40, l45_40, 51)]
-- NoticeShifts$State.moveSentence
def l46_0 : List Ent := [(0, .aload_n 0, 0, 0, 0, 0), (1, .getfield 12, 5, 0, 3, 0), (4, .getfield 78, 4, 0, 3, 0), (7, .iload_n 2, 0, 0, 0, 0), (8, .aload_n 0, 0, 0, 0, 0), (9, .getfield 12, 5, 0, 3, 0), (12, .getfield 78, 4, 0, 3, 0), (15, .iload_n 1, 0, 0, 0, 0), (16, .iaload, 0, 0, 0, 0), (17, .iastore, 0, 0, 0, 0), (18, .aload_n 0, 0, 0, 0, 0), (19, .getfield 12, 5, 0, 3, 0), (22, .getfield 84, 4, 1, 4, 0), (25, .iload_n 2, 0, 0, 0, 0), (26, .aload_n 0, 0, 0, 0, 0), (27, .getfield 12, 5, 0, 3, 0), (30, .getfield 84, 4, 1, 4, 0), (33, .iload_n 1, 0, 0, 0, 0), (34, .iaload, 0, 0, 0, 0), (35, .iastore, 0, 0, 0, 0), (36, .aload_n 0, 0, 0, 0, 0), (37, .getfield 12, 5, 0, 3, 0), (40, .getfield 87, 4, 2, 5, 0), (43, .iload_n 2, 0, 0, 0, 0), (44, .aload_n 0, 0, 0, 0, 0), (45, .getfield 12, 5, 0, 3, 0), (48, .getfield 87, 4, 2, 5, 0), (51, .iload_n 1, 0, 0, 0, 0), (52, .iaload, 0, 0, 0, 0), (53, .iastore, 0, 0, 0, 0), (54, .aload_n 0, 0, 0, 0, 0), (55, .getfield 18, 5, 1, 7, 0), (58, .iload_n 2, 0, 0, 0, 0), (59, .aload_n 0, 0, 0, 0, 0), (60, .getfield 18, 5, 1, 7, 0), (63, .iload_n 1, 0, 0, 0, 0), (64, .iaload, 0, 0, 0, 0), (65, .iastore, 0, 0, 0, 0), (66, .aload_n 0, 0, 0, 0, 0), (67, .getfield 22, 5, 2, 8, 0), (70, .iload_n 1, 0, 0, 0, 0), (71, .iconst 4, 0, 0, 0, 0), (72, .imul, 0, 0, 0, 0), (73, .aload_n 0, 0, 0, 0, 0), (74, .getfield 22, 5, 2, 8, 0), (77, .iload_n 2, 0, 0, 0, 0), (78, .iconst 4, 0, 0, 0, 0), (79, .imul, 0, 0, 0, 0), (80, .iconst 4, 0, 0, 0, 0), (81, .invokestatic 90, 0, 0, 13, 0), (84, .return_, 0, 0, 0, 0)]
def bk46 : List Blk := [(0, l46_0, 85)]
-- NoticeShifts$State.copyFrom
def l47_0 : List Ent := [(0, .aload_n 0, 0, 0, 0, 0), (1, .getfield 12, 5, 0, 3, 0), (4, .aload_n 1, 0, 0, 0, 0), (5, .getfield 12, 5, 0, 3, 0), (8, .invokevirtual 96, 32, 2, 0, 4)]
def l47_11 : List Ent := [(11, .aload_n 0, 0, 0, 0, 0), (12, .aload_n 1, 0, 0, 0, 0), (13, .getfield 81, 5, 9, 0, 0), (16, .putfield 81, 5, 9, 0, 0), (19, .aload_n 1, 0, 0, 0, 0), (20, .getfield 18, 5, 1, 7, 0), (23, .iconst 0, 0, 0, 0, 0), (24, .aload_n 0, 0, 0, 0, 0), (25, .getfield 18, 5, 1, 7, 0), (28, .iconst 0, 0, 0, 0, 0), (29, .bipush 24, 0, 0, 0, 0), (31, .invokestatic 90, 0, 0, 13, 0), (34, .aload_n 1, 0, 0, 0, 0), (35, .getfield 22, 5, 2, 8, 0), (38, .iconst 0, 0, 0, 0, 0), (39, .aload_n 0, 0, 0, 0, 0), (40, .getfield 22, 5, 2, 8, 0), (43, .iconst 0, 0, 0, 0, 0), (44, .bipush 96, 0, 0, 0, 0), (46, .invokestatic 90, 0, 0, 13, 0), (49, .aload_n 0, 0, 0, 0, 0), (50, .aload_n 1, 0, 0, 0, 0), (51, .getfield 56, 5, 10, 0, 0), (54, .putfield 56, 5, 10, 0, 0), (57, .aload_n 1, 0, 0, 0, 0), (58, .getfield 25, 5, 3, 9, 0), (61, .iconst 0, 0, 0, 0, 0), (62, .aload_n 0, 0, 0, 0, 0), (63, .getfield 25, 5, 3, 9, 0), (66, .iconst 0, 0, 0, 0, 0), (67, .bipush 8, 0, 0, 0, 0), (69, .invokestatic 90, 0, 0, 13, 0), (72, .aload_n 1, 0, 0, 0, 0), (73, .getfield 28, 5, 4, 10, 0), (76, .iconst 0, 0, 0, 0, 0), (77, .aload_n 0, 0, 0, 0, 0), (78, .getfield 28, 5, 4, 10, 0), (81, .iconst 0, 0, 0, 0, 0), (82, .bipush 8, 0, 0, 0, 0), (84, .invokestatic 90, 0, 0, 13, 0), (87, .aload_n 0, 0, 0, 0, 0), (88, .aload_n 1, 0, 0, 0, 0), (89, .getfield 59, 5, 11, 0, 0), (92, .putfield 59, 5, 11, 0, 0), (95, .aload_n 1, 0, 0, 0, 0), (96, .getfield 31, 5, 5, 11, 0), (99, .iconst 0, 0, 0, 0, 0), (100, .aload_n 0, 0, 0, 0, 0), (101, .getfield 31, 5, 5, 11, 0), (104, .iconst 0, 0, 0, 0, 0), (105, .bipush 6, 0, 0, 0, 0), (107, .invokestatic 90, 0, 0, 13, 0), (110, .aload_n 1, 0, 0, 0, 0), (111, .getfield 34, 5, 6, 12, 0), (114, .iconst 0, 0, 0, 0, 0), (115, .aload_n 0, 0, 0, 0, 0), (116, .getfield 34, 5, 6, 12, 0), (119, .iconst 0, 0, 0, 0, 0), (120, .bipush 6, 0, 0, 0, 0), (122, .invokestatic 90, 0, 0, 13, 0), (125, .iconst 0, 0, 0, 0, 0), (126, .istore_n 2, 0, 0, 0, 0)]
def l47_127 : List Ent := [(127, .iload_n 2, 0, 0, 0, 0), (128, .aload_n 0, 0, 0, 0, 0), (129, .getfield 59, 5, 11, 0, 0), (132, .if_icmp .ge 45, 177, 0, 0, 0), (135, .aload_n 0, 0, 0, 0, 0), (136, .getfield 37, 5, 7, 13, 0), (139, .iload_n 2, 0, 0, 0, 0), (140, .aload_n 1, 0, 0, 0, 0), (141, .getfield 37, 5, 7, 13, 0), (144, .iload_n 2, 0, 0, 0, 0), (145, .baload, 0, 0, 0, 0), (146, .bastore, 0, 0, 0, 0), (147, .aload_n 0, 0, 0, 0, 0), (148, .getfield 37, 5, 7, 13, 0), (151, .iload_n 2, 0, 0, 0, 0), (152, .baload, 0, 0, 0, 0), (153, .ifCond .eq 18, 171, 0, 0, 0), (156, .aload_n 0, 0, 0, 0, 0), (157, .getfield 43, 5, 8, 14, 0), (160, .iload_n 2, 0, 0, 0, 0), (161, .aaload, 103, 1, 7, 0), (162, .aload_n 1, 0, 0, 0, 0), (163, .getfield 43, 5, 8, 14, 0), (166, .iload_n 2, 0, 0, 0, 0), (167, .aaload, 103, 1, 7, 0), (168, .invokevirtual 100, 11, 2, 0, 1)]
def l47_171 : List Ent := [(171, .iinc 2 1, 0, 0, 0, 0), (174, .goto (-47), 127, 0, 0, 0)]
def l47_177 : List Ent := [(177, .return_, 0, 0, 0, 0)]
def bk47 : List Blk := [(0, l47_0, 11), (11, l47_11, 127), (127, l47_127, 171), (171, l47_171, 177), (177, l47_177, 178)]
-- NoticeShifts.putIn
def l49_0 : List Ent := [(0, .iload_n 1, 0, 0, 0, 0), (1, .iconst 0, 0, 0, 0, 0), (2, .aload_n 0, 0, 0, 0, 0), (3, .getfield 10, 6, 0, 3, 0), (6, .getfield 56, 5, 0, 3, 0), (9, .getfield 60, 4, 3, 0, 0), (12, .invokestatic 66, 80, 3, 1, 0)]
def l49_15 : List Ent := [(15, .ifCond .ne 5, 20, 0, 0, 0), (18, .iconst (-1), 0, 0, 0, 0), (19, .ireturn, 0, 0, 0, 0)]
def l49_20 : List Ent := [(20, .iload_n 2, 0, 0, 0, 0), (21, .iconst 1, 0, 0, 0, 0), (22, .sipush 300, 0, 0, 0, 0), (25, .invokestatic 66, 80, 3, 1, 0)]
def l49_28 : List Ent := [(28, .ifCond .ne 6, 34, 0, 0, 0), (31, .bipush (-2), 0, 0, 0, 0), (33, .ireturn, 0, 0, 0, 0)]
def l49_34 : List Ent := [(34, .aload_n 0, 0, 0, 0, 0), (35, .getfield 10, 6, 0, 3, 0), (38, .getfield 56, 5, 0, 3, 0), (41, .getfield 60, 4, 3, 0, 0), (44, .bipush 24, 0, 0, 0, 0), (46, .if_icmp .ge 15, 61, 0, 0, 0), (49, .aload_n 0, 0, 0, 0, 0), (50, .getfield 10, 6, 0, 3, 0), (53, .getfield 70, 5, 9, 0, 0), (56, .bipush 100, 0, 0, 0, 0), (58, .if_icmp .lt 6, 64, 0, 0, 0)]
def l49_61 : List Ent := [(61, .bipush (-4), 0, 0, 0, 0), (63, .ireturn, 0, 0, 0, 0)]
def l49_64 : List Ent := [(64, .aload_n 0, 0, 0, 0, 0), (65, .getfield 19, 6, 1, 58, 0), (68, .aload_n 0, 0, 0, 0, 0), (69, .getfield 10, 6, 0, 3, 0), (72, .invokevirtual 73, 14, 2, 0, 2)]
def l49_75 : List Ent := [(75, .aload_n 0, 0, 0, 0, 0), (76, .getfield 10, 6, 0, 3, 0), (79, .iload_n 1, 0, 0, 0, 0), (80, .iload_n 2, 0, 0, 0, 0), (81, .invokevirtual 52, 44, 3, 0, 5)]
def l49_84 : List Ent := [(84, .aload_n 0, 0, 0, 0, 0), (85, .getfield 10, 6, 0, 3, 0), (88, .getfield 56, 5, 0, 3, 0), (91, .getfield 77, 4, 0, 3, 0), (94, .iload_n 1, 0, 0, 0, 0), (95, .iaload, 0, 0, 0, 0), (96, .ireturn, 0, 0, 0, 0)]
def bk49 : List Blk := [(0, l49_0, 15), (15, l49_15, 20), (20, l49_20, 28), (28, l49_28, 34), (34, l49_34, 61), (61, l49_61, 64), (64, l49_64, 75), (75, l49_75, 84), (84, l49_84, 97)]
-- NoticeShifts.cutOut
def l50_0 : List Ent := [(0, .aload_n 0, 0, 0, 0, 0), (1, .getfield 10, 6, 0, 3, 0), (4, .iload_n 1, 0, 0, 0, 0), (5, .invokevirtual 81, 35, 2, 1, 5)]
def l50_8 : List Ent := [(8, .ifCond .ne 5, 13, 0, 0, 0), (11, .iconst (-1), 0, 0, 0, 0), (12, .ireturn, 0, 0, 0, 0)]
def l50_13 : List Ent := [(13, .aload_n 0, 0, 0, 0, 0), (14, .getfield 10, 6, 0, 3, 0), (17, .getfield 56, 5, 0, 3, 0), (20, .getfield 60, 4, 3, 0, 0), (23, .iconst 1, 0, 0, 0, 0), (24, .if_icmp .ne 6, 30, 0, 0, 0), (27, .bipush (-5), 0, 0, 0, 0), (29, .ireturn, 0, 0, 0, 0)]
def l50_30 : List Ent := [(30, .aload_n 0, 0, 0, 0, 0), (31, .getfield 19, 6, 1, 58, 0), (34, .aload_n 0, 0, 0, 0, 0), (35, .getfield 10, 6, 0, 3, 0), (38, .invokevirtual 73, 14, 2, 0, 2)]
def l50_41 : List Ent := [(41, .aload_n 0, 0, 0, 0, 0), (42, .getfield 10, 6, 0, 3, 0), (45, .getfield 56, 5, 0, 3, 0), (48, .getfield 77, 4, 0, 3, 0), (51, .iload_n 1, 0, 0, 0, 0), (52, .iaload, 0, 0, 0, 0), (53, .istore_n 2, 0, 0, 0, 0), (54, .aload_n 0, 0, 0, 0, 0), (55, .getfield 10, 6, 0, 3, 0), (58, .iload_n 1, 0, 0, 0, 0), (59, .invokevirtual 85, 45, 2, 0, 5)]
def l50_62 : List Ent := [(62, .iload_n 2, 0, 0, 0, 0), (63, .ireturn, 0, 0, 0, 0)]
def bk50 : List Blk := [(0, l50_0, 8), (8, l50_8, 13), (13, l50_13, 30), (30, l50_30, 41), (41, l50_41, 62), (62, l50_62, 64)]
-- NoticeShifts.change
def l51_0 : List Ent := [(0, .aload_n 0, 0, 0, 0, 0), (1, .getfield 10, 6, 0, 3, 0), (4, .iload_n 1, 0, 0, 0, 0), (5, .invokevirtual 81, 35, 2, 1, 5)]
def l51_8 : List Ent := [(8, .ifCond .ne 5, 13, 0, 0, 0), (11, .iconst (-1), 0, 0, 0, 0), (12, .ireturn, 0, 0, 0, 0)]
def l51_13 : List Ent := [(13, .iload_n 2, 0, 0, 0, 0), (14, .iconst 1, 0, 0, 0, 0), (15, .sipush 300, 0, 0, 0, 0), (18, .invokestatic 66, 80, 3, 1, 0)]
def l51_21 : List Ent := [(21, .ifCond .ne 6, 27, 0, 0, 0), (24, .bipush (-2), 0, 0, 0, 0), (26, .ireturn, 0, 0, 0, 0)]
def l51_27 : List Ent := [(27, .aload_n 0, 0, 0, 0, 0), (28, .getfield 19, 6, 1, 58, 0), (31, .aload_n 0, 0, 0, 0, 0), (32, .getfield 10, 6, 0, 3, 0), (35, .invokevirtual 73, 14, 2, 0, 2)]
def l51_38 : List Ent := [(38, .aload_n 0, 0, 0, 0, 0), (39, .getfield 10, 6, 0, 3, 0), (42, .getfield 56, 5, 0, 3, 0), (45, .getfield 89, 4, 1, 4, 0), (48, .iload_n 1, 0, 0, 0, 0), (49, .iaload, 0, 0, 0, 0), (50, .istore_n 3, 0, 0, 0, 0), (51, .aload_n 0, 0, 0, 0, 0), (52, .getfield 10, 6, 0, 3, 0), (55, .getfield 56, 5, 0, 3, 0), (58, .getfield 89, 4, 1, 4, 0), (61, .iload_n 1, 0, 0, 0, 0), (62, .iload_n 2, 0, 0, 0, 0), (63, .iastore, 0, 0, 0, 0), (64, .iload_n 3, 0, 0, 0, 0), (65, .ireturn, 0, 0, 0, 0)]
def bk51 : List Blk := [(0, l51_0, 8), (8, l51_8, 13), (13, l51_13, 21), (21, l51_21, 27), (27, l51_27, 38), (38, l51_38, 66)]
-- NoticeShifts.chapter
def l52_0 : List Ent := [(0, .aload_n 0, 0, 0, 0, 0), (1, .getfield 10, 6, 0, 3, 0), (4, .iload_n 1, 0, 0, 0, 0), (5, .invokevirtual 81, 35, 2, 1, 5)]
def l52_8 : List Ent := [(8, .ifCond .ne 5, 13, 0, 0, 0), (11, .iconst (-1), 0, 0, 0, 0), (12, .ireturn, 0, 0, 0, 0)]
def l52_13 : List Ent := [(13, .iload_n 2, 0, 0, 0, 0), (14, .invokestatic 92, 81, 1, 1, 0)]
def l52_17 : List Ent := [(17, .istore_n 3, 0, 0, 0, 0), (18, .iload_n 1, 0, 0, 0, 0), (19, .ifCond .eq 19, 38, 0, 0, 0), (22, .aload_n 0, 0, 0, 0, 0), (23, .getfield 10, 6, 0, 3, 0), (26, .getfield 56, 5, 0, 3, 0), (29, .getfield 96, 4, 2, 5, 0), (32, .iload_n 1, 0, 0, 0, 0), (33, .iaload, 0, 0, 0, 0), (34, .iload_n 3, 0, 0, 0, 0), (35, .if_icmp .ne 6, 41, 0, 0, 0)]
def l52_38 : List Ent := [(38, .bipush (-5), 0, 0, 0, 0), (40, .ireturn, 0, 0, 0, 0)]
def l52_41 : List Ent := [(41, .aload_n 0, 0, 0, 0, 0), (42, .getfield 19, 6, 1, 58, 0), (45, .aload_n 0, 0, 0, 0, 0), (46, .getfield 10, 6, 0, 3, 0), (49, .invokevirtual 73, 14, 2, 0, 2)]
def l52_52 : List Ent := [(52, .aload_n 0, 0, 0, 0, 0), (53, .getfield 10, 6, 0, 3, 0), (56, .getfield 56, 5, 0, 3, 0), (59, .getfield 96, 4, 2, 5, 0), (62, .iload_n 1, 0, 0, 0, 0), (63, .iload_n 3, 0, 0, 0, 0), (64, .iastore, 0, 0, 0, 0), (65, .aload_n 0, 0, 0, 0, 0), (66, .getfield 10, 6, 0, 3, 0), (69, .getfield 56, 5, 0, 3, 0), (72, .invokevirtual 99, 30, 1, 1, 4)]
def l52_75 : List Ent := [(75, .ireturn, 0, 0, 0, 0)]
def bk52 : List Blk := [(0, l52_0, 8), (8, l52_8, 13), (13, l52_13, 17), (17, l52_17, 38), (38, l52_38, 41), (41, l52_41, 52), (52, l52_52, 75), (75, l52_75, 76)]
-- NoticeShifts.notice
def l53_0 : List Ent := [(0, .iload_n 1, 0, 0, 0, 0), (1, .iconst 1, 0, 0, 0, 0), (2, .bipush 120, 0, 0, 0, 0), (4, .invokestatic 66, 80, 3, 1, 0)]
def l53_7 : List Ent := [(7, .ifCond .eq 13, 20, 0, 0, 0), (10, .iload_n 2, 0, 0, 0, 0), (11, .iconst 1, 0, 0, 0, 0), (12, .bipush 63, 0, 0, 0, 0), (14, .invokestatic 66, 80, 3, 1, 0)]
def l53_17 : List Ent := [(17, .ifCond .ne 6, 23, 0, 0, 0)]
def l53_20 : List Ent := [(20, .bipush (-2), 0, 0, 0, 0), (22, .ireturn, 0, 0, 0, 0)]
def l53_23 : List Ent := [(23, .aload_n 0, 0, 0, 0, 0), (24, .getfield 10, 6, 0, 3, 0), (27, .getfield 103, 5, 10, 0, 0), (30, .bipush 8, 0, 0, 0, 0), (32, .if_icmp .lt 6, 38, 0, 0, 0), (35, .bipush (-4), 0, 0, 0, 0), (37, .ireturn, 0, 0, 0, 0)]
def l53_38 : List Ent := [(38, .aload_n 0, 0, 0, 0, 0), (39, .getfield 19, 6, 1, 58, 0), (42, .aload_n 0, 0, 0, 0, 0), (43, .getfield 10, 6, 0, 3, 0), (46, .invokevirtual 73, 14, 2, 0, 2)]
def l53_49 : List Ent := [(49, .aload_n 0, 0, 0, 0, 0), (50, .getfield 10, 6, 0, 3, 0), (53, .getfield 103, 5, 10, 0, 0), (56, .istore_n 3, 0, 0, 0, 0), (57, .aload_n 0, 0, 0, 0, 0), (58, .getfield 10, 6, 0, 3, 0), (61, .getfield 106, 5, 3, 9, 0), (64, .iload_n 3, 0, 0, 0, 0), (65, .iload_n 1, 0, 0, 0, 0), (66, .iastore, 0, 0, 0, 0), (67, .aload_n 0, 0, 0, 0, 0), (68, .getfield 10, 6, 0, 3, 0), (71, .getfield 109, 5, 4, 10, 0), (74, .iload_n 3, 0, 0, 0, 0), (75, .iload_n 2, 0, 0, 0, 0), (76, .iastore, 0, 0, 0, 0), (77, .aload_n 0, 0, 0, 0, 0), (78, .getfield 10, 6, 0, 3, 0), (81, .dup, 0, 0, 0, 0), (82, .getfield 103, 5, 10, 0, 0), (85, .iconst 1, 0, 0, 0, 0), (86, .iadd, 0, 0, 0, 0), (87, .putfield 103, 5, 10, 0, 0), (90, .iload_n 3, 0, 0, 0, 0), (91, .ireturn, 0, 0, 0, 0)]
def bk53 : List Blk := [(0, l53_0, 7), (7, l53_7, 17), (17, l53_17, 20), (20, l53_20, 23), (23, l53_23, 38), (38, l53_38, 49), (49, l53_49, 92)]
-- NoticeShifts.book
def l54_0 : List Ent := [(0, .aload_n 0, 0, 0, 0, 0), (1, .getfield 10, 6, 0, 3, 0), (4, .iload_n 1, 0, 0, 0, 0), (5, .invokevirtual 81, 35, 2, 1, 5)]
def l54_8 : List Ent := [(8, .ifCond .eq 14, 22, 0, 0, 0), (11, .aload_n 0, 0, 0, 0, 0), (12, .getfield 10, 6, 0, 3, 0), (15, .iload_n 2, 0, 0, 0, 0), (16, .invokevirtual 112, 36, 2, 1, 5)]
def l54_19 : List Ent := [(19, .ifCond .ne 5, 24, 0, 0, 0)]
def l54_22 : List Ent := [(22, .iconst (-1), 0, 0, 0, 0), (23, .ireturn, 0, 0, 0, 0)]
def l54_24 : List Ent := [(24, .aload_n 0, 0, 0, 0, 0), (25, .getfield 10, 6, 0, 3, 0), (28, .iload_n 1, 0, 0, 0, 0), (29, .invokevirtual 115, 38, 2, 1, 5)]
def l54_32 : List Ent := [(32, .ifCond .eq 6, 38, 0, 0, 0), (35, .bipush (-4), 0, 0, 0, 0), (37, .ireturn, 0, 0, 0, 0)]
def l54_38 : List Ent := [(38, .aload_n 0, 0, 0, 0, 0), (39, .getfield 19, 6, 1, 58, 0), (42, .aload_n 0, 0, 0, 0, 0), (43, .getfield 10, 6, 0, 3, 0), (46, .invokevirtual 73, 14, 2, 0, 2)]
def l54_49 : List Ent := [(49, .aload_n 0, 0, 0, 0, 0), (50, .getfield 10, 6, 0, 3, 0), (53, .iload_n 1, 0, 0, 0, 0), (54, .iload_n 2, 0, 0, 0, 0), (55, .invokevirtual 118, 40, 3, 0, 5)]
def l54_58 : List Ent := [(58, .aload_n 0, 0, 0, 0, 0), (59, .getfield 10, 6, 0, 3, 0), (62, .getfield 121, 5, 1, 7, 0), (65, .iload_n 1, 0, 0, 0, 0), (66, .iaload, 0, 0, 0, 0), (67, .ireturn, 0, 0, 0, 0)]
def bk54 : List Blk := [(0, l54_0, 8), (8, l54_8, 19), (19, l54_19, 22), (22, l54_22, 24), (24, l54_24, 32), (32, l54_32, 38), (38, l54_38, 49), (49, l54_49, 58), (58, l54_58, 68)]
-- NoticeShifts.empty
def l55_0 : List Ent := [(0, .aload_n 0, 0, 0, 0, 0), (1, .getfield 10, 6, 0, 3, 0), (4, .iload_n 1, 0, 0, 0, 0), (5, .invokevirtual 81, 35, 2, 1, 5)]
def l55_8 : List Ent := [(8, .ifCond .ne 5, 13, 0, 0, 0), (11, .iconst (-1), 0, 0, 0, 0), (12, .ireturn, 0, 0, 0, 0)]
def l55_13 : List Ent := [(13, .aload_n 0, 0, 0, 0, 0), (14, .getfield 19, 6, 1, 58, 0), (17, .aload_n 0, 0, 0, 0, 0), (18, .getfield 10, 6, 0, 3, 0), (21, .invokevirtual 73, 14, 2, 0, 2)]
def l55_24 : List Ent := [(24, .aload_n 0, 0, 0, 0, 0), (25, .getfield 10, 6, 0, 3, 0), (28, .getfield 121, 5, 1, 7, 0), (31, .iload_n 1, 0, 0, 0, 0), (32, .iaload, 0, 0, 0, 0), (33, .istore_n 2, 0, 0, 0, 0), (34, .aload_n 0, 0, 0, 0, 0), (35, .getfield 10, 6, 0, 3, 0), (38, .getfield 121, 5, 1, 7, 0), (41, .iload_n 1, 0, 0, 0, 0), (42, .iconst 0, 0, 0, 0, 0), (43, .iastore, 0, 0, 0, 0), (44, .iload_n 2, 0, 0, 0, 0), (45, .ireturn, 0, 0, 0, 0)]
def bk55 : List Blk := [(0, l55_0, 8), (8, l55_8, 13), (13, l55_13, 24), (24, l55_24, 46)]
-- NoticeShifts.read
def l56_0 : List Ent := [(0, .aload_n 0, 0, 0, 0, 0), (1, .getfield 34, 6, 4, 392, 0), (4, .invokevirtual 124, 21, 1, 1, 3)]
def l56_7 : List Ent := [(7, .bipush (-6), 0, 0, 0, 0), (9, .if_icmp .eq 6, 15, 0, 0, 0), (12, .bipush (-3), 0, 0, 0, 0), (14, .ireturn, 0, 0, 0, 0)]
def l56_15 : List Ent := [(15, .aload_n 0, 0, 0, 0, 0), (16, .getfield 34, 6, 4, 392, 0), (19, .invokevirtual 127, 22, 1, 1, 3)]
def l56_22 : List Ent := [(22, .istore_n 1, 0, 0, 0, 0), (23, .iload_n 1, 0, 0, 0, 0), (24, .aload_n 0, 0, 0, 0, 0), (25, .getfield 10, 6, 0, 3, 0), (28, .getfield 56, 5, 0, 3, 0), (31, .getfield 60, 4, 3, 0, 0), (34, .if_icmp .gt 20, 54, 0, 0, 0), (37, .aload_n 0, 0, 0, 0, 0), (38, .getfield 34, 6, 4, 392, 0), (41, .invokevirtual 130, 23, 1, 1, 3)]
def l56_44 : List Ent := [(44, .aload_n 0, 0, 0, 0, 0), (45, .getfield 10, 6, 0, 3, 0), (48, .getfield 103, 5, 10, 0, 0), (51, .if_icmp .lt 5, 56, 0, 0, 0)]
def l56_54 : List Ent := [(54, .iconst (-1), 0, 0, 0, 0), (55, .ireturn, 0, 0, 0, 0)]
def l56_56 : List Ent := [(56, .aload_n 0, 0, 0, 0, 0), (57, .getfield 19, 6, 1, 58, 0), (60, .aload_n 0, 0, 0, 0, 0), (61, .getfield 10, 6, 0, 3, 0), (64, .invokevirtual 73, 14, 2, 0, 2)]
def l56_67 : List Ent := [(67, .aload_n 0, 0, 0, 0, 0), (68, .invokevirtual 133, 82, 1, 0, 6)]
def l56_71 : List Ent := [(71, .aload_n 0, 0, 0, 0, 0), (72, .getfield 34, 6, 4, 392, 0), (75, .iconst 0, 0, 0, 0, 0), (76, .putfield 136, 3, 1, 0, 0), (79, .iload_n 1, 0, 0, 0, 0), (80, .ireturn, 0, 0, 0, 0)]
def bk56 : List Blk := [(0, l56_0, 7), (7, l56_7, 15), (15, l56_15, 22), (22, l56_22, 44), (44, l56_44, 54), (54, l56_54, 56), (56, l56_56, 67), (67, l56_67, 71), (71, l56_71, 81)]
-- NoticeShifts.listener
def l57_0 : List Ent := [(0, .iload_n 1, 0, 0, 0, 0), (1, .iconst 0, 0, 0, 0, 0), (2, .iconst 5, 0, 0, 0, 0), (3, .invokestatic 66, 80, 3, 1, 0)]
def l57_6 : List Ent := [(6, .ifCond .eq 14, 20, 0, 0, 0), (9, .iload_n 2, 0, 0, 0, 0), (10, .iconst 0, 0, 0, 0, 0), (11, .sipush 600, 0, 0, 0, 0), (14, .invokestatic 66, 80, 3, 1, 0)]
def l57_17 : List Ent := [(17, .ifCond .ne 6, 23, 0, 0, 0)]
def l57_20 : List Ent := [(20, .bipush (-2), 0, 0, 0, 0), (22, .ireturn, 0, 0, 0, 0)]
def l57_23 : List Ent := [(23, .aload_n 0, 0, 0, 0, 0), (24, .getfield 10, 6, 0, 3, 0), (27, .getfield 139, 5, 11, 0, 0), (30, .bipush 6, 0, 0, 0, 0), (32, .if_icmp .lt 6, 38, 0, 0, 0), (35, .bipush (-4), 0, 0, 0, 0), (37, .ireturn, 0, 0, 0, 0)]
def l57_38 : List Ent := [(38, .aload_n 0, 0, 0, 0, 0), (39, .getfield 19, 6, 1, 58, 0), (42, .aload_n 0, 0, 0, 0, 0), (43, .getfield 10, 6, 0, 3, 0), (46, .invokevirtual 73, 14, 2, 0, 2)]
def l57_49 : List Ent := [(49, .aload_n 0, 0, 0, 0, 0), (50, .getfield 10, 6, 0, 3, 0), (53, .getfield 139, 5, 11, 0, 0), (56, .istore_n 3, 0, 0, 0, 0), (57, .aload_n 0, 0, 0, 0, 0), (58, .getfield 10, 6, 0, 3, 0), (61, .getfield 142, 5, 5, 11, 0), (64, .iload_n 3, 0, 0, 0, 0), (65, .iload_n 1, 0, 0, 0, 0), (66, .iastore, 0, 0, 0, 0), (67, .aload_n 0, 0, 0, 0, 0), (68, .getfield 10, 6, 0, 3, 0), (71, .getfield 145, 5, 6, 12, 0), (74, .iload_n 3, 0, 0, 0, 0), (75, .iload_n 2, 0, 0, 0, 0), (76, .iastore, 0, 0, 0, 0), (77, .aload_n 0, 0, 0, 0, 0), (78, .getfield 10, 6, 0, 3, 0), (81, .getfield 148, 5, 7, 13, 0), (84, .iload_n 3, 0, 0, 0, 0), (85, .iconst 0, 0, 0, 0, 0), (86, .bastore, 0, 0, 0, 0), (87, .aload_n 0, 0, 0, 0, 0), (88, .getfield 10, 6, 0, 3, 0), (91, .dup, 0, 0, 0, 0), (92, .getfield 139, 5, 11, 0, 0), (95, .iconst 1, 0, 0, 0, 0), (96, .iadd, 0, 0, 0, 0), (97, .putfield 139, 5, 11, 0, 0), (100, .iload_n 3, 0, 0, 0, 0), (101, .ireturn, 0, 0, 0, 0)]
def bk57 : List Blk := [(0, l57_0, 6), (6, l57_6, 17), (17, l57_17, 20), (20, l57_20, 23), (23, l57_23, 38), (38, l57_38, 49), (49, l57_49, 102)]
-- NoticeShifts.load
def l58_0 : List Ent := [(0, .aload_n 0, 0, 0, 0, 0), (1, .getfield 10, 6, 0, 3, 0), (4, .iload_n 1, 0, 0, 0, 0), (5, .invokevirtual 151, 37, 2, 1, 5)]
def l58_8 : List Ent := [(8, .ifCond .ne 5, 13, 0, 0, 0), (11, .iconst (-1), 0, 0, 0, 0), (12, .ireturn, 0, 0, 0, 0)]
def l58_13 : List Ent := [(13, .iload_n 2, 0, 0, 0, 0), (14, .ifCond .eq 18, 32, 0, 0, 0), (17, .aload_n 0, 0, 0, 0, 0), (18, .getfield 10, 6, 0, 3, 0), (21, .getfield 148, 5, 7, 13, 0), (24, .iload_n 1, 0, 0, 0, 0), (25, .baload, 0, 0, 0, 0), (26, .ifCond .ne 6, 32, 0, 0, 0), (29, .bipush (-5), 0, 0, 0, 0), (31, .ireturn, 0, 0, 0, 0)]
def l58_32 : List Ent := [(32, .aload_n 0, 0, 0, 0, 0), (33, .getfield 19, 6, 1, 58, 0), (36, .aload_n 0, 0, 0, 0, 0), (37, .getfield 10, 6, 0, 3, 0), (40, .invokevirtual 73, 14, 2, 0, 2)]
def l58_43 : List Ent := [(43, .aload_n 0, 0, 0, 0, 0), (44, .getfield 10, 6, 0, 3, 0), (47, .getfield 148, 5, 7, 13, 0), (50, .iload_n 1, 0, 0, 0, 0), (51, .iload_n 2, 0, 0, 0, 0), (52, .ifCond .ne 7, 59, 0, 0, 0), (55, .iconst 1, 0, 0, 0, 0), (56, .goto 4, 60, 0, 0, 0)]
def l58_59 : List Ent := [(59, .iconst 0, 0, 0, 0, 0)]
def l58_60 : List Ent := [(60, .bastore, 0, 0, 0, 0), (61, .iload_n 2, 0, 0, 0, 0), (62, .ifCond .ne 17, 79, 0, 0, 0), (65, .aload_n 0, 0, 0, 0, 0), (66, .iload_n 1, 0, 0, 0, 0), (67, .aload_n 0, 0, 0, 0, 0), (68, .getfield 10, 6, 0, 3, 0), (71, .getfield 154, 5, 8, 14, 0), (74, .iload_n 1, 0, 0, 0, 0), (75, .aaload, 103, 1, 7, 0), (76, .invokevirtual 158, 84, 3, 0, 6)]
def l58_79 : List Ent := [(79, .aload_n 0, 0, 0, 0, 0), (80, .iload_n 1, 0, 0, 0, 0), (81, .invokevirtual 162, 83, 2, 2, 6)]
def l58_84 : List Ent := [(84, .invokevirtual 166, 7, 1, 1, 1)]
def l58_87 : List Ent := [(87, .ireturn, 0, 0, 0, 0)]
def bk58 : List Blk := [(0, l58_0, 8), (8, l58_8, 13), (13, l58_13, 32), (32, l58_32, 43), (43, l58_43, 59), (59, l58_59, 60), (60, l58_60, 79), (79, l58_79, 84), (84, l58_84, 87), (87, l58_87, 88)]
-- NoticeShifts.sentence
def l59_0 : List Ent := [(0, .aload_n 0, 0, 0, 0, 0), (1, .getfield 10, 6, 0, 3, 0), (4, .iload_n 1, 0, 0, 0, 0), (5, .invokevirtual 81, 35, 2, 1, 5)]
def l59_8 : List Ent := [(8, .ifCond .ne 5, 13, 0, 0, 0), (11, .iconst (-1), 0, 0, 0, 0), (12, .ireturn, 0, 0, 0, 0)]
def l59_13 : List Ent := [(13, .iload_n 2, 0, 0, 0, 0), (14, .tableswitch 111 0 5 #[38, 51, 64, 76, 88, 101], 0, 0, 0, 0)]
def l59_52 : List Ent := [(52, .aload_n 0, 0, 0, 0, 0), (53, .getfield 10, 6, 0, 3, 0), (56, .getfield 56, 5, 0, 3, 0), (59, .getfield 77, 4, 0, 3, 0), (62, .iload_n 1, 0, 0, 0, 0), (63, .iaload, 0, 0, 0, 0), (64, .ireturn, 0, 0, 0, 0)]
def l59_65 : List Ent := [(65, .aload_n 0, 0, 0, 0, 0), (66, .getfield 10, 6, 0, 3, 0), (69, .getfield 56, 5, 0, 3, 0), (72, .getfield 89, 4, 1, 4, 0), (75, .iload_n 1, 0, 0, 0, 0), (76, .iaload, 0, 0, 0, 0), (77, .ireturn, 0, 0, 0, 0)]
def l59_78 : List Ent := [(78, .aload_n 0, 0, 0, 0, 0), (79, .getfield 10, 6, 0, 3, 0), (82, .getfield 56, 5, 0, 3, 0), (85, .iload_n 1, 0, 0, 0, 0), (86, .invokevirtual 169, 25, 2, 1, 4)]
def l59_89 : List Ent := [(89, .ireturn, 0, 0, 0, 0)]
def l59_90 : List Ent := [(90, .aload_n 0, 0, 0, 0, 0), (91, .getfield 10, 6, 0, 3, 0), (94, .getfield 56, 5, 0, 3, 0), (97, .iload_n 1, 0, 0, 0, 0), (98, .invokevirtual 173, 29, 2, 1, 4)]
def l59_101 : List Ent := [(101, .ireturn, 0, 0, 0, 0)]
def l59_102 : List Ent := [(102, .aload_n 0, 0, 0, 0, 0), (103, .getfield 10, 6, 0, 3, 0), (106, .getfield 56, 5, 0, 3, 0), (109, .getfield 96, 4, 2, 5, 0), (112, .iload_n 1, 0, 0, 0, 0), (113, .iaload, 0, 0, 0, 0), (114, .ireturn, 0, 0, 0, 0)]
def l59_115 : List Ent := [(115, .aload_n 0, 0, 0, 0, 0), (116, .getfield 10, 6, 0, 3, 0), (119, .getfield 121, 5, 1, 7, 0), (122, .iload_n 1, 0, 0, 0, 0), (123, .iaload, 0, 0, 0, 0), (124, .ireturn, 0, 0, 0, 0)]
def l59_125 : List Ent := [(125, .bipush (-2), 0, 0, 0, 0), (127, .ireturn, 0, 0, 0, 0)]
def bk59 : List Blk := [(0, l59_0, 8), (8, l59_8, 13), (13, l59_13, 52), (52, l59_52, 65), (65, l59_65, 78), (78, l59_78, 89), (89, l59_89, 90), (90, l59_90, 101), (101, l59_101, 102), (102, l59_102, 115), (115, l59_115, 125), (125, l59_125, 128)]
-- NoticeShifts.marked
def l60_0 : List Ent := [(0, .aload_n 0, 0, 0, 0, 0), (1, .getfield 10, 6, 0, 3, 0), (4, .getfield 56, 5, 0, 3, 0), (7, .iload_n 1, 0, 0, 0, 0), (8, .invokevirtual 176, 28, 2, 1, 4)]
def l60_11 : List Ent := [(11, .ireturn, 0, 0, 0, 0)]
def bk60 : List Blk := [(0, l60_0, 11), (11, l60_11, 12)]
-- NoticeShifts.booked
def l61_0 : List Ent := [(0, .aload_n 0, 0, 0, 0, 0), (1, .getfield 10, 6, 0, 3, 0), (4, .iload_n 1, 0, 0, 0, 0), (5, .invokevirtual 81, 35, 2, 1, 5)]
def l61_8 : List Ent := [(8, .ifCond .eq 22, 30, 0, 0, 0), (11, .iload_n 2, 0, 0, 0, 0), (12, .iconst 0, 0, 0, 0, 0), (13, .aload_n 0, 0, 0, 0, 0), (14, .getfield 10, 6, 0, 3, 0), (17, .getfield 121, 5, 1, 7, 0), (20, .iload_n 1, 0, 0, 0, 0), (21, .iaload, 0, 0, 0, 0), (22, .iconst 1, 0, 0, 0, 0), (23, .isub, 0, 0, 0, 0), (24, .invokestatic 66, 80, 3, 1, 0)]
def l61_27 : List Ent := [(27, .ifCond .ne 5, 32, 0, 0, 0)]
def l61_30 : List Ent := [(30, .iconst (-1), 0, 0, 0, 0), (31, .ireturn, 0, 0, 0, 0)]
def l61_32 : List Ent := [(32, .aload_n 0, 0, 0, 0, 0), (33, .getfield 10, 6, 0, 3, 0), (36, .iload_n 1, 0, 0, 0, 0), (37, .iload_n 2, 0, 0, 0, 0), (38, .invokevirtual 179, 39, 3, 1, 5)]
def l61_41 : List Ent := [(41, .ireturn, 0, 0, 0, 0)]
def bk61 : List Blk := [(0, l61_0, 8), (8, l61_8, 27), (27, l61_27, 30), (30, l61_30, 32), (32, l61_32, 41), (41, l61_41, 42)]
-- NoticeShifts.ofNotice
def l62_0 : List Ent := [(0, .aload_n 0, 0, 0, 0, 0), (1, .getfield 10, 6, 0, 3, 0), (4, .iload_n 1, 0, 0, 0, 0), (5, .invokevirtual 112, 36, 2, 1, 5)]
def l62_8 : List Ent := [(8, .ifCond .ne 5, 13, 0, 0, 0), (11, .iconst (-1), 0, 0, 0, 0), (12, .ireturn, 0, 0, 0, 0)]
def l62_13 : List Ent := [(13, .iload_n 2, 0, 0, 0, 0), (14, .tableswitch 65 0 3 #[30, 40, 50, 59], 0, 0, 0, 0)]
def l62_44 : List Ent := [(44, .aload_n 0, 0, 0, 0, 0), (45, .getfield 10, 6, 0, 3, 0), (48, .getfield 106, 5, 3, 9, 0), (51, .iload_n 1, 0, 0, 0, 0), (52, .iaload, 0, 0, 0, 0), (53, .ireturn, 0, 0, 0, 0)]
def l62_54 : List Ent := [(54, .aload_n 0, 0, 0, 0, 0), (55, .getfield 10, 6, 0, 3, 0), (58, .getfield 109, 5, 4, 10, 0), (61, .iload_n 1, 0, 0, 0, 0), (62, .iaload, 0, 0, 0, 0), (63, .ireturn, 0, 0, 0, 0)]
def l62_64 : List Ent := [(64, .aload_n 0, 0, 0, 0, 0), (65, .getfield 10, 6, 0, 3, 0), (68, .iload_n 1, 0, 0, 0, 0), (69, .invokevirtual 183, 43, 2, 1, 5)]
def l62_72 : List Ent := [(72, .ireturn, 0, 0, 0, 0)]
def l62_73 : List Ent := [(73, .aload_n 0, 0, 0, 0, 0), (74, .iload_n 1, 0, 0, 0, 0), (75, .invokevirtual 186, 91, 2, 1, 6)]
def l62_78 : List Ent := [(78, .ireturn, 0, 0, 0, 0)]
def l62_79 : List Ent := [(79, .bipush (-2), 0, 0, 0, 0), (81, .ireturn, 0, 0, 0, 0)]
def bk62 : List Blk := [(0, l62_0, 8), (8, l62_8, 13), (13, l62_13, 44), (44, l62_44, 54), (54, l62_54, 64), (64, l62_64, 72), (72, l62_72, 73), (73, l62_73, 78), (78, l62_78, 79), (79, l62_79, 82)]
-- NoticeShifts.of
def l63_0 : List Ent := [(0, .aload_n 0, 0, 0, 0, 0), (1, .getfield 10, 6, 0, 3, 0), (4, .iload_n 1, 0, 0, 0, 0), (5, .invokevirtual 151, 37, 2, 1, 5)]
def l63_8 : List Ent := [(8, .ifCond .ne 5, 13, 0, 0, 0), (11, .iconst (-1), 0, 0, 0, 0), (12, .ireturn, 0, 0, 0, 0)]
def l63_13 : List Ent := [(13, .iload_n 2, 0, 0, 0, 0), (14, .tableswitch 127 0 7 #[46, 56, 66, 79, 88, 97, 106, 115], 0, 0, 0, 0)]
def l63_60 : List Ent := [(60, .aload_n 0, 0, 0, 0, 0), (61, .getfield 10, 6, 0, 3, 0), (64, .getfield 142, 5, 5, 11, 0), (67, .iload_n 1, 0, 0, 0, 0), (68, .iaload, 0, 0, 0, 0), (69, .ireturn, 0, 0, 0, 0)]
def l63_70 : List Ent := [(70, .aload_n 0, 0, 0, 0, 0), (71, .getfield 10, 6, 0, 3, 0), (74, .getfield 145, 5, 6, 12, 0), (77, .iload_n 1, 0, 0, 0, 0), (78, .iaload, 0, 0, 0, 0), (79, .ireturn, 0, 0, 0, 0)]
def l63_80 : List Ent := [(80, .aload_n 0, 0, 0, 0, 0), (81, .getfield 10, 6, 0, 3, 0), (84, .getfield 148, 5, 7, 13, 0), (87, .iload_n 1, 0, 0, 0, 0), (88, .baload, 0, 0, 0, 0), (89, .invokestatic 92, 81, 1, 1, 0)]
def l63_92 : List Ent := [(92, .ireturn, 0, 0, 0, 0)]
def l63_93 : List Ent := [(93, .aload_n 0, 0, 0, 0, 0), (94, .iload_n 1, 0, 0, 0, 0), (95, .invokevirtual 189, 85, 2, 1, 6)]
def l63_98 : List Ent := [(98, .invokestatic 92, 81, 1, 1, 0)]
def l63_101 : List Ent := [(101, .ireturn, 0, 0, 0, 0)]
def l63_102 : List Ent := [(102, .aload_n 0, 0, 0, 0, 0), (103, .iload_n 1, 0, 0, 0, 0), (104, .invokevirtual 162, 83, 2, 2, 6)]
def l63_107 : List Ent := [(107, .invokevirtual 166, 7, 1, 1, 1)]
def l63_110 : List Ent := [(110, .ireturn, 0, 0, 0, 0)]
def l63_111 : List Ent := [(111, .aload_n 0, 0, 0, 0, 0), (112, .iload_n 1, 0, 0, 0, 0), (113, .invokevirtual 162, 83, 2, 2, 6)]
def l63_116 : List Ent := [(116, .invokevirtual 192, 9, 1, 1, 1)]
def l63_119 : List Ent := [(119, .ireturn, 0, 0, 0, 0)]
def l63_120 : List Ent := [(120, .aload_n 0, 0, 0, 0, 0), (121, .iload_n 1, 0, 0, 0, 0), (122, .invokevirtual 162, 83, 2, 2, 6)]
def l63_125 : List Ent := [(125, .invokevirtual 195, 8, 1, 1, 1)]
def l63_128 : List Ent := [(128, .ireturn, 0, 0, 0, 0)]
def l63_129 : List Ent := [(129, .aload_n 0, 0, 0, 0, 0), (130, .iload_n 1, 0, 0, 0, 0), (131, .invokevirtual 162, 83, 2, 2, 6)]
def l63_134 : List Ent := [(134, .getfield 198, 1, 0, 3, 0), (137, .getfield 60, 4, 3, 0, 0), (140, .ireturn, 0, 0, 0, 0)]
def l63_141 : List Ent := [(141, .bipush (-2), 0, 0, 0, 0), (143, .ireturn, 0, 0, 0, 0)]
def bk63 : List Blk := [(0, l63_0, 8), (8, l63_8, 13), (13, l63_13, 60), (60, l63_60, 70), (70, l63_70, 80), (80, l63_80, 92), (92, l63_92, 93), (93, l63_93, 98), (98, l63_98, 101), (101, l63_101, 102), (102, l63_102, 107), (107, l63_107, 110), (110, l63_110, 111), (111, l63_111, 116), (116, l63_116, 119), (119, l63_119, 120), (120, l63_120, 125), (125, l63_125, 128), (128, l63_128, 129), (129, l63_129, 134), (134, l63_134, 141), (141, l63_141, 144)]
-- NoticeShifts.count
def l64_0 : List Ent := [(0, .iload_n 1, 0, 0, 0, 0), (1, .tableswitch 126 0 8 #[51, 62, 73, 84, 92, 100, 105, 110, 118], 0, 0, 0, 0)]
def l64_52 : List Ent := [(52, .aload_n 0, 0, 0, 0, 0), (53, .getfield 10, 6, 0, 3, 0), (56, .getfield 56, 5, 0, 3, 0), (59, .getfield 60, 4, 3, 0, 0), (62, .ireturn, 0, 0, 0, 0)]
def l64_63 : List Ent := [(63, .aload_n 0, 0, 0, 0, 0), (64, .getfield 10, 6, 0, 3, 0), (67, .getfield 56, 5, 0, 3, 0), (70, .invokevirtual 199, 26, 1, 1, 4)]
def l64_73 : List Ent := [(73, .ireturn, 0, 0, 0, 0)]
def l64_74 : List Ent := [(74, .aload_n 0, 0, 0, 0, 0), (75, .getfield 10, 6, 0, 3, 0), (78, .getfield 56, 5, 0, 3, 0), (81, .invokevirtual 99, 30, 1, 1, 4)]
def l64_84 : List Ent := [(84, .ireturn, 0, 0, 0, 0)]
def l64_85 : List Ent := [(85, .aload_n 0, 0, 0, 0, 0), (86, .getfield 10, 6, 0, 3, 0), (89, .getfield 103, 5, 10, 0, 0), (92, .ireturn, 0, 0, 0, 0)]
def l64_93 : List Ent := [(93, .aload_n 0, 0, 0, 0, 0), (94, .getfield 10, 6, 0, 3, 0), (97, .getfield 139, 5, 11, 0, 0), (100, .ireturn, 0, 0, 0, 0)]
def l64_101 : List Ent := [(101, .aload_n 0, 0, 0, 0, 0), (102, .invokevirtual 200, 86, 1, 1, 6)]
def l64_105 : List Ent := [(105, .ireturn, 0, 0, 0, 0)]
def l64_106 : List Ent := [(106, .aload_n 0, 0, 0, 0, 0), (107, .invokevirtual 203, 87, 1, 1, 6)]
def l64_110 : List Ent := [(110, .ireturn, 0, 0, 0, 0)]
def l64_111 : List Ent := [(111, .aload_n 0, 0, 0, 0, 0), (112, .getfield 34, 6, 4, 392, 0), (115, .getfield 136, 3, 1, 0, 0), (118, .ireturn, 0, 0, 0, 0)]
def l64_119 : List Ent := [(119, .aload_n 0, 0, 0, 0, 0), (120, .getfield 19, 6, 1, 58, 0), (123, .getfield 206, 2, 2, 0, 0), (126, .ireturn, 0, 0, 0, 0)]
def l64_127 : List Ent := [(127, .bipush (-2), 0, 0, 0, 0), (129, .ireturn, 0, 0, 0, 0)]
def bk64 : List Blk := [(0, l64_0, 52), (52, l64_52, 63), (63, l64_63, 73), (73, l64_73, 74), (74, l64_74, 84), (84, l64_84, 85), (85, l64_85, 93), (93, l64_93, 101), (101, l64_101, 105), (105, l64_105, 106), (106, l64_106, 110), (110, l64_110, 111), (111, l64_111, 119), (119, l64_119, 127), (127, l64_127, 130)]
-- NoticeShifts.heard
def l65_0 : List Ent := [(0, .aload_n 0, 0, 0, 0, 0), (1, .getfield 10, 6, 0, 3, 0), (4, .iload_n 1, 0, 0, 0, 0), (5, .invokevirtual 151, 37, 2, 1, 5)]
def l65_8 : List Ent := [(8, .ifCond .ne 5, 13, 0, 0, 0), (11, .iconst (-1), 0, 0, 0, 0), (12, .ireturn, 0, 0, 0, 0)]
def l65_13 : List Ent := [(13, .aload_n 0, 0, 0, 0, 0), (14, .iload_n 1, 0, 0, 0, 0), (15, .invokevirtual 162, 83, 2, 2, 6)]
def l65_18 : List Ent := [(18, .astore_n 3, 0, 0, 0, 0), (19, .iload_n 2, 0, 0, 0, 0), (20, .iconst 0, 0, 0, 0, 0), (21, .aload_n 3, 0, 0, 0, 0), (22, .getfield 198, 1, 0, 3, 0), (25, .getfield 60, 4, 3, 0, 0), (28, .iconst 1, 0, 0, 0, 0), (29, .isub, 0, 0, 0, 0), (30, .invokestatic 66, 80, 3, 1, 0)]
def l65_33 : List Ent := [(33, .ifCond .ne 5, 38, 0, 0, 0), (36, .iconst (-1), 0, 0, 0, 0), (37, .ireturn, 0, 0, 0, 0)]
def l65_38 : List Ent := [(38, .aload_n 3, 0, 0, 0, 0), (39, .getfield 207, 1, 1, 7, 0), (42, .iload_n 2, 0, 0, 0, 0), (43, .iaload, 0, 0, 0, 0), (44, .ireturn, 0, 0, 0, 0)]
def bk65 : List Blk := [(0, l65_0, 8), (8, l65_8, 13), (13, l65_13, 18), (18, l65_18, 33), (33, l65_33, 38), (38, l65_38, 45)]
-- NoticeShifts.whenHeard
def l66_0 : List Ent := [(0, .aload_n 0, 0, 0, 0, 0), (1, .getfield 10, 6, 0, 3, 0), (4, .iload_n 1, 0, 0, 0, 0), (5, .invokevirtual 151, 37, 2, 1, 5)]
def l66_8 : List Ent := [(8, .ifCond .ne 5, 13, 0, 0, 0), (11, .iconst (-1), 0, 0, 0, 0), (12, .ireturn, 0, 0, 0, 0)]
def l66_13 : List Ent := [(13, .iload_n 2, 0, 0, 0, 0), (14, .iconst 0, 0, 0, 0, 0), (15, .sipush 7199, 0, 0, 0, 0), (18, .invokestatic 66, 80, 3, 1, 0)]
def l66_21 : List Ent := [(21, .ifCond .ne 6, 27, 0, 0, 0), (24, .bipush (-2), 0, 0, 0, 0), (26, .ireturn, 0, 0, 0, 0)]
def l66_27 : List Ent := [(27, .aload_n 0, 0, 0, 0, 0), (28, .iload_n 1, 0, 0, 0, 0), (29, .invokevirtual 162, 83, 2, 2, 6)]
def l66_32 : List Ent := [(32, .astore_n 3, 0, 0, 0, 0), (33, .aload_n 3, 0, 0, 0, 0), (34, .getfield 198, 1, 0, 3, 0), (37, .iload_n 2, 0, 0, 0, 0), (38, .invokevirtual 209, 27, 2, 1, 4)]
def l66_41 : List Ent := [(41, .istore 4, 0, 0, 0, 0), (43, .iload 4, 0, 0, 0, 0), (45, .bipush (-6), 0, 0, 0, 0), (47, .if_icmp .ne 6, 53, 0, 0, 0), (50, .bipush (-6), 0, 0, 0, 0), (52, .ireturn, 0, 0, 0, 0)]
def l66_53 : List Ent := [(53, .aload_n 3, 0, 0, 0, 0), (54, .iload 4, 0, 0, 0, 0), (56, .invokevirtual 212, 6, 2, 1, 1)]
def l66_59 : List Ent := [(59, .iload_n 2, 0, 0, 0, 0), (60, .iadd, 0, 0, 0, 0), (61, .aload_n 3, 0, 0, 0, 0), (62, .getfield 198, 1, 0, 3, 0), (65, .iload 4, 0, 0, 0, 0), (67, .invokevirtual 169, 25, 2, 1, 4)]
def l66_70 : List Ent := [(70, .isub, 0, 0, 0, 0), (71, .ireturn, 0, 0, 0, 0)]
def bk66 : List Blk := [(0, l66_0, 8), (8, l66_8, 13), (13, l66_13, 21), (21, l66_21, 27), (27, l66_27, 32), (32, l66_32, 41), (41, l66_41, 53), (53, l66_53, 59), (59, l66_59, 70), (70, l66_70, 72)]
-- NoticeShifts.heardAt
def l67_0 : List Ent := [(0, .aload_n 0, 0, 0, 0, 0), (1, .getfield 10, 6, 0, 3, 0), (4, .iload_n 1, 0, 0, 0, 0), (5, .invokevirtual 151, 37, 2, 1, 5)]
def l67_8 : List Ent := [(8, .ifCond .ne 5, 13, 0, 0, 0), (11, .iconst (-1), 0, 0, 0, 0), (12, .ireturn, 0, 0, 0, 0)]
def l67_13 : List Ent := [(13, .iload_n 2, 0, 0, 0, 0), (14, .iconst 0, 0, 0, 0, 0), (15, .sipush 9999, 0, 0, 0, 0), (18, .invokestatic 66, 80, 3, 1, 0)]
def l67_21 : List Ent := [(21, .ifCond .eq 12, 33, 0, 0, 0), (24, .iload_n 3, 0, 0, 0, 0), (25, .iconst 0, 0, 0, 0, 0), (26, .iconst 3, 0, 0, 0, 0), (27, .invokestatic 66, 80, 3, 1, 0)]
def l67_30 : List Ent := [(30, .ifCond .ne 6, 36, 0, 0, 0)]
def l67_33 : List Ent := [(33, .bipush (-2), 0, 0, 0, 0), (35, .ireturn, 0, 0, 0, 0)]
def l67_36 : List Ent := [(36, .aload_n 0, 0, 0, 0, 0), (37, .iload_n 1, 0, 0, 0, 0), (38, .invokevirtual 162, 83, 2, 2, 6)]
def l67_41 : List Ent := [(41, .astore 4, 0, 0, 0, 0), (43, .aload 4, 0, 0, 0, 0), (45, .iload_n 2, 0, 0, 0, 0), (46, .invokevirtual 215, 10, 2, 1, 1)]
def l67_49 : List Ent := [(49, .istore 5, 0, 0, 0, 0), (51, .iload 5, 0, 0, 0, 0), (53, .bipush (-6), 0, 0, 0, 0), (55, .if_icmp .ne 6, 61, 0, 0, 0), (58, .bipush (-5), 0, 0, 0, 0), (60, .ireturn, 0, 0, 0, 0)]
def l67_61 : List Ent := [(61, .iload_n 2, 0, 0, 0, 0), (62, .aload 4, 0, 0, 0, 0), (64, .iload 5, 0, 0, 0, 0), (66, .invokevirtual 212, 6, 2, 1, 1)]
def l67_69 : List Ent := [(69, .isub, 0, 0, 0, 0), (70, .istore 6, 0, 0, 0, 0), (72, .iload 6, 0, 0, 0, 0), (74, .ifCond .ge 7, 81, 0, 0, 0), (77, .iconst 1, 0, 0, 0, 0), (78, .goto 4, 82, 0, 0, 0)]
def l67_81 : List Ent := [(81, .iconst 0, 0, 0, 0, 0)]
def l67_82 : List Ent := [(82, .istore 7, 0, 0, 0, 0), (84, .iload_n 3, 0, 0, 0, 0), (85, .tableswitch 73 0 2 #[27, 51, 70], 0, 0, 0, 0)]
def l67_112 : List Ent := [(112, .iload 7, 0, 0, 0, 0), (114, .ifCond .eq 8, 122, 0, 0, 0), (117, .bipush (-6), 0, 0, 0, 0), (119, .goto 16, 135, 0, 0, 0)]
def l67_122 : List Ent := [(122, .aload 4, 0, 0, 0, 0), (124, .getfield 198, 1, 0, 3, 0), (127, .iload 5, 0, 0, 0, 0), (129, .invokevirtual 169, 25, 2, 1, 4)]
def l67_132 : List Ent := [(132, .iload 6, 0, 0, 0, 0), (134, .iadd, 0, 0, 0, 0)]
def l67_135 : List Ent := [(135, .ireturn, 0, 0, 0, 0)]
def l67_136 : List Ent := [(136, .iload 7, 0, 0, 0, 0), (138, .ifCond .eq 14, 152, 0, 0, 0), (141, .aload 4, 0, 0, 0, 0), (143, .getfield 207, 1, 1, 7, 0), (146, .iload 5, 0, 0, 0, 0), (148, .iaload, 0, 0, 0, 0), (149, .goto 5, 154, 0, 0, 0)]
def l67_152 : List Ent := [(152, .bipush (-6), 0, 0, 0, 0)]
def l67_154 : List Ent := [(154, .ireturn, 0, 0, 0, 0)]
def l67_155 : List Ent := [(155, .iload 5, 0, 0, 0, 0), (157, .ireturn, 0, 0, 0, 0)]
def l67_158 : List Ent := [(158, .aload 4, 0, 0, 0, 0), (160, .getfield 198, 1, 0, 3, 0), (163, .iload 5, 0, 0, 0, 0), (165, .invokevirtual 173, 29, 2, 1, 4)]
def l67_168 : List Ent := [(168, .ireturn, 0, 0, 0, 0)]
def bk67 : List Blk := [(0, l67_0, 8), (8, l67_8, 13), (13, l67_13, 21), (21, l67_21, 30), (30, l67_30, 33), (33, l67_33, 36), (36, l67_36, 41), (41, l67_41, 49), (49, l67_49, 61), (61, l67_61, 69), (69, l67_69, 81), (81, l67_81, 82), (82, l67_82, 112), (112, l67_112, 122), (122, l67_122, 132), (132, l67_132, 135), (135, l67_135, 136), (136, l67_136, 152), (152, l67_152, 154), (154, l67_154, 155), (155, l67_155, 158), (158, l67_158, 168), (168, l67_168, 169)]
-- NoticeShifts.chapterAt
def l68_0 : List Ent := [(0, .aload_n 0, 0, 0, 0, 0), (1, .getfield 10, 6, 0, 3, 0), (4, .iload_n 1, 0, 0, 0, 0), (5, .invokevirtual 151, 37, 2, 1, 5)]
def l68_8 : List Ent := [(8, .ifCond .ne 5, 13, 0, 0, 0), (11, .iconst (-1), 0, 0, 0, 0), (12, .ireturn, 0, 0, 0, 0)]
def l68_13 : List Ent := [(13, .aload_n 0, 0, 0, 0, 0), (14, .iload_n 1, 0, 0, 0, 0), (15, .invokevirtual 162, 83, 2, 2, 6)]
def l68_18 : List Ent := [(18, .astore_n 3, 0, 0, 0, 0), (19, .iload_n 2, 0, 0, 0, 0), (20, .iconst 0, 0, 0, 0, 0), (21, .aload_n 3, 0, 0, 0, 0), (22, .getfield 198, 1, 0, 3, 0), (25, .invokevirtual 99, 30, 1, 1, 4)]
def l68_28 : List Ent := [(28, .iconst 1, 0, 0, 0, 0), (29, .isub, 0, 0, 0, 0), (30, .invokestatic 66, 80, 3, 1, 0)]
def l68_33 : List Ent := [(33, .ifCond .ne 5, 38, 0, 0, 0), (36, .iconst (-1), 0, 0, 0, 0), (37, .ireturn, 0, 0, 0, 0)]
def l68_38 : List Ent := [(38, .aload_n 3, 0, 0, 0, 0), (39, .aload_n 3, 0, 0, 0, 0), (40, .getfield 198, 1, 0, 3, 0), (43, .iload_n 2, 0, 0, 0, 0), (44, .invokevirtual 218, 31, 2, 1, 4)]
def l68_47 : List Ent := [(47, .invokevirtual 221, 5, 2, 1, 1)]
def l68_50 : List Ent := [(50, .ireturn, 0, 0, 0, 0)]
def bk68 : List Blk := [(0, l68_0, 8), (8, l68_8, 13), (13, l68_13, 18), (18, l68_18, 28), (28, l68_28, 33), (33, l68_33, 38), (38, l68_38, 47), (47, l68_47, 50), (50, l68_50, 51)]
-- NoticeShifts.open
def l69_0 : List Ent := [(0, .aload_n 0, 0, 0, 0, 0), (1, .getfield 10, 6, 0, 3, 0), (4, .iload_n 1, 0, 0, 0, 0), (5, .invokevirtual 151, 37, 2, 1, 5)]
def l69_8 : List Ent := [(8, .ifCond .ne 5, 13, 0, 0, 0), (11, .iconst (-1), 0, 0, 0, 0), (12, .ireturn, 0, 0, 0, 0)]
def l69_13 : List Ent := [(13, .iload_n 3, 0, 0, 0, 0), (14, .iconst 0, 0, 0, 0, 0), (15, .sipush 299, 0, 0, 0, 0), (18, .invokestatic 66, 80, 3, 1, 0)]
def l69_21 : List Ent := [(21, .ifCond .ne 6, 27, 0, 0, 0), (24, .bipush (-2), 0, 0, 0, 0), (26, .ireturn, 0, 0, 0, 0)]
def l69_27 : List Ent := [(27, .aload_n 0, 0, 0, 0, 0), (28, .iload_n 1, 0, 0, 0, 0), (29, .invokevirtual 162, 83, 2, 2, 6)]
def l69_32 : List Ent := [(32, .astore 4, 0, 0, 0, 0), (34, .aload 4, 0, 0, 0, 0), (36, .getfield 198, 1, 0, 3, 0), (39, .iload_n 2, 0, 0, 0, 0), (40, .invokevirtual 176, 28, 2, 1, 4)]
def l69_43 : List Ent := [(43, .istore 5, 0, 0, 0, 0), (45, .iload 5, 0, 0, 0, 0), (47, .iconst (-1), 0, 0, 0, 0), (48, .if_icmp .eq 18, 66, 0, 0, 0), (51, .iload_n 3, 0, 0, 0, 0), (52, .aload 4, 0, 0, 0, 0), (54, .getfield 198, 1, 0, 3, 0), (57, .getfield 89, 4, 1, 4, 0), (60, .iload 5, 0, 0, 0, 0), (62, .iaload, 0, 0, 0, 0), (63, .if_icmp .lt 6, 69, 0, 0, 0)]
def l69_66 : List Ent := [(66, .bipush (-5), 0, 0, 0, 0), (68, .ireturn, 0, 0, 0, 0)]
def l69_69 : List Ent := [(69, .aload 4, 0, 0, 0, 0), (71, .iload 5, 0, 0, 0, 0), (73, .invokevirtual 212, 6, 2, 1, 1)]
def l69_76 : List Ent := [(76, .iload_n 3, 0, 0, 0, 0), (77, .iadd, 0, 0, 0, 0), (78, .ireturn, 0, 0, 0, 0)]
def bk69 : List Blk := [(0, l69_0, 8), (8, l69_8, 13), (13, l69_13, 21), (21, l69_21, 27), (27, l69_27, 32), (32, l69_32, 43), (43, l69_43, 66), (66, l69_66, 69), (69, l69_69, 76), (76, l69_76, 79)]
-- NoticeShifts.wrongAt
def l70_0 : List Ent := [(0, .aload_n 0, 0, 0, 0, 0), (1, .getfield 10, 6, 0, 3, 0), (4, .iload_n 1, 0, 0, 0, 0), (5, .invokevirtual 151, 37, 2, 1, 5)]
def l70_8 : List Ent := [(8, .ifCond .eq 14, 22, 0, 0, 0), (11, .aload_n 0, 0, 0, 0, 0), (12, .getfield 10, 6, 0, 3, 0), (15, .iload_n 2, 0, 0, 0, 0), (16, .invokevirtual 151, 37, 2, 1, 5)]
def l70_19 : List Ent := [(19, .ifCond .ne 5, 24, 0, 0, 0)]
def l70_22 : List Ent := [(22, .iconst (-1), 0, 0, 0, 0), (23, .ireturn, 0, 0, 0, 0)]
def l70_24 : List Ent := [(24, .iload_n 3, 0, 0, 0, 0), (25, .iconst 0, 0, 0, 0, 0), (26, .sipush 9999, 0, 0, 0, 0), (29, .invokestatic 66, 80, 3, 1, 0)]
def l70_32 : List Ent := [(32, .ifCond .ne 6, 38, 0, 0, 0), (35, .bipush (-2), 0, 0, 0, 0), (37, .ireturn, 0, 0, 0, 0)]
def l70_38 : List Ent := [(38, .aload_n 0, 0, 0, 0, 0), (39, .iload_n 1, 0, 0, 0, 0), (40, .iload_n 3, 0, 0, 0, 0), (41, .invokevirtual 224, 88, 3, 1, 6)]
def l70_44 : List Ent := [(44, .istore 4, 0, 0, 0, 0), (46, .aload_n 0, 0, 0, 0, 0), (47, .iload_n 2, 0, 0, 0, 0), (48, .iload_n 3, 0, 0, 0, 0), (49, .invokevirtual 224, 88, 3, 1, 6)]
def l70_52 : List Ent := [(52, .istore 5, 0, 0, 0, 0), (54, .iload 4, 0, 0, 0, 0), (56, .bipush (-5), 0, 0, 0, 0), (58, .if_icmp .eq 10, 68, 0, 0, 0), (61, .iload 5, 0, 0, 0, 0), (63, .bipush (-5), 0, 0, 0, 0), (65, .if_icmp .ne 6, 71, 0, 0, 0)]
def l70_68 : List Ent := [(68, .bipush (-5), 0, 0, 0, 0), (70, .ireturn, 0, 0, 0, 0)]
def l70_71 : List Ent := [(71, .iload 5, 0, 0, 0, 0), (73, .iload 4, 0, 0, 0, 0), (75, .isub, 0, 0, 0, 0), (76, .invokestatic 227, 0, 0, 12, 0), (79, .ireturn, 0, 0, 0, 0)]
def bk70 : List Blk := [(0, l70_0, 8), (8, l70_8, 19), (19, l70_19, 22), (22, l70_22, 24), (24, l70_24, 32), (32, l70_32, 38), (38, l70_38, 44), (44, l70_44, 52), (52, l70_52, 68), (68, l70_68, 71), (71, l70_71, 80)]
-- NoticeShifts.ifBooked
def l71_0 : List Ent := [(0, .aload_n 0, 0, 0, 0, 0), (1, .getfield 10, 6, 0, 3, 0), (4, .iload_n 1, 0, 0, 0, 0), (5, .invokevirtual 81, 35, 2, 1, 5)]
def l71_8 : List Ent := [(8, .ifCond .eq 14, 22, 0, 0, 0), (11, .aload_n 0, 0, 0, 0, 0), (12, .getfield 10, 6, 0, 3, 0), (15, .iload_n 2, 0, 0, 0, 0), (16, .invokevirtual 112, 36, 2, 1, 5)]
def l71_19 : List Ent := [(19, .ifCond .ne 5, 24, 0, 0, 0)]
def l71_22 : List Ent := [(22, .iconst (-1), 0, 0, 0, 0), (23, .ireturn, 0, 0, 0, 0)]
def l71_24 : List Ent := [(24, .aload_n 0, 0, 0, 0, 0), (25, .getfield 10, 6, 0, 3, 0), (28, .iload_n 1, 0, 0, 0, 0), (29, .invokevirtual 115, 38, 2, 1, 5)]
def l71_32 : List Ent := [(32, .ifCond .eq 6, 38, 0, 0, 0), (35, .bipush (-4), 0, 0, 0, 0), (37, .ireturn, 0, 0, 0, 0)]
def l71_38 : List Ent := [(38, .aload_n 0, 0, 0, 0, 0), (39, .invokevirtual 232, 90, 1, 1, 6)]
def l71_42 : List Ent := [(42, .istore_n 3, 0, 0, 0, 0), (43, .aload_n 0, 0, 0, 0, 0), (44, .getfield 10, 6, 0, 3, 0), (47, .iload_n 1, 0, 0, 0, 0), (48, .iload_n 2, 0, 0, 0, 0), (49, .invokevirtual 118, 40, 3, 0, 5)]
def l71_52 : List Ent := [(52, .aload_n 0, 0, 0, 0, 0), (53, .invokevirtual 232, 90, 1, 1, 6)]
def l71_56 : List Ent := [(56, .istore 4, 0, 0, 0, 0), (58, .aload_n 0, 0, 0, 0, 0), (59, .getfield 10, 6, 0, 3, 0), (62, .iload_n 1, 0, 0, 0, 0), (63, .invokevirtual 235, 41, 2, 0, 5)]
def l71_66 : List Ent := [(66, .sipush 10000, 0, 0, 0, 0), (69, .iload 4, 0, 0, 0, 0), (71, .iadd, 0, 0, 0, 0), (72, .iload_n 3, 0, 0, 0, 0), (73, .isub, 0, 0, 0, 0), (74, .ireturn, 0, 0, 0, 0)]
def bk71 : List Blk := [(0, l71_0, 8), (8, l71_8, 19), (19, l71_19, 22), (22, l71_22, 24), (24, l71_24, 32), (32, l71_32, 38), (38, l71_38, 42), (42, l71_42, 52), (52, l71_52, 56), (56, l71_56, 66), (66, l71_66, 75)]
-- NoticeShifts.bestBreak
def l72_0 : List Ent := [(0, .aload_n 0, 0, 0, 0, 0), (1, .getfield 10, 6, 0, 3, 0), (4, .iload_n 1, 0, 0, 0, 0), (5, .invokevirtual 112, 36, 2, 1, 5)]
def l72_8 : List Ent := [(8, .ifCond .ne 5, 13, 0, 0, 0), (11, .iconst (-1), 0, 0, 0, 0), (12, .ireturn, 0, 0, 0, 0)]
def l72_13 : List Ent := [(13, .iload_n 2, 0, 0, 0, 0), (14, .iconst 0, 0, 0, 0, 0), (15, .iconst 1, 0, 0, 0, 0), (16, .invokestatic 66, 80, 3, 1, 0)]
def l72_19 : List Ent := [(19, .ifCond .ne 6, 25, 0, 0, 0), (22, .bipush (-2), 0, 0, 0, 0), (24, .ireturn, 0, 0, 0, 0)]
def l72_25 : List Ent := [(25, .bipush (-6), 0, 0, 0, 0), (27, .istore_n 3, 0, 0, 0, 0), (28, .bipush (-6), 0, 0, 0, 0), (30, .istore 4, 0, 0, 0, 0), (32, .iconst 0, 0, 0, 0, 0), (33, .istore 5, 0, 0, 0, 0)]
def l72_35 : List Ent := [(35, .iload 5, 0, 0, 0, 0), (37, .aload_n 0, 0, 0, 0, 0), (38, .getfield 10, 6, 0, 3, 0), (41, .getfield 56, 5, 0, 3, 0), (44, .getfield 60, 4, 3, 0, 0), (47, .if_icmp .ge 32, 79, 0, 0, 0), (50, .aload_n 0, 0, 0, 0, 0), (51, .iload 5, 0, 0, 0, 0), (53, .iload_n 1, 0, 0, 0, 0), (54, .invokevirtual 238, 92, 3, 1, 6)]
def l72_57 : List Ent := [(57, .istore 6, 0, 0, 0, 0), (59, .iload 6, 0, 0, 0, 0), (61, .iload 4, 0, 0, 0, 0), (63, .if_icmp .le 10, 73, 0, 0, 0), (66, .iload 5, 0, 0, 0, 0), (68, .istore_n 3, 0, 0, 0, 0), (69, .iload 6, 0, 0, 0, 0), (71, .istore 4, 0, 0, 0, 0)]
def l72_73 : List Ent := [(73, .iinc 5 1, 0, 0, 0, 0), (76, .goto (-41), 35, 0, 0, 0)]
def l72_79 : List Ent := [(79, .iload_n 2, 0, 0, 0, 0), (80, .ifCond .ne 7, 87, 0, 0, 0), (83, .iload_n 3, 0, 0, 0, 0), (84, .goto 5, 89, 0, 0, 0)]
def l72_87 : List Ent := [(87, .iload 4, 0, 0, 0, 0)]
def l72_89 : List Ent := [(89, .ireturn, 0, 0, 0, 0)]
def bk72 : List Blk := [(0, l72_0, 8), (8, l72_8, 13), (13, l72_13, 19), (19, l72_19, 25), (25, l72_25, 35), (35, l72_35, 57), (57, l72_57, 73), (73, l72_73, 79), (79, l72_79, 87), (87, l72_87, 89), (89, l72_89, 90)]
-- NoticeShifts.enough
def l73_0 : List Ent := [(0, .aload_n 0, 0, 0, 0, 0), (1, .getfield 10, 6, 0, 3, 0), (4, .iload_n 1, 0, 0, 0, 0), (5, .invokevirtual 151, 37, 2, 1, 5)]
def l73_8 : List Ent := [(8, .ifCond .ne 5, 13, 0, 0, 0), (11, .iconst (-1), 0, 0, 0, 0), (12, .ireturn, 0, 0, 0, 0)]
def l73_13 : List Ent := [(13, .aload_n 0, 0, 0, 0, 0), (14, .iload_n 1, 0, 0, 0, 0), (15, .sipush 600, 0, 0, 0, 0), (18, .invokevirtual 241, 89, 3, 0, 6)]
def l73_21 : List Ent := [(21, .aload_n 0, 0, 0, 0, 0), (22, .getfield 41, 6, 5, 394, 0), (25, .getfield 244, 0, 2, 0, 0), (28, .istore_n 2, 0, 0, 0, 0), (29, .iconst 0, 0, 0, 0, 0), (30, .istore_n 3, 0, 0, 0, 0), (31, .iconst 0, 0, 0, 0, 0), (32, .istore 4, 0, 0, 0, 0)]
def l73_34 : List Ent := [(34, .iload 4, 0, 0, 0, 0), (36, .sipush 600, 0, 0, 0, 0), (39, .if_icmp .ge 47, 86, 0, 0, 0), (42, .iload 4, 0, 0, 0, 0), (44, .iload_n 3, 0, 0, 0, 0), (45, .if_icmp .ge 6, 51, 0, 0, 0), (48, .goto 32, 80, 0, 0, 0)]
def l73_51 : List Ent := [(51, .aload_n 0, 0, 0, 0, 0), (52, .iload_n 1, 0, 0, 0, 0), (53, .iload 4, 0, 0, 0, 0), (55, .invokevirtual 241, 89, 3, 0, 6)]
def l73_58 : List Ent := [(58, .aload_n 0, 0, 0, 0, 0), (59, .getfield 41, 6, 5, 394, 0), (62, .getfield 244, 0, 2, 0, 0), (65, .iload_n 2, 0, 0, 0, 0), (66, .if_icmp .ne 6, 72, 0, 0, 0), (69, .iload 4, 0, 0, 0, 0), (71, .ireturn, 0, 0, 0, 0)]
def l73_72 : List Ent := [(72, .aload_n 0, 0, 0, 0, 0), (73, .getfield 41, 6, 5, 394, 0), (76, .getfield 247, 0, 5, 0, 0), (79, .istore_n 3, 0, 0, 0, 0)]
def l73_80 : List Ent := [(80, .iinc 4 1, 0, 0, 0, 0), (83, .goto (-49), 34, 0, 0, 0)]
def l73_86 : List Ent := [(86, .sipush 600, 0, 0, 0, 0), (89, .ireturn, 0, 0, 0, 0)]
def bk73 : List Blk := [(0, l73_0, 8), (8, l73_8, 13), (13, l73_13, 21), (21, l73_21, 34), (34, l73_34, 51), (51, l73_51, 58), (58, l73_58, 72), (72, l73_72, 80), (80, l73_80, 86), (86, l73_86, 90)]
-- NoticeShifts.put
def l74_0 : List Ent := [(0, .lload_n 1, 0, 0, 0, 0), (1, .invokestatic 250, 18, 1, 1, 0)]
def l74_4 : List Ent := [(4, .istore_n 3, 0, 0, 0, 0), (5, .iload_n 3, 0, 0, 0, 0), (6, .bipush (-2), 0, 0, 0, 0), (8, .if_icmp .ne 6, 14, 0, 0, 0), (11, .bipush (-2), 0, 0, 0, 0), (13, .ireturn, 0, 0, 0, 0)]
def l74_14 : List Ent := [(14, .aload_n 0, 0, 0, 0, 0), (15, .getfield 34, 6, 4, 392, 0), (18, .getfield 136, 3, 1, 0, 0), (21, .iload_n 3, 0, 0, 0, 0), (22, .iadd, 0, 0, 0, 0), (23, .bipush 60, 0, 0, 0, 0), (25, .if_icmp .le 6, 31, 0, 0, 0), (28, .bipush (-4), 0, 0, 0, 0), (30, .ireturn, 0, 0, 0, 0)]
def l74_31 : List Ent := [(31, .aload_n 0, 0, 0, 0, 0), (32, .getfield 34, 6, 4, 392, 0), (35, .lload_n 1, 0, 0, 0, 0), (36, .iload_n 3, 0, 0, 0, 0), (37, .invokevirtual 254, 20, 3, 0, 3)]
def l74_40 : List Ent := [(40, .aload_n 0, 0, 0, 0, 0), (41, .getfield 34, 6, 4, 392, 0), (44, .getfield 136, 3, 1, 0, 0), (47, .ireturn, 0, 0, 0, 0)]
def bk74 : List Blk := [(0, l74_0, 4), (4, l74_4, 14), (14, l74_14, 31), (31, l74_31, 40), (40, l74_40, 48)]
-- NoticeShifts.wipe
def l75_0 : List Ent := [(0, .aload_n 0, 0, 0, 0, 0), (1, .getfield 34, 6, 4, 392, 0), (4, .getfield 136, 3, 1, 0, 0), (7, .istore_n 1, 0, 0, 0, 0), (8, .aload_n 0, 0, 0, 0, 0), (9, .getfield 34, 6, 4, 392, 0), (12, .iconst 0, 0, 0, 0, 0), (13, .putfield 136, 3, 1, 0, 0), (16, .iload_n 1, 0, 0, 0, 0), (17, .ireturn, 0, 0, 0, 0)]
def bk75 : List Blk := [(0, l75_0, 18)]
-- NoticeShifts.fault
def l76_0 : List Ent := [(0, .aload_n 0, 0, 0, 0, 0), (1, .getfield 34, 6, 4, 392, 0), (4, .invokevirtual 124, 21, 1, 1, 3)]
def l76_7 : List Ent := [(7, .ireturn, 0, 0, 0, 0)]
def bk76 : List Blk := [(0, l76_0, 7), (7, l76_7, 8)]
-- NoticeShifts.undo
def l77_0 : List Ent := [(0, .aload_n 0, 0, 0, 0, 0), (1, .getfield 19, 6, 1, 58, 0), (4, .getfield 206, 2, 2, 0, 0), (7, .ifCond .ne 6, 13, 0, 0, 0), (10, .bipush (-5), 0, 0, 0, 0), (12, .ireturn, 0, 0, 0, 0)]
def l77_13 : List Ent := [(13, .aload_n 0, 0, 0, 0, 0), (14, .getfield 19, 6, 1, 58, 0), (17, .aload_n 0, 0, 0, 0, 0), (18, .getfield 10, 6, 0, 3, 0), (21, .invokevirtual 258, 15, 2, 0, 2)]
def l77_24 : List Ent := [(24, .aload_n 0, 0, 0, 0, 0), (25, .getfield 19, 6, 1, 58, 0), (28, .getfield 206, 2, 2, 0, 0), (31, .ireturn, 0, 0, 0, 0)]
def bk77 : List Blk := [(0, l77_0, 13), (13, l77_13, 24), (24, l77_24, 32)]
-- NoticeShifts.save
def l78_0 : List Ent := [(0, .iload_n 1, 0, 0, 0, 0), (1, .iconst 0, 0, 0, 0, 0), (2, .iconst 1, 0, 0, 0, 0), (3, .invokestatic 66, 80, 3, 1, 0)]
def l78_6 : List Ent := [(6, .ifCond .ne 6, 12, 0, 0, 0), (9, .bipush (-2), 0, 0, 0, 0), (11, .ireturn, 0, 0, 0, 0)]
def l78_12 : List Ent := [(12, .aload_n 0, 0, 0, 0, 0), (13, .getfield 23, 6, 2, 390, 0), (16, .iload_n 1, 0, 0, 0, 0), (17, .aaload, 105, 12, 55, 0), (18, .aload_n 0, 0, 0, 0, 0), (19, .getfield 10, 6, 0, 3, 0), (22, .invokevirtual 261, 47, 2, 0, 5)]
def l78_25 : List Ent := [(25, .aload_n 0, 0, 0, 0, 0), (26, .getfield 27, 6, 3, 391, 0), (29, .iload_n 1, 0, 0, 0, 0), (30, .iconst 1, 0, 0, 0, 0), (31, .bastore, 0, 0, 0, 0), (32, .aload_n 0, 0, 0, 0, 0), (33, .getfield 10, 6, 0, 3, 0), (36, .getfield 56, 5, 0, 3, 0), (39, .getfield 60, 4, 3, 0, 0), (42, .ireturn, 0, 0, 0, 0)]
def bk78 : List Blk := [(0, l78_0, 6), (6, l78_6, 12), (12, l78_12, 25), (25, l78_25, 43)]
-- NoticeShifts.restore
def l79_0 : List Ent := [(0, .iload_n 1, 0, 0, 0, 0), (1, .iconst 0, 0, 0, 0, 0), (2, .iconst 1, 0, 0, 0, 0), (3, .invokestatic 66, 80, 3, 1, 0)]
def l79_6 : List Ent := [(6, .ifCond .ne 6, 12, 0, 0, 0), (9, .bipush (-2), 0, 0, 0, 0), (11, .ireturn, 0, 0, 0, 0)]
def l79_12 : List Ent := [(12, .aload_n 0, 0, 0, 0, 0), (13, .getfield 27, 6, 3, 391, 0), (16, .iload_n 1, 0, 0, 0, 0), (17, .baload, 0, 0, 0, 0), (18, .ifCond .ne 6, 24, 0, 0, 0), (21, .bipush (-5), 0, 0, 0, 0), (23, .ireturn, 0, 0, 0, 0)]
def l79_24 : List Ent := [(24, .aload_n 0, 0, 0, 0, 0), (25, .getfield 19, 6, 1, 58, 0), (28, .aload_n 0, 0, 0, 0, 0), (29, .getfield 10, 6, 0, 3, 0), (32, .invokevirtual 73, 14, 2, 0, 2)]
def l79_35 : List Ent := [(35, .aload_n 0, 0, 0, 0, 0), (36, .getfield 10, 6, 0, 3, 0), (39, .aload_n 0, 0, 0, 0, 0), (40, .getfield 23, 6, 2, 390, 0), (43, .iload_n 1, 0, 0, 0, 0), (44, .aaload, 105, 12, 55, 0), (45, .invokevirtual 261, 47, 2, 0, 5)]
def l79_48 : List Ent := [(48, .aload_n 0, 0, 0, 0, 0), (49, .getfield 10, 6, 0, 3, 0), (52, .getfield 56, 5, 0, 3, 0), (55, .getfield 60, 4, 3, 0, 0), (58, .ireturn, 0, 0, 0, 0)]
def bk79 : List Blk := [(0, l79_0, 6), (6, l79_6, 12), (12, l79_12, 24), (24, l79_24, 35), (35, l79_35, 48), (48, l79_48, 59)]
-- NoticeShifts.isWithin
def l80_0 : List Ent := [(0, .iload_n 0, 0, 0, 0, 0), (1, .iload_n 1, 0, 0, 0, 0), (2, .if_icmp .lt 12, 14, 0, 0, 0), (5, .iload_n 0, 0, 0, 0, 0), (6, .iload_n 2, 0, 0, 0, 0), (7, .if_icmp .gt 7, 14, 0, 0, 0), (10, .iconst 1, 0, 0, 0, 0), (11, .goto 4, 15, 0, 0, 0)]
def l80_14 : List Ent := [(14, .iconst 0, 0, 0, 0, 0)]
def l80_15 : List Ent := [(15, .ireturn, 1, 0, 0, 0)]
def bk80 : List Blk := [(0, l80_0, 14), (14, l80_14, 15), (15, l80_15, 16)]
-- NoticeShifts.asNumber
def l81_0 : List Ent := [(0, .iload_n 0, 0, 0, 0, 0), (1, .ifCond .eq 7, 8, 0, 0, 0), (4, .iconst 1, 0, 0, 0, 0), (5, .goto 4, 9, 0, 0, 0)]
def l81_8 : List Ent := [(8, .iconst 0, 0, 0, 0, 0)]
def l81_9 : List Ent := [(9, .ireturn, 0, 0, 0, 0)]
def bk81 : List Blk := [(0, l81_0, 8), (8, l81_8, 9), (9, l81_9, 10)]
-- NoticeShifts.takeRows
def l82_0 : List Ent := [(0, .iconst 0, 0, 0, 0, 0), (1, .istore_n 1, 0, 0, 0, 0), (2, .aload_n 0, 0, 0, 0, 0), (3, .getfield 10, 6, 0, 3, 0), (6, .getfield 121, 5, 1, 7, 0), (9, .iload_n 1, 0, 0, 0, 0), (10, .iconst 0, 0, 0, 0, 0), (11, .iastore, 0, 0, 0, 0), (12, .iconst 0, 0, 0, 0, 0), (13, .istore_n 2, 0, 0, 0, 0)]
def l82_14 : List Ent := [(14, .iload_n 2, 0, 0, 0, 0), (15, .aload_n 0, 0, 0, 0, 0), (16, .getfield 34, 6, 4, 392, 0), (19, .getfield 136, 3, 1, 0, 0), (22, .if_icmp .ge 60, 82, 0, 0, 0), (25, .aload_n 0, 0, 0, 0, 0), (26, .getfield 34, 6, 4, 392, 0), (29, .getfield 264, 3, 0, 3, 0), (32, .iload_n 2, 0, 0, 0, 0), (33, .caload, 0, 0, 0, 0), (34, .istore_n 3, 0, 0, 0, 0), (35, .iload_n 3, 0, 0, 0, 0), (36, .bipush 47, 0, 0, 0, 0), (38, .if_icmp .ne 19, 57, 0, 0, 0), (41, .iinc 1 1, 0, 0, 0, 0), (44, .aload_n 0, 0, 0, 0, 0), (45, .getfield 10, 6, 0, 3, 0), (48, .getfield 121, 5, 1, 7, 0), (51, .iload_n 1, 0, 0, 0, 0), (52, .iconst 0, 0, 0, 0, 0), (53, .iastore, 0, 0, 0, 0), (54, .goto 22, 76, 0, 0, 0)]
def l82_57 : List Ent := [(57, .iload_n 3, 0, 0, 0, 0), (58, .invokestatic 268, 17, 1, 1, 0)]
def l82_61 : List Ent := [(61, .ifCond .eq 15, 76, 0, 0, 0), (64, .aload_n 0, 0, 0, 0, 0), (65, .getfield 10, 6, 0, 3, 0), (68, .iload_n 1, 0, 0, 0, 0), (69, .iload_n 3, 0, 0, 0, 0), (70, .bipush 48, 0, 0, 0, 0), (72, .isub, 0, 0, 0, 0), (73, .invokevirtual 118, 40, 3, 0, 5)]
def l82_76 : List Ent := [(76, .iinc 2 1, 0, 0, 0, 0), (79, .goto (-65), 14, 0, 0, 0)]
def l82_82 : List Ent := [(82, .return_, 0, 0, 0, 0)]
def bk82 : List Blk := [(0, l82_0, 14), (14, l82_14, 57), (57, l82_57, 61), (61, l82_61, 76), (76, l82_76, 82), (82, l82_82, 83)]
-- NoticeShifts.hearingOf
def l83_0 : List Ent := [(0, .aload_n 0, 0, 0, 0, 0), (1, .getfield 10, 6, 0, 3, 0), (4, .getfield 148, 5, 7, 13, 0), (7, .iload_n 1, 0, 0, 0, 0), (8, .baload, 0, 0, 0, 0), (9, .ifCond .eq 13, 22, 0, 0, 0), (12, .aload_n 0, 0, 0, 0, 0), (13, .getfield 10, 6, 0, 3, 0), (16, .getfield 154, 5, 8, 14, 0), (19, .iload_n 1, 0, 0, 0, 0), (20, .aaload, 103, 1, 7, 0), (21, .areturn, 0, 0, 0, 0)]
def l83_22 : List Ent := [(22, .aload_n 0, 0, 0, 0, 0), (23, .iload_n 1, 0, 0, 0, 0), (24, .aload_n 0, 0, 0, 0, 0), (25, .getfield 48, 6, 6, 395, 0), (28, .invokevirtual 158, 84, 3, 0, 6)]
def l83_31 : List Ent := [(31, .aload_n 0, 0, 0, 0, 0), (32, .getfield 48, 6, 6, 395, 0), (35, .areturn, 0, 0, 0, 0)]
def bk83 : List Blk := [(0, l83_0, 22), (22, l83_22, 31), (31, l83_31, 36)]
-- NoticeShifts.hearNow
def l84_0 : List Ent := [(0, .aload_n 2, 0, 0, 0, 0), (1, .getfield 198, 1, 0, 3, 0), (4, .aload_n 0, 0, 0, 0, 0), (5, .getfield 10, 6, 0, 3, 0), (8, .getfield 56, 5, 0, 3, 0), (11, .invokevirtual 272, 32, 2, 0, 4)]
def l84_14 : List Ent := [(14, .aload_n 0, 0, 0, 0, 0), (15, .getfield 41, 6, 5, 394, 0), (18, .aload_n 0, 0, 0, 0, 0), (19, .getfield 10, 6, 0, 3, 0), (22, .getfield 142, 5, 5, 11, 0), (25, .iload_n 1, 0, 0, 0, 0), (26, .iaload, 0, 0, 0, 0), (27, .aload_n 0, 0, 0, 0, 0), (28, .getfield 10, 6, 0, 3, 0), (31, .getfield 145, 5, 6, 12, 0), (34, .iload_n 1, 0, 0, 0, 0), (35, .iaload, 0, 0, 0, 0), (36, .invokevirtual 275, 1, 3, 0, 0)]
def l84_39 : List Ent := [(39, .iconst 0, 0, 0, 0, 0), (40, .istore_n 3, 0, 0, 0, 0)]
def l84_41 : List Ent := [(41, .iload_n 3, 0, 0, 0, 0), (42, .aload_n 0, 0, 0, 0, 0), (43, .getfield 10, 6, 0, 3, 0), (46, .getfield 56, 5, 0, 3, 0), (49, .getfield 60, 4, 3, 0, 0), (52, .if_icmp .ge 58, 110, 0, 0, 0), (55, .aload_n 0, 0, 0, 0, 0), (56, .getfield 41, 6, 5, 394, 0), (59, .aload_n 0, 0, 0, 0, 0), (60, .getfield 10, 6, 0, 3, 0), (63, .iload_n 3, 0, 0, 0, 0), (64, .invokevirtual 278, 2, 3, 1, 0)]
def l84_67 : List Ent := [(67, .istore 4, 0, 0, 0, 0), (69, .aload_n 2, 0, 0, 0, 0), (70, .getfield 207, 1, 1, 7, 0), (73, .iload_n 3, 0, 0, 0, 0), (74, .iload 4, 0, 0, 0, 0), (76, .iastore, 0, 0, 0, 0), (77, .aload_n 2, 0, 0, 0, 0), (78, .getfield 282, 1, 2, 8, 0), (81, .iload_n 3, 0, 0, 0, 0), (82, .iload 4, 0, 0, 0, 0), (84, .bipush (-6), 0, 0, 0, 0), (86, .if_icmp .ne 7, 93, 0, 0, 0), (89, .iconst 0, 0, 0, 0, 0), (90, .goto 13, 103, 0, 0, 0)]
def l84_93 : List Ent := [(93, .aload_n 0, 0, 0, 0, 0), (94, .getfield 10, 6, 0, 3, 0), (97, .getfield 106, 5, 3, 9, 0), (100, .iload 4, 0, 0, 0, 0), (102, .iaload, 0, 0, 0, 0)]
def l84_103 : List Ent := [(103, .iastore, 0, 0, 0, 0), (104, .iinc 3 1, 0, 0, 0, 0), (107, .goto (-66), 41, 0, 0, 0)]
def l84_110 : List Ent := [(110, .return_, 0, 0, 0, 0)]
def bk84 : List Blk := [(0, l84_0, 14), (14, l84_14, 39), (39, l84_39, 41), (41, l84_41, 67), (67, l84_67, 93), (93, l84_93, 103), (103, l84_103, 110), (110, l84_110, 111)]
-- NoticeShifts.isOutOfDate
def l85_0 : List Ent := [(0, .aload_n 0, 0, 0, 0, 0), (1, .getfield 10, 6, 0, 3, 0), (4, .getfield 148, 5, 7, 13, 0), (7, .iload_n 1, 0, 0, 0, 0), (8, .baload, 0, 0, 0, 0), (9, .ifCond .ne 5, 14, 0, 0, 0), (12, .iconst 0, 0, 0, 0, 0), (13, .ireturn, 1, 0, 0, 0)]
def l85_14 : List Ent := [(14, .aload_n 0, 0, 0, 0, 0), (15, .iload_n 1, 0, 0, 0, 0), (16, .aload_n 0, 0, 0, 0, 0), (17, .getfield 48, 6, 6, 395, 0), (20, .invokevirtual 158, 84, 3, 0, 6)]
def l85_23 : List Ent := [(23, .aload_n 0, 0, 0, 0, 0), (24, .getfield 48, 6, 6, 395, 0), (27, .aload_n 0, 0, 0, 0, 0), (28, .getfield 10, 6, 0, 3, 0), (31, .getfield 154, 5, 8, 14, 0), (34, .iload_n 1, 0, 0, 0, 0), (35, .aaload, 103, 1, 7, 0), (36, .invokevirtual 283, 12, 2, 1, 1)]
def l85_39 : List Ent := [(39, .ifCond .ne 7, 46, 0, 0, 0), (42, .iconst 1, 0, 0, 0, 0), (43, .goto 4, 47, 0, 0, 0)]
def l85_46 : List Ent := [(46, .iconst 0, 0, 0, 0, 0)]
def l85_47 : List Ent := [(47, .ireturn, 1, 0, 0, 0)]
def bk85 : List Blk := [(0, l85_0, 14), (14, l85_14, 23), (23, l85_23, 39), (39, l85_39, 46), (46, l85_46, 47), (47, l85_47, 48)]
-- NoticeShifts.outOfDateListeners
def l86_0 : List Ent := [(0, .iconst 0, 0, 0, 0, 0), (1, .istore_n 1, 0, 0, 0, 0), (2, .iconst 0, 0, 0, 0, 0), (3, .istore_n 2, 0, 0, 0, 0)]
def l86_4 : List Ent := [(4, .iload_n 2, 0, 0, 0, 0), (5, .aload_n 0, 0, 0, 0, 0), (6, .getfield 10, 6, 0, 3, 0), (9, .getfield 139, 5, 11, 0, 0), (12, .if_icmp .ge 23, 35, 0, 0, 0), (15, .aload_n 0, 0, 0, 0, 0), (16, .iload_n 2, 0, 0, 0, 0), (17, .invokevirtual 189, 85, 2, 1, 6)]
def l86_20 : List Ent := [(20, .ifCond .eq 9, 29, 0, 0, 0), (23, .iload_n 1, 0, 0, 0, 0), (24, .iconst 1, 0, 0, 0, 0), (25, .iload_n 2, 0, 0, 0, 0), (26, .ishl, 0, 0, 0, 0), (27, .ior, 0, 0, 0, 0), (28, .istore_n 1, 0, 0, 0, 0)]
def l86_29 : List Ent := [(29, .iinc 2 1, 0, 0, 0, 0), (32, .goto (-28), 4, 0, 0, 0)]
def l86_35 : List Ent := [(35, .iload_n 1, 0, 0, 0, 0), (36, .ireturn, 0, 0, 0, 0)]
def bk86 : List Blk := [(0, l86_0, 4), (4, l86_4, 20), (20, l86_20, 29), (29, l86_29, 35), (35, l86_35, 37)]
-- NoticeShifts.longestListener
def l87_0 : List Ent := [(0, .bipush (-6), 0, 0, 0, 0), (2, .istore_n 1, 0, 0, 0, 0), (3, .bipush (-6), 0, 0, 0, 0), (5, .istore_n 2, 0, 0, 0, 0), (6, .iconst 0, 0, 0, 0, 0), (7, .istore_n 3, 0, 0, 0, 0)]
def l87_8 : List Ent := [(8, .iload_n 3, 0, 0, 0, 0), (9, .aload_n 0, 0, 0, 0, 0), (10, .getfield 10, 6, 0, 3, 0), (13, .getfield 139, 5, 11, 0, 0), (16, .if_icmp .ge 30, 46, 0, 0, 0), (19, .aload_n 0, 0, 0, 0, 0), (20, .iload_n 3, 0, 0, 0, 0), (21, .invokevirtual 162, 83, 2, 2, 6)]
def l87_24 : List Ent := [(24, .invokevirtual 166, 7, 1, 1, 1)]
def l87_27 : List Ent := [(27, .istore 4, 0, 0, 0, 0), (29, .iload 4, 0, 0, 0, 0), (31, .iload_n 2, 0, 0, 0, 0), (32, .if_icmp .le 8, 40, 0, 0, 0), (35, .iload_n 3, 0, 0, 0, 0), (36, .istore_n 1, 0, 0, 0, 0), (37, .iload 4, 0, 0, 0, 0), (39, .istore_n 2, 0, 0, 0, 0)]
def l87_40 : List Ent := [(40, .iinc 3 1, 0, 0, 0, 0), (43, .goto (-35), 8, 0, 0, 0)]
def l87_46 : List Ent := [(46, .iload_n 1, 0, 0, 0, 0), (47, .ireturn, 0, 0, 0, 0)]
def bk87 : List Blk := [(0, l87_0, 8), (8, l87_8, 24), (24, l87_24, 27), (27, l87_27, 40), (40, l87_40, 46), (46, l87_46, 48)]
-- NoticeShifts.momentNow
def l88_0 : List Ent := [(0, .aload_n 0, 0, 0, 0, 0), (1, .iload_n 1, 0, 0, 0, 0), (2, .invokevirtual 162, 83, 2, 2, 6)]
def l88_5 : List Ent := [(5, .astore_n 3, 0, 0, 0, 0), (6, .aload_n 3, 0, 0, 0, 0), (7, .iload_n 2, 0, 0, 0, 0), (8, .invokevirtual 215, 10, 2, 1, 1)]
def l88_11 : List Ent := [(11, .istore 4, 0, 0, 0, 0), (13, .iload 4, 0, 0, 0, 0), (15, .bipush (-6), 0, 0, 0, 0), (17, .if_icmp .ne 6, 23, 0, 0, 0), (20, .bipush (-5), 0, 0, 0, 0), (22, .ireturn, 0, 0, 0, 0)]
def l88_23 : List Ent := [(23, .aload_n 0, 0, 0, 0, 0), (24, .getfield 10, 6, 0, 3, 0), (27, .getfield 56, 5, 0, 3, 0), (30, .aload_n 3, 0, 0, 0, 0), (31, .getfield 198, 1, 0, 3, 0), (34, .getfield 77, 4, 0, 3, 0), (37, .iload 4, 0, 0, 0, 0), (39, .iaload, 0, 0, 0, 0), (40, .invokevirtual 176, 28, 2, 1, 4)]
def l88_43 : List Ent := [(43, .istore 5, 0, 0, 0, 0), (45, .iload 5, 0, 0, 0, 0), (47, .iconst (-1), 0, 0, 0, 0), (48, .if_icmp .ne 6, 54, 0, 0, 0), (51, .bipush (-5), 0, 0, 0, 0), (53, .ireturn, 0, 0, 0, 0)]
def l88_54 : List Ent := [(54, .aload_n 0, 0, 0, 0, 0), (55, .getfield 10, 6, 0, 3, 0), (58, .getfield 56, 5, 0, 3, 0), (61, .iload 5, 0, 0, 0, 0), (63, .invokevirtual 169, 25, 2, 1, 4)]
def l88_66 : List Ent := [(66, .iconst 0, 0, 0, 0, 0), (67, .iload_n 2, 0, 0, 0, 0), (68, .aload_n 3, 0, 0, 0, 0), (69, .iload 4, 0, 0, 0, 0), (71, .invokevirtual 212, 6, 2, 1, 1)]
def l88_74 : List Ent := [(74, .isub, 0, 0, 0, 0), (75, .invokestatic 287, 0, 0, 11, 0), (78, .iadd, 0, 0, 0, 0), (79, .ireturn, 0, 0, 0, 0)]
def bk88 : List Blk := [(0, l88_0, 5), (5, l88_5, 11), (11, l88_11, 23), (23, l88_23, 43), (43, l88_43, 54), (54, l88_54, 66), (66, l88_66, 74), (74, l88_74, 80)]
-- NoticeShifts.chooseAll
def l89_0 : List Ent := [(0, .aload_n 0, 0, 0, 0, 0), (1, .getfield 41, 6, 5, 394, 0), (4, .aload_n 0, 0, 0, 0, 0), (5, .getfield 10, 6, 0, 3, 0), (8, .getfield 142, 5, 5, 11, 0), (11, .iload_n 1, 0, 0, 0, 0), (12, .iaload, 0, 0, 0, 0), (13, .iload_n 2, 0, 0, 0, 0), (14, .invokevirtual 275, 1, 3, 0, 0)]
def l89_17 : List Ent := [(17, .iconst 0, 0, 0, 0, 0), (18, .istore_n 3, 0, 0, 0, 0)]
def l89_19 : List Ent := [(19, .iload_n 3, 0, 0, 0, 0), (20, .aload_n 0, 0, 0, 0, 0), (21, .getfield 10, 6, 0, 3, 0), (24, .getfield 56, 5, 0, 3, 0), (27, .getfield 60, 4, 3, 0, 0), (30, .if_icmp .ge 22, 52, 0, 0, 0), (33, .aload_n 0, 0, 0, 0, 0), (34, .getfield 41, 6, 5, 394, 0), (37, .aload_n 0, 0, 0, 0, 0), (38, .getfield 10, 6, 0, 3, 0), (41, .iload_n 3, 0, 0, 0, 0), (42, .invokevirtual 278, 2, 3, 1, 0)]
def l89_45 : List Ent := [(45, .pop, 0, 0, 0, 0), (46, .iinc 3 1, 0, 0, 0, 0), (49, .goto (-30), 19, 0, 0, 0)]
def l89_52 : List Ent := [(52, .return_, 0, 0, 0, 0)]
def bk89 : List Blk := [(0, l89_0, 17), (17, l89_17, 19), (19, l89_19, 45), (45, l89_45, 52), (52, l89_52, 53)]
-- NoticeShifts.secondsOfAll
def l90_0 : List Ent := [(0, .iconst 0, 0, 0, 0, 0), (1, .istore_n 1, 0, 0, 0, 0), (2, .iconst 0, 0, 0, 0, 0), (3, .istore_n 2, 0, 0, 0, 0)]
def l90_4 : List Ent := [(4, .iload_n 2, 0, 0, 0, 0), (5, .aload_n 0, 0, 0, 0, 0), (6, .getfield 10, 6, 0, 3, 0), (9, .getfield 139, 5, 11, 0, 0), (12, .if_icmp .ge 33, 45, 0, 0, 0), (15, .aload_n 0, 0, 0, 0, 0), (16, .iload_n 2, 0, 0, 0, 0), (17, .aload_n 0, 0, 0, 0, 0), (18, .getfield 10, 6, 0, 3, 0), (21, .getfield 145, 5, 6, 12, 0), (24, .iload_n 2, 0, 0, 0, 0), (25, .iaload, 0, 0, 0, 0), (26, .invokevirtual 241, 89, 3, 0, 6)]
def l90_29 : List Ent := [(29, .iload_n 1, 0, 0, 0, 0), (30, .aload_n 0, 0, 0, 0, 0), (31, .getfield 41, 6, 5, 394, 0), (34, .getfield 290, 0, 4, 0, 0), (37, .iadd, 0, 0, 0, 0), (38, .istore_n 1, 0, 0, 0, 0), (39, .iinc 2 1, 0, 0, 0, 0), (42, .goto (-38), 4, 0, 0, 0)]
def l90_45 : List Ent := [(45, .iload_n 1, 0, 0, 0, 0), (46, .ireturn, 0, 0, 0, 0)]
def bk90 : List Blk := [(0, l90_0, 4), (4, l90_4, 29), (29, l90_29, 45), (45, l90_45, 47)]
-- NoticeShifts.countHearers
def l91_0 : List Ent := [(0, .iconst 0, 0, 0, 0, 0), (1, .istore_n 2, 0, 0, 0, 0), (2, .iconst 0, 0, 0, 0, 0), (3, .istore_n 3, 0, 0, 0, 0)]
def l91_4 : List Ent := [(4, .iload_n 3, 0, 0, 0, 0), (5, .aload_n 0, 0, 0, 0, 0), (6, .getfield 10, 6, 0, 3, 0), (9, .getfield 139, 5, 11, 0, 0), (12, .if_icmp .ge 37, 49, 0, 0, 0), (15, .aload_n 0, 0, 0, 0, 0), (16, .iload_n 3, 0, 0, 0, 0), (17, .aload_n 0, 0, 0, 0, 0), (18, .getfield 10, 6, 0, 3, 0), (21, .getfield 145, 5, 6, 12, 0), (24, .iload_n 3, 0, 0, 0, 0), (25, .iaload, 0, 0, 0, 0), (26, .invokevirtual 241, 89, 3, 0, 6)]
def l91_29 : List Ent := [(29, .iload_n 2, 0, 0, 0, 0), (30, .aload_n 0, 0, 0, 0, 0), (31, .getfield 41, 6, 5, 394, 0), (34, .getfield 293, 0, 3, 0, 0), (37, .iload_n 1, 0, 0, 0, 0), (38, .ishr, 0, 0, 0, 0), (39, .iconst 1, 0, 0, 0, 0), (40, .iand, 0, 0, 0, 0), (41, .iadd, 0, 0, 0, 0), (42, .istore_n 2, 0, 0, 0, 0), (43, .iinc 3 1, 0, 0, 0, 0), (46, .goto (-42), 4, 0, 0, 0)]
def l91_49 : List Ent := [(49, .iload_n 2, 0, 0, 0, 0), (50, .ireturn, 0, 0, 0, 0)]
def bk91 : List Blk := [(0, l91_0, 4), (4, l91_4, 29), (29, l91_29, 49), (49, l91_49, 51)]
-- NoticeShifts.hearersIfBooked
def l92_0 : List Ent := [(0, .aload_n 0, 0, 0, 0, 0), (1, .getfield 10, 6, 0, 3, 0), (4, .iload_n 1, 0, 0, 0, 0), (5, .invokevirtual 115, 38, 2, 1, 5)]
def l92_8 : List Ent := [(8, .ifCond .eq 6, 14, 0, 0, 0), (11, .bipush (-6), 0, 0, 0, 0), (13, .ireturn, 0, 0, 0, 0)]
def l92_14 : List Ent := [(14, .aload_n 0, 0, 0, 0, 0), (15, .getfield 10, 6, 0, 3, 0), (18, .iload_n 1, 0, 0, 0, 0), (19, .iload_n 2, 0, 0, 0, 0), (20, .invokevirtual 118, 40, 3, 0, 5)]
def l92_23 : List Ent := [(23, .aload_n 0, 0, 0, 0, 0), (24, .iload_n 2, 0, 0, 0, 0), (25, .invokevirtual 186, 91, 2, 1, 6)]
def l92_28 : List Ent := [(28, .istore_n 3, 0, 0, 0, 0), (29, .aload_n 0, 0, 0, 0, 0), (30, .getfield 10, 6, 0, 3, 0), (33, .iload_n 1, 0, 0, 0, 0), (34, .invokevirtual 235, 41, 2, 0, 5)]
def l92_37 : List Ent := [(37, .iload_n 3, 0, 0, 0, 0), (38, .ireturn, 0, 0, 0, 0)]
def bk92 : List Blk := [(0, l92_0, 8), (8, l92_8, 14), (14, l92_14, 23), (23, l92_23, 28), (28, l92_28, 37), (37, l92_37, 39)]
-- NoticeShiftsModel.in
def l94_0 : List Ent := [(0, .iload_n 0, 0, 0, 0, 0), (1, .iload_n 1, 0, 0, 0, 0), (2, .if_icmp .lt 12, 14, 0, 0, 0), (5, .iload_n 0, 0, 0, 0, 0), (6, .iload_n 2, 0, 0, 0, 0), (7, .if_icmp .gt 7, 14, 0, 0, 0), (10, .iconst 1, 0, 0, 0, 0), (11, .goto 4, 15, 0, 0, 0)]
def l94_14 : List Ent := [(14, .iconst 0, 0, 0, 0, 0)]
def l94_15 : List Ent := [(15, .ireturn, 1, 0, 0, 0)]
def bk94 : List Blk := [(0, l94_0, 14), (14, l94_14, 15), (15, l94_15, 16)]
-- NoticeShiftsModel.isSentence
def l95_0 : List Ent := [(0, .iload_n 1, 0, 0, 0, 0), (1, .ifCond .lt 17, 18, 0, 0, 0), (4, .iload_n 1, 0, 0, 0, 0), (5, .aload_n 0, 0, 0, 0, 0), (6, .getfield 7, 7, 0, 3, 0), (9, .iconst 0, 0, 0, 0, 0), (10, .iaload, 0, 0, 0, 0), (11, .if_icmp .ge 7, 18, 0, 0, 0), (14, .iconst 1, 0, 0, 0, 0), (15, .goto 4, 19, 0, 0, 0)]
def l95_18 : List Ent := [(18, .iconst 0, 0, 0, 0, 0)]
def l95_19 : List Ent := [(19, .ireturn, 1, 0, 0, 0)]
def bk95 : List Blk := [(0, l95_0, 18), (18, l95_18, 19), (19, l95_19, 20)]
-- NoticeShiftsModel.isNotice
def l96_0 : List Ent := [(0, .iload_n 1, 0, 0, 0, 0), (1, .ifCond .lt 17, 18, 0, 0, 0), (4, .iload_n 1, 0, 0, 0, 0), (5, .aload_n 0, 0, 0, 0, 0), (6, .getfield 7, 7, 0, 3, 0), (9, .iconst 2, 0, 0, 0, 0), (10, .iaload, 0, 0, 0, 0), (11, .if_icmp .ge 7, 18, 0, 0, 0), (14, .iconst 1, 0, 0, 0, 0), (15, .goto 4, 19, 0, 0, 0)]
def l96_18 : List Ent := [(18, .iconst 0, 0, 0, 0, 0)]
def l96_19 : List Ent := [(19, .ireturn, 1, 0, 0, 0)]
def bk96 : List Blk := [(0, l96_0, 18), (18, l96_18, 19), (19, l96_19, 20)]
-- NoticeShiftsModel.isListener
def l97_0 : List Ent := [(0, .iload_n 1, 0, 0, 0, 0), (1, .ifCond .lt 17, 18, 0, 0, 0), (4, .iload_n 1, 0, 0, 0, 0), (5, .aload_n 0, 0, 0, 0, 0), (6, .getfield 7, 7, 0, 3, 0), (9, .iconst 3, 0, 0, 0, 0), (10, .iaload, 0, 0, 0, 0), (11, .if_icmp .ge 7, 18, 0, 0, 0), (14, .iconst 1, 0, 0, 0, 0), (15, .goto 4, 19, 0, 0, 0)]
def l97_18 : List Ent := [(18, .iconst 0, 0, 0, 0, 0)]
def l97_19 : List Ent := [(19, .ireturn, 1, 0, 0, 0)]
def bk97 : List Blk := [(0, l97_0, 18), (18, l97_18, 19), (19, l97_19, 20)]
-- NoticeShiftsModel.its
def l98_0 : List Ent := [(0, .aload_n 0, 0, 0, 0, 0), (1, .getfield 7, 7, 0, 3, 0), (4, .iconst 4, 0, 0, 0, 0), (5, .iconst 3, 0, 0, 0, 0), (6, .iload_n 1, 0, 0, 0, 0), (7, .imul, 0, 0, 0, 0), (8, .iadd, 0, 0, 0, 0), (9, .iload_n 2, 0, 0, 0, 0), (10, .iadd, 0, 0, 0, 0), (11, .iaload, 0, 0, 0, 0), (12, .ireturn, 0, 0, 0, 0)]
def bk98 : List Blk := [(0, l98_0, 13)]
-- NoticeShiftsModel.inBreak
def l99_0 : List Ent := [(0, .aload_n 0, 0, 0, 0, 0), (1, .getfield 7, 7, 0, 3, 0), (4, .bipush 76, 0, 0, 0, 0), (6, .iconst 5, 0, 0, 0, 0), (7, .iload_n 1, 0, 0, 0, 0), (8, .imul, 0, 0, 0, 0), (9, .iadd, 0, 0, 0, 0), (10, .iaload, 0, 0, 0, 0), (11, .ireturn, 0, 0, 0, 0)]
def bk99 : List Blk := [(0, l99_0, 12)]
-- NoticeShiftsModel.inRow
def l100_0 : List Ent := [(0, .aload_n 0, 0, 0, 0, 0), (1, .getfield 7, 7, 0, 3, 0), (4, .bipush 76, 0, 0, 0, 0), (6, .iconst 5, 0, 0, 0, 0), (7, .iload_n 1, 0, 0, 0, 0), (8, .imul, 0, 0, 0, 0), (9, .iadd, 0, 0, 0, 0), (10, .iconst 1, 0, 0, 0, 0), (11, .iadd, 0, 0, 0, 0), (12, .iload_n 2, 0, 0, 0, 0), (13, .iadd, 0, 0, 0, 0), (14, .iaload, 0, 0, 0, 0), (15, .ireturn, 0, 0, 0, 0)]
def bk100 : List Blk := [(0, l100_0, 16)]
-- NoticeShiftsModel.lengthOf
def l101_0 : List Ent := [(0, .aload_n 0, 0, 0, 0, 0), (1, .getfield 7, 7, 0, 3, 0), (4, .sipush 196, 0, 0, 0, 0), (7, .iconst 2, 0, 0, 0, 0), (8, .iload_n 1, 0, 0, 0, 0), (9, .imul, 0, 0, 0, 0), (10, .iadd, 0, 0, 0, 0), (11, .iaload, 0, 0, 0, 0), (12, .ireturn, 0, 0, 0, 0)]
def bk101 : List Blk := [(0, l101_0, 13)]
-- NoticeShiftsModel.groupsOf
def l102_0 : List Ent := [(0, .aload_n 0, 0, 0, 0, 0), (1, .getfield 7, 7, 0, 3, 0), (4, .sipush 196, 0, 0, 0, 0), (7, .iconst 2, 0, 0, 0, 0), (8, .iload_n 1, 0, 0, 0, 0), (9, .imul, 0, 0, 0, 0), (10, .iadd, 0, 0, 0, 0), (11, .iconst 1, 0, 0, 0, 0), (12, .iadd, 0, 0, 0, 0), (13, .iaload, 0, 0, 0, 0), (14, .ireturn, 0, 0, 0, 0)]
def bk102 : List Blk := [(0, l102_0, 15)]
-- NoticeShiftsModel.groupOf
def l103_0 : List Ent := [(0, .aload_n 0, 0, 0, 0, 0), (1, .getfield 7, 7, 0, 3, 0), (4, .sipush 212, 0, 0, 0, 0), (7, .iconst 3, 0, 0, 0, 0), (8, .iload_n 1, 0, 0, 0, 0), (9, .imul, 0, 0, 0, 0), (10, .iadd, 0, 0, 0, 0), (11, .iaload, 0, 0, 0, 0), (12, .ireturn, 0, 0, 0, 0)]
def bk103 : List Blk := [(0, l103_0, 13)]
-- NoticeShiftsModel.boundOf
def l104_0 : List Ent := [(0, .aload_n 0, 0, 0, 0, 0), (1, .getfield 7, 7, 0, 3, 0), (4, .sipush 212, 0, 0, 0, 0), (7, .iconst 3, 0, 0, 0, 0), (8, .iload_n 1, 0, 0, 0, 0), (9, .imul, 0, 0, 0, 0), (10, .iadd, 0, 0, 0, 0), (11, .iconst 1, 0, 0, 0, 0), (12, .iadd, 0, 0, 0, 0), (13, .iaload, 0, 0, 0, 0), (14, .ireturn, 0, 0, 0, 0)]
def bk104 : List Blk := [(0, l104_0, 15)]
-- NoticeShiftsModel.hasFile
def l105_0 : List Ent := [(0, .aload_n 0, 0, 0, 0, 0), (1, .getfield 7, 7, 0, 3, 0), (4, .sipush 212, 0, 0, 0, 0), (7, .iconst 3, 0, 0, 0, 0), (8, .iload_n 1, 0, 0, 0, 0), (9, .imul, 0, 0, 0, 0), (10, .iadd, 0, 0, 0, 0), (11, .iconst 2, 0, 0, 0, 0), (12, .iadd, 0, 0, 0, 0), (13, .iaload, 0, 0, 0, 0), (14, .iconst 1, 0, 0, 0, 0), (15, .if_icmp .ne 7, 22, 0, 0, 0), (18, .iconst 1, 0, 0, 0, 0), (19, .goto 4, 23, 0, 0, 0)]
def l105_22 : List Ent := [(22, .iconst 0, 0, 0, 0, 0)]
def l105_23 : List Ent := [(23, .ireturn, 1, 0, 0, 0)]
def bk105 : List Blk := [(0, l105_0, 22), (22, l105_22, 23), (23, l105_23, 24)]
-- NoticeShiftsModel.record
def l106_0 : List Ent := [(0, .aload_n 0, 0, 0, 0, 0), (1, .getfield 33, 7, 4, 0, 0), (4, .bipush 6, 0, 0, 0, 0), (6, .if_icmp .ne 44, 50, 0, 0, 0), (9, .iconst 0, 0, 0, 0, 0), (10, .istore_n 1, 0, 0, 0, 0)]
def l106_11 : List Ent := [(11, .iload_n 1, 0, 0, 0, 0), (12, .sipush 4780, 0, 0, 0, 0), (15, .if_icmp .ge 25, 40, 0, 0, 0), (18, .aload_n 0, 0, 0, 0, 0), (19, .getfield 13, 7, 1, 4, 0), (22, .iload_n 1, 0, 0, 0, 0), (23, .aload_n 0, 0, 0, 0, 0), (24, .getfield 13, 7, 1, 4, 0), (27, .iload_n 1, 0, 0, 0, 0), (28, .sipush 956, 0, 0, 0, 0), (31, .iadd, 0, 0, 0, 0), (32, .iaload, 0, 0, 0, 0), (33, .iastore, 0, 0, 0, 0), (34, .iinc 1 1, 0, 0, 0, 0), (37, .goto (-26), 11, 0, 0, 0)]
def l106_40 : List Ent := [(40, .aload_n 0, 0, 0, 0, 0), (41, .dup, 0, 0, 0, 0), (42, .getfield 33, 7, 4, 0, 0), (45, .iconst 1, 0, 0, 0, 0), (46, .isub, 0, 0, 0, 0), (47, .putfield 33, 7, 4, 0, 0)]
def l106_50 : List Ent := [(50, .iconst 0, 0, 0, 0, 0), (51, .istore_n 1, 0, 0, 0, 0)]
def l106_52 : List Ent := [(52, .iload_n 1, 0, 0, 0, 0), (53, .sipush 956, 0, 0, 0, 0), (56, .if_icmp .ge 30, 86, 0, 0, 0), (59, .aload_n 0, 0, 0, 0, 0), (60, .getfield 13, 7, 1, 4, 0), (63, .aload_n 0, 0, 0, 0, 0), (64, .getfield 33, 7, 4, 0, 0), (67, .sipush 956, 0, 0, 0, 0), (70, .imul, 0, 0, 0, 0), (71, .iload_n 1, 0, 0, 0, 0), (72, .iadd, 0, 0, 0, 0), (73, .aload_n 0, 0, 0, 0, 0), (74, .getfield 7, 7, 0, 3, 0), (77, .iload_n 1, 0, 0, 0, 0), (78, .iaload, 0, 0, 0, 0), (79, .iastore, 0, 0, 0, 0), (80, .iinc 1 1, 0, 0, 0, 0), (83, .goto (-31), 52, 0, 0, 0)]
def l106_86 : List Ent := [(86, .aload_n 0, 0, 0, 0, 0), (87, .dup, 0, 0, 0, 0), (88, .getfield 33, 7, 4, 0, 0), (91, .iconst 1, 0, 0, 0, 0), (92, .iadd, 0, 0, 0, 0), (93, .putfield 33, 7, 4, 0, 0), (96, .return_, 0, 0, 0, 0)]
def bk106 : List Blk := [(0, l106_0, 11), (11, l106_11, 40), (40, l106_40, 50), (50, l106_50, 52), (52, l106_52, 86), (86, l106_86, 97)]
-- NoticeShiftsModel.undo
def l107_0 : List Ent := [(0, .aload_n 0, 0, 0, 0, 0), (1, .getfield 33, 7, 4, 0, 0), (4, .ifCond .ne 6, 10, 0, 0, 0), (7, .bipush (-5), 0, 0, 0, 0), (9, .ireturn, 0, 0, 0, 0)]
def l107_10 : List Ent := [(10, .aload_n 0, 0, 0, 0, 0), (11, .dup, 0, 0, 0, 0), (12, .getfield 33, 7, 4, 0, 0), (15, .iconst 1, 0, 0, 0, 0), (16, .isub, 0, 0, 0, 0), (17, .putfield 33, 7, 4, 0, 0), (20, .iconst 0, 0, 0, 0, 0), (21, .istore_n 1, 0, 0, 0, 0)]
def l107_22 : List Ent := [(22, .iload_n 1, 0, 0, 0, 0), (23, .sipush 956, 0, 0, 0, 0), (26, .if_icmp .ge 30, 56, 0, 0, 0), (29, .aload_n 0, 0, 0, 0, 0), (30, .getfield 7, 7, 0, 3, 0), (33, .iload_n 1, 0, 0, 0, 0), (34, .aload_n 0, 0, 0, 0, 0), (35, .getfield 13, 7, 1, 4, 0), (38, .aload_n 0, 0, 0, 0, 0), (39, .getfield 33, 7, 4, 0, 0), (42, .sipush 956, 0, 0, 0, 0), (45, .imul, 0, 0, 0, 0), (46, .iload_n 1, 0, 0, 0, 0), (47, .iadd, 0, 0, 0, 0), (48, .iaload, 0, 0, 0, 0), (49, .iastore, 0, 0, 0, 0), (50, .iinc 1 1, 0, 0, 0, 0), (53, .goto (-31), 22, 0, 0, 0)]
def l107_56 : List Ent := [(56, .aload_n 0, 0, 0, 0, 0), (57, .getfield 33, 7, 4, 0, 0), (60, .ireturn, 0, 0, 0, 0)]
def bk107 : List Blk := [(0, l107_0, 10), (10, l107_10, 22), (22, l107_22, 56), (56, l107_56, 61)]
-- NoticeShiftsModel.save
def l108_0 : List Ent := [(0, .iload_n 1, 0, 0, 0, 0), (1, .iconst 0, 0, 0, 0, 0), (2, .iconst 1, 0, 0, 0, 0), (3, .invokestatic 37, 94, 3, 1, 0)]
def l108_6 : List Ent := [(6, .ifCond .ne 6, 12, 0, 0, 0), (9, .bipush (-2), 0, 0, 0, 0), (11, .ireturn, 0, 0, 0, 0)]
def l108_12 : List Ent := [(12, .aload_n 0, 0, 0, 0, 0), (13, .getfield 19, 7, 3, 6, 0), (16, .iload_n 1, 0, 0, 0, 0), (17, .iconst 1, 0, 0, 0, 0), (18, .bastore, 0, 0, 0, 0), (19, .iconst 0, 0, 0, 0, 0), (20, .istore_n 2, 0, 0, 0, 0)]
def l108_21 : List Ent := [(21, .iload_n 2, 0, 0, 0, 0), (22, .sipush 956, 0, 0, 0, 0), (25, .if_icmp .ge 27, 52, 0, 0, 0), (28, .aload_n 0, 0, 0, 0, 0), (29, .getfield 16, 7, 2, 5, 0), (32, .iload_n 1, 0, 0, 0, 0), (33, .sipush 956, 0, 0, 0, 0), (36, .imul, 0, 0, 0, 0), (37, .iload_n 2, 0, 0, 0, 0), (38, .iadd, 0, 0, 0, 0), (39, .aload_n 0, 0, 0, 0, 0), (40, .getfield 7, 7, 0, 3, 0), (43, .iload_n 2, 0, 0, 0, 0), (44, .iaload, 0, 0, 0, 0), (45, .iastore, 0, 0, 0, 0), (46, .iinc 2 1, 0, 0, 0, 0), (49, .goto (-28), 21, 0, 0, 0)]
def l108_52 : List Ent := [(52, .aload_n 0, 0, 0, 0, 0), (53, .getfield 7, 7, 0, 3, 0), (56, .iconst 0, 0, 0, 0, 0), (57, .iaload, 0, 0, 0, 0), (58, .ireturn, 0, 0, 0, 0)]
def bk108 : List Blk := [(0, l108_0, 6), (6, l108_6, 12), (12, l108_12, 21), (21, l108_21, 52), (52, l108_52, 59)]
-- NoticeShiftsModel.restore
def l109_0 : List Ent := [(0, .iload_n 1, 0, 0, 0, 0), (1, .iconst 0, 0, 0, 0, 0), (2, .iconst 1, 0, 0, 0, 0), (3, .invokestatic 37, 94, 3, 1, 0)]
def l109_6 : List Ent := [(6, .ifCond .ne 6, 12, 0, 0, 0), (9, .bipush (-2), 0, 0, 0, 0), (11, .ireturn, 0, 0, 0, 0)]
def l109_12 : List Ent := [(12, .aload_n 0, 0, 0, 0, 0), (13, .getfield 19, 7, 3, 6, 0), (16, .iload_n 1, 0, 0, 0, 0), (17, .baload, 0, 0, 0, 0), (18, .ifCond .ne 6, 24, 0, 0, 0), (21, .bipush (-5), 0, 0, 0, 0), (23, .ireturn, 0, 0, 0, 0)]
def l109_24 : List Ent := [(24, .aload_n 0, 0, 0, 0, 0), (25, .invokevirtual 41, 106, 1, 0, 7)]
def l109_28 : List Ent := [(28, .iconst 0, 0, 0, 0, 0), (29, .istore_n 2, 0, 0, 0, 0)]
def l109_30 : List Ent := [(30, .iload_n 2, 0, 0, 0, 0), (31, .sipush 956, 0, 0, 0, 0), (34, .if_icmp .ge 27, 61, 0, 0, 0), (37, .aload_n 0, 0, 0, 0, 0), (38, .getfield 7, 7, 0, 3, 0), (41, .iload_n 2, 0, 0, 0, 0), (42, .aload_n 0, 0, 0, 0, 0), (43, .getfield 16, 7, 2, 5, 0), (46, .iload_n 1, 0, 0, 0, 0), (47, .sipush 956, 0, 0, 0, 0), (50, .imul, 0, 0, 0, 0), (51, .iload_n 2, 0, 0, 0, 0), (52, .iadd, 0, 0, 0, 0), (53, .iaload, 0, 0, 0, 0), (54, .iastore, 0, 0, 0, 0), (55, .iinc 2 1, 0, 0, 0, 0), (58, .goto (-28), 30, 0, 0, 0)]
def l109_61 : List Ent := [(61, .aload_n 0, 0, 0, 0, 0), (62, .getfield 7, 7, 0, 3, 0), (65, .iconst 0, 0, 0, 0, 0), (66, .iaload, 0, 0, 0, 0), (67, .ireturn, 0, 0, 0, 0)]
def bk109 : List Blk := [(0, l109_0, 6), (6, l109_6, 12), (12, l109_12, 24), (24, l109_24, 28), (28, l109_28, 30), (30, l109_30, 61), (61, l109_61, 68)]
-- NoticeShiftsModel.layWith
def l110_0 : List Ent := [(0, .iconst 0, 0, 0, 0, 0), (1, .istore_n 3, 0, 0, 0, 0), (2, .iconst 0, 0, 0, 0, 0), (3, .istore 4, 0, 0, 0, 0), (5, .aload_n 0, 0, 0, 0, 0), (6, .getfield 27, 7, 7, 8, 0), (9, .iconst 0, 0, 0, 0, 0), (10, .aload_n 0, 0, 0, 0, 0), (11, .getfield 7, 7, 0, 3, 0), (14, .iconst 0, 0, 0, 0, 0), (15, .iaload, 0, 0, 0, 0), (16, .iastore, 0, 0, 0, 0), (17, .iconst 0, 0, 0, 0, 0), (18, .istore 5, 0, 0, 0, 0)]
def l110_20 : List Ent := [(20, .iload 5, 0, 0, 0, 0), (22, .aload_n 0, 0, 0, 0, 0), (23, .getfield 7, 7, 0, 3, 0), (26, .iconst 0, 0, 0, 0, 0), (27, .iaload, 0, 0, 0, 0), (28, .if_icmp .ge 234, 262, 0, 0, 0), (31, .bipush (-6), 0, 0, 0, 0), (33, .istore 6, 0, 0, 0, 0), (35, .aload_n 0, 0, 0, 0, 0), (36, .iload 5, 0, 0, 0, 0), (38, .invokevirtual 44, 99, 2, 1, 7)]
def l110_41 : List Ent := [(41, .iconst 1, 0, 0, 0, 0), (42, .isub, 0, 0, 0, 0), (43, .istore 7, 0, 0, 0, 0)]
def l110_45 : List Ent := [(45, .iload 7, 0, 0, 0, 0), (47, .ifCond .lt 80, 127, 0, 0, 0), (50, .aload_n 0, 0, 0, 0, 0), (51, .iload 5, 0, 0, 0, 0), (53, .iload 7, 0, 0, 0, 0), (55, .invokevirtual 48, 100, 3, 1, 7)]
def l110_58 : List Ent := [(58, .istore 8, 0, 0, 0, 0), (60, .aload_n 0, 0, 0, 0, 0), (61, .iload 8, 0, 0, 0, 0), (63, .invokevirtual 52, 102, 2, 1, 7)]
def l110_66 : List Ent := [(66, .aload_n 0, 0, 0, 0, 0), (67, .iload_n 1, 0, 0, 0, 0), (68, .invokevirtual 55, 103, 2, 1, 7)]
def l110_71 : List Ent := [(71, .ishr, 0, 0, 0, 0), (72, .iconst 1, 0, 0, 0, 0), (73, .iand, 0, 0, 0, 0), (74, .iconst 1, 0, 0, 0, 0), (75, .if_icmp .ne 29, 104, 0, 0, 0), (78, .iload_n 3, 0, 0, 0, 0), (79, .iload 8, 0, 0, 0, 0), (81, .ishr, 0, 0, 0, 0), (82, .iconst 1, 0, 0, 0, 0), (83, .iand, 0, 0, 0, 0), (84, .ifCond .ne 20, 104, 0, 0, 0), (87, .iload 4, 0, 0, 0, 0), (89, .aload_n 0, 0, 0, 0, 0), (90, .iload 8, 0, 0, 0, 0), (92, .invokevirtual 58, 101, 2, 1, 7)]
def l110_95 : List Ent := [(95, .iadd, 0, 0, 0, 0), (96, .iload_n 2, 0, 0, 0, 0), (97, .if_icmp .gt 7, 104, 0, 0, 0), (100, .iconst 1, 0, 0, 0, 0), (101, .goto 4, 105, 0, 0, 0)]
def l110_104 : List Ent := [(104, .iconst 0, 0, 0, 0, 0)]
def l110_105 : List Ent := [(105, .istore 9, 0, 0, 0, 0), (107, .iload 9, 0, 0, 0, 0), (109, .ifCond .eq 8, 117, 0, 0, 0), (112, .iload 8, 0, 0, 0, 0), (114, .goto 5, 119, 0, 0, 0)]
def l110_117 : List Ent := [(117, .iload 6, 0, 0, 0, 0)]
def l110_119 : List Ent := [(119, .istore 6, 0, 0, 0, 0), (121, .iinc 7 (-1), 0, 0, 0, 0), (124, .goto (-79), 45, 0, 0, 0)]
def l110_127 : List Ent := [(127, .aload_n 0, 0, 0, 0, 0), (128, .getfield 27, 7, 7, 8, 0), (131, .iconst 5, 0, 0, 0, 0), (132, .iload 5, 0, 0, 0, 0), (134, .imul, 0, 0, 0, 0), (135, .iconst 1, 0, 0, 0, 0), (136, .iadd, 0, 0, 0, 0), (137, .iload 6, 0, 0, 0, 0), (139, .iastore, 0, 0, 0, 0), (140, .aload_n 0, 0, 0, 0, 0), (141, .getfield 27, 7, 7, 8, 0), (144, .iconst 5, 0, 0, 0, 0), (145, .iload 5, 0, 0, 0, 0), (147, .imul, 0, 0, 0, 0), (148, .iconst 2, 0, 0, 0, 0), (149, .iadd, 0, 0, 0, 0), (150, .iload 6, 0, 0, 0, 0), (152, .bipush (-6), 0, 0, 0, 0), (154, .if_icmp .ne 7, 161, 0, 0, 0), (157, .iconst 0, 0, 0, 0, 0), (158, .goto 9, 167, 0, 0, 0)]
def l110_161 : List Ent := [(161, .aload_n 0, 0, 0, 0, 0), (162, .iload 6, 0, 0, 0, 0), (164, .invokevirtual 58, 101, 2, 1, 7)]
def l110_167 : List Ent := [(167, .iastore, 0, 0, 0, 0), (168, .aload_n 0, 0, 0, 0, 0), (169, .getfield 27, 7, 7, 8, 0), (172, .iconst 5, 0, 0, 0, 0), (173, .iload 5, 0, 0, 0, 0), (175, .imul, 0, 0, 0, 0), (176, .iconst 3, 0, 0, 0, 0), (177, .iadd, 0, 0, 0, 0), (178, .aload_n 0, 0, 0, 0, 0), (179, .iload 5, 0, 0, 0, 0), (181, .iconst 0, 0, 0, 0, 0), (182, .invokevirtual 61, 98, 3, 1, 7)]
def l110_185 : List Ent := [(185, .iastore, 0, 0, 0, 0), (186, .aload_n 0, 0, 0, 0, 0), (187, .getfield 27, 7, 7, 8, 0), (190, .iconst 5, 0, 0, 0, 0), (191, .iload 5, 0, 0, 0, 0), (193, .imul, 0, 0, 0, 0), (194, .iconst 4, 0, 0, 0, 0), (195, .iadd, 0, 0, 0, 0), (196, .aload_n 0, 0, 0, 0, 0), (197, .iload 5, 0, 0, 0, 0), (199, .iconst 1, 0, 0, 0, 0), (200, .invokevirtual 61, 98, 3, 1, 7)]
def l110_203 : List Ent := [(203, .iastore, 0, 0, 0, 0), (204, .aload_n 0, 0, 0, 0, 0), (205, .getfield 27, 7, 7, 8, 0), (208, .iconst 5, 0, 0, 0, 0), (209, .iload 5, 0, 0, 0, 0), (211, .imul, 0, 0, 0, 0), (212, .iconst 5, 0, 0, 0, 0), (213, .iadd, 0, 0, 0, 0), (214, .aload_n 0, 0, 0, 0, 0), (215, .iload 5, 0, 0, 0, 0), (217, .iconst 2, 0, 0, 0, 0), (218, .invokevirtual 61, 98, 3, 1, 7)]
def l110_221 : List Ent := [(221, .iastore, 0, 0, 0, 0), (222, .iload 4, 0, 0, 0, 0), (224, .aload_n 0, 0, 0, 0, 0), (225, .getfield 27, 7, 7, 8, 0), (228, .iconst 5, 0, 0, 0, 0), (229, .iload 5, 0, 0, 0, 0), (231, .imul, 0, 0, 0, 0), (232, .iconst 2, 0, 0, 0, 0), (233, .iadd, 0, 0, 0, 0), (234, .iaload, 0, 0, 0, 0), (235, .iadd, 0, 0, 0, 0), (236, .istore 4, 0, 0, 0, 0), (238, .iload_n 3, 0, 0, 0, 0), (239, .iload 6, 0, 0, 0, 0), (241, .bipush (-6), 0, 0, 0, 0), (243, .if_icmp .ne 7, 250, 0, 0, 0), (246, .iconst 0, 0, 0, 0, 0), (247, .goto 7, 254, 0, 0, 0)]
def l110_250 : List Ent := [(250, .iconst 1, 0, 0, 0, 0), (251, .iload 6, 0, 0, 0, 0), (253, .ishl, 0, 0, 0, 0)]
def l110_254 : List Ent := [(254, .ior, 0, 0, 0, 0), (255, .istore_n 3, 0, 0, 0, 0), (256, .iinc 5 1, 0, 0, 0, 0), (259, .goto (-239), 20, 0, 0, 0)]
def l110_262 : List Ent := [(262, .iconst 5, 0, 0, 0, 0), (263, .aload_n 0, 0, 0, 0, 0), (264, .getfield 7, 7, 0, 3, 0), (267, .iconst 0, 0, 0, 0, 0), (268, .iaload, 0, 0, 0, 0), (269, .imul, 0, 0, 0, 0), (270, .iconst 1, 0, 0, 0, 0), (271, .iadd, 0, 0, 0, 0), (272, .istore 5, 0, 0, 0, 0)]
def l110_274 : List Ent := [(274, .iload 5, 0, 0, 0, 0), (276, .bipush 121, 0, 0, 0, 0), (278, .if_icmp .ge 17, 295, 0, 0, 0), (281, .aload_n 0, 0, 0, 0, 0), (282, .getfield 27, 7, 7, 8, 0), (285, .iload 5, 0, 0, 0, 0), (287, .iconst 0, 0, 0, 0, 0), (288, .iastore, 0, 0, 0, 0), (289, .iinc 5 1, 0, 0, 0, 0), (292, .goto (-18), 274, 0, 0, 0)]
def l110_295 : List Ent := [(295, .return_, 0, 0, 0, 0)]
def bk110 : List Blk := [(0, l110_0, 20), (20, l110_20, 41), (41, l110_41, 45), (45, l110_45, 58), (58, l110_58, 66), (66, l110_66, 71), (71, l110_71, 95), (95, l110_95, 104), (104, l110_104, 105), (105, l110_105, 117), (117, l110_117, 119), (119, l110_119, 127), (127, l110_127, 161), (161, l110_161, 167), (167, l110_167, 185), (185, l110_185, 203), (203, l110_203, 221), (221, l110_221, 250), (250, l110_250, 254), (254, l110_254, 262), (262, l110_262, 274), (274, l110_274, 295), (295, l110_295, 296)]
-- NoticeShiftsModel.layNow
def l111_0 : List Ent := [(0, .aload_n 0, 0, 0, 0, 0), (1, .iload_n 1, 0, 0, 0, 0), (2, .aload_n 0, 0, 0, 0, 0), (3, .iload_n 1, 0, 0, 0, 0), (4, .invokevirtual 64, 104, 2, 1, 7)]
def l111_7 : List Ent := [(7, .invokevirtual 67, 110, 3, 0, 7)]
def l111_10 : List Ent := [(10, .return_, 0, 0, 0, 0)]
def bk111 : List Blk := [(0, l111_0, 7), (7, l111_7, 10), (10, l111_10, 11)]
-- NoticeShiftsModel.lay
def l112_0 : List Ent := [(0, .aload_n 0, 0, 0, 0, 0), (1, .iload_n 1, 0, 0, 0, 0), (2, .invokevirtual 71, 105, 2, 1, 7)]
def l112_5 : List Ent := [(5, .ifCond .eq 41, 46, 0, 0, 0), (8, .iconst 0, 0, 0, 0, 0), (9, .istore_n 2, 0, 0, 0, 0)]
def l112_10 : List Ent := [(10, .iload_n 2, 0, 0, 0, 0), (11, .bipush 121, 0, 0, 0, 0), (13, .if_icmp .ge 30, 43, 0, 0, 0), (16, .aload_n 0, 0, 0, 0, 0), (17, .getfield 27, 7, 7, 8, 0), (20, .iload_n 2, 0, 0, 0, 0), (21, .aload_n 0, 0, 0, 0, 0), (22, .getfield 7, 7, 0, 3, 0), (25, .sipush 230, 0, 0, 0, 0), (28, .bipush 121, 0, 0, 0, 0), (30, .iload_n 1, 0, 0, 0, 0), (31, .imul, 0, 0, 0, 0), (32, .iadd, 0, 0, 0, 0), (33, .iload_n 2, 0, 0, 0, 0), (34, .iadd, 0, 0, 0, 0), (35, .iaload, 0, 0, 0, 0), (36, .iastore, 0, 0, 0, 0), (37, .iinc 2 1, 0, 0, 0, 0), (40, .goto (-30), 10, 0, 0, 0)]
def l112_43 : List Ent := [(43, .goto 8, 51, 0, 0, 0)]
def l112_46 : List Ent := [(46, .aload_n 0, 0, 0, 0, 0), (47, .iload_n 1, 0, 0, 0, 0), (48, .invokevirtual 75, 111, 2, 0, 7)]
def l112_51 : List Ent := [(51, .return_, 0, 0, 0, 0)]
def bk112 : List Blk := [(0, l112_0, 5), (5, l112_5, 10), (10, l112_10, 43), (43, l112_43, 46), (46, l112_46, 51), (51, l112_51, 52)]
-- NoticeShiftsModel.isOld
def l113_0 : List Ent := [(0, .iconst 0, 0, 0, 0, 0), (1, .istore_n 2, 0, 0, 0, 0), (2, .aload_n 0, 0, 0, 0, 0), (3, .iload_n 1, 0, 0, 0, 0), (4, .invokevirtual 75, 111, 2, 0, 7)]
def l113_7 : List Ent := [(7, .iconst 0, 0, 0, 0, 0), (8, .istore_n 3, 0, 0, 0, 0)]
def l113_9 : List Ent := [(9, .iload_n 3, 0, 0, 0, 0), (10, .bipush 121, 0, 0, 0, 0), (12, .if_icmp .ge 51, 63, 0, 0, 0), (15, .iload_n 2, 0, 0, 0, 0), (16, .ifCond .ne 35, 51, 0, 0, 0), (19, .aload_n 0, 0, 0, 0, 0), (20, .iload_n 1, 0, 0, 0, 0), (21, .invokevirtual 71, 105, 2, 1, 7)]
def l113_24 : List Ent := [(24, .ifCond .eq 31, 55, 0, 0, 0), (27, .aload_n 0, 0, 0, 0, 0), (28, .getfield 27, 7, 7, 8, 0), (31, .iload_n 3, 0, 0, 0, 0), (32, .iaload, 0, 0, 0, 0), (33, .aload_n 0, 0, 0, 0, 0), (34, .getfield 7, 7, 0, 3, 0), (37, .sipush 230, 0, 0, 0, 0), (40, .bipush 121, 0, 0, 0, 0), (42, .iload_n 1, 0, 0, 0, 0), (43, .imul, 0, 0, 0, 0), (44, .iadd, 0, 0, 0, 0), (45, .iload_n 3, 0, 0, 0, 0), (46, .iadd, 0, 0, 0, 0), (47, .iaload, 0, 0, 0, 0), (48, .if_icmp .eq 7, 55, 0, 0, 0)]
def l113_51 : List Ent := [(51, .iconst 1, 0, 0, 0, 0), (52, .goto 4, 56, 0, 0, 0)]
def l113_55 : List Ent := [(55, .iconst 0, 0, 0, 0, 0)]
def l113_56 : List Ent := [(56, .istore_n 2, 0, 0, 0, 0), (57, .iinc 3 1, 0, 0, 0, 0), (60, .goto (-51), 9, 0, 0, 0)]
def l113_63 : List Ent := [(63, .iload_n 2, 0, 0, 0, 0), (64, .ireturn, 1, 0, 0, 0)]
def bk113 : List Blk := [(0, l113_0, 7), (7, l113_7, 9), (9, l113_9, 24), (24, l113_24, 51), (51, l113_51, 55), (55, l113_55, 56), (56, l113_56, 63), (63, l113_63, 65)]
-- NoticeShiftsModel.seconds
def l114_0 : List Ent := [(0, .iconst 0, 0, 0, 0, 0), (1, .istore_n 2, 0, 0, 0, 0), (2, .iconst 0, 0, 0, 0, 0), (3, .istore_n 3, 0, 0, 0, 0)]
def l114_4 : List Ent := [(4, .iload_n 3, 0, 0, 0, 0), (5, .aload_n 0, 0, 0, 0, 0), (6, .getfield 27, 7, 7, 8, 0), (9, .iconst 0, 0, 0, 0, 0), (10, .iaload, 0, 0, 0, 0), (11, .if_icmp .ge 41, 52, 0, 0, 0), (14, .iload_n 2, 0, 0, 0, 0), (15, .aload_n 0, 0, 0, 0, 0), (16, .getfield 27, 7, 7, 8, 0), (19, .iconst 5, 0, 0, 0, 0), (20, .iload_n 3, 0, 0, 0, 0), (21, .imul, 0, 0, 0, 0), (22, .iconst 2, 0, 0, 0, 0), (23, .iadd, 0, 0, 0, 0), (24, .iaload, 0, 0, 0, 0), (25, .iload_n 1, 0, 0, 0, 0), (26, .ifCond .eq 16, 42, 0, 0, 0), (29, .aload_n 0, 0, 0, 0, 0), (30, .getfield 27, 7, 7, 8, 0), (33, .iconst 5, 0, 0, 0, 0), (34, .iload_n 3, 0, 0, 0, 0), (35, .imul, 0, 0, 0, 0), (36, .iconst 4, 0, 0, 0, 0), (37, .iadd, 0, 0, 0, 0), (38, .iaload, 0, 0, 0, 0), (39, .goto 4, 43, 0, 0, 0)]
def l114_42 : List Ent := [(42, .iconst 0, 0, 0, 0, 0)]
def l114_43 : List Ent := [(43, .iadd, 0, 0, 0, 0), (44, .iadd, 0, 0, 0, 0), (45, .istore_n 2, 0, 0, 0, 0), (46, .iinc 3 1, 0, 0, 0, 0), (49, .goto (-45), 4, 0, 0, 0)]
def l114_52 : List Ent := [(52, .iload_n 2, 0, 0, 0, 0), (53, .ireturn, 0, 0, 0, 0)]
def bk114 : List Blk := [(0, l114_0, 4), (4, l114_4, 42), (42, l114_42, 43), (43, l114_43, 52), (52, l114_52, 54)]
-- NoticeShiftsModel.notices
def l115_0 : List Ent := [(0, .iconst 0, 0, 0, 0, 0), (1, .istore_n 1, 0, 0, 0, 0), (2, .iconst 0, 0, 0, 0, 0), (3, .istore_n 2, 0, 0, 0, 0)]
def l115_4 : List Ent := [(4, .iload_n 2, 0, 0, 0, 0), (5, .aload_n 0, 0, 0, 0, 0), (6, .getfield 27, 7, 7, 8, 0), (9, .iconst 0, 0, 0, 0, 0), (10, .iaload, 0, 0, 0, 0), (11, .if_icmp .ge 32, 43, 0, 0, 0), (14, .iload_n 1, 0, 0, 0, 0), (15, .aload_n 0, 0, 0, 0, 0), (16, .getfield 27, 7, 7, 8, 0), (19, .iconst 5, 0, 0, 0, 0), (20, .iload_n 2, 0, 0, 0, 0), (21, .imul, 0, 0, 0, 0), (22, .iconst 1, 0, 0, 0, 0), (23, .iadd, 0, 0, 0, 0), (24, .iaload, 0, 0, 0, 0), (25, .bipush (-6), 0, 0, 0, 0), (27, .if_icmp .ne 7, 34, 0, 0, 0), (30, .iconst 0, 0, 0, 0, 0), (31, .goto 4, 35, 0, 0, 0)]
def l115_34 : List Ent := [(34, .iconst 1, 0, 0, 0, 0)]
def l115_35 : List Ent := [(35, .iadd, 0, 0, 0, 0), (36, .istore_n 1, 0, 0, 0, 0), (37, .iinc 2 1, 0, 0, 0, 0), (40, .goto (-36), 4, 0, 0, 0)]
def l115_43 : List Ent := [(43, .iload_n 1, 0, 0, 0, 0), (44, .ireturn, 0, 0, 0, 0)]
def bk115 : List Blk := [(0, l115_0, 4), (4, l115_4, 34), (34, l115_34, 35), (35, l115_35, 43), (43, l115_43, 45)]
-- NoticeShiftsModel.hasHeard
def l116_0 : List Ent := [(0, .iconst 0, 0, 0, 0, 0), (1, .istore_n 2, 0, 0, 0, 0), (2, .iconst 0, 0, 0, 0, 0), (3, .istore_n 3, 0, 0, 0, 0)]
def l116_4 : List Ent := [(4, .iload_n 3, 0, 0, 0, 0), (5, .aload_n 0, 0, 0, 0, 0), (6, .getfield 27, 7, 7, 8, 0), (9, .iconst 0, 0, 0, 0, 0), (10, .iaload, 0, 0, 0, 0), (11, .if_icmp .ge 33, 44, 0, 0, 0), (14, .iload_n 2, 0, 0, 0, 0), (15, .ifCond .ne 17, 32, 0, 0, 0), (18, .aload_n 0, 0, 0, 0, 0), (19, .getfield 27, 7, 7, 8, 0), (22, .iconst 5, 0, 0, 0, 0), (23, .iload_n 3, 0, 0, 0, 0), (24, .imul, 0, 0, 0, 0), (25, .iconst 1, 0, 0, 0, 0), (26, .iadd, 0, 0, 0, 0), (27, .iaload, 0, 0, 0, 0), (28, .iload_n 1, 0, 0, 0, 0), (29, .if_icmp .ne 7, 36, 0, 0, 0)]
def l116_32 : List Ent := [(32, .iconst 1, 0, 0, 0, 0), (33, .goto 4, 37, 0, 0, 0)]
def l116_36 : List Ent := [(36, .iconst 0, 0, 0, 0, 0)]
def l116_37 : List Ent := [(37, .istore_n 2, 0, 0, 0, 0), (38, .iinc 3 1, 0, 0, 0, 0), (41, .goto (-37), 4, 0, 0, 0)]
def l116_44 : List Ent := [(44, .iload_n 2, 0, 0, 0, 0), (45, .ireturn, 1, 0, 0, 0)]
def bk116 : List Blk := [(0, l116_0, 4), (4, l116_4, 32), (32, l116_32, 36), (36, l116_36, 37), (37, l116_37, 44), (44, l116_44, 46)]
-- NoticeShiftsModel.exchange
def l117_0 : List Ent := [(0, .iconst 0, 0, 0, 0, 0), (1, .istore_n 3, 0, 0, 0, 0)]
def l117_2 : List Ent := [(2, .iload_n 3, 0, 0, 0, 0), (3, .iload_n 2, 0, 0, 0, 0), (4, .if_icmp .ge 49, 53, 0, 0, 0), (7, .aload_n 0, 0, 0, 0, 0), (8, .getfield 7, 7, 0, 3, 0), (11, .iload_n 1, 0, 0, 0, 0), (12, .iload_n 3, 0, 0, 0, 0), (13, .iadd, 0, 0, 0, 0), (14, .iaload, 0, 0, 0, 0), (15, .istore 4, 0, 0, 0, 0), (17, .aload_n 0, 0, 0, 0, 0), (18, .getfield 7, 7, 0, 3, 0), (21, .iload_n 1, 0, 0, 0, 0), (22, .iload_n 3, 0, 0, 0, 0), (23, .iadd, 0, 0, 0, 0), (24, .aload_n 0, 0, 0, 0, 0), (25, .getfield 7, 7, 0, 3, 0), (28, .iload_n 1, 0, 0, 0, 0), (29, .iload_n 2, 0, 0, 0, 0), (30, .iadd, 0, 0, 0, 0), (31, .iload_n 3, 0, 0, 0, 0), (32, .iadd, 0, 0, 0, 0), (33, .iaload, 0, 0, 0, 0), (34, .iastore, 0, 0, 0, 0), (35, .aload_n 0, 0, 0, 0, 0), (36, .getfield 7, 7, 0, 3, 0), (39, .iload_n 1, 0, 0, 0, 0), (40, .iload_n 2, 0, 0, 0, 0), (41, .iadd, 0, 0, 0, 0), (42, .iload_n 3, 0, 0, 0, 0), (43, .iadd, 0, 0, 0, 0), (44, .iload 4, 0, 0, 0, 0), (46, .iastore, 0, 0, 0, 0), (47, .iinc 3 1, 0, 0, 0, 0), (50, .goto (-48), 2, 0, 0, 0)]
def l117_53 : List Ent := [(53, .return_, 0, 0, 0, 0)]
def bk117 : List Blk := [(0, l117_0, 2), (2, l117_2, 53), (53, l117_53, 54)]
-- NoticeShiftsModel.exchangeSentences
def l118_0 : List Ent := [(0, .aload_n 0, 0, 0, 0, 0), (1, .iconst 4, 0, 0, 0, 0), (2, .iconst 3, 0, 0, 0, 0), (3, .iload_n 1, 0, 0, 0, 0), (4, .imul, 0, 0, 0, 0), (5, .iadd, 0, 0, 0, 0), (6, .iconst 3, 0, 0, 0, 0), (7, .invokevirtual 79, 117, 3, 0, 7)]
def l118_10 : List Ent := [(10, .aload_n 0, 0, 0, 0, 0), (11, .bipush 76, 0, 0, 0, 0), (13, .iconst 5, 0, 0, 0, 0), (14, .iload_n 1, 0, 0, 0, 0), (15, .imul, 0, 0, 0, 0), (16, .iadd, 0, 0, 0, 0), (17, .iconst 5, 0, 0, 0, 0), (18, .invokevirtual 79, 117, 3, 0, 7)]
def l118_21 : List Ent := [(21, .return_, 0, 0, 0, 0)]
def bk118 : List Blk := [(0, l118_0, 10), (10, l118_10, 21), (21, l118_21, 22)]
-- NoticeShiftsModel.clearSentence
def l119_0 : List Ent := [(0, .iconst 0, 0, 0, 0, 0), (1, .istore_n 2, 0, 0, 0, 0)]
def l119_2 : List Ent := [(2, .iload_n 2, 0, 0, 0, 0), (3, .iconst 3, 0, 0, 0, 0), (4, .if_icmp .ge 22, 26, 0, 0, 0), (7, .aload_n 0, 0, 0, 0, 0), (8, .getfield 7, 7, 0, 3, 0), (11, .iconst 4, 0, 0, 0, 0), (12, .iconst 3, 0, 0, 0, 0), (13, .iload_n 1, 0, 0, 0, 0), (14, .imul, 0, 0, 0, 0), (15, .iadd, 0, 0, 0, 0), (16, .iload_n 2, 0, 0, 0, 0), (17, .iadd, 0, 0, 0, 0), (18, .iconst 0, 0, 0, 0, 0), (19, .iastore, 0, 0, 0, 0), (20, .iinc 2 1, 0, 0, 0, 0), (23, .goto (-21), 2, 0, 0, 0)]
def l119_26 : List Ent := [(26, .iconst 0, 0, 0, 0, 0), (27, .istore_n 2, 0, 0, 0, 0)]
def l119_28 : List Ent := [(28, .iload_n 2, 0, 0, 0, 0), (29, .iconst 5, 0, 0, 0, 0), (30, .if_icmp .ge 23, 53, 0, 0, 0), (33, .aload_n 0, 0, 0, 0, 0), (34, .getfield 7, 7, 0, 3, 0), (37, .bipush 76, 0, 0, 0, 0), (39, .iconst 5, 0, 0, 0, 0), (40, .iload_n 1, 0, 0, 0, 0), (41, .imul, 0, 0, 0, 0), (42, .iadd, 0, 0, 0, 0), (43, .iload_n 2, 0, 0, 0, 0), (44, .iadd, 0, 0, 0, 0), (45, .iconst 0, 0, 0, 0, 0), (46, .iastore, 0, 0, 0, 0), (47, .iinc 2 1, 0, 0, 0, 0), (50, .goto (-22), 28, 0, 0, 0)]
def l119_53 : List Ent := [(53, .return_, 0, 0, 0, 0)]
def bk119 : List Blk := [(0, l119_0, 2), (2, l119_2, 26), (26, l119_26, 28), (28, l119_28, 53), (53, l119_53, 54)]
-- NoticeShiftsModel.putIn
def l120_0 : List Ent := [(0, .iload_n 1, 0, 0, 0, 0), (1, .iconst 0, 0, 0, 0, 0), (2, .aload_n 0, 0, 0, 0, 0), (3, .getfield 7, 7, 0, 3, 0), (6, .iconst 0, 0, 0, 0, 0), (7, .iaload, 0, 0, 0, 0), (8, .invokestatic 37, 94, 3, 1, 0)]
def l120_11 : List Ent := [(11, .ifCond .ne 5, 16, 0, 0, 0), (14, .iconst (-1), 0, 0, 0, 0), (15, .ireturn, 0, 0, 0, 0)]
def l120_16 : List Ent := [(16, .iload_n 2, 0, 0, 0, 0), (17, .iconst 1, 0, 0, 0, 0), (18, .sipush 300, 0, 0, 0, 0), (21, .invokestatic 37, 94, 3, 1, 0)]
def l120_24 : List Ent := [(24, .ifCond .ne 6, 30, 0, 0, 0), (27, .bipush (-2), 0, 0, 0, 0), (29, .ireturn, 0, 0, 0, 0)]
def l120_30 : List Ent := [(30, .aload_n 0, 0, 0, 0, 0), (31, .getfield 7, 7, 0, 3, 0), (34, .iconst 0, 0, 0, 0, 0), (35, .iaload, 0, 0, 0, 0), (36, .bipush 24, 0, 0, 0, 0), (38, .if_icmp .eq 14, 52, 0, 0, 0), (41, .aload_n 0, 0, 0, 0, 0), (42, .getfield 7, 7, 0, 3, 0), (45, .iconst 1, 0, 0, 0, 0), (46, .iaload, 0, 0, 0, 0), (47, .bipush 100, 0, 0, 0, 0), (49, .if_icmp .ne 6, 55, 0, 0, 0)]
def l120_52 : List Ent := [(52, .bipush (-4), 0, 0, 0, 0), (54, .ireturn, 0, 0, 0, 0)]
def l120_55 : List Ent := [(55, .aload_n 0, 0, 0, 0, 0), (56, .invokevirtual 41, 106, 1, 0, 7)]
def l120_59 : List Ent := [(59, .aload_n 0, 0, 0, 0, 0), (60, .getfield 7, 7, 0, 3, 0), (63, .iconst 0, 0, 0, 0, 0), (64, .iaload, 0, 0, 0, 0), (65, .istore_n 3, 0, 0, 0, 0), (66, .aload_n 0, 0, 0, 0, 0), (67, .iload_n 3, 0, 0, 0, 0), (68, .invokevirtual 82, 119, 2, 0, 7)]
def l120_71 : List Ent := [(71, .aload_n 0, 0, 0, 0, 0), (72, .getfield 7, 7, 0, 3, 0), (75, .iconst 4, 0, 0, 0, 0), (76, .iconst 3, 0, 0, 0, 0), (77, .iload_n 3, 0, 0, 0, 0), (78, .imul, 0, 0, 0, 0), (79, .iadd, 0, 0, 0, 0), (80, .aload_n 0, 0, 0, 0, 0), (81, .getfield 7, 7, 0, 3, 0), (84, .iconst 1, 0, 0, 0, 0), (85, .iaload, 0, 0, 0, 0), (86, .iastore, 0, 0, 0, 0), (87, .aload_n 0, 0, 0, 0, 0), (88, .getfield 7, 7, 0, 3, 0), (91, .iconst 4, 0, 0, 0, 0), (92, .iconst 3, 0, 0, 0, 0), (93, .iload_n 3, 0, 0, 0, 0), (94, .imul, 0, 0, 0, 0), (95, .iadd, 0, 0, 0, 0), (96, .iconst 1, 0, 0, 0, 0), (97, .iadd, 0, 0, 0, 0), (98, .iload_n 2, 0, 0, 0, 0), (99, .iastore, 0, 0, 0, 0), (100, .aload_n 0, 0, 0, 0, 0), (101, .getfield 7, 7, 0, 3, 0), (104, .iconst 4, 0, 0, 0, 0), (105, .iconst 3, 0, 0, 0, 0), (106, .iload_n 3, 0, 0, 0, 0), (107, .imul, 0, 0, 0, 0), (108, .iadd, 0, 0, 0, 0), (109, .iconst 2, 0, 0, 0, 0), (110, .iadd, 0, 0, 0, 0), (111, .iload_n 1, 0, 0, 0, 0), (112, .ifCond .ne 7, 119, 0, 0, 0), (115, .iconst 1, 0, 0, 0, 0), (116, .goto 4, 120, 0, 0, 0)]
def l120_119 : List Ent := [(119, .iconst 0, 0, 0, 0, 0)]
def l120_120 : List Ent := [(120, .iastore, 0, 0, 0, 0), (121, .aload_n 0, 0, 0, 0, 0), (122, .getfield 7, 7, 0, 3, 0), (125, .iconst 0, 0, 0, 0, 0), (126, .dup2, 0, 0, 0, 0), (127, .iaload, 0, 0, 0, 0), (128, .iconst 1, 0, 0, 0, 0), (129, .iadd, 0, 0, 0, 0), (130, .iastore, 0, 0, 0, 0), (131, .aload_n 0, 0, 0, 0, 0), (132, .getfield 7, 7, 0, 3, 0), (135, .iconst 1, 0, 0, 0, 0), (136, .dup2, 0, 0, 0, 0), (137, .iaload, 0, 0, 0, 0), (138, .iconst 1, 0, 0, 0, 0), (139, .iadd, 0, 0, 0, 0), (140, .iastore, 0, 0, 0, 0), (141, .iload_n 3, 0, 0, 0, 0), (142, .iconst 1, 0, 0, 0, 0), (143, .isub, 0, 0, 0, 0), (144, .istore 4, 0, 0, 0, 0)]
def l120_146 : List Ent := [(146, .iload 4, 0, 0, 0, 0), (148, .iload_n 1, 0, 0, 0, 0), (149, .if_icmp .lt 15, 164, 0, 0, 0), (152, .aload_n 0, 0, 0, 0, 0), (153, .iload 4, 0, 0, 0, 0), (155, .invokevirtual 85, 118, 2, 0, 7)]
def l120_158 : List Ent := [(158, .iinc 4 (-1), 0, 0, 0, 0), (161, .goto (-15), 146, 0, 0, 0)]
def l120_164 : List Ent := [(164, .aload_n 0, 0, 0, 0, 0), (165, .iload_n 1, 0, 0, 0, 0), (166, .iconst 0, 0, 0, 0, 0), (167, .invokevirtual 61, 98, 3, 1, 7)]
def l120_170 : List Ent := [(170, .ireturn, 0, 0, 0, 0)]
def bk120 : List Blk := [(0, l120_0, 11), (11, l120_11, 16), (16, l120_16, 24), (24, l120_24, 30), (30, l120_30, 52), (52, l120_52, 55), (55, l120_55, 59), (59, l120_59, 71), (71, l120_71, 119), (119, l120_119, 120), (120, l120_120, 146), (146, l120_146, 158), (158, l120_158, 164), (164, l120_164, 170), (170, l120_170, 171)]
-- NoticeShiftsModel.cutOut
def l121_0 : List Ent := [(0, .aload_n 0, 0, 0, 0, 0), (1, .iload_n 1, 0, 0, 0, 0), (2, .invokevirtual 88, 95, 2, 1, 7)]
def l121_5 : List Ent := [(5, .ifCond .ne 5, 10, 0, 0, 0), (8, .iconst (-1), 0, 0, 0, 0), (9, .ireturn, 0, 0, 0, 0)]
def l121_10 : List Ent := [(10, .aload_n 0, 0, 0, 0, 0), (11, .getfield 7, 7, 0, 3, 0), (14, .iconst 0, 0, 0, 0, 0), (15, .iaload, 0, 0, 0, 0), (16, .iconst 1, 0, 0, 0, 0), (17, .if_icmp .ne 6, 23, 0, 0, 0), (20, .bipush (-5), 0, 0, 0, 0), (22, .ireturn, 0, 0, 0, 0)]
def l121_23 : List Ent := [(23, .aload_n 0, 0, 0, 0, 0), (24, .invokevirtual 41, 106, 1, 0, 7)]
def l121_27 : List Ent := [(27, .aload_n 0, 0, 0, 0, 0), (28, .iload_n 1, 0, 0, 0, 0), (29, .iconst 0, 0, 0, 0, 0), (30, .invokevirtual 61, 98, 3, 1, 7)]
def l121_33 : List Ent := [(33, .istore_n 2, 0, 0, 0, 0), (34, .iload_n 1, 0, 0, 0, 0), (35, .istore_n 3, 0, 0, 0, 0)]
def l121_36 : List Ent := [(36, .iload_n 3, 0, 0, 0, 0), (37, .iconst 1, 0, 0, 0, 0), (38, .iadd, 0, 0, 0, 0), (39, .aload_n 0, 0, 0, 0, 0), (40, .getfield 7, 7, 0, 3, 0), (43, .iconst 0, 0, 0, 0, 0), (44, .iaload, 0, 0, 0, 0), (45, .if_icmp .ge 14, 59, 0, 0, 0), (48, .aload_n 0, 0, 0, 0, 0), (49, .iload_n 3, 0, 0, 0, 0), (50, .invokevirtual 85, 118, 2, 0, 7)]
def l121_53 : List Ent := [(53, .iinc 3 1, 0, 0, 0, 0), (56, .goto (-20), 36, 0, 0, 0)]
def l121_59 : List Ent := [(59, .aload_n 0, 0, 0, 0, 0), (60, .getfield 7, 7, 0, 3, 0), (63, .iconst 0, 0, 0, 0, 0), (64, .dup2, 0, 0, 0, 0), (65, .iaload, 0, 0, 0, 0), (66, .iconst 1, 0, 0, 0, 0), (67, .isub, 0, 0, 0, 0), (68, .iastore, 0, 0, 0, 0), (69, .aload_n 0, 0, 0, 0, 0), (70, .aload_n 0, 0, 0, 0, 0), (71, .getfield 7, 7, 0, 3, 0), (74, .iconst 0, 0, 0, 0, 0), (75, .iaload, 0, 0, 0, 0), (76, .invokevirtual 82, 119, 2, 0, 7)]
def l121_79 : List Ent := [(79, .aload_n 0, 0, 0, 0, 0), (80, .getfield 7, 7, 0, 3, 0), (83, .bipush 6, 0, 0, 0, 0), (85, .iconst 1, 0, 0, 0, 0), (86, .iastore, 0, 0, 0, 0), (87, .iload_n 2, 0, 0, 0, 0), (88, .ireturn, 0, 0, 0, 0)]
def bk121 : List Blk := [(0, l121_0, 5), (5, l121_5, 10), (10, l121_10, 23), (23, l121_23, 27), (27, l121_27, 33), (33, l121_33, 36), (36, l121_36, 53), (53, l121_53, 59), (59, l121_59, 79), (79, l121_79, 89)]
-- NoticeShiftsModel.change
def l122_0 : List Ent := [(0, .aload_n 0, 0, 0, 0, 0), (1, .iload_n 1, 0, 0, 0, 0), (2, .invokevirtual 88, 95, 2, 1, 7)]
def l122_5 : List Ent := [(5, .ifCond .ne 5, 10, 0, 0, 0), (8, .iconst (-1), 0, 0, 0, 0), (9, .ireturn, 0, 0, 0, 0)]
def l122_10 : List Ent := [(10, .iload_n 2, 0, 0, 0, 0), (11, .iconst 1, 0, 0, 0, 0), (12, .sipush 300, 0, 0, 0, 0), (15, .invokestatic 37, 94, 3, 1, 0)]
def l122_18 : List Ent := [(18, .ifCond .ne 6, 24, 0, 0, 0), (21, .bipush (-2), 0, 0, 0, 0), (23, .ireturn, 0, 0, 0, 0)]
def l122_24 : List Ent := [(24, .aload_n 0, 0, 0, 0, 0), (25, .invokevirtual 41, 106, 1, 0, 7)]
def l122_28 : List Ent := [(28, .aload_n 0, 0, 0, 0, 0), (29, .iload_n 1, 0, 0, 0, 0), (30, .iconst 1, 0, 0, 0, 0), (31, .invokevirtual 61, 98, 3, 1, 7)]
def l122_34 : List Ent := [(34, .istore_n 3, 0, 0, 0, 0), (35, .aload_n 0, 0, 0, 0, 0), (36, .getfield 7, 7, 0, 3, 0), (39, .iconst 4, 0, 0, 0, 0), (40, .iconst 3, 0, 0, 0, 0), (41, .iload_n 1, 0, 0, 0, 0), (42, .imul, 0, 0, 0, 0), (43, .iadd, 0, 0, 0, 0), (44, .iconst 1, 0, 0, 0, 0), (45, .iadd, 0, 0, 0, 0), (46, .iload_n 2, 0, 0, 0, 0), (47, .iastore, 0, 0, 0, 0), (48, .iload_n 3, 0, 0, 0, 0), (49, .ireturn, 0, 0, 0, 0)]
def bk122 : List Blk := [(0, l122_0, 5), (5, l122_5, 10), (10, l122_10, 18), (18, l122_18, 24), (24, l122_24, 28), (28, l122_28, 34), (34, l122_34, 50)]
-- NoticeShiftsModel.chapters
def l123_0 : List Ent := [(0, .iconst 0, 0, 0, 0, 0), (1, .istore_n 1, 0, 0, 0, 0), (2, .iconst 0, 0, 0, 0, 0), (3, .istore_n 2, 0, 0, 0, 0)]
def l123_4 : List Ent := [(4, .iload_n 2, 0, 0, 0, 0), (5, .aload_n 0, 0, 0, 0, 0), (6, .getfield 7, 7, 0, 3, 0), (9, .iconst 0, 0, 0, 0, 0), (10, .iaload, 0, 0, 0, 0), (11, .if_icmp .ge 18, 29, 0, 0, 0), (14, .iload_n 1, 0, 0, 0, 0), (15, .aload_n 0, 0, 0, 0, 0), (16, .iload_n 2, 0, 0, 0, 0), (17, .iconst 2, 0, 0, 0, 0), (18, .invokevirtual 61, 98, 3, 1, 7)]
def l123_21 : List Ent := [(21, .iadd, 0, 0, 0, 0), (22, .istore_n 1, 0, 0, 0, 0), (23, .iinc 2 1, 0, 0, 0, 0), (26, .goto (-22), 4, 0, 0, 0)]
def l123_29 : List Ent := [(29, .iload_n 1, 0, 0, 0, 0), (30, .ireturn, 0, 0, 0, 0)]
def bk123 : List Blk := [(0, l123_0, 4), (4, l123_4, 21), (21, l123_21, 29), (29, l123_29, 31)]
-- NoticeShiftsModel.chapter
def l124_0 : List Ent := [(0, .aload_n 0, 0, 0, 0, 0), (1, .iload_n 1, 0, 0, 0, 0), (2, .invokevirtual 88, 95, 2, 1, 7)]
def l124_5 : List Ent := [(5, .ifCond .ne 5, 10, 0, 0, 0), (8, .iconst (-1), 0, 0, 0, 0), (9, .ireturn, 0, 0, 0, 0)]
def l124_10 : List Ent := [(10, .iload_n 1, 0, 0, 0, 0), (11, .ifCond .eq 22, 33, 0, 0, 0), (14, .aload_n 0, 0, 0, 0, 0), (15, .iload_n 1, 0, 0, 0, 0), (16, .iconst 2, 0, 0, 0, 0), (17, .invokevirtual 61, 98, 3, 1, 7)]
def l124_20 : List Ent := [(20, .iconst 1, 0, 0, 0, 0), (21, .if_icmp .ne 7, 28, 0, 0, 0), (24, .iconst 1, 0, 0, 0, 0), (25, .goto 4, 29, 0, 0, 0)]
def l124_28 : List Ent := [(28, .iconst 0, 0, 0, 0, 0)]
def l124_29 : List Ent := [(29, .iload_n 2, 0, 0, 0, 0), (30, .if_icmp .ne 6, 36, 0, 0, 0)]
def l124_33 : List Ent := [(33, .bipush (-5), 0, 0, 0, 0), (35, .ireturn, 0, 0, 0, 0)]
def l124_36 : List Ent := [(36, .aload_n 0, 0, 0, 0, 0), (37, .invokevirtual 41, 106, 1, 0, 7)]
def l124_40 : List Ent := [(40, .aload_n 0, 0, 0, 0, 0), (41, .getfield 7, 7, 0, 3, 0), (44, .iconst 4, 0, 0, 0, 0), (45, .iconst 3, 0, 0, 0, 0), (46, .iload_n 1, 0, 0, 0, 0), (47, .imul, 0, 0, 0, 0), (48, .iadd, 0, 0, 0, 0), (49, .iconst 2, 0, 0, 0, 0), (50, .iadd, 0, 0, 0, 0), (51, .iload_n 2, 0, 0, 0, 0), (52, .ifCond .eq 7, 59, 0, 0, 0), (55, .iconst 1, 0, 0, 0, 0), (56, .goto 4, 60, 0, 0, 0)]
def l124_59 : List Ent := [(59, .iconst 0, 0, 0, 0, 0)]
def l124_60 : List Ent := [(60, .iastore, 0, 0, 0, 0), (61, .aload_n 0, 0, 0, 0, 0), (62, .invokevirtual 91, 123, 1, 1, 7)]
def l124_65 : List Ent := [(65, .ireturn, 0, 0, 0, 0)]
def bk124 : List Blk := [(0, l124_0, 5), (5, l124_5, 10), (10, l124_10, 20), (20, l124_20, 28), (28, l124_28, 29), (29, l124_29, 33), (33, l124_33, 36), (36, l124_36, 40), (40, l124_40, 59), (59, l124_59, 60), (60, l124_60, 65), (65, l124_65, 66)]
-- NoticeShiftsModel.notice
def l125_0 : List Ent := [(0, .iload_n 1, 0, 0, 0, 0), (1, .iconst 1, 0, 0, 0, 0), (2, .bipush 120, 0, 0, 0, 0), (4, .invokestatic 37, 94, 3, 1, 0)]
def l125_7 : List Ent := [(7, .ifCond .eq 13, 20, 0, 0, 0), (10, .iload_n 2, 0, 0, 0, 0), (11, .iconst 1, 0, 0, 0, 0), (12, .bipush 63, 0, 0, 0, 0), (14, .invokestatic 37, 94, 3, 1, 0)]
def l125_17 : List Ent := [(17, .ifCond .ne 6, 23, 0, 0, 0)]
def l125_20 : List Ent := [(20, .bipush (-2), 0, 0, 0, 0), (22, .ireturn, 0, 0, 0, 0)]
def l125_23 : List Ent := [(23, .aload_n 0, 0, 0, 0, 0), (24, .getfield 7, 7, 0, 3, 0), (27, .iconst 2, 0, 0, 0, 0), (28, .iaload, 0, 0, 0, 0), (29, .bipush 8, 0, 0, 0, 0), (31, .if_icmp .ne 6, 37, 0, 0, 0), (34, .bipush (-4), 0, 0, 0, 0), (36, .ireturn, 0, 0, 0, 0)]
def l125_37 : List Ent := [(37, .aload_n 0, 0, 0, 0, 0), (38, .invokevirtual 41, 106, 1, 0, 7)]
def l125_41 : List Ent := [(41, .aload_n 0, 0, 0, 0, 0), (42, .getfield 7, 7, 0, 3, 0), (45, .sipush 196, 0, 0, 0, 0), (48, .iconst 2, 0, 0, 0, 0), (49, .aload_n 0, 0, 0, 0, 0), (50, .getfield 7, 7, 0, 3, 0), (53, .iconst 2, 0, 0, 0, 0), (54, .iaload, 0, 0, 0, 0), (55, .imul, 0, 0, 0, 0), (56, .iadd, 0, 0, 0, 0), (57, .iload_n 1, 0, 0, 0, 0), (58, .iastore, 0, 0, 0, 0), (59, .aload_n 0, 0, 0, 0, 0), (60, .getfield 7, 7, 0, 3, 0), (63, .sipush 196, 0, 0, 0, 0), (66, .iconst 2, 0, 0, 0, 0), (67, .aload_n 0, 0, 0, 0, 0), (68, .getfield 7, 7, 0, 3, 0), (71, .iconst 2, 0, 0, 0, 0), (72, .iaload, 0, 0, 0, 0), (73, .imul, 0, 0, 0, 0), (74, .iadd, 0, 0, 0, 0), (75, .iconst 1, 0, 0, 0, 0), (76, .iadd, 0, 0, 0, 0), (77, .iload_n 2, 0, 0, 0, 0), (78, .iastore, 0, 0, 0, 0), (79, .aload_n 0, 0, 0, 0, 0), (80, .getfield 7, 7, 0, 3, 0), (83, .iconst 2, 0, 0, 0, 0), (84, .dup2, 0, 0, 0, 0), (85, .iaload, 0, 0, 0, 0), (86, .iconst 1, 0, 0, 0, 0), (87, .iadd, 0, 0, 0, 0), (88, .iastore, 0, 0, 0, 0), (89, .aload_n 0, 0, 0, 0, 0), (90, .getfield 7, 7, 0, 3, 0), (93, .iconst 2, 0, 0, 0, 0), (94, .iaload, 0, 0, 0, 0), (95, .iconst 1, 0, 0, 0, 0), (96, .isub, 0, 0, 0, 0), (97, .ireturn, 0, 0, 0, 0)]
def bk125 : List Blk := [(0, l125_0, 7), (7, l125_7, 17), (17, l125_17, 20), (20, l125_20, 23), (23, l125_23, 37), (37, l125_37, 41), (41, l125_41, 98)]
-- NoticeShiftsModel.bookIt
def l126_0 : List Ent := [(0, .aload_n 0, 0, 0, 0, 0), (1, .getfield 7, 7, 0, 3, 0), (4, .bipush 76, 0, 0, 0, 0), (6, .iconst 5, 0, 0, 0, 0), (7, .iload_n 1, 0, 0, 0, 0), (8, .imul, 0, 0, 0, 0), (9, .iadd, 0, 0, 0, 0), (10, .iconst 1, 0, 0, 0, 0), (11, .iadd, 0, 0, 0, 0), (12, .aload_n 0, 0, 0, 0, 0), (13, .iload_n 1, 0, 0, 0, 0), (14, .invokevirtual 44, 99, 2, 1, 7)]
def l126_17 : List Ent := [(17, .iadd, 0, 0, 0, 0), (18, .iload_n 2, 0, 0, 0, 0), (19, .iastore, 0, 0, 0, 0), (20, .aload_n 0, 0, 0, 0, 0), (21, .getfield 7, 7, 0, 3, 0), (24, .bipush 76, 0, 0, 0, 0), (26, .iconst 5, 0, 0, 0, 0), (27, .iload_n 1, 0, 0, 0, 0), (28, .imul, 0, 0, 0, 0), (29, .iadd, 0, 0, 0, 0), (30, .dup2, 0, 0, 0, 0), (31, .iaload, 0, 0, 0, 0), (32, .iconst 1, 0, 0, 0, 0), (33, .iadd, 0, 0, 0, 0), (34, .iastore, 0, 0, 0, 0), (35, .return_, 0, 0, 0, 0)]
def bk126 : List Blk := [(0, l126_0, 17), (17, l126_17, 36)]
-- NoticeShiftsModel.unbookLast
def l127_0 : List Ent := [(0, .aload_n 0, 0, 0, 0, 0), (1, .getfield 7, 7, 0, 3, 0), (4, .bipush 76, 0, 0, 0, 0), (6, .iconst 5, 0, 0, 0, 0), (7, .iload_n 1, 0, 0, 0, 0), (8, .imul, 0, 0, 0, 0), (9, .iadd, 0, 0, 0, 0), (10, .dup2, 0, 0, 0, 0), (11, .iaload, 0, 0, 0, 0), (12, .iconst 1, 0, 0, 0, 0), (13, .isub, 0, 0, 0, 0), (14, .iastore, 0, 0, 0, 0), (15, .aload_n 0, 0, 0, 0, 0), (16, .getfield 7, 7, 0, 3, 0), (19, .bipush 76, 0, 0, 0, 0), (21, .iconst 5, 0, 0, 0, 0), (22, .iload_n 1, 0, 0, 0, 0), (23, .imul, 0, 0, 0, 0), (24, .iadd, 0, 0, 0, 0), (25, .iconst 1, 0, 0, 0, 0), (26, .iadd, 0, 0, 0, 0), (27, .aload_n 0, 0, 0, 0, 0), (28, .iload_n 1, 0, 0, 0, 0), (29, .invokevirtual 44, 99, 2, 1, 7)]
def l127_32 : List Ent := [(32, .iadd, 0, 0, 0, 0), (33, .iconst 0, 0, 0, 0, 0), (34, .iastore, 0, 0, 0, 0), (35, .return_, 0, 0, 0, 0)]
def bk127 : List Blk := [(0, l127_0, 32), (32, l127_32, 36)]
-- NoticeShiftsModel.whyNotBook
def l128_0 : List Ent := [(0, .aload_n 0, 0, 0, 0, 0), (1, .iload_n 1, 0, 0, 0, 0), (2, .invokevirtual 88, 95, 2, 1, 7)]
def l128_5 : List Ent := [(5, .ifCond .eq 11, 16, 0, 0, 0), (8, .aload_n 0, 0, 0, 0, 0), (9, .iload_n 2, 0, 0, 0, 0), (10, .invokevirtual 95, 96, 2, 1, 7)]
def l128_13 : List Ent := [(13, .ifCond .ne 7, 20, 0, 0, 0)]
def l128_16 : List Ent := [(16, .iconst (-1), 0, 0, 0, 0), (17, .goto 18, 35, 0, 0, 0)]
def l128_20 : List Ent := [(20, .aload_n 0, 0, 0, 0, 0), (21, .iload_n 1, 0, 0, 0, 0), (22, .invokevirtual 44, 99, 2, 1, 7)]
def l128_25 : List Ent := [(25, .iconst 4, 0, 0, 0, 0), (26, .if_icmp .ne 8, 34, 0, 0, 0), (29, .bipush (-4), 0, 0, 0, 0), (31, .goto 4, 35, 0, 0, 0)]
def l128_34 : List Ent := [(34, .iconst 0, 0, 0, 0, 0)]
def l128_35 : List Ent := [(35, .ireturn, 0, 0, 0, 0)]
def bk128 : List Blk := [(0, l128_0, 5), (5, l128_5, 13), (13, l128_13, 16), (16, l128_16, 20), (20, l128_20, 25), (25, l128_25, 34), (34, l128_34, 35), (35, l128_35, 36)]
-- NoticeShiftsModel.book
def l129_0 : List Ent := [(0, .aload_n 0, 0, 0, 0, 0), (1, .iload_n 1, 0, 0, 0, 0), (2, .iload_n 2, 0, 0, 0, 0), (3, .invokevirtual 98, 128, 3, 1, 7)]
def l129_6 : List Ent := [(6, .istore_n 3, 0, 0, 0, 0), (7, .iload_n 3, 0, 0, 0, 0), (8, .ifCond .ge 5, 13, 0, 0, 0), (11, .iload_n 3, 0, 0, 0, 0), (12, .ireturn, 0, 0, 0, 0)]
def l129_13 : List Ent := [(13, .aload_n 0, 0, 0, 0, 0), (14, .invokevirtual 41, 106, 1, 0, 7)]
def l129_17 : List Ent := [(17, .aload_n 0, 0, 0, 0, 0), (18, .iload_n 1, 0, 0, 0, 0), (19, .iload_n 2, 0, 0, 0, 0), (20, .invokevirtual 101, 126, 3, 0, 7)]
def l129_23 : List Ent := [(23, .aload_n 0, 0, 0, 0, 0), (24, .iload_n 1, 0, 0, 0, 0), (25, .invokevirtual 44, 99, 2, 1, 7)]
def l129_28 : List Ent := [(28, .ireturn, 0, 0, 0, 0)]
def bk129 : List Blk := [(0, l129_0, 6), (6, l129_6, 13), (13, l129_13, 17), (17, l129_17, 23), (23, l129_23, 28), (28, l129_28, 29)]
-- NoticeShiftsModel.emptyIt
def l130_0 : List Ent := [(0, .aload_n 0, 0, 0, 0, 0), (1, .iload_n 1, 0, 0, 0, 0), (2, .invokevirtual 44, 99, 2, 1, 7)]
def l130_5 : List Ent := [(5, .istore_n 2, 0, 0, 0, 0), (6, .iconst 0, 0, 0, 0, 0), (7, .istore_n 3, 0, 0, 0, 0)]
def l130_8 : List Ent := [(8, .iload_n 3, 0, 0, 0, 0), (9, .iconst 5, 0, 0, 0, 0), (10, .if_icmp .ge 23, 33, 0, 0, 0), (13, .aload_n 0, 0, 0, 0, 0), (14, .getfield 7, 7, 0, 3, 0), (17, .bipush 76, 0, 0, 0, 0), (19, .iconst 5, 0, 0, 0, 0), (20, .iload_n 1, 0, 0, 0, 0), (21, .imul, 0, 0, 0, 0), (22, .iadd, 0, 0, 0, 0), (23, .iload_n 3, 0, 0, 0, 0), (24, .iadd, 0, 0, 0, 0), (25, .iconst 0, 0, 0, 0, 0), (26, .iastore, 0, 0, 0, 0), (27, .iinc 3 1, 0, 0, 0, 0), (30, .goto (-22), 8, 0, 0, 0)]
def l130_33 : List Ent := [(33, .iload_n 2, 0, 0, 0, 0), (34, .ireturn, 0, 0, 0, 0)]
def bk130 : List Blk := [(0, l130_0, 5), (5, l130_5, 8), (8, l130_8, 33), (33, l130_33, 35)]
-- NoticeShiftsModel.empty
def l131_0 : List Ent := [(0, .aload_n 0, 0, 0, 0, 0), (1, .iload_n 1, 0, 0, 0, 0), (2, .invokevirtual 88, 95, 2, 1, 7)]
def l131_5 : List Ent := [(5, .ifCond .ne 5, 10, 0, 0, 0), (8, .iconst (-1), 0, 0, 0, 0), (9, .ireturn, 0, 0, 0, 0)]
def l131_10 : List Ent := [(10, .aload_n 0, 0, 0, 0, 0), (11, .invokevirtual 41, 106, 1, 0, 7)]
def l131_14 : List Ent := [(14, .aload_n 0, 0, 0, 0, 0), (15, .iload_n 1, 0, 0, 0, 0), (16, .invokevirtual 104, 130, 2, 1, 7)]
def l131_19 : List Ent := [(19, .ireturn, 0, 0, 0, 0)]
def bk131 : List Blk := [(0, l131_0, 5), (5, l131_5, 10), (10, l131_10, 14), (14, l131_14, 19), (19, l131_19, 20)]
-- NoticeShiftsModel.listener
def l132_0 : List Ent := [(0, .iload_n 1, 0, 0, 0, 0), (1, .iconst 0, 0, 0, 0, 0), (2, .iconst 5, 0, 0, 0, 0), (3, .invokestatic 37, 94, 3, 1, 0)]
def l132_6 : List Ent := [(6, .ifCond .eq 14, 20, 0, 0, 0), (9, .iload_n 2, 0, 0, 0, 0), (10, .iconst 0, 0, 0, 0, 0), (11, .sipush 600, 0, 0, 0, 0), (14, .invokestatic 37, 94, 3, 1, 0)]
def l132_17 : List Ent := [(17, .ifCond .ne 6, 23, 0, 0, 0)]
def l132_20 : List Ent := [(20, .bipush (-2), 0, 0, 0, 0), (22, .ireturn, 0, 0, 0, 0)]
def l132_23 : List Ent := [(23, .aload_n 0, 0, 0, 0, 0), (24, .getfield 7, 7, 0, 3, 0), (27, .iconst 3, 0, 0, 0, 0), (28, .iaload, 0, 0, 0, 0), (29, .bipush 6, 0, 0, 0, 0), (31, .if_icmp .ne 6, 37, 0, 0, 0), (34, .bipush (-4), 0, 0, 0, 0), (36, .ireturn, 0, 0, 0, 0)]
def l132_37 : List Ent := [(37, .aload_n 0, 0, 0, 0, 0), (38, .invokevirtual 41, 106, 1, 0, 7)]
def l132_41 : List Ent := [(41, .aload_n 0, 0, 0, 0, 0), (42, .getfield 7, 7, 0, 3, 0), (45, .iconst 3, 0, 0, 0, 0), (46, .iaload, 0, 0, 0, 0), (47, .istore_n 3, 0, 0, 0, 0), (48, .aload_n 0, 0, 0, 0, 0), (49, .getfield 7, 7, 0, 3, 0), (52, .sipush 212, 0, 0, 0, 0), (55, .iconst 3, 0, 0, 0, 0), (56, .iload_n 3, 0, 0, 0, 0), (57, .imul, 0, 0, 0, 0), (58, .iadd, 0, 0, 0, 0), (59, .iload_n 1, 0, 0, 0, 0), (60, .iastore, 0, 0, 0, 0), (61, .aload_n 0, 0, 0, 0, 0), (62, .getfield 7, 7, 0, 3, 0), (65, .sipush 212, 0, 0, 0, 0), (68, .iconst 3, 0, 0, 0, 0), (69, .iload_n 3, 0, 0, 0, 0), (70, .imul, 0, 0, 0, 0), (71, .iadd, 0, 0, 0, 0), (72, .iconst 1, 0, 0, 0, 0), (73, .iadd, 0, 0, 0, 0), (74, .iload_n 2, 0, 0, 0, 0), (75, .iastore, 0, 0, 0, 0), (76, .aload_n 0, 0, 0, 0, 0), (77, .getfield 7, 7, 0, 3, 0), (80, .sipush 212, 0, 0, 0, 0), (83, .iconst 3, 0, 0, 0, 0), (84, .iload_n 3, 0, 0, 0, 0), (85, .imul, 0, 0, 0, 0), (86, .iadd, 0, 0, 0, 0), (87, .iconst 2, 0, 0, 0, 0), (88, .iadd, 0, 0, 0, 0), (89, .iconst 0, 0, 0, 0, 0), (90, .iastore, 0, 0, 0, 0), (91, .aload_n 0, 0, 0, 0, 0), (92, .getfield 7, 7, 0, 3, 0), (95, .iconst 3, 0, 0, 0, 0), (96, .dup2, 0, 0, 0, 0), (97, .iaload, 0, 0, 0, 0), (98, .iconst 1, 0, 0, 0, 0), (99, .iadd, 0, 0, 0, 0), (100, .iastore, 0, 0, 0, 0), (101, .iload_n 3, 0, 0, 0, 0), (102, .ireturn, 0, 0, 0, 0)]
def bk132 : List Blk := [(0, l132_0, 6), (6, l132_6, 17), (17, l132_17, 20), (20, l132_20, 23), (23, l132_23, 37), (37, l132_37, 41), (41, l132_41, 103)]
-- NoticeShiftsModel.load
def l133_0 : List Ent := [(0, .aload_n 0, 0, 0, 0, 0), (1, .iload_n 1, 0, 0, 0, 0), (2, .invokevirtual 107, 97, 2, 1, 7)]
def l133_5 : List Ent := [(5, .ifCond .ne 5, 10, 0, 0, 0), (8, .iconst (-1), 0, 0, 0, 0), (9, .ireturn, 0, 0, 0, 0)]
def l133_10 : List Ent := [(10, .iload_n 2, 0, 0, 0, 0), (11, .ifCond .eq 14, 25, 0, 0, 0), (14, .aload_n 0, 0, 0, 0, 0), (15, .iload_n 1, 0, 0, 0, 0), (16, .invokevirtual 71, 105, 2, 1, 7)]
def l133_19 : List Ent := [(19, .ifCond .ne 6, 25, 0, 0, 0), (22, .bipush (-5), 0, 0, 0, 0), (24, .ireturn, 0, 0, 0, 0)]
def l133_25 : List Ent := [(25, .aload_n 0, 0, 0, 0, 0), (26, .invokevirtual 41, 106, 1, 0, 7)]
def l133_29 : List Ent := [(29, .aload_n 0, 0, 0, 0, 0), (30, .iload_n 1, 0, 0, 0, 0), (31, .invokevirtual 75, 111, 2, 0, 7)]
def l133_34 : List Ent := [(34, .iconst 0, 0, 0, 0, 0), (35, .istore_n 3, 0, 0, 0, 0)]
def l133_36 : List Ent := [(36, .iload_n 3, 0, 0, 0, 0), (37, .bipush 121, 0, 0, 0, 0), (39, .if_icmp .ge 38, 77, 0, 0, 0), (42, .aload_n 0, 0, 0, 0, 0), (43, .getfield 7, 7, 0, 3, 0), (46, .sipush 230, 0, 0, 0, 0), (49, .bipush 121, 0, 0, 0, 0), (51, .iload_n 1, 0, 0, 0, 0), (52, .imul, 0, 0, 0, 0), (53, .iadd, 0, 0, 0, 0), (54, .iload_n 3, 0, 0, 0, 0), (55, .iadd, 0, 0, 0, 0), (56, .iload_n 2, 0, 0, 0, 0), (57, .ifCond .eq 7, 64, 0, 0, 0), (60, .iconst 0, 0, 0, 0, 0), (61, .goto 9, 70, 0, 0, 0)]
def l133_64 : List Ent := [(64, .aload_n 0, 0, 0, 0, 0), (65, .getfield 27, 7, 7, 8, 0), (68, .iload_n 3, 0, 0, 0, 0), (69, .iaload, 0, 0, 0, 0)]
def l133_70 : List Ent := [(70, .iastore, 0, 0, 0, 0), (71, .iinc 3 1, 0, 0, 0, 0), (74, .goto (-38), 36, 0, 0, 0)]
def l133_77 : List Ent := [(77, .aload_n 0, 0, 0, 0, 0), (78, .getfield 7, 7, 0, 3, 0), (81, .sipush 212, 0, 0, 0, 0), (84, .iconst 3, 0, 0, 0, 0), (85, .iload_n 1, 0, 0, 0, 0), (86, .imul, 0, 0, 0, 0), (87, .iadd, 0, 0, 0, 0), (88, .iconst 2, 0, 0, 0, 0), (89, .iadd, 0, 0, 0, 0), (90, .iload_n 2, 0, 0, 0, 0), (91, .ifCond .eq 7, 98, 0, 0, 0), (94, .iconst 0, 0, 0, 0, 0), (95, .goto 4, 99, 0, 0, 0)]
def l133_98 : List Ent := [(98, .iconst 1, 0, 0, 0, 0)]
def l133_99 : List Ent := [(99, .iastore, 0, 0, 0, 0), (100, .aload_n 0, 0, 0, 0, 0), (101, .iconst 1, 0, 0, 0, 0), (102, .invokevirtual 110, 114, 2, 1, 7)]
def l133_105 : List Ent := [(105, .ireturn, 0, 0, 0, 0)]
def bk133 : List Blk := [(0, l133_0, 5), (5, l133_5, 10), (10, l133_10, 19), (19, l133_19, 25), (25, l133_25, 29), (29, l133_29, 34), (34, l133_34, 36), (36, l133_36, 64), (64, l133_64, 70), (70, l133_70, 77), (77, l133_77, 98), (98, l133_98, 99), (99, l133_99, 105), (105, l133_105, 106)]
-- NoticeShiftsModel.timeOf
def l134_0 : List Ent := [(0, .iconst 0, 0, 0, 0, 0), (1, .istore_n 2, 0, 0, 0, 0), (2, .iconst 0, 0, 0, 0, 0), (3, .istore_n 3, 0, 0, 0, 0)]
def l134_4 : List Ent := [(4, .iload_n 3, 0, 0, 0, 0), (5, .iload_n 1, 0, 0, 0, 0), (6, .if_icmp .ge 18, 24, 0, 0, 0), (9, .iload_n 2, 0, 0, 0, 0), (10, .aload_n 0, 0, 0, 0, 0), (11, .iload_n 3, 0, 0, 0, 0), (12, .iconst 1, 0, 0, 0, 0), (13, .invokevirtual 61, 98, 3, 1, 7)]
def l134_16 : List Ent := [(16, .iadd, 0, 0, 0, 0), (17, .istore_n 2, 0, 0, 0, 0), (18, .iinc 3 1, 0, 0, 0, 0), (21, .goto (-17), 4, 0, 0, 0)]
def l134_24 : List Ent := [(24, .iload_n 2, 0, 0, 0, 0), (25, .ireturn, 0, 0, 0, 0)]
def bk134 : List Blk := [(0, l134_0, 4), (4, l134_4, 16), (16, l134_16, 24), (24, l134_24, 26)]
-- NoticeShiftsModel.chapterOf
def l135_0 : List Ent := [(0, .iconst (-1), 0, 0, 0, 0), (1, .istore_n 2, 0, 0, 0, 0), (2, .iconst 0, 0, 0, 0, 0), (3, .istore_n 3, 0, 0, 0, 0)]
def l135_4 : List Ent := [(4, .iload_n 3, 0, 0, 0, 0), (5, .iload_n 1, 0, 0, 0, 0), (6, .if_icmp .gt 18, 24, 0, 0, 0), (9, .iload_n 2, 0, 0, 0, 0), (10, .aload_n 0, 0, 0, 0, 0), (11, .iload_n 3, 0, 0, 0, 0), (12, .iconst 2, 0, 0, 0, 0), (13, .invokevirtual 61, 98, 3, 1, 7)]
def l135_16 : List Ent := [(16, .iadd, 0, 0, 0, 0), (17, .istore_n 2, 0, 0, 0, 0), (18, .iinc 3 1, 0, 0, 0, 0), (21, .goto (-17), 4, 0, 0, 0)]
def l135_24 : List Ent := [(24, .iload_n 2, 0, 0, 0, 0), (25, .ireturn, 0, 0, 0, 0)]
def bk135 : List Blk := [(0, l135_0, 4), (4, l135_4, 16), (16, l135_16, 24), (24, l135_24, 26)]
-- NoticeShiftsModel.sentence
def l136_0 : List Ent := [(0, .aload_n 0, 0, 0, 0, 0), (1, .iload_n 1, 0, 0, 0, 0), (2, .invokevirtual 88, 95, 2, 1, 7)]
def l136_5 : List Ent := [(5, .ifCond .ne 5, 10, 0, 0, 0), (8, .iconst (-1), 0, 0, 0, 0), (9, .ireturn, 0, 0, 0, 0)]
def l136_10 : List Ent := [(10, .iload_n 2, 0, 0, 0, 0), (11, .tableswitch 69 0 5 #[37, 37, 44, 50, 56, 63], 0, 0, 0, 0)]
def l136_48 : List Ent := [(48, .aload_n 0, 0, 0, 0, 0), (49, .iload_n 1, 0, 0, 0, 0), (50, .iload_n 2, 0, 0, 0, 0), (51, .invokevirtual 61, 98, 3, 1, 7)]
def l136_54 : List Ent := [(54, .ireturn, 0, 0, 0, 0)]
def l136_55 : List Ent := [(55, .aload_n 0, 0, 0, 0, 0), (56, .iload_n 1, 0, 0, 0, 0), (57, .invokevirtual 114, 134, 2, 1, 7)]
def l136_60 : List Ent := [(60, .ireturn, 0, 0, 0, 0)]
def l136_61 : List Ent := [(61, .aload_n 0, 0, 0, 0, 0), (62, .iload_n 1, 0, 0, 0, 0), (63, .invokevirtual 117, 135, 2, 1, 7)]
def l136_66 : List Ent := [(66, .ireturn, 0, 0, 0, 0)]
def l136_67 : List Ent := [(67, .aload_n 0, 0, 0, 0, 0), (68, .iload_n 1, 0, 0, 0, 0), (69, .iconst 2, 0, 0, 0, 0), (70, .invokevirtual 61, 98, 3, 1, 7)]
def l136_73 : List Ent := [(73, .ireturn, 0, 0, 0, 0)]
def l136_74 : List Ent := [(74, .aload_n 0, 0, 0, 0, 0), (75, .iload_n 1, 0, 0, 0, 0), (76, .invokevirtual 44, 99, 2, 1, 7)]
def l136_79 : List Ent := [(79, .ireturn, 0, 0, 0, 0)]
def l136_80 : List Ent := [(80, .bipush (-2), 0, 0, 0, 0), (82, .ireturn, 0, 0, 0, 0)]
def bk136 : List Blk := [(0, l136_0, 5), (5, l136_5, 10), (10, l136_10, 48), (48, l136_48, 54), (54, l136_54, 55), (55, l136_55, 60), (60, l136_60, 61), (61, l136_61, 66), (66, l136_66, 67), (67, l136_67, 73), (73, l136_73, 74), (74, l136_74, 79), (79, l136_79, 80), (80, l136_80, 83)]
-- NoticeShiftsModel.marked
def l137_0 : List Ent := [(0, .iconst 0, 0, 0, 0, 0), (1, .istore_n 2, 0, 0, 0, 0)]
def l137_2 : List Ent := [(2, .iload_n 2, 0, 0, 0, 0), (3, .aload_n 0, 0, 0, 0, 0), (4, .getfield 7, 7, 0, 3, 0), (7, .iconst 0, 0, 0, 0, 0), (8, .iaload, 0, 0, 0, 0), (9, .if_icmp .ge 21, 30, 0, 0, 0), (12, .aload_n 0, 0, 0, 0, 0), (13, .iload_n 2, 0, 0, 0, 0), (14, .iconst 0, 0, 0, 0, 0), (15, .invokevirtual 61, 98, 3, 1, 7)]
def l137_18 : List Ent := [(18, .iload_n 1, 0, 0, 0, 0), (19, .if_icmp .ne 5, 24, 0, 0, 0), (22, .iload_n 2, 0, 0, 0, 0), (23, .ireturn, 0, 0, 0, 0)]
def l137_24 : List Ent := [(24, .iinc 2 1, 0, 0, 0, 0), (27, .goto (-25), 2, 0, 0, 0)]
def l137_30 : List Ent := [(30, .iconst (-1), 0, 0, 0, 0), (31, .ireturn, 0, 0, 0, 0)]
def bk137 : List Blk := [(0, l137_0, 2), (2, l137_2, 18), (18, l137_18, 24), (24, l137_24, 30), (30, l137_30, 32)]
-- NoticeShiftsModel.booked
def l138_0 : List Ent := [(0, .aload_n 0, 0, 0, 0, 0), (1, .iload_n 1, 0, 0, 0, 0), (2, .invokevirtual 88, 95, 2, 1, 7)]
def l138_5 : List Ent := [(5, .ifCond .eq 27, 32, 0, 0, 0), (8, .iload_n 2, 0, 0, 0, 0), (9, .iconst 0, 0, 0, 0, 0), (10, .aload_n 0, 0, 0, 0, 0), (11, .iload_n 1, 0, 0, 0, 0), (12, .invokevirtual 44, 99, 2, 1, 7)]
def l138_15 : List Ent := [(15, .iconst 1, 0, 0, 0, 0), (16, .isub, 0, 0, 0, 0), (17, .invokestatic 37, 94, 3, 1, 0)]
def l138_20 : List Ent := [(20, .ifCond .eq 12, 32, 0, 0, 0), (23, .aload_n 0, 0, 0, 0, 0), (24, .iload_n 1, 0, 0, 0, 0), (25, .iload_n 2, 0, 0, 0, 0), (26, .invokevirtual 48, 100, 3, 1, 7)]
def l138_29 : List Ent := [(29, .goto 4, 33, 0, 0, 0)]
def l138_32 : List Ent := [(32, .iconst (-1), 0, 0, 0, 0)]
def l138_33 : List Ent := [(33, .ireturn, 0, 0, 0, 0)]
def bk138 : List Blk := [(0, l138_0, 5), (5, l138_5, 15), (15, l138_15, 20), (20, l138_20, 29), (29, l138_29, 32), (32, l138_32, 33), (33, l138_33, 34)]
-- NoticeShiftsModel.breaksWith
def l139_0 : List Ent := [(0, .iconst 0, 0, 0, 0, 0), (1, .istore_n 2, 0, 0, 0, 0), (2, .iconst 0, 0, 0, 0, 0), (3, .istore_n 3, 0, 0, 0, 0)]
def l139_4 : List Ent := [(4, .iload_n 3, 0, 0, 0, 0), (5, .aload_n 0, 0, 0, 0, 0), (6, .getfield 7, 7, 0, 3, 0), (9, .iconst 0, 0, 0, 0, 0), (10, .iaload, 0, 0, 0, 0), (11, .if_icmp .ge 67, 78, 0, 0, 0), (14, .iconst 0, 0, 0, 0, 0), (15, .istore 4, 0, 0, 0, 0), (17, .iconst 0, 0, 0, 0, 0), (18, .istore 5, 0, 0, 0, 0)]
def l139_20 : List Ent := [(20, .iload 5, 0, 0, 0, 0), (22, .aload_n 0, 0, 0, 0, 0), (23, .iload_n 3, 0, 0, 0, 0), (24, .invokevirtual 44, 99, 2, 1, 7)]
def l139_27 : List Ent := [(27, .if_icmp .ge 32, 59, 0, 0, 0), (30, .iload 4, 0, 0, 0, 0), (32, .ifCond .ne 14, 46, 0, 0, 0), (35, .aload_n 0, 0, 0, 0, 0), (36, .iload_n 3, 0, 0, 0, 0), (37, .iload 5, 0, 0, 0, 0), (39, .invokevirtual 48, 100, 3, 1, 7)]
def l139_42 : List Ent := [(42, .iload_n 1, 0, 0, 0, 0), (43, .if_icmp .ne 7, 50, 0, 0, 0)]
def l139_46 : List Ent := [(46, .iconst 1, 0, 0, 0, 0), (47, .goto 4, 51, 0, 0, 0)]
def l139_50 : List Ent := [(50, .iconst 0, 0, 0, 0, 0)]
def l139_51 : List Ent := [(51, .istore 4, 0, 0, 0, 0), (53, .iinc 5 1, 0, 0, 0, 0), (56, .goto (-36), 20, 0, 0, 0)]
def l139_59 : List Ent := [(59, .iload_n 2, 0, 0, 0, 0), (60, .iload 4, 0, 0, 0, 0), (62, .ifCond .eq 7, 69, 0, 0, 0), (65, .iconst 1, 0, 0, 0, 0), (66, .goto 4, 70, 0, 0, 0)]
def l139_69 : List Ent := [(69, .iconst 0, 0, 0, 0, 0)]
def l139_70 : List Ent := [(70, .iadd, 0, 0, 0, 0), (71, .istore_n 2, 0, 0, 0, 0), (72, .iinc 3 1, 0, 0, 0, 0), (75, .goto (-71), 4, 0, 0, 0)]
def l139_78 : List Ent := [(78, .iload_n 2, 0, 0, 0, 0), (79, .ireturn, 0, 0, 0, 0)]
def bk139 : List Blk := [(0, l139_0, 4), (4, l139_4, 20), (20, l139_20, 27), (27, l139_27, 42), (42, l139_42, 46), (46, l139_46, 50), (50, l139_50, 51), (51, l139_51, 59), (59, l139_59, 69), (69, l139_69, 70), (70, l139_70, 78), (78, l139_78, 80)]
-- NoticeShiftsModel.hearers
def l140_0 : List Ent := [(0, .iconst 0, 0, 0, 0, 0), (1, .istore_n 2, 0, 0, 0, 0), (2, .iconst 0, 0, 0, 0, 0), (3, .istore_n 3, 0, 0, 0, 0)]
def l140_4 : List Ent := [(4, .iload_n 3, 0, 0, 0, 0), (5, .aload_n 0, 0, 0, 0, 0), (6, .getfield 7, 7, 0, 3, 0), (9, .iconst 3, 0, 0, 0, 0), (10, .iaload, 0, 0, 0, 0), (11, .if_icmp .ge 30, 41, 0, 0, 0), (14, .aload_n 0, 0, 0, 0, 0), (15, .iload_n 3, 0, 0, 0, 0), (16, .invokevirtual 75, 111, 2, 0, 7)]
def l140_19 : List Ent := [(19, .iload_n 2, 0, 0, 0, 0), (20, .aload_n 0, 0, 0, 0, 0), (21, .iload_n 1, 0, 0, 0, 0), (22, .invokevirtual 120, 116, 2, 1, 7)]
def l140_25 : List Ent := [(25, .ifCond .eq 7, 32, 0, 0, 0), (28, .iconst 1, 0, 0, 0, 0), (29, .goto 4, 33, 0, 0, 0)]
def l140_32 : List Ent := [(32, .iconst 0, 0, 0, 0, 0)]
def l140_33 : List Ent := [(33, .iadd, 0, 0, 0, 0), (34, .istore_n 2, 0, 0, 0, 0), (35, .iinc 3 1, 0, 0, 0, 0), (38, .goto (-34), 4, 0, 0, 0)]
def l140_41 : List Ent := [(41, .iload_n 2, 0, 0, 0, 0), (42, .ireturn, 0, 0, 0, 0)]
def bk140 : List Blk := [(0, l140_0, 4), (4, l140_4, 19), (19, l140_19, 25), (25, l140_25, 32), (32, l140_32, 33), (33, l140_33, 41), (41, l140_41, 43)]
-- NoticeShiftsModel.ofNotice
def l141_0 : List Ent := [(0, .aload_n 0, 0, 0, 0, 0), (1, .iload_n 1, 0, 0, 0, 0), (2, .invokevirtual 95, 96, 2, 1, 7)]
def l141_5 : List Ent := [(5, .ifCond .ne 5, 10, 0, 0, 0), (8, .iconst (-1), 0, 0, 0, 0), (9, .ireturn, 0, 0, 0, 0)]
def l141_10 : List Ent := [(10, .iload_n 2, 0, 0, 0, 0), (11, .tableswitch 53 0 3 #[29, 35, 41, 47], 0, 0, 0, 0)]
def l141_40 : List Ent := [(40, .aload_n 0, 0, 0, 0, 0), (41, .iload_n 1, 0, 0, 0, 0), (42, .invokevirtual 58, 101, 2, 1, 7)]
def l141_45 : List Ent := [(45, .ireturn, 0, 0, 0, 0)]
def l141_46 : List Ent := [(46, .aload_n 0, 0, 0, 0, 0), (47, .iload_n 1, 0, 0, 0, 0), (48, .invokevirtual 52, 102, 2, 1, 7)]
def l141_51 : List Ent := [(51, .ireturn, 0, 0, 0, 0)]
def l141_52 : List Ent := [(52, .aload_n 0, 0, 0, 0, 0), (53, .iload_n 1, 0, 0, 0, 0), (54, .invokevirtual 123, 139, 2, 1, 7)]
def l141_57 : List Ent := [(57, .ireturn, 0, 0, 0, 0)]
def l141_58 : List Ent := [(58, .aload_n 0, 0, 0, 0, 0), (59, .iload_n 1, 0, 0, 0, 0), (60, .invokevirtual 126, 140, 2, 1, 7)]
def l141_63 : List Ent := [(63, .ireturn, 0, 0, 0, 0)]
def l141_64 : List Ent := [(64, .bipush (-2), 0, 0, 0, 0), (66, .ireturn, 0, 0, 0, 0)]
def bk141 : List Blk := [(0, l141_0, 5), (5, l141_5, 10), (10, l141_10, 40), (40, l141_40, 45), (45, l141_45, 46), (46, l141_46, 51), (51, l141_51, 52), (52, l141_52, 57), (57, l141_57, 58), (58, l141_58, 63), (63, l141_63, 64), (64, l141_64, 67)]
-- NoticeShiftsModel.of
def l142_0 : List Ent := [(0, .aload_n 0, 0, 0, 0, 0), (1, .iload_n 1, 0, 0, 0, 0), (2, .invokevirtual 107, 97, 2, 1, 7)]
def l142_5 : List Ent := [(5, .ifCond .ne 5, 10, 0, 0, 0), (8, .iconst (-1), 0, 0, 0, 0), (9, .ireturn, 0, 0, 0, 0)]
def l142_10 : List Ent := [(10, .iload_n 2, 0, 0, 0, 0), (11, .iconst 3, 0, 0, 0, 0), (12, .if_icmp .ne 17, 29, 0, 0, 0), (15, .aload_n 0, 0, 0, 0, 0), (16, .iload_n 1, 0, 0, 0, 0), (17, .invokevirtual 129, 113, 2, 1, 7)]
def l142_20 : List Ent := [(20, .ifCond .eq 7, 27, 0, 0, 0), (23, .iconst 1, 0, 0, 0, 0), (24, .goto 4, 28, 0, 0, 0)]
def l142_27 : List Ent := [(27, .iconst 0, 0, 0, 0, 0)]
def l142_28 : List Ent := [(28, .ireturn, 0, 0, 0, 0)]
def l142_29 : List Ent := [(29, .aload_n 0, 0, 0, 0, 0), (30, .iload_n 1, 0, 0, 0, 0), (31, .invokevirtual 132, 112, 2, 0, 7)]
def l142_34 : List Ent := [(34, .iload_n 2, 0, 0, 0, 0), (35, .tableswitch 95 0 7 #[45, 51, 57, 95, 71, 77, 82, 88], 0, 0, 0, 0)]
def l142_80 : List Ent := [(80, .aload_n 0, 0, 0, 0, 0), (81, .iload_n 1, 0, 0, 0, 0), (82, .invokevirtual 55, 103, 2, 1, 7)]
def l142_85 : List Ent := [(85, .ireturn, 0, 0, 0, 0)]
def l142_86 : List Ent := [(86, .aload_n 0, 0, 0, 0, 0), (87, .iload_n 1, 0, 0, 0, 0), (88, .invokevirtual 64, 104, 2, 1, 7)]
def l142_91 : List Ent := [(91, .ireturn, 0, 0, 0, 0)]
def l142_92 : List Ent := [(92, .aload_n 0, 0, 0, 0, 0), (93, .iload_n 1, 0, 0, 0, 0), (94, .invokevirtual 71, 105, 2, 1, 7)]
def l142_97 : List Ent := [(97, .ifCond .eq 7, 104, 0, 0, 0), (100, .iconst 1, 0, 0, 0, 0), (101, .goto 4, 105, 0, 0, 0)]
def l142_104 : List Ent := [(104, .iconst 0, 0, 0, 0, 0)]
def l142_105 : List Ent := [(105, .ireturn, 0, 0, 0, 0)]
def l142_106 : List Ent := [(106, .aload_n 0, 0, 0, 0, 0), (107, .iconst 1, 0, 0, 0, 0), (108, .invokevirtual 110, 114, 2, 1, 7)]
def l142_111 : List Ent := [(111, .ireturn, 0, 0, 0, 0)]
def l142_112 : List Ent := [(112, .aload_n 0, 0, 0, 0, 0), (113, .invokevirtual 135, 115, 1, 1, 7)]
def l142_116 : List Ent := [(116, .ireturn, 0, 0, 0, 0)]
def l142_117 : List Ent := [(117, .aload_n 0, 0, 0, 0, 0), (118, .iconst 0, 0, 0, 0, 0), (119, .invokevirtual 110, 114, 2, 1, 7)]
def l142_122 : List Ent := [(122, .ireturn, 0, 0, 0, 0)]
def l142_123 : List Ent := [(123, .aload_n 0, 0, 0, 0, 0), (124, .getfield 27, 7, 7, 8, 0), (127, .iconst 0, 0, 0, 0, 0), (128, .iaload, 0, 0, 0, 0), (129, .ireturn, 0, 0, 0, 0)]
def l142_130 : List Ent := [(130, .bipush (-2), 0, 0, 0, 0), (132, .ireturn, 0, 0, 0, 0)]
def bk142 : List Blk := [(0, l142_0, 5), (5, l142_5, 10), (10, l142_10, 20), (20, l142_20, 27), (27, l142_27, 28), (28, l142_28, 29), (29, l142_29, 34), (34, l142_34, 80), (80, l142_80, 85), (85, l142_85, 86), (86, l142_86, 91), (91, l142_91, 92), (92, l142_92, 97), (97, l142_97, 104), (104, l142_104, 105), (105, l142_105, 106), (106, l142_106, 111), (111, l142_111, 112), (112, l142_112, 116), (116, l142_116, 117), (117, l142_117, 122), (122, l142_122, 123), (123, l142_123, 130), (130, l142_130, 133)]
-- NoticeShiftsModel.oldOnes
def l143_0 : List Ent := [(0, .iconst 0, 0, 0, 0, 0), (1, .istore_n 1, 0, 0, 0, 0), (2, .iconst 0, 0, 0, 0, 0), (3, .istore_n 2, 0, 0, 0, 0)]
def l143_4 : List Ent := [(4, .iload_n 2, 0, 0, 0, 0), (5, .aload_n 0, 0, 0, 0, 0), (6, .getfield 7, 7, 0, 3, 0), (9, .iconst 3, 0, 0, 0, 0), (10, .iaload, 0, 0, 0, 0), (11, .if_icmp .ge 27, 38, 0, 0, 0), (14, .iload_n 1, 0, 0, 0, 0), (15, .aload_n 0, 0, 0, 0, 0), (16, .iload_n 2, 0, 0, 0, 0), (17, .invokevirtual 129, 113, 2, 1, 7)]
def l143_20 : List Ent := [(20, .ifCond .eq 9, 29, 0, 0, 0), (23, .iconst 1, 0, 0, 0, 0), (24, .iload_n 2, 0, 0, 0, 0), (25, .ishl, 0, 0, 0, 0), (26, .goto 4, 30, 0, 0, 0)]
def l143_29 : List Ent := [(29, .iconst 0, 0, 0, 0, 0)]
def l143_30 : List Ent := [(30, .ior, 0, 0, 0, 0), (31, .istore_n 1, 0, 0, 0, 0), (32, .iinc 2 1, 0, 0, 0, 0), (35, .goto (-31), 4, 0, 0, 0)]
def l143_38 : List Ent := [(38, .iload_n 1, 0, 0, 0, 0), (39, .ireturn, 0, 0, 0, 0)]
def bk143 : List Blk := [(0, l143_0, 4), (4, l143_4, 20), (20, l143_20, 29), (29, l143_29, 30), (30, l143_30, 38), (38, l143_38, 40)]
-- NoticeShiftsModel.longest
def l144_0 : List Ent := [(0, .bipush (-6), 0, 0, 0, 0), (2, .istore_n 1, 0, 0, 0, 0), (3, .bipush (-6), 0, 0, 0, 0), (5, .istore_n 2, 0, 0, 0, 0), (6, .iconst 0, 0, 0, 0, 0), (7, .istore_n 3, 0, 0, 0, 0)]
def l144_8 : List Ent := [(8, .iload_n 3, 0, 0, 0, 0), (9, .aload_n 0, 0, 0, 0, 0), (10, .getfield 7, 7, 0, 3, 0), (13, .iconst 3, 0, 0, 0, 0), (14, .iaload, 0, 0, 0, 0), (15, .if_icmp .ge 46, 61, 0, 0, 0), (18, .aload_n 0, 0, 0, 0, 0), (19, .iload_n 3, 0, 0, 0, 0), (20, .invokevirtual 132, 112, 2, 0, 7)]
def l144_23 : List Ent := [(23, .aload_n 0, 0, 0, 0, 0), (24, .iconst 1, 0, 0, 0, 0), (25, .invokevirtual 110, 114, 2, 1, 7)]
def l144_28 : List Ent := [(28, .istore 4, 0, 0, 0, 0), (30, .iload 4, 0, 0, 0, 0), (32, .iload_n 2, 0, 0, 0, 0), (33, .if_icmp .le 7, 40, 0, 0, 0), (36, .iload_n 3, 0, 0, 0, 0), (37, .goto 4, 41, 0, 0, 0)]
def l144_40 : List Ent := [(40, .iload_n 1, 0, 0, 0, 0)]
def l144_41 : List Ent := [(41, .istore_n 1, 0, 0, 0, 0), (42, .iload 4, 0, 0, 0, 0), (44, .iload_n 2, 0, 0, 0, 0), (45, .if_icmp .le 8, 53, 0, 0, 0), (48, .iload 4, 0, 0, 0, 0), (50, .goto 4, 54, 0, 0, 0)]
def l144_53 : List Ent := [(53, .iload_n 2, 0, 0, 0, 0)]
def l144_54 : List Ent := [(54, .istore_n 2, 0, 0, 0, 0), (55, .iinc 3 1, 0, 0, 0, 0), (58, .goto (-50), 8, 0, 0, 0)]
def l144_61 : List Ent := [(61, .iload_n 1, 0, 0, 0, 0), (62, .ireturn, 0, 0, 0, 0)]
def bk144 : List Blk := [(0, l144_0, 8), (8, l144_8, 23), (23, l144_23, 28), (28, l144_28, 40), (40, l144_40, 41), (41, l144_41, 53), (53, l144_53, 54), (54, l144_54, 61), (61, l144_61, 63)]
-- NoticeShiftsModel.count
def l145_0 : List Ent := [(0, .iload_n 1, 0, 0, 0, 0), (1, .tableswitch 108 0 8 #[51, 58, 69, 74, 81, 88, 93, 98, 103], 0, 0, 0, 0)]
def l145_52 : List Ent := [(52, .aload_n 0, 0, 0, 0, 0), (53, .getfield 7, 7, 0, 3, 0), (56, .iconst 0, 0, 0, 0, 0), (57, .iaload, 0, 0, 0, 0), (58, .ireturn, 0, 0, 0, 0)]
def l145_59 : List Ent := [(59, .aload_n 0, 0, 0, 0, 0), (60, .aload_n 0, 0, 0, 0, 0), (61, .getfield 7, 7, 0, 3, 0), (64, .iconst 0, 0, 0, 0, 0), (65, .iaload, 0, 0, 0, 0), (66, .invokevirtual 114, 134, 2, 1, 7)]
def l145_69 : List Ent := [(69, .ireturn, 0, 0, 0, 0)]
def l145_70 : List Ent := [(70, .aload_n 0, 0, 0, 0, 0), (71, .invokevirtual 91, 123, 1, 1, 7)]
def l145_74 : List Ent := [(74, .ireturn, 0, 0, 0, 0)]
def l145_75 : List Ent := [(75, .aload_n 0, 0, 0, 0, 0), (76, .getfield 7, 7, 0, 3, 0), (79, .iconst 2, 0, 0, 0, 0), (80, .iaload, 0, 0, 0, 0), (81, .ireturn, 0, 0, 0, 0)]
def l145_82 : List Ent := [(82, .aload_n 0, 0, 0, 0, 0), (83, .getfield 7, 7, 0, 3, 0), (86, .iconst 3, 0, 0, 0, 0), (87, .iaload, 0, 0, 0, 0), (88, .ireturn, 0, 0, 0, 0)]
def l145_89 : List Ent := [(89, .aload_n 0, 0, 0, 0, 0), (90, .invokevirtual 138, 143, 1, 1, 7)]
def l145_93 : List Ent := [(93, .ireturn, 0, 0, 0, 0)]
def l145_94 : List Ent := [(94, .aload_n 0, 0, 0, 0, 0), (95, .invokevirtual 141, 144, 1, 1, 7)]
def l145_98 : List Ent := [(98, .ireturn, 0, 0, 0, 0)]
def l145_99 : List Ent := [(99, .aload_n 0, 0, 0, 0, 0), (100, .getfield 144, 7, 6, 0, 0), (103, .ireturn, 0, 0, 0, 0)]
def l145_104 : List Ent := [(104, .aload_n 0, 0, 0, 0, 0), (105, .getfield 33, 7, 4, 0, 0), (108, .ireturn, 0, 0, 0, 0)]
def l145_109 : List Ent := [(109, .bipush (-2), 0, 0, 0, 0), (111, .ireturn, 0, 0, 0, 0)]
def bk145 : List Blk := [(0, l145_0, 52), (52, l145_52, 59), (59, l145_59, 69), (69, l145_69, 70), (70, l145_70, 74), (74, l145_74, 75), (75, l145_75, 82), (82, l145_82, 89), (89, l145_89, 93), (93, l145_93, 94), (94, l145_94, 98), (98, l145_98, 99), (99, l145_99, 104), (104, l145_104, 109), (109, l145_109, 112)]
-- NoticeShiftsModel.heard
def l146_0 : List Ent := [(0, .aload_n 0, 0, 0, 0, 0), (1, .iload_n 1, 0, 0, 0, 0), (2, .invokevirtual 107, 97, 2, 1, 7)]
def l146_5 : List Ent := [(5, .ifCond .ne 5, 10, 0, 0, 0), (8, .iconst (-1), 0, 0, 0, 0), (9, .ireturn, 0, 0, 0, 0)]
def l146_10 : List Ent := [(10, .aload_n 0, 0, 0, 0, 0), (11, .iload_n 1, 0, 0, 0, 0), (12, .invokevirtual 132, 112, 2, 0, 7)]
def l146_15 : List Ent := [(15, .iload_n 2, 0, 0, 0, 0), (16, .iconst 0, 0, 0, 0, 0), (17, .aload_n 0, 0, 0, 0, 0), (18, .getfield 27, 7, 7, 8, 0), (21, .iconst 0, 0, 0, 0, 0), (22, .iaload, 0, 0, 0, 0), (23, .iconst 1, 0, 0, 0, 0), (24, .isub, 0, 0, 0, 0), (25, .invokestatic 37, 94, 3, 1, 0)]
def l146_28 : List Ent := [(28, .ifCond .eq 16, 44, 0, 0, 0), (31, .aload_n 0, 0, 0, 0, 0), (32, .getfield 27, 7, 7, 8, 0), (35, .iconst 5, 0, 0, 0, 0), (36, .iload_n 2, 0, 0, 0, 0), (37, .imul, 0, 0, 0, 0), (38, .iconst 1, 0, 0, 0, 0), (39, .iadd, 0, 0, 0, 0), (40, .iaload, 0, 0, 0, 0), (41, .goto 4, 45, 0, 0, 0)]
def l146_44 : List Ent := [(44, .iconst (-1), 0, 0, 0, 0)]
def l146_45 : List Ent := [(45, .ireturn, 0, 0, 0, 0)]
def bk146 : List Blk := [(0, l146_0, 5), (5, l146_5, 10), (10, l146_10, 15), (15, l146_15, 28), (28, l146_28, 44), (44, l146_44, 45), (45, l146_45, 46)]
-- NoticeShiftsModel.whenHeard
def l147_0 : List Ent := [(0, .aload_n 0, 0, 0, 0, 0), (1, .iload_n 1, 0, 0, 0, 0), (2, .invokevirtual 107, 97, 2, 1, 7)]
def l147_5 : List Ent := [(5, .ifCond .ne 5, 10, 0, 0, 0), (8, .iconst (-1), 0, 0, 0, 0), (9, .ireturn, 0, 0, 0, 0)]
def l147_10 : List Ent := [(10, .iload_n 2, 0, 0, 0, 0), (11, .iconst 0, 0, 0, 0, 0), (12, .sipush 7199, 0, 0, 0, 0), (15, .invokestatic 37, 94, 3, 1, 0)]
def l147_18 : List Ent := [(18, .ifCond .ne 6, 24, 0, 0, 0), (21, .bipush (-2), 0, 0, 0, 0), (23, .ireturn, 0, 0, 0, 0)]
def l147_24 : List Ent := [(24, .aload_n 0, 0, 0, 0, 0), (25, .iload_n 1, 0, 0, 0, 0), (26, .invokevirtual 132, 112, 2, 0, 7)]
def l147_29 : List Ent := [(29, .iconst 0, 0, 0, 0, 0), (30, .istore_n 3, 0, 0, 0, 0), (31, .iconst 0, 0, 0, 0, 0), (32, .istore 4, 0, 0, 0, 0), (34, .iconst 0, 0, 0, 0, 0), (35, .istore 5, 0, 0, 0, 0)]
def l147_37 : List Ent := [(37, .iload 5, 0, 0, 0, 0), (39, .aload_n 0, 0, 0, 0, 0), (40, .getfield 27, 7, 7, 8, 0), (43, .iconst 0, 0, 0, 0, 0), (44, .iaload, 0, 0, 0, 0), (45, .if_icmp .ge 49, 94, 0, 0, 0), (48, .iload_n 3, 0, 0, 0, 0), (49, .aload_n 0, 0, 0, 0, 0), (50, .getfield 27, 7, 7, 8, 0), (53, .iconst 5, 0, 0, 0, 0), (54, .iload 5, 0, 0, 0, 0), (56, .imul, 0, 0, 0, 0), (57, .iconst 2, 0, 0, 0, 0), (58, .iadd, 0, 0, 0, 0), (59, .iaload, 0, 0, 0, 0), (60, .iadd, 0, 0, 0, 0), (61, .istore_n 3, 0, 0, 0, 0), (62, .iload 4, 0, 0, 0, 0), (64, .aload_n 0, 0, 0, 0, 0), (65, .getfield 27, 7, 7, 8, 0), (68, .iconst 5, 0, 0, 0, 0), (69, .iload 5, 0, 0, 0, 0), (71, .imul, 0, 0, 0, 0), (72, .iconst 4, 0, 0, 0, 0), (73, .iadd, 0, 0, 0, 0), (74, .iaload, 0, 0, 0, 0), (75, .iadd, 0, 0, 0, 0), (76, .istore 4, 0, 0, 0, 0), (78, .iload_n 2, 0, 0, 0, 0), (79, .iload 4, 0, 0, 0, 0), (81, .if_icmp .ge 7, 88, 0, 0, 0), (84, .iload_n 2, 0, 0, 0, 0), (85, .iload_n 3, 0, 0, 0, 0), (86, .iadd, 0, 0, 0, 0), (87, .ireturn, 0, 0, 0, 0)]
def l147_88 : List Ent := [(88, .iinc 5 1, 0, 0, 0, 0), (91, .goto (-54), 37, 0, 0, 0)]
def l147_94 : List Ent := [(94, .bipush (-6), 0, 0, 0, 0), (96, .ireturn, 0, 0, 0, 0)]
def bk147 : List Blk := [(0, l147_0, 5), (5, l147_5, 10), (10, l147_10, 18), (18, l147_18, 24), (24, l147_24, 29), (29, l147_29, 37), (37, l147_37, 88), (88, l147_88, 94), (94, l147_94, 97)]
-- NoticeShiftsModel.find
def l148_0 : List Ent := [(0, .iload_n 1, 0, 0, 0, 0), (1, .istore_n 2, 0, 0, 0, 0), (2, .aload_n 0, 0, 0, 0, 0), (3, .iconst 0, 0, 0, 0, 0), (4, .putfield 147, 7, 10, 0, 0), (7, .iconst 0, 0, 0, 0, 0), (8, .istore_n 3, 0, 0, 0, 0)]
def l148_9 : List Ent := [(9, .iload_n 3, 0, 0, 0, 0), (10, .aload_n 0, 0, 0, 0, 0), (11, .getfield 27, 7, 7, 8, 0), (14, .iconst 0, 0, 0, 0, 0), (15, .iaload, 0, 0, 0, 0), (16, .if_icmp .ge 84, 100, 0, 0, 0), (19, .aload_n 0, 0, 0, 0, 0), (20, .iload_n 3, 0, 0, 0, 0), (21, .putfield 150, 7, 8, 0, 0), (24, .aload_n 0, 0, 0, 0, 0), (25, .iload_n 2, 0, 0, 0, 0), (26, .aload_n 0, 0, 0, 0, 0), (27, .getfield 27, 7, 7, 8, 0), (30, .iconst 5, 0, 0, 0, 0), (31, .iload_n 3, 0, 0, 0, 0), (32, .imul, 0, 0, 0, 0), (33, .iconst 2, 0, 0, 0, 0), (34, .iadd, 0, 0, 0, 0), (35, .iaload, 0, 0, 0, 0), (36, .isub, 0, 0, 0, 0), (37, .putfield 153, 7, 9, 0, 0), (40, .aload_n 0, 0, 0, 0, 0), (41, .getfield 153, 7, 9, 0, 0), (44, .aload_n 0, 0, 0, 0, 0), (45, .getfield 27, 7, 7, 8, 0), (48, .iconst 5, 0, 0, 0, 0), (49, .iload_n 3, 0, 0, 0, 0), (50, .imul, 0, 0, 0, 0), (51, .iconst 4, 0, 0, 0, 0), (52, .iadd, 0, 0, 0, 0), (53, .iaload, 0, 0, 0, 0), (54, .if_icmp .ge 5, 59, 0, 0, 0), (57, .iconst 1, 0, 0, 0, 0), (58, .ireturn, 1, 0, 0, 0)]
def l148_59 : List Ent := [(59, .aload_n 0, 0, 0, 0, 0), (60, .getfield 153, 7, 9, 0, 0), (63, .aload_n 0, 0, 0, 0, 0), (64, .getfield 27, 7, 7, 8, 0), (67, .iconst 5, 0, 0, 0, 0), (68, .iload_n 3, 0, 0, 0, 0), (69, .imul, 0, 0, 0, 0), (70, .iconst 4, 0, 0, 0, 0), (71, .iadd, 0, 0, 0, 0), (72, .iaload, 0, 0, 0, 0), (73, .isub, 0, 0, 0, 0), (74, .istore_n 2, 0, 0, 0, 0), (75, .aload_n 0, 0, 0, 0, 0), (76, .dup, 0, 0, 0, 0), (77, .getfield 147, 7, 10, 0, 0), (80, .aload_n 0, 0, 0, 0, 0), (81, .getfield 27, 7, 7, 8, 0), (84, .iconst 5, 0, 0, 0, 0), (85, .iload_n 3, 0, 0, 0, 0), (86, .imul, 0, 0, 0, 0), (87, .iconst 4, 0, 0, 0, 0), (88, .iadd, 0, 0, 0, 0), (89, .iaload, 0, 0, 0, 0), (90, .iadd, 0, 0, 0, 0), (91, .putfield 147, 7, 10, 0, 0), (94, .iinc 3 1, 0, 0, 0, 0), (97, .goto (-88), 9, 0, 0, 0)]
def l148_100 : List Ent := [(100, .iconst 0, 0, 0, 0, 0), (101, .ireturn, 1, 0, 0, 0)]
def bk148 : List Blk := [(0, l148_0, 9), (9, l148_9, 59), (59, l148_59, 100), (100, l148_100, 102)]
-- NoticeShiftsModel.heardChapter
def l149_0 : List Ent := [(0, .iconst (-1), 0, 0, 0, 0), (1, .istore_n 2, 0, 0, 0, 0), (2, .iconst 0, 0, 0, 0, 0), (3, .istore_n 3, 0, 0, 0, 0)]
def l149_4 : List Ent := [(4, .iload_n 3, 0, 0, 0, 0), (5, .iload_n 1, 0, 0, 0, 0), (6, .if_icmp .gt 22, 28, 0, 0, 0), (9, .iload_n 2, 0, 0, 0, 0), (10, .aload_n 0, 0, 0, 0, 0), (11, .getfield 27, 7, 7, 8, 0), (14, .iconst 5, 0, 0, 0, 0), (15, .iload_n 3, 0, 0, 0, 0), (16, .imul, 0, 0, 0, 0), (17, .iconst 5, 0, 0, 0, 0), (18, .iadd, 0, 0, 0, 0), (19, .iaload, 0, 0, 0, 0), (20, .iadd, 0, 0, 0, 0), (21, .istore_n 2, 0, 0, 0, 0), (22, .iinc 3 1, 0, 0, 0, 0), (25, .goto (-21), 4, 0, 0, 0)]
def l149_28 : List Ent := [(28, .iload_n 2, 0, 0, 0, 0), (29, .ireturn, 0, 0, 0, 0)]
def bk149 : List Blk := [(0, l149_0, 4), (4, l149_4, 28), (28, l149_28, 30)]
-- NoticeShiftsModel.heardAt
def l150_0 : List Ent := [(0, .aload_n 0, 0, 0, 0, 0), (1, .iload_n 1, 0, 0, 0, 0), (2, .invokevirtual 107, 97, 2, 1, 7)]
def l150_5 : List Ent := [(5, .ifCond .ne 5, 10, 0, 0, 0), (8, .iconst (-1), 0, 0, 0, 0), (9, .ireturn, 0, 0, 0, 0)]
def l150_10 : List Ent := [(10, .iload_n 2, 0, 0, 0, 0), (11, .iconst 0, 0, 0, 0, 0), (12, .sipush 9999, 0, 0, 0, 0), (15, .invokestatic 37, 94, 3, 1, 0)]
def l150_18 : List Ent := [(18, .ifCond .eq 12, 30, 0, 0, 0), (21, .iload_n 3, 0, 0, 0, 0), (22, .iconst 0, 0, 0, 0, 0), (23, .iconst 3, 0, 0, 0, 0), (24, .invokestatic 37, 94, 3, 1, 0)]
def l150_27 : List Ent := [(27, .ifCond .ne 6, 33, 0, 0, 0)]
def l150_30 : List Ent := [(30, .bipush (-2), 0, 0, 0, 0), (32, .ireturn, 0, 0, 0, 0)]
def l150_33 : List Ent := [(33, .aload_n 0, 0, 0, 0, 0), (34, .iload_n 1, 0, 0, 0, 0), (35, .invokevirtual 132, 112, 2, 0, 7)]
def l150_38 : List Ent := [(38, .aload_n 0, 0, 0, 0, 0), (39, .iload_n 2, 0, 0, 0, 0), (40, .invokevirtual 156, 148, 2, 1, 7)]
def l150_43 : List Ent := [(43, .ifCond .ne 6, 49, 0, 0, 0), (46, .bipush (-5), 0, 0, 0, 0), (48, .ireturn, 0, 0, 0, 0)]
def l150_49 : List Ent := [(49, .iload_n 3, 0, 0, 0, 0), (50, .ifCond .ne 25, 75, 0, 0, 0), (53, .aload_n 0, 0, 0, 0, 0), (54, .getfield 153, 7, 9, 0, 0), (57, .ifCond .ge 8, 65, 0, 0, 0), (60, .bipush (-6), 0, 0, 0, 0), (62, .goto 12, 74, 0, 0, 0)]
def l150_65 : List Ent := [(65, .aload_n 0, 0, 0, 0, 0), (66, .getfield 147, 7, 10, 0, 0), (69, .aload_n 0, 0, 0, 0, 0), (70, .getfield 153, 7, 9, 0, 0), (73, .iadd, 0, 0, 0, 0)]
def l150_74 : List Ent := [(74, .ireturn, 0, 0, 0, 0)]
def l150_75 : List Ent := [(75, .iload_n 3, 0, 0, 0, 0), (76, .iconst 1, 0, 0, 0, 0), (77, .if_icmp .ne 31, 108, 0, 0, 0), (80, .aload_n 0, 0, 0, 0, 0), (81, .getfield 153, 7, 9, 0, 0), (84, .ifCond .ge 19, 103, 0, 0, 0), (87, .aload_n 0, 0, 0, 0, 0), (88, .getfield 27, 7, 7, 8, 0), (91, .iconst 5, 0, 0, 0, 0), (92, .aload_n 0, 0, 0, 0, 0), (93, .getfield 150, 7, 8, 0, 0), (96, .imul, 0, 0, 0, 0), (97, .iconst 1, 0, 0, 0, 0), (98, .iadd, 0, 0, 0, 0), (99, .iaload, 0, 0, 0, 0), (100, .goto 28, 128, 0, 0, 0)]
def l150_103 : List Ent := [(103, .bipush (-6), 0, 0, 0, 0), (105, .goto 23, 128, 0, 0, 0)]
def l150_108 : List Ent := [(108, .iload_n 3, 0, 0, 0, 0), (109, .iconst 2, 0, 0, 0, 0), (110, .if_icmp .ne 10, 120, 0, 0, 0), (113, .aload_n 0, 0, 0, 0, 0), (114, .getfield 150, 7, 8, 0, 0), (117, .goto 11, 128, 0, 0, 0)]
def l150_120 : List Ent := [(120, .aload_n 0, 0, 0, 0, 0), (121, .aload_n 0, 0, 0, 0, 0), (122, .getfield 150, 7, 8, 0, 0), (125, .invokevirtual 159, 149, 2, 1, 7)]
def l150_128 : List Ent := [(128, .ireturn, 0, 0, 0, 0)]
def bk150 : List Blk := [(0, l150_0, 5), (5, l150_5, 10), (10, l150_10, 18), (18, l150_18, 27), (27, l150_27, 30), (30, l150_30, 33), (33, l150_33, 38), (38, l150_38, 43), (43, l150_43, 49), (49, l150_49, 65), (65, l150_65, 74), (74, l150_74, 75), (75, l150_75, 103), (103, l150_103, 108), (108, l150_108, 120), (120, l150_120, 128), (128, l150_128, 129)]
-- NoticeShiftsModel.chapterAt
def l151_0 : List Ent := [(0, .aload_n 0, 0, 0, 0, 0), (1, .iload_n 1, 0, 0, 0, 0), (2, .invokevirtual 107, 97, 2, 1, 7)]
def l151_5 : List Ent := [(5, .ifCond .ne 5, 10, 0, 0, 0), (8, .iconst (-1), 0, 0, 0, 0), (9, .ireturn, 0, 0, 0, 0)]
def l151_10 : List Ent := [(10, .aload_n 0, 0, 0, 0, 0), (11, .iload_n 1, 0, 0, 0, 0), (12, .invokevirtual 132, 112, 2, 0, 7)]
def l151_15 : List Ent := [(15, .iconst 0, 0, 0, 0, 0), (16, .istore_n 3, 0, 0, 0, 0), (17, .iconst (-1), 0, 0, 0, 0), (18, .istore 4, 0, 0, 0, 0), (20, .iconst 0, 0, 0, 0, 0), (21, .istore 5, 0, 0, 0, 0)]
def l151_23 : List Ent := [(23, .iload 5, 0, 0, 0, 0), (25, .aload_n 0, 0, 0, 0, 0), (26, .getfield 27, 7, 7, 8, 0), (29, .iconst 0, 0, 0, 0, 0), (30, .iaload, 0, 0, 0, 0), (31, .if_icmp .ge 74, 105, 0, 0, 0), (34, .iload 4, 0, 0, 0, 0), (36, .aload_n 0, 0, 0, 0, 0), (37, .getfield 27, 7, 7, 8, 0), (40, .iconst 5, 0, 0, 0, 0), (41, .iload 5, 0, 0, 0, 0), (43, .imul, 0, 0, 0, 0), (44, .iconst 5, 0, 0, 0, 0), (45, .iadd, 0, 0, 0, 0), (46, .iaload, 0, 0, 0, 0), (47, .iadd, 0, 0, 0, 0), (48, .istore 4, 0, 0, 0, 0), (50, .aload_n 0, 0, 0, 0, 0), (51, .getfield 27, 7, 7, 8, 0), (54, .iconst 5, 0, 0, 0, 0), (55, .iload 5, 0, 0, 0, 0), (57, .imul, 0, 0, 0, 0), (58, .iconst 5, 0, 0, 0, 0), (59, .iadd, 0, 0, 0, 0), (60, .iaload, 0, 0, 0, 0), (61, .iconst 1, 0, 0, 0, 0), (62, .if_icmp .ne 11, 73, 0, 0, 0), (65, .iload 4, 0, 0, 0, 0), (67, .iload_n 2, 0, 0, 0, 0), (68, .if_icmp .ne 5, 73, 0, 0, 0), (71, .iload_n 3, 0, 0, 0, 0), (72, .ireturn, 0, 0, 0, 0)]
def l151_73 : List Ent := [(73, .iload_n 3, 0, 0, 0, 0), (74, .aload_n 0, 0, 0, 0, 0), (75, .getfield 27, 7, 7, 8, 0), (78, .iconst 5, 0, 0, 0, 0), (79, .iload 5, 0, 0, 0, 0), (81, .imul, 0, 0, 0, 0), (82, .iconst 2, 0, 0, 0, 0), (83, .iadd, 0, 0, 0, 0), (84, .iaload, 0, 0, 0, 0), (85, .aload_n 0, 0, 0, 0, 0), (86, .getfield 27, 7, 7, 8, 0), (89, .iconst 5, 0, 0, 0, 0), (90, .iload 5, 0, 0, 0, 0), (92, .imul, 0, 0, 0, 0), (93, .iconst 4, 0, 0, 0, 0), (94, .iadd, 0, 0, 0, 0), (95, .iaload, 0, 0, 0, 0), (96, .iadd, 0, 0, 0, 0), (97, .iadd, 0, 0, 0, 0), (98, .istore_n 3, 0, 0, 0, 0), (99, .iinc 5 1, 0, 0, 0, 0), (102, .goto (-79), 23, 0, 0, 0)]
def l151_105 : List Ent := [(105, .iconst (-1), 0, 0, 0, 0), (106, .ireturn, 0, 0, 0, 0)]
def bk151 : List Blk := [(0, l151_0, 5), (5, l151_5, 10), (10, l151_10, 15), (15, l151_15, 23), (23, l151_23, 73), (73, l151_73, 105), (105, l151_105, 107)]
-- NoticeShiftsModel.open
def l152_0 : List Ent := [(0, .aload_n 0, 0, 0, 0, 0), (1, .iload_n 1, 0, 0, 0, 0), (2, .invokevirtual 107, 97, 2, 1, 7)]
def l152_5 : List Ent := [(5, .ifCond .ne 5, 10, 0, 0, 0), (8, .iconst (-1), 0, 0, 0, 0), (9, .ireturn, 0, 0, 0, 0)]
def l152_10 : List Ent := [(10, .iload_n 3, 0, 0, 0, 0), (11, .iconst 0, 0, 0, 0, 0), (12, .sipush 299, 0, 0, 0, 0), (15, .invokestatic 37, 94, 3, 1, 0)]
def l152_18 : List Ent := [(18, .ifCond .ne 6, 24, 0, 0, 0), (21, .bipush (-2), 0, 0, 0, 0), (23, .ireturn, 0, 0, 0, 0)]
def l152_24 : List Ent := [(24, .aload_n 0, 0, 0, 0, 0), (25, .iload_n 1, 0, 0, 0, 0), (26, .invokevirtual 132, 112, 2, 0, 7)]
def l152_29 : List Ent := [(29, .iconst 0, 0, 0, 0, 0), (30, .istore 4, 0, 0, 0, 0), (32, .iconst 0, 0, 0, 0, 0), (33, .istore 5, 0, 0, 0, 0)]
def l152_35 : List Ent := [(35, .iload 5, 0, 0, 0, 0), (37, .aload_n 0, 0, 0, 0, 0), (38, .getfield 27, 7, 7, 8, 0), (41, .iconst 0, 0, 0, 0, 0), (42, .iaload, 0, 0, 0, 0), (43, .if_icmp .ge 81, 124, 0, 0, 0), (46, .iload 4, 0, 0, 0, 0), (48, .aload_n 0, 0, 0, 0, 0), (49, .getfield 27, 7, 7, 8, 0), (52, .iconst 5, 0, 0, 0, 0), (53, .iload 5, 0, 0, 0, 0), (55, .imul, 0, 0, 0, 0), (56, .iconst 2, 0, 0, 0, 0), (57, .iadd, 0, 0, 0, 0), (58, .iaload, 0, 0, 0, 0), (59, .iadd, 0, 0, 0, 0), (60, .istore 4, 0, 0, 0, 0), (62, .aload_n 0, 0, 0, 0, 0), (63, .getfield 27, 7, 7, 8, 0), (66, .iconst 5, 0, 0, 0, 0), (67, .iload 5, 0, 0, 0, 0), (69, .imul, 0, 0, 0, 0), (70, .iconst 3, 0, 0, 0, 0), (71, .iadd, 0, 0, 0, 0), (72, .iaload, 0, 0, 0, 0), (73, .iload_n 2, 0, 0, 0, 0), (74, .if_icmp .ne 28, 102, 0, 0, 0), (77, .iload_n 3, 0, 0, 0, 0), (78, .aload_n 0, 0, 0, 0, 0), (79, .getfield 27, 7, 7, 8, 0), (82, .iconst 5, 0, 0, 0, 0), (83, .iload 5, 0, 0, 0, 0), (85, .imul, 0, 0, 0, 0), (86, .iconst 4, 0, 0, 0, 0), (87, .iadd, 0, 0, 0, 0), (88, .iaload, 0, 0, 0, 0), (89, .if_icmp .ge 10, 99, 0, 0, 0), (92, .iload 4, 0, 0, 0, 0), (94, .iload_n 3, 0, 0, 0, 0), (95, .iadd, 0, 0, 0, 0), (96, .goto 5, 101, 0, 0, 0)]
def l152_99 : List Ent := [(99, .bipush (-5), 0, 0, 0, 0)]
def l152_101 : List Ent := [(101, .ireturn, 0, 0, 0, 0)]
def l152_102 : List Ent := [(102, .iload 4, 0, 0, 0, 0), (104, .aload_n 0, 0, 0, 0, 0), (105, .getfield 27, 7, 7, 8, 0), (108, .iconst 5, 0, 0, 0, 0), (109, .iload 5, 0, 0, 0, 0), (111, .imul, 0, 0, 0, 0), (112, .iconst 4, 0, 0, 0, 0), (113, .iadd, 0, 0, 0, 0), (114, .iaload, 0, 0, 0, 0), (115, .iadd, 0, 0, 0, 0), (116, .istore 4, 0, 0, 0, 0), (118, .iinc 5 1, 0, 0, 0, 0), (121, .goto (-86), 35, 0, 0, 0)]
def l152_124 : List Ent := [(124, .bipush (-5), 0, 0, 0, 0), (126, .ireturn, 0, 0, 0, 0)]
def bk152 : List Blk := [(0, l152_0, 5), (5, l152_5, 10), (10, l152_10, 18), (18, l152_18, 24), (24, l152_24, 29), (29, l152_29, 35), (35, l152_35, 99), (99, l152_99, 101), (101, l152_101, 102), (102, l152_102, 124), (124, l152_124, 127)]
-- NoticeShiftsModel.momentAt
def l153_0 : List Ent := [(0, .aload_n 0, 0, 0, 0, 0), (1, .iload_n 1, 0, 0, 0, 0), (2, .invokevirtual 132, 112, 2, 0, 7)]
def l153_5 : List Ent := [(5, .aload_n 0, 0, 0, 0, 0), (6, .iload_n 2, 0, 0, 0, 0), (7, .invokevirtual 156, 148, 2, 1, 7)]
def l153_10 : List Ent := [(10, .ifCond .ne 6, 16, 0, 0, 0), (13, .bipush (-5), 0, 0, 0, 0), (15, .ireturn, 0, 0, 0, 0)]
def l153_16 : List Ent := [(16, .aload_n 0, 0, 0, 0, 0), (17, .aload_n 0, 0, 0, 0, 0), (18, .getfield 27, 7, 7, 8, 0), (21, .iconst 5, 0, 0, 0, 0), (22, .aload_n 0, 0, 0, 0, 0), (23, .getfield 150, 7, 8, 0, 0), (26, .imul, 0, 0, 0, 0), (27, .iconst 3, 0, 0, 0, 0), (28, .iadd, 0, 0, 0, 0), (29, .iaload, 0, 0, 0, 0), (30, .invokevirtual 162, 137, 2, 1, 7)]
def l153_33 : List Ent := [(33, .istore_n 3, 0, 0, 0, 0), (34, .iload_n 3, 0, 0, 0, 0), (35, .ifCond .ge 8, 43, 0, 0, 0), (38, .bipush (-5), 0, 0, 0, 0), (40, .goto 24, 64, 0, 0, 0)]
def l153_43 : List Ent := [(43, .aload_n 0, 0, 0, 0, 0), (44, .iload_n 3, 0, 0, 0, 0), (45, .invokevirtual 114, 134, 2, 1, 7)]
def l153_48 : List Ent := [(48, .aload_n 0, 0, 0, 0, 0), (49, .getfield 153, 7, 9, 0, 0), (52, .ifCond .ge 7, 59, 0, 0, 0), (55, .iconst 0, 0, 0, 0, 0), (56, .goto 7, 63, 0, 0, 0)]
def l153_59 : List Ent := [(59, .aload_n 0, 0, 0, 0, 0), (60, .getfield 153, 7, 9, 0, 0)]
def l153_63 : List Ent := [(63, .iadd, 0, 0, 0, 0)]
def l153_64 : List Ent := [(64, .ireturn, 0, 0, 0, 0)]
def bk153 : List Blk := [(0, l153_0, 5), (5, l153_5, 10), (10, l153_10, 16), (16, l153_16, 33), (33, l153_33, 43), (43, l153_43, 48), (48, l153_48, 59), (59, l153_59, 63), (63, l153_63, 64), (64, l153_64, 65)]
-- NoticeShiftsModel.wrongAt
def l154_0 : List Ent := [(0, .aload_n 0, 0, 0, 0, 0), (1, .iload_n 1, 0, 0, 0, 0), (2, .invokevirtual 107, 97, 2, 1, 7)]
def l154_5 : List Ent := [(5, .ifCond .eq 11, 16, 0, 0, 0), (8, .aload_n 0, 0, 0, 0, 0), (9, .iload_n 2, 0, 0, 0, 0), (10, .invokevirtual 107, 97, 2, 1, 7)]
def l154_13 : List Ent := [(13, .ifCond .ne 5, 18, 0, 0, 0)]
def l154_16 : List Ent := [(16, .iconst (-1), 0, 0, 0, 0), (17, .ireturn, 0, 0, 0, 0)]
def l154_18 : List Ent := [(18, .iload_n 3, 0, 0, 0, 0), (19, .iconst 0, 0, 0, 0, 0), (20, .sipush 9999, 0, 0, 0, 0), (23, .invokestatic 37, 94, 3, 1, 0)]
def l154_26 : List Ent := [(26, .ifCond .ne 6, 32, 0, 0, 0), (29, .bipush (-2), 0, 0, 0, 0), (31, .ireturn, 0, 0, 0, 0)]
def l154_32 : List Ent := [(32, .aload_n 0, 0, 0, 0, 0), (33, .iload_n 1, 0, 0, 0, 0), (34, .iload_n 3, 0, 0, 0, 0), (35, .invokevirtual 165, 153, 3, 1, 7)]
def l154_38 : List Ent := [(38, .istore 4, 0, 0, 0, 0), (40, .aload_n 0, 0, 0, 0, 0), (41, .iload_n 2, 0, 0, 0, 0), (42, .iload_n 3, 0, 0, 0, 0), (43, .invokevirtual 165, 153, 3, 1, 7)]
def l154_46 : List Ent := [(46, .istore 5, 0, 0, 0, 0), (48, .iload 4, 0, 0, 0, 0), (50, .ifCond .lt 8, 58, 0, 0, 0), (53, .iload 5, 0, 0, 0, 0), (55, .ifCond .ge 6, 61, 0, 0, 0)]
def l154_58 : List Ent := [(58, .bipush (-5), 0, 0, 0, 0), (60, .ireturn, 0, 0, 0, 0)]
def l154_61 : List Ent := [(61, .iload 4, 0, 0, 0, 0), (63, .iload 5, 0, 0, 0, 0), (65, .if_icmp .ge 11, 76, 0, 0, 0), (68, .iload 5, 0, 0, 0, 0), (70, .iload 4, 0, 0, 0, 0), (72, .isub, 0, 0, 0, 0), (73, .goto 8, 81, 0, 0, 0)]
def l154_76 : List Ent := [(76, .iload 4, 0, 0, 0, 0), (78, .iload 5, 0, 0, 0, 0), (80, .isub, 0, 0, 0, 0)]
def l154_81 : List Ent := [(81, .ireturn, 0, 0, 0, 0)]
def bk154 : List Blk := [(0, l154_0, 5), (5, l154_5, 13), (13, l154_13, 16), (16, l154_16, 18), (18, l154_18, 26), (26, l154_26, 32), (32, l154_32, 38), (38, l154_38, 46), (46, l154_46, 58), (58, l154_58, 61), (61, l154_61, 76), (76, l154_76, 81), (81, l154_81, 82)]
-- NoticeShiftsModel.allSeconds
def l155_0 : List Ent := [(0, .iconst 0, 0, 0, 0, 0), (1, .istore_n 1, 0, 0, 0, 0), (2, .iconst 0, 0, 0, 0, 0), (3, .istore_n 2, 0, 0, 0, 0)]
def l155_4 : List Ent := [(4, .iload_n 2, 0, 0, 0, 0), (5, .aload_n 0, 0, 0, 0, 0), (6, .getfield 7, 7, 0, 3, 0), (9, .iconst 3, 0, 0, 0, 0), (10, .iaload, 0, 0, 0, 0), (11, .if_icmp .ge 22, 33, 0, 0, 0), (14, .aload_n 0, 0, 0, 0, 0), (15, .iload_n 2, 0, 0, 0, 0), (16, .invokevirtual 75, 111, 2, 0, 7)]
def l155_19 : List Ent := [(19, .iload_n 1, 0, 0, 0, 0), (20, .aload_n 0, 0, 0, 0, 0), (21, .iconst 1, 0, 0, 0, 0), (22, .invokevirtual 110, 114, 2, 1, 7)]
def l155_25 : List Ent := [(25, .iadd, 0, 0, 0, 0), (26, .istore_n 1, 0, 0, 0, 0), (27, .iinc 2 1, 0, 0, 0, 0), (30, .goto (-26), 4, 0, 0, 0)]
def l155_33 : List Ent := [(33, .iload_n 1, 0, 0, 0, 0), (34, .ireturn, 0, 0, 0, 0)]
def bk155 : List Blk := [(0, l155_0, 4), (4, l155_4, 19), (19, l155_19, 25), (25, l155_25, 33), (33, l155_33, 35)]
-- NoticeShiftsModel.ifBooked
def l156_0 : List Ent := [(0, .aload_n 0, 0, 0, 0, 0), (1, .iload_n 1, 0, 0, 0, 0), (2, .iload_n 2, 0, 0, 0, 0), (3, .invokevirtual 98, 128, 3, 1, 7)]
def l156_6 : List Ent := [(6, .istore_n 3, 0, 0, 0, 0), (7, .iload_n 3, 0, 0, 0, 0), (8, .ifCond .ge 5, 13, 0, 0, 0), (11, .iload_n 3, 0, 0, 0, 0), (12, .ireturn, 0, 0, 0, 0)]
def l156_13 : List Ent := [(13, .aload_n 0, 0, 0, 0, 0), (14, .invokevirtual 168, 155, 1, 1, 7)]
def l156_17 : List Ent := [(17, .istore 4, 0, 0, 0, 0), (19, .aload_n 0, 0, 0, 0, 0), (20, .iload_n 1, 0, 0, 0, 0), (21, .iload_n 2, 0, 0, 0, 0), (22, .invokevirtual 101, 126, 3, 0, 7)]
def l156_25 : List Ent := [(25, .aload_n 0, 0, 0, 0, 0), (26, .invokevirtual 168, 155, 1, 1, 7)]
def l156_29 : List Ent := [(29, .istore 5, 0, 0, 0, 0), (31, .aload_n 0, 0, 0, 0, 0), (32, .iload_n 1, 0, 0, 0, 0), (33, .invokevirtual 171, 127, 2, 0, 7)]
def l156_36 : List Ent := [(36, .iload 5, 0, 0, 0, 0), (38, .iload 4, 0, 0, 0, 0), (40, .isub, 0, 0, 0, 0), (41, .sipush 10000, 0, 0, 0, 0), (44, .iadd, 0, 0, 0, 0), (45, .ireturn, 0, 0, 0, 0)]
def bk156 : List Blk := [(0, l156_0, 6), (6, l156_6, 13), (13, l156_13, 17), (17, l156_17, 25), (25, l156_25, 29), (29, l156_29, 36), (36, l156_36, 46)]
-- NoticeShiftsModel.bestBreak
def l157_0 : List Ent := [(0, .aload_n 0, 0, 0, 0, 0), (1, .iload_n 1, 0, 0, 0, 0), (2, .invokevirtual 95, 96, 2, 1, 7)]
def l157_5 : List Ent := [(5, .ifCond .ne 5, 10, 0, 0, 0), (8, .iconst (-1), 0, 0, 0, 0), (9, .ireturn, 0, 0, 0, 0)]
def l157_10 : List Ent := [(10, .iload_n 2, 0, 0, 0, 0), (11, .iconst 0, 0, 0, 0, 0), (12, .iconst 1, 0, 0, 0, 0), (13, .invokestatic 37, 94, 3, 1, 0)]
def l157_16 : List Ent := [(16, .ifCond .ne 6, 22, 0, 0, 0), (19, .bipush (-2), 0, 0, 0, 0), (21, .ireturn, 0, 0, 0, 0)]
def l157_22 : List Ent := [(22, .bipush (-6), 0, 0, 0, 0), (24, .istore_n 3, 0, 0, 0, 0), (25, .bipush (-6), 0, 0, 0, 0), (27, .istore 4, 0, 0, 0, 0), (29, .iconst 0, 0, 0, 0, 0), (30, .istore 5, 0, 0, 0, 0)]
def l157_32 : List Ent := [(32, .iload 5, 0, 0, 0, 0), (34, .aload_n 0, 0, 0, 0, 0), (35, .getfield 7, 7, 0, 3, 0), (38, .iconst 0, 0, 0, 0, 0), (39, .iaload, 0, 0, 0, 0), (40, .if_icmp .ge 69, 109, 0, 0, 0), (43, .aload_n 0, 0, 0, 0, 0), (44, .iload 5, 0, 0, 0, 0), (46, .invokevirtual 44, 99, 2, 1, 7)]
def l157_49 : List Ent := [(49, .iconst 4, 0, 0, 0, 0), (50, .if_icmp .ge 53, 103, 0, 0, 0), (53, .aload_n 0, 0, 0, 0, 0), (54, .iload 5, 0, 0, 0, 0), (56, .iload_n 1, 0, 0, 0, 0), (57, .invokevirtual 101, 126, 3, 0, 7)]
def l157_60 : List Ent := [(60, .aload_n 0, 0, 0, 0, 0), (61, .iload_n 1, 0, 0, 0, 0), (62, .invokevirtual 126, 140, 2, 1, 7)]
def l157_65 : List Ent := [(65, .istore 6, 0, 0, 0, 0), (67, .aload_n 0, 0, 0, 0, 0), (68, .iload 5, 0, 0, 0, 0), (70, .invokevirtual 171, 127, 2, 0, 7)]
def l157_73 : List Ent := [(73, .iload 6, 0, 0, 0, 0), (75, .iload 4, 0, 0, 0, 0), (77, .if_icmp .le 8, 85, 0, 0, 0), (80, .iload 5, 0, 0, 0, 0), (82, .goto 4, 86, 0, 0, 0)]
def l157_85 : List Ent := [(85, .iload_n 3, 0, 0, 0, 0)]
def l157_86 : List Ent := [(86, .istore_n 3, 0, 0, 0, 0), (87, .iload 6, 0, 0, 0, 0), (89, .iload 4, 0, 0, 0, 0), (91, .if_icmp .le 8, 99, 0, 0, 0), (94, .iload 6, 0, 0, 0, 0), (96, .goto 5, 101, 0, 0, 0)]
def l157_99 : List Ent := [(99, .iload 4, 0, 0, 0, 0)]
def l157_101 : List Ent := [(101, .istore 4, 0, 0, 0, 0)]
def l157_103 : List Ent := [(103, .iinc 5 1, 0, 0, 0, 0), (106, .goto (-74), 32, 0, 0, 0)]
def l157_109 : List Ent := [(109, .iload_n 2, 0, 0, 0, 0), (110, .ifCond .ne 7, 117, 0, 0, 0), (113, .iload_n 3, 0, 0, 0, 0), (114, .goto 5, 119, 0, 0, 0)]
def l157_117 : List Ent := [(117, .iload 4, 0, 0, 0, 0)]
def l157_119 : List Ent := [(119, .ireturn, 0, 0, 0, 0)]
def bk157 : List Blk := [(0, l157_0, 5), (5, l157_5, 10), (10, l157_10, 16), (16, l157_16, 22), (22, l157_22, 32), (32, l157_32, 49), (49, l157_49, 60), (60, l157_60, 65), (65, l157_65, 73), (73, l157_73, 85), (85, l157_85, 86), (86, l157_86, 99), (99, l157_99, 101), (101, l157_101, 103), (103, l157_103, 109), (109, l157_109, 117), (117, l157_117, 119), (119, l157_119, 120)]
-- NoticeShiftsModel.enough
def l158_0 : List Ent := [(0, .aload_n 0, 0, 0, 0, 0), (1, .iload_n 1, 0, 0, 0, 0), (2, .invokevirtual 107, 97, 2, 1, 7)]
def l158_5 : List Ent := [(5, .ifCond .ne 5, 10, 0, 0, 0), (8, .iconst (-1), 0, 0, 0, 0), (9, .ireturn, 0, 0, 0, 0)]
def l158_10 : List Ent := [(10, .aload_n 0, 0, 0, 0, 0), (11, .iload_n 1, 0, 0, 0, 0), (12, .sipush 600, 0, 0, 0, 0), (15, .invokevirtual 67, 110, 3, 0, 7)]
def l158_18 : List Ent := [(18, .aload_n 0, 0, 0, 0, 0), (19, .invokevirtual 135, 115, 1, 1, 7)]
def l158_22 : List Ent := [(22, .istore_n 2, 0, 0, 0, 0), (23, .iconst 0, 0, 0, 0, 0), (24, .istore_n 3, 0, 0, 0, 0)]
def l158_25 : List Ent := [(25, .iload_n 3, 0, 0, 0, 0), (26, .sipush 600, 0, 0, 0, 0), (29, .if_icmp .ge 25, 54, 0, 0, 0), (32, .aload_n 0, 0, 0, 0, 0), (33, .iload_n 1, 0, 0, 0, 0), (34, .iload_n 3, 0, 0, 0, 0), (35, .invokevirtual 67, 110, 3, 0, 7)]
def l158_38 : List Ent := [(38, .aload_n 0, 0, 0, 0, 0), (39, .invokevirtual 135, 115, 1, 1, 7)]
def l158_42 : List Ent := [(42, .iload_n 2, 0, 0, 0, 0), (43, .if_icmp .ne 5, 48, 0, 0, 0), (46, .iload_n 3, 0, 0, 0, 0), (47, .ireturn, 0, 0, 0, 0)]
def l158_48 : List Ent := [(48, .iinc 3 1, 0, 0, 0, 0), (51, .goto (-26), 25, 0, 0, 0)]
def l158_54 : List Ent := [(54, .sipush 600, 0, 0, 0, 0), (57, .ireturn, 0, 0, 0, 0)]
def bk158 : List Blk := [(0, l158_0, 5), (5, l158_5, 10), (10, l158_10, 18), (18, l158_18, 22), (22, l158_22, 25), (25, l158_25, 38), (38, l158_38, 42), (42, l158_42, 48), (48, l158_48, 54), (54, l158_54, 58)]
-- NoticeShiftsModel.put
def l159_0 : List Ent := [(0, .iconst 0, 0, 0, 0, 0), (1, .istore_n 3, 0, 0, 0, 0), (2, .lload_n 1, 0, 0, 0, 0), (3, .lstore 4, 0, 0, 0, 0), (5, .iconst 1, 0, 0, 0, 0), (6, .istore 6, 0, 0, 0, 0)]
def l159_8 : List Ent := [(8, .lload 4, 0, 0, 0, 0), (10, .lconst 0, 0, 0, 0, 0), (11, .lcmp, 0, 0, 0, 0), (12, .ifCond .eq 37, 49, 0, 0, 0), (15, .iload 6, 0, 0, 0, 0), (17, .ifCond .eq 32, 49, 0, 0, 0), (20, .lload 4, 0, 0, 0, 0), (22, .ldc2_w 174, 255, 0, 0, 0), (25, .land, 0, 0, 0, 0), (26, .l2i, 0, 0, 0, 0), (27, .bipush 33, 0, 0, 0, 0), (29, .bipush 126, 0, 0, 0, 0), (31, .invokestatic 37, 94, 3, 1, 0)]
def l159_34 : List Ent := [(34, .istore 6, 0, 0, 0, 0), (36, .lload 4, 0, 0, 0, 0), (38, .bipush 8, 0, 0, 0, 0), (40, .lushr, 0, 0, 0, 0), (41, .lstore 4, 0, 0, 0, 0), (43, .iinc 3 1, 0, 0, 0, 0), (46, .goto (-38), 8, 0, 0, 0)]
def l159_49 : List Ent := [(49, .iload_n 3, 0, 0, 0, 0), (50, .ifCond .eq 8, 58, 0, 0, 0), (53, .iload 6, 0, 0, 0, 0), (55, .ifCond .ne 6, 61, 0, 0, 0)]
def l159_58 : List Ent := [(58, .bipush (-2), 0, 0, 0, 0), (60, .ireturn, 0, 0, 0, 0)]
def l159_61 : List Ent := [(61, .aload_n 0, 0, 0, 0, 0), (62, .getfield 144, 7, 6, 0, 0), (65, .iload_n 3, 0, 0, 0, 0), (66, .iadd, 0, 0, 0, 0), (67, .bipush 60, 0, 0, 0, 0), (69, .if_icmp .le 6, 75, 0, 0, 0), (72, .bipush (-4), 0, 0, 0, 0), (74, .ireturn, 0, 0, 0, 0)]
def l159_75 : List Ent := [(75, .iload_n 3, 0, 0, 0, 0), (76, .iconst 1, 0, 0, 0, 0), (77, .isub, 0, 0, 0, 0), (78, .istore 7, 0, 0, 0, 0)]
def l159_80 : List Ent := [(80, .iload 7, 0, 0, 0, 0), (82, .ifCond .lt 41, 123, 0, 0, 0), (85, .aload_n 0, 0, 0, 0, 0), (86, .getfield 23, 7, 5, 7, 0), (89, .aload_n 0, 0, 0, 0, 0), (90, .getfield 144, 7, 6, 0, 0), (93, .lload_n 1, 0, 0, 0, 0), (94, .bipush 8, 0, 0, 0, 0), (96, .iload 7, 0, 0, 0, 0), (98, .imul, 0, 0, 0, 0), (99, .lushr, 0, 0, 0, 0), (100, .ldc2_w 174, 255, 0, 0, 0), (103, .land, 0, 0, 0, 0), (104, .l2i, 0, 0, 0, 0), (105, .i2c, 0, 0, 0, 0), (106, .castore, 0, 0, 0, 0), (107, .aload_n 0, 0, 0, 0, 0), (108, .dup, 0, 0, 0, 0), (109, .getfield 144, 7, 6, 0, 0), (112, .iconst 1, 0, 0, 0, 0), (113, .iadd, 0, 0, 0, 0), (114, .putfield 144, 7, 6, 0, 0), (117, .iinc 7 (-1), 0, 0, 0, 0), (120, .goto (-40), 80, 0, 0, 0)]
def l159_123 : List Ent := [(123, .aload_n 0, 0, 0, 0, 0), (124, .getfield 144, 7, 6, 0, 0), (127, .ireturn, 0, 0, 0, 0)]
def bk159 : List Blk := [(0, l159_0, 8), (8, l159_8, 34), (34, l159_34, 49), (49, l159_49, 58), (58, l159_58, 61), (61, l159_61, 75), (75, l159_75, 80), (80, l159_80, 123), (123, l159_123, 128)]
-- NoticeShiftsModel.wipe
def l160_0 : List Ent := [(0, .aload_n 0, 0, 0, 0, 0), (1, .getfield 144, 7, 6, 0, 0), (4, .istore_n 1, 0, 0, 0, 0), (5, .aload_n 0, 0, 0, 0, 0), (6, .iconst 0, 0, 0, 0, 0), (7, .putfield 144, 7, 6, 0, 0), (10, .iload_n 1, 0, 0, 0, 0), (11, .ireturn, 0, 0, 0, 0)]
def bk160 : List Blk := [(0, l160_0, 12)]
-- NoticeShiftsModel.stands
def l161_0 : List Ent := [(0, .iconst 5, 0, 0, 0, 0), (1, .aload_n 0, 0, 0, 0, 0), (2, .getfield 176, 7, 12, 0, 0), (5, .iconst 1, 0, 0, 0, 0), (6, .isub, 0, 0, 0, 0), (7, .imul, 0, 0, 0, 0), (8, .istore_n 2, 0, 0, 0, 0), (9, .iload_n 1, 0, 0, 0, 0), (10, .bipush 47, 0, 0, 0, 0), (12, .if_icmp .ne 80, 92, 0, 0, 0), (15, .aload_n 0, 0, 0, 0, 0), (16, .getfield 179, 7, 13, 1, 0), (19, .ifCond .ne 12, 31, 0, 0, 0), (22, .aload_n 0, 0, 0, 0, 0), (23, .getfield 30, 7, 11, 9, 0), (26, .iload_n 2, 0, 0, 0, 0), (27, .iaload, 0, 0, 0, 0), (28, .ifCond .le 7, 35, 0, 0, 0)]
def l161_31 : List Ent := [(31, .iconst 1, 0, 0, 0, 0), (32, .goto 4, 36, 0, 0, 0)]
def l161_35 : List Ent := [(35, .iconst 0, 0, 0, 0, 0)]
def l161_36 : List Ent := [(36, .istore_n 3, 0, 0, 0, 0), (37, .iload_n 3, 0, 0, 0, 0), (38, .ifCond .eq 16, 54, 0, 0, 0), (41, .aload_n 0, 0, 0, 0, 0), (42, .getfield 176, 7, 12, 0, 0), (45, .bipush 24, 0, 0, 0, 0), (47, .if_icmp .ge 7, 54, 0, 0, 0), (50, .iconst 1, 0, 0, 0, 0), (51, .goto 4, 55, 0, 0, 0)]
def l161_54 : List Ent := [(54, .iconst 0, 0, 0, 0, 0)]
def l161_55 : List Ent := [(55, .istore 4, 0, 0, 0, 0), (57, .iload 4, 0, 0, 0, 0), (59, .ifCond .eq 30, 89, 0, 0, 0), (62, .aload_n 0, 0, 0, 0, 0), (63, .getfield 30, 7, 11, 9, 0), (66, .iconst 5, 0, 0, 0, 0), (67, .aload_n 0, 0, 0, 0, 0), (68, .getfield 176, 7, 12, 0, 0), (71, .imul, 0, 0, 0, 0), (72, .iconst 0, 0, 0, 0, 0), (73, .iastore, 0, 0, 0, 0), (74, .aload_n 0, 0, 0, 0, 0), (75, .dup, 0, 0, 0, 0), (76, .getfield 176, 7, 12, 0, 0), (79, .iconst 1, 0, 0, 0, 0), (80, .iadd, 0, 0, 0, 0), (81, .putfield 176, 7, 12, 0, 0), (84, .aload_n 0, 0, 0, 0, 0), (85, .iconst 0, 0, 0, 0, 0), (86, .putfield 179, 7, 13, 1, 0)]
def l161_89 : List Ent := [(89, .iload 4, 0, 0, 0, 0), (91, .ireturn, 1, 0, 0, 0)]
def l161_92 : List Ent := [(92, .iload_n 1, 0, 0, 0, 0), (93, .bipush 46, 0, 0, 0, 0), (95, .if_icmp .ne 32, 127, 0, 0, 0), (98, .aload_n 0, 0, 0, 0, 0), (99, .getfield 179, 7, 13, 1, 0), (102, .ifCond .ne 16, 118, 0, 0, 0), (105, .aload_n 0, 0, 0, 0, 0), (106, .getfield 30, 7, 11, 9, 0), (109, .iload_n 2, 0, 0, 0, 0), (110, .iaload, 0, 0, 0, 0), (111, .ifCond .ne 7, 118, 0, 0, 0), (114, .iconst 1, 0, 0, 0, 0), (115, .goto 4, 119, 0, 0, 0)]
def l161_118 : List Ent := [(118, .iconst 0, 0, 0, 0, 0)]
def l161_119 : List Ent := [(119, .istore_n 3, 0, 0, 0, 0), (120, .aload_n 0, 0, 0, 0, 0), (121, .iconst 1, 0, 0, 0, 0), (122, .putfield 179, 7, 13, 1, 0), (125, .iload_n 3, 0, 0, 0, 0), (126, .ireturn, 1, 0, 0, 0)]
def l161_127 : List Ent := [(127, .aload_n 0, 0, 0, 0, 0), (128, .getfield 179, 7, 13, 1, 0), (131, .ifCond .ne 24, 155, 0, 0, 0), (134, .aload_n 0, 0, 0, 0, 0), (135, .getfield 30, 7, 11, 9, 0), (138, .iload_n 2, 0, 0, 0, 0), (139, .iaload, 0, 0, 0, 0), (140, .iconst 4, 0, 0, 0, 0), (141, .if_icmp .eq 14, 155, 0, 0, 0), (144, .iload_n 1, 0, 0, 0, 0), (145, .bipush 48, 0, 0, 0, 0), (147, .bipush 55, 0, 0, 0, 0), (149, .invokestatic 37, 94, 3, 1, 0)]
def l161_152 : List Ent := [(152, .ifCond .ne 5, 157, 0, 0, 0)]
def l161_155 : List Ent := [(155, .iconst 0, 0, 0, 0, 0), (156, .ireturn, 1, 0, 0, 0)]
def l161_157 : List Ent := [(157, .aload_n 0, 0, 0, 0, 0), (158, .getfield 30, 7, 11, 9, 0), (161, .iload_n 2, 0, 0, 0, 0), (162, .dup2, 0, 0, 0, 0), (163, .iaload, 0, 0, 0, 0), (164, .iconst 1, 0, 0, 0, 0), (165, .iadd, 0, 0, 0, 0), (166, .iastore, 0, 0, 0, 0), (167, .aload_n 0, 0, 0, 0, 0), (168, .getfield 30, 7, 11, 9, 0), (171, .iload_n 2, 0, 0, 0, 0), (172, .aload_n 0, 0, 0, 0, 0), (173, .getfield 30, 7, 11, 9, 0), (176, .iload_n 2, 0, 0, 0, 0), (177, .iaload, 0, 0, 0, 0), (178, .iadd, 0, 0, 0, 0), (179, .iload_n 1, 0, 0, 0, 0), (180, .bipush 48, 0, 0, 0, 0), (182, .isub, 0, 0, 0, 0), (183, .iastore, 0, 0, 0, 0), (184, .iconst 1, 0, 0, 0, 0), (185, .ireturn, 1, 0, 0, 0)]
def bk161 : List Blk := [(0, l161_0, 31), (31, l161_31, 35), (35, l161_35, 36), (36, l161_36, 54), (54, l161_54, 55), (55, l161_55, 89), (89, l161_89, 92), (92, l161_92, 118), (118, l161_118, 119), (119, l161_119, 127), (127, l161_127, 152), (152, l161_152, 155), (155, l161_155, 157), (157, l161_157, 186)]
-- NoticeShiftsModel.readPad
def l162_0 : List Ent := [(0, .aload_n 0, 0, 0, 0, 0), (1, .iconst 1, 0, 0, 0, 0), (2, .putfield 176, 7, 12, 0, 0), (5, .aload_n 0, 0, 0, 0, 0), (6, .getfield 30, 7, 11, 9, 0), (9, .iconst 0, 0, 0, 0, 0), (10, .iconst 0, 0, 0, 0, 0), (11, .iastore, 0, 0, 0, 0), (12, .aload_n 0, 0, 0, 0, 0), (13, .iconst 0, 0, 0, 0, 0), (14, .putfield 179, 7, 13, 1, 0), (17, .iconst 0, 0, 0, 0, 0), (18, .istore_n 1, 0, 0, 0, 0)]
def l162_19 : List Ent := [(19, .iload_n 1, 0, 0, 0, 0), (20, .aload_n 0, 0, 0, 0, 0), (21, .getfield 144, 7, 6, 0, 0), (24, .if_icmp .ge 24, 48, 0, 0, 0), (27, .aload_n 0, 0, 0, 0, 0), (28, .aload_n 0, 0, 0, 0, 0), (29, .getfield 23, 7, 5, 7, 0), (32, .iload_n 1, 0, 0, 0, 0), (33, .caload, 0, 0, 0, 0), (34, .invokevirtual 183, 161, 2, 1, 7)]
def l162_37 : List Ent := [(37, .ifCond .ne 5, 42, 0, 0, 0), (40, .iload_n 1, 0, 0, 0, 0), (41, .ireturn, 0, 0, 0, 0)]
def l162_42 : List Ent := [(42, .iinc 1 1, 0, 0, 0, 0), (45, .goto (-26), 19, 0, 0, 0)]
def l162_48 : List Ent := [(48, .aload_n 0, 0, 0, 0, 0), (49, .getfield 179, 7, 13, 1, 0), (52, .ifCond .ne 19, 71, 0, 0, 0), (55, .aload_n 0, 0, 0, 0, 0), (56, .getfield 30, 7, 11, 9, 0), (59, .iconst 5, 0, 0, 0, 0), (60, .aload_n 0, 0, 0, 0, 0), (61, .getfield 176, 7, 12, 0, 0), (64, .iconst 1, 0, 0, 0, 0), (65, .isub, 0, 0, 0, 0), (66, .imul, 0, 0, 0, 0), (67, .iaload, 0, 0, 0, 0), (68, .ifCond .le 8, 76, 0, 0, 0)]
def l162_71 : List Ent := [(71, .bipush (-6), 0, 0, 0, 0), (73, .goto 7, 80, 0, 0, 0)]
def l162_76 : List Ent := [(76, .aload_n 0, 0, 0, 0, 0), (77, .getfield 144, 7, 6, 0, 0)]
def l162_80 : List Ent := [(80, .ireturn, 0, 0, 0, 0)]
def bk162 : List Blk := [(0, l162_0, 19), (19, l162_19, 37), (37, l162_37, 42), (42, l162_42, 48), (48, l162_48, 71), (71, l162_71, 76), (76, l162_76, 80), (80, l162_80, 81)]
-- NoticeShiftsModel.fault
def l163_0 : List Ent := [(0, .aload_n 0, 0, 0, 0, 0), (1, .invokevirtual 186, 162, 1, 1, 7)]
def l163_4 : List Ent := [(4, .ireturn, 0, 0, 0, 0)]
def bk163 : List Blk := [(0, l163_0, 4), (4, l163_4, 5)]
-- NoticeShiftsModel.areRows
def l164_0 : List Ent := [(0, .aload_n 0, 0, 0, 0, 0), (1, .getfield 176, 7, 12, 0, 0), (4, .aload_n 0, 0, 0, 0, 0), (5, .getfield 7, 7, 0, 3, 0), (8, .iconst 0, 0, 0, 0, 0), (9, .iaload, 0, 0, 0, 0), (10, .if_icmp .gt 7, 17, 0, 0, 0), (13, .iconst 1, 0, 0, 0, 0), (14, .goto 4, 18, 0, 0, 0)]
def l164_17 : List Ent := [(17, .iconst 0, 0, 0, 0, 0)]
def l164_18 : List Ent := [(18, .istore_n 1, 0, 0, 0, 0), (19, .iconst 0, 0, 0, 0, 0), (20, .istore_n 2, 0, 0, 0, 0)]
def l164_21 : List Ent := [(21, .iload_n 2, 0, 0, 0, 0), (22, .aload_n 0, 0, 0, 0, 0), (23, .getfield 176, 7, 12, 0, 0), (26, .if_icmp .ge 56, 82, 0, 0, 0), (29, .iconst 1, 0, 0, 0, 0), (30, .istore_n 3, 0, 0, 0, 0)]
def l164_31 : List Ent := [(31, .iload_n 3, 0, 0, 0, 0), (32, .aload_n 0, 0, 0, 0, 0), (33, .getfield 30, 7, 11, 9, 0), (36, .iconst 5, 0, 0, 0, 0), (37, .iload_n 2, 0, 0, 0, 0), (38, .imul, 0, 0, 0, 0), (39, .iaload, 0, 0, 0, 0), (40, .if_icmp .gt 36, 76, 0, 0, 0), (43, .iload_n 1, 0, 0, 0, 0), (44, .ifCond .eq 24, 68, 0, 0, 0), (47, .aload_n 0, 0, 0, 0, 0), (48, .aload_n 0, 0, 0, 0, 0), (49, .getfield 30, 7, 11, 9, 0), (52, .iconst 5, 0, 0, 0, 0), (53, .iload_n 2, 0, 0, 0, 0), (54, .imul, 0, 0, 0, 0), (55, .iload_n 3, 0, 0, 0, 0), (56, .iadd, 0, 0, 0, 0), (57, .iaload, 0, 0, 0, 0), (58, .invokevirtual 95, 96, 2, 1, 7)]
def l164_61 : List Ent := [(61, .ifCond .eq 7, 68, 0, 0, 0), (64, .iconst 1, 0, 0, 0, 0), (65, .goto 4, 69, 0, 0, 0)]
def l164_68 : List Ent := [(68, .iconst 0, 0, 0, 0, 0)]
def l164_69 : List Ent := [(69, .istore_n 1, 0, 0, 0, 0), (70, .iinc 3 1, 0, 0, 0, 0), (73, .goto (-42), 31, 0, 0, 0)]
def l164_76 : List Ent := [(76, .iinc 2 1, 0, 0, 0, 0), (79, .goto (-58), 21, 0, 0, 0)]
def l164_82 : List Ent := [(82, .iload_n 1, 0, 0, 0, 0), (83, .ireturn, 1, 0, 0, 0)]
def bk164 : List Blk := [(0, l164_0, 17), (17, l164_17, 18), (18, l164_18, 21), (21, l164_21, 31), (31, l164_31, 61), (61, l164_61, 68), (68, l164_68, 69), (69, l164_69, 76), (76, l164_76, 82), (82, l164_82, 84)]
-- NoticeShiftsModel.read
def l165_0 : List Ent := [(0, .aload_n 0, 0, 0, 0, 0), (1, .invokevirtual 186, 162, 1, 1, 7)]
def l165_4 : List Ent := [(4, .bipush (-6), 0, 0, 0, 0), (6, .if_icmp .eq 6, 12, 0, 0, 0), (9, .bipush (-3), 0, 0, 0, 0), (11, .ireturn, 0, 0, 0, 0)]
def l165_12 : List Ent := [(12, .aload_n 0, 0, 0, 0, 0), (13, .invokevirtual 189, 164, 1, 1, 7)]
def l165_16 : List Ent := [(16, .ifCond .ne 5, 21, 0, 0, 0), (19, .iconst (-1), 0, 0, 0, 0), (20, .ireturn, 0, 0, 0, 0)]
def l165_21 : List Ent := [(21, .aload_n 0, 0, 0, 0, 0), (22, .invokevirtual 41, 106, 1, 0, 7)]
def l165_25 : List Ent := [(25, .iconst 0, 0, 0, 0, 0), (26, .istore_n 1, 0, 0, 0, 0)]
def l165_27 : List Ent := [(27, .iload_n 1, 0, 0, 0, 0), (28, .aload_n 0, 0, 0, 0, 0), (29, .getfield 176, 7, 12, 0, 0), (32, .if_icmp .ge 50, 82, 0, 0, 0), (35, .aload_n 0, 0, 0, 0, 0), (36, .iload_n 1, 0, 0, 0, 0), (37, .invokevirtual 104, 130, 2, 1, 7)]
def l165_40 : List Ent := [(40, .pop, 0, 0, 0, 0), (41, .iconst 1, 0, 0, 0, 0), (42, .istore_n 2, 0, 0, 0, 0)]
def l165_43 : List Ent := [(43, .iload_n 2, 0, 0, 0, 0), (44, .aload_n 0, 0, 0, 0, 0), (45, .getfield 30, 7, 11, 9, 0), (48, .iconst 5, 0, 0, 0, 0), (49, .iload_n 1, 0, 0, 0, 0), (50, .imul, 0, 0, 0, 0), (51, .iaload, 0, 0, 0, 0), (52, .if_icmp .gt 24, 76, 0, 0, 0), (55, .aload_n 0, 0, 0, 0, 0), (56, .iload_n 1, 0, 0, 0, 0), (57, .aload_n 0, 0, 0, 0, 0), (58, .getfield 30, 7, 11, 9, 0), (61, .iconst 5, 0, 0, 0, 0), (62, .iload_n 1, 0, 0, 0, 0), (63, .imul, 0, 0, 0, 0), (64, .iload_n 2, 0, 0, 0, 0), (65, .iadd, 0, 0, 0, 0), (66, .iaload, 0, 0, 0, 0), (67, .invokevirtual 101, 126, 3, 0, 7)]
def l165_70 : List Ent := [(70, .iinc 2 1, 0, 0, 0, 0), (73, .goto (-30), 43, 0, 0, 0)]
def l165_76 : List Ent := [(76, .iinc 1 1, 0, 0, 0, 0), (79, .goto (-52), 27, 0, 0, 0)]
def l165_82 : List Ent := [(82, .aload_n 0, 0, 0, 0, 0), (83, .iconst 0, 0, 0, 0, 0), (84, .putfield 144, 7, 6, 0, 0), (87, .aload_n 0, 0, 0, 0, 0), (88, .getfield 176, 7, 12, 0, 0), (91, .ireturn, 0, 0, 0, 0)]
def bk165 : List Blk := [(0, l165_0, 4), (4, l165_4, 12), (12, l165_12, 16), (16, l165_16, 21), (21, l165_21, 25), (25, l165_25, 27), (27, l165_27, 40), (40, l165_40, 43), (43, l165_43, 70), (70, l165_70, 76), (76, l165_76, 82), (82, l165_82, 92)]
def bks : List (List Blk) := [[], bk1, bk2, bk3, [], bk5, bk6, bk7, bk8, bk9, bk10, bk11, bk12, [], bk14, bk15, [], bk17, bk18, bk19, bk20, bk21, bk22, bk23, [], bk25, bk26, bk27, bk28, bk29, bk30, bk31, bk32, bk33, [], bk35, bk36, bk37, bk38, bk39, bk40, bk41, bk42, bk43, bk44, bk45, bk46, bk47, [], bk49, bk50, bk51, bk52, bk53, bk54, bk55, bk56, bk57, bk58, bk59, bk60, bk61, bk62, bk63, bk64, bk65, bk66, bk67, bk68, bk69, bk70, bk71, bk72, bk73, bk74, bk75, bk76, bk77, bk78, bk79, bk80, bk81, bk82, bk83, bk84, bk85, bk86, bk87, bk88, bk89, bk90, bk91, bk92, [], bk94, bk95, bk96, bk97, bk98, bk99, bk100, bk101, bk102, bk103, bk104, bk105, bk106, bk107, bk108, bk109, bk110, bk111, bk112, bk113, bk114, bk115, bk116, bk117, bk118, bk119, bk120, bk121, bk122, bk123, bk124, bk125, bk126, bk127, bk128, bk129, bk130, bk131, bk132, bk133, bk134, bk135, bk136, bk137, bk138, bk139, bk140, bk141, bk142, bk143, bk144, bk145, bk146, bk147, bk148, bk149, bk150, bk151, bk152, bk153, bk154, bk155, bk156, bk157, bk158, bk159, bk160, bk161, bk162, bk163, bk164, bk165]
def bkOf (mi : Nat) : List Blk := bks.getD mi []
def blk (mi pc : Nat) : Option (List Ent × Nat) := ((bkOf mi).find? (fun b => b.1 == pc)).map (fun b => b.2)
theorem bo1 : bkOf 1 = bk1 := rfl
theorem b1_0 : blk 1 0 = some (l1_0, 33) := rfl
theorem bo2 : bkOf 2 = bk2 := rfl
theorem b2_0 : blk 2 0 = some (l2_0, 2) := rfl
theorem b2_2 : blk 2 2 = some (l2_2, 18) := rfl
theorem b2_18 : blk 2 18 = some (l2_18, 27) := rfl
theorem b2_27 : blk 2 27 = some (l2_27, 33) := rfl
theorem b2_33 : blk 2 33 = some (l2_33, 88) := rfl
theorem b2_88 : blk 2 88 = some (l2_88, 101) := rfl
theorem b2_101 : blk 2 101 = some (l2_101, 107) := rfl
theorem b2_107 : blk 2 107 = some (l2_107, 110) := rfl
theorem bo3 : bkOf 3 = bk3 := rfl
theorem b3_0 : blk 3 0 = some (l3_0, 21) := rfl
theorem b3_21 : blk 3 21 = some (l3_21, 22) := rfl
theorem b3_22 : blk 3 22 = some (l3_22, 39) := rfl
theorem b3_39 : blk 3 39 = some (l3_39, 40) := rfl
theorem b3_40 : blk 3 40 = some (l3_40, 55) := rfl
theorem b3_55 : blk 3 55 = some (l3_55, 56) := rfl
theorem b3_56 : blk 3 56 = some (l3_56, 57) := rfl
theorem bo5 : bkOf 5 = bk5 := rfl
theorem b5_0 : blk 5 0 = some (l5_0, 8) := rfl
theorem b5_8 : blk 5 8 = some (l5_8, 11) := rfl
theorem b5_11 : blk 5 11 = some (l5_11, 31) := rfl
theorem b5_31 : blk 5 31 = some (l5_31, 33) := rfl
theorem bo6 : bkOf 6 = bk6 := rfl
theorem b6_0 : blk 6 0 = some (l6_0, 5) := rfl
theorem b6_5 : blk 6 5 = some (l6_5, 13) := rfl
theorem bo7 : bkOf 7 = bk7 := rfl
theorem b7_0 : blk 7 0 = some (l7_0, 11) := rfl
theorem b7_11 : blk 7 11 = some (l7_11, 12) := rfl
theorem bo8 : bkOf 8 = bk8 := rfl
theorem b8_0 : blk 8 0 = some (l8_0, 4) := rfl
theorem b8_4 : blk 8 4 = some (l8_4, 11) := rfl
theorem b8_11 : blk 8 11 = some (l8_11, 13) := rfl
theorem bo9 : bkOf 9 = bk9 := rfl
theorem b9_0 : blk 9 0 = some (l9_0, 4) := rfl
theorem b9_4 : blk 9 4 = some (l9_4, 31) := rfl
theorem b9_31 : blk 9 31 = some (l9_31, 32) := rfl
theorem b9_32 : blk 9 32 = some (l9_32, 35) := rfl
theorem b9_35 : blk 9 35 = some (l9_35, 43) := rfl
theorem b9_43 : blk 9 43 = some (l9_43, 45) := rfl
theorem bo10 : bkOf 10 = bk10 := rfl
theorem b10_0 : blk 10 0 = some (l10_0, 4) := rfl
theorem b10_4 : blk 10 4 = some (l10_4, 41) := rfl
theorem b10_41 : blk 10 41 = some (l10_41, 47) := rfl
theorem b10_47 : blk 10 47 = some (l10_47, 50) := rfl
theorem bo11 : bkOf 11 = bk11 := rfl
theorem b11_0 : blk 11 0 = some (l11_0, 11) := rfl
theorem b11_11 : blk 11 11 = some (l11_11, 52) := rfl
theorem bo12 : bkOf 12 = bk12 := rfl
theorem b12_0 : blk 12 0 = some (l12_0, 11) := rfl
theorem b12_11 : blk 12 11 = some (l12_11, 16) := rfl
theorem b12_16 : blk 12 16 = some (l12_16, 18) := rfl
theorem b12_18 : blk 12 18 = some (l12_18, 59) := rfl
theorem b12_59 : blk 12 59 = some (l12_59, 61) := rfl
theorem b12_61 : blk 12 61 = some (l12_61, 67) := rfl
theorem b12_67 : blk 12 67 = some (l12_67, 69) := rfl
theorem bo14 : bkOf 14 = bk14 := rfl
theorem b14_0 : blk 14 0 = some (l14_0, 13) := rfl
theorem b14_13 : blk 14 13 = some (l14_13, 26) := rfl
theorem b14_26 : blk 14 26 = some (l14_26, 32) := rfl
theorem b14_32 : blk 14 32 = some (l14_32, 51) := rfl
theorem bo15 : bkOf 15 = bk15 := rfl
theorem b15_0 : blk 15 0 = some (l15_0, 12) := rfl
theorem b15_12 : blk 15 12 = some (l15_12, 18) := rfl
theorem b15_18 : blk 15 18 = some (l15_18, 44) := rfl
theorem b15_44 : blk 15 44 = some (l15_44, 45) := rfl
theorem bo17 : bkOf 17 = bk17 := rfl
theorem b17_0 : blk 17 0 = some (l17_0, 16) := rfl
theorem b17_16 : blk 17 16 = some (l17_16, 17) := rfl
theorem b17_17 : blk 17 17 = some (l17_17, 18) := rfl
theorem bo18 : bkOf 18 = bk18 := rfl
theorem b18_0 : blk 18 0 = some (l18_0, 4) := rfl
theorem b18_4 : blk 18 4 = some (l18_4, 26) := rfl
theorem b18_26 : blk 18 26 = some (l18_26, 33) := rfl
theorem b18_33 : blk 18 33 = some (l18_33, 39) := rfl
theorem b18_39 : blk 18 39 = some (l18_39, 48) := rfl
theorem b18_48 : blk 18 48 = some (l18_48, 57) := rfl
theorem b18_57 : blk 18 57 = some (l18_57, 58) := rfl
theorem b18_58 : blk 18 58 = some (l18_58, 59) := rfl
theorem bo19 : bkOf 19 = bk19 := rfl
theorem b19_0 : blk 19 0 = some (l19_0, 13) := rfl
theorem bo20 : bkOf 20 = bk20 := rfl
theorem b20_0 : blk 20 0 = some (l20_0, 5) := rfl
theorem b20_5 : blk 20 5 = some (l20_5, 24) := rfl
theorem b20_24 : blk 20 24 = some (l20_24, 41) := rfl
theorem b20_41 : blk 20 41 = some (l20_41, 42) := rfl
theorem bo21 : bkOf 21 = bk21 := rfl
theorem b21_0 : blk 21 0 = some (l21_0, 9) := rfl
theorem b21_9 : blk 21 9 = some (l21_9, 47) := rfl
theorem b21_47 : blk 21 47 = some (l21_47, 50) := rfl
theorem b21_50 : blk 21 50 = some (l21_50, 57) := rfl
theorem b21_57 : blk 21 57 = some (l21_57, 75) := rfl
theorem b21_75 : blk 21 75 = some (l21_75, 80) := rfl
theorem b21_80 : blk 21 80 = some (l21_80, 95) := rfl
theorem b21_95 : blk 21 95 = some (l21_95, 98) := rfl
theorem b21_98 : blk 21 98 = some (l21_98, 104) := rfl
theorem b21_104 : blk 21 104 = some (l21_104, 113) := rfl
theorem b21_113 : blk 21 113 = some (l21_113, 117) := rfl
theorem b21_117 : blk 21 117 = some (l21_117, 118) := rfl
theorem bo22 : bkOf 22 = bk22 := rfl
theorem b22_0 : blk 22 0 = some (l22_0, 4) := rfl
theorem b22_4 : blk 22 4 = some (l22_4, 28) := rfl
theorem b22_28 : blk 22 28 = some (l22_28, 29) := rfl
theorem b22_29 : blk 22 29 = some (l22_29, 32) := rfl
theorem b22_32 : blk 22 32 = some (l22_32, 40) := rfl
theorem b22_40 : blk 22 40 = some (l22_40, 42) := rfl
theorem bo23 : bkOf 23 = bk23 := rfl
theorem b23_0 : blk 23 0 = some (l23_0, 4) := rfl
theorem b23_4 : blk 23 4 = some (l23_4, 21) := rfl
theorem b23_21 : blk 23 21 = some (l23_21, 38) := rfl
theorem b23_38 : blk 23 38 = some (l23_38, 44) := rfl
theorem b23_44 : blk 23 44 = some (l23_44, 46) := rfl
theorem bo25 : bkOf 25 = bk25 := rfl
theorem b25_0 : blk 25 0 = some (l25_0, 4) := rfl
theorem b25_4 : blk 25 4 = some (l25_4, 24) := rfl
theorem b25_24 : blk 25 24 = some (l25_24, 26) := rfl
theorem bo26 : bkOf 26 = bk26 := rfl
theorem b26_0 : blk 26 0 = some (l26_0, 8) := rfl
theorem b26_8 : blk 26 8 = some (l26_8, 9) := rfl
theorem bo27 : bkOf 27 = bk27 := rfl
theorem b27_0 : blk 27 0 = some (l27_0, 4) := rfl
theorem b27_4 : blk 27 4 = some (l27_4, 28) := rfl
theorem b27_28 : blk 27 28 = some (l27_28, 34) := rfl
theorem b27_34 : blk 27 34 = some (l27_34, 37) := rfl
theorem bo28 : bkOf 28 = bk28 := rfl
theorem b28_0 : blk 28 0 = some (l28_0, 2) := rfl
theorem b28_2 : blk 28 2 = some (l28_2, 22) := rfl
theorem b28_22 : blk 28 22 = some (l28_22, 28) := rfl
theorem b28_28 : blk 28 28 = some (l28_28, 30) := rfl
theorem bo29 : bkOf 29 = bk29 := rfl
theorem b29_0 : blk 29 0 = some (l29_0, 4) := rfl
theorem b29_4 : blk 29 4 = some (l29_4, 24) := rfl
theorem b29_24 : blk 29 24 = some (l29_24, 26) := rfl
theorem bo30 : bkOf 30 = bk30 := rfl
theorem b30_0 : blk 30 0 = some (l30_0, 10) := rfl
theorem b30_10 : blk 30 10 = some (l30_10, 13) := rfl
theorem bo31 : bkOf 31 = bk31 := rfl
theorem b31_0 : blk 31 0 = some (l31_0, 4) := rfl
theorem b31_4 : blk 31 4 = some (l31_4, 28) := rfl
theorem b31_28 : blk 31 28 = some (l31_28, 34) := rfl
theorem b31_34 : blk 31 34 = some (l31_34, 36) := rfl
theorem bo32 : bkOf 32 = bk32 := rfl
theorem b32_0 : blk 32 0 = some (l32_0, 60) := rfl
theorem bo33 : bkOf 33 = bk33 := rfl
theorem b33_0 : blk 33 0 = some (l33_0, 13) := rfl
theorem b33_13 : blk 33 13 = some (l33_13, 15) := rfl
theorem b33_15 : blk 33 15 = some (l33_15, 68) := rfl
theorem b33_68 : blk 33 68 = some (l33_68, 70) := rfl
theorem b33_70 : blk 33 70 = some (l33_70, 76) := rfl
theorem b33_76 : blk 33 76 = some (l33_76, 78) := rfl
theorem bo35 : bkOf 35 = bk35 := rfl
theorem b35_0 : blk 35 0 = some (l35_0, 14) := rfl
theorem b35_14 : blk 35 14 = some (l35_14, 15) := rfl
theorem bo36 : bkOf 36 = bk36 := rfl
theorem b36_0 : blk 36 0 = some (l36_0, 11) := rfl
theorem b36_11 : blk 36 11 = some (l36_11, 12) := rfl
theorem bo37 : bkOf 37 = bk37 := rfl
theorem b37_0 : blk 37 0 = some (l37_0, 11) := rfl
theorem b37_11 : blk 37 11 = some (l37_11, 12) := rfl
theorem bo38 : bkOf 38 = bk38 := rfl
theorem b38_0 : blk 38 0 = some (l38_0, 14) := rfl
theorem b38_14 : blk 38 14 = some (l38_14, 15) := rfl
theorem b38_15 : blk 38 15 = some (l38_15, 16) := rfl
theorem bo39 : bkOf 39 = bk39 := rfl
theorem b39_0 : blk 39 0 = some (l39_0, 11) := rfl
theorem bo40 : bkOf 40 = bk40 := rfl
theorem b40_0 : blk 40 0 = some (l40_0, 27) := rfl
theorem bo41 : bkOf 41 = bk41 := rfl
theorem b41_0 : blk 41 0 = some (l41_0, 11) := rfl
theorem bo42 : bkOf 42 = bk42 := rfl
theorem b42_0 : blk 42 0 = some (l42_0, 2) := rfl
theorem b42_2 : blk 42 2 = some (l42_2, 18) := rfl
theorem b42_18 : blk 42 18 = some (l42_18, 24) := rfl
theorem b42_24 : blk 42 24 = some (l42_24, 30) := rfl
theorem b42_30 : blk 42 30 = some (l42_30, 32) := rfl
theorem bo43 : bkOf 43 = bk43 := rfl
theorem b43_0 : blk 43 0 = some (l43_0, 4) := rfl
theorem b43_4 : blk 43 4 = some (l43_4, 22) := rfl
theorem b43_22 : blk 43 22 = some (l43_22, 25) := rfl
theorem b43_25 : blk 43 25 = some (l43_25, 33) := rfl
theorem b43_33 : blk 43 33 = some (l43_33, 35) := rfl
theorem bo44 : bkOf 44 = bk44 := rfl
theorem b44_0 : blk 44 0 = some (l44_0, 8) := rfl
theorem b44_8 : blk 44 8 = some (l44_8, 21) := rfl
theorem b44_21 : blk 44 21 = some (l44_21, 27) := rfl
theorem b44_27 : blk 44 27 = some (l44_27, 79) := rfl
theorem b44_79 : blk 44 79 = some (l44_79, 80) := rfl
theorem b44_80 : blk 44 80 = some (l44_80, 83) := rfl
theorem b44_83 : blk 44 83 = some (l44_83, 102) := rfl
theorem bo45 : bkOf 45 = bk45 := rfl
theorem b45_0 : blk 45 0 = some (l45_0, 15) := rfl
theorem b45_15 : blk 45 15 = some (l45_15, 34) := rfl
theorem b45_34 : blk 45 34 = some (l45_34, 40) := rfl
theorem b45_40 : blk 45 40 = some (l45_40, 51) := rfl
theorem bo46 : bkOf 46 = bk46 := rfl
theorem b46_0 : blk 46 0 = some (l46_0, 85) := rfl
theorem bo47 : bkOf 47 = bk47 := rfl
theorem b47_0 : blk 47 0 = some (l47_0, 11) := rfl
theorem b47_11 : blk 47 11 = some (l47_11, 127) := rfl
theorem b47_127 : blk 47 127 = some (l47_127, 171) := rfl
theorem b47_171 : blk 47 171 = some (l47_171, 177) := rfl
theorem b47_177 : blk 47 177 = some (l47_177, 178) := rfl
theorem bo49 : bkOf 49 = bk49 := rfl
theorem b49_0 : blk 49 0 = some (l49_0, 15) := rfl
theorem b49_15 : blk 49 15 = some (l49_15, 20) := rfl
theorem b49_20 : blk 49 20 = some (l49_20, 28) := rfl
theorem b49_28 : blk 49 28 = some (l49_28, 34) := rfl
theorem b49_34 : blk 49 34 = some (l49_34, 61) := rfl
theorem b49_61 : blk 49 61 = some (l49_61, 64) := rfl
theorem b49_64 : blk 49 64 = some (l49_64, 75) := rfl
theorem b49_75 : blk 49 75 = some (l49_75, 84) := rfl
theorem b49_84 : blk 49 84 = some (l49_84, 97) := rfl
theorem bo50 : bkOf 50 = bk50 := rfl
theorem b50_0 : blk 50 0 = some (l50_0, 8) := rfl
theorem b50_8 : blk 50 8 = some (l50_8, 13) := rfl
theorem b50_13 : blk 50 13 = some (l50_13, 30) := rfl
theorem b50_30 : blk 50 30 = some (l50_30, 41) := rfl
theorem b50_41 : blk 50 41 = some (l50_41, 62) := rfl
theorem b50_62 : blk 50 62 = some (l50_62, 64) := rfl
theorem bo51 : bkOf 51 = bk51 := rfl
theorem b51_0 : blk 51 0 = some (l51_0, 8) := rfl
theorem b51_8 : blk 51 8 = some (l51_8, 13) := rfl
theorem b51_13 : blk 51 13 = some (l51_13, 21) := rfl
theorem b51_21 : blk 51 21 = some (l51_21, 27) := rfl
theorem b51_27 : blk 51 27 = some (l51_27, 38) := rfl
theorem b51_38 : blk 51 38 = some (l51_38, 66) := rfl
theorem bo52 : bkOf 52 = bk52 := rfl
theorem b52_0 : blk 52 0 = some (l52_0, 8) := rfl
theorem b52_8 : blk 52 8 = some (l52_8, 13) := rfl
theorem b52_13 : blk 52 13 = some (l52_13, 17) := rfl
theorem b52_17 : blk 52 17 = some (l52_17, 38) := rfl
theorem b52_38 : blk 52 38 = some (l52_38, 41) := rfl
theorem b52_41 : blk 52 41 = some (l52_41, 52) := rfl
theorem b52_52 : blk 52 52 = some (l52_52, 75) := rfl
theorem b52_75 : blk 52 75 = some (l52_75, 76) := rfl
theorem bo53 : bkOf 53 = bk53 := rfl
theorem b53_0 : blk 53 0 = some (l53_0, 7) := rfl
theorem b53_7 : blk 53 7 = some (l53_7, 17) := rfl
theorem b53_17 : blk 53 17 = some (l53_17, 20) := rfl
theorem b53_20 : blk 53 20 = some (l53_20, 23) := rfl
theorem b53_23 : blk 53 23 = some (l53_23, 38) := rfl
theorem b53_38 : blk 53 38 = some (l53_38, 49) := rfl
theorem b53_49 : blk 53 49 = some (l53_49, 92) := rfl
theorem bo54 : bkOf 54 = bk54 := rfl
theorem b54_0 : blk 54 0 = some (l54_0, 8) := rfl
theorem b54_8 : blk 54 8 = some (l54_8, 19) := rfl
theorem b54_19 : blk 54 19 = some (l54_19, 22) := rfl
theorem b54_22 : blk 54 22 = some (l54_22, 24) := rfl
theorem b54_24 : blk 54 24 = some (l54_24, 32) := rfl
theorem b54_32 : blk 54 32 = some (l54_32, 38) := rfl
theorem b54_38 : blk 54 38 = some (l54_38, 49) := rfl
theorem b54_49 : blk 54 49 = some (l54_49, 58) := rfl
theorem b54_58 : blk 54 58 = some (l54_58, 68) := rfl
theorem bo55 : bkOf 55 = bk55 := rfl
theorem b55_0 : blk 55 0 = some (l55_0, 8) := rfl
theorem b55_8 : blk 55 8 = some (l55_8, 13) := rfl
theorem b55_13 : blk 55 13 = some (l55_13, 24) := rfl
theorem b55_24 : blk 55 24 = some (l55_24, 46) := rfl
theorem bo56 : bkOf 56 = bk56 := rfl
theorem b56_0 : blk 56 0 = some (l56_0, 7) := rfl
theorem b56_7 : blk 56 7 = some (l56_7, 15) := rfl
theorem b56_15 : blk 56 15 = some (l56_15, 22) := rfl
theorem b56_22 : blk 56 22 = some (l56_22, 44) := rfl
theorem b56_44 : blk 56 44 = some (l56_44, 54) := rfl
theorem b56_54 : blk 56 54 = some (l56_54, 56) := rfl
theorem b56_56 : blk 56 56 = some (l56_56, 67) := rfl
theorem b56_67 : blk 56 67 = some (l56_67, 71) := rfl
theorem b56_71 : blk 56 71 = some (l56_71, 81) := rfl
theorem bo57 : bkOf 57 = bk57 := rfl
theorem b57_0 : blk 57 0 = some (l57_0, 6) := rfl
theorem b57_6 : blk 57 6 = some (l57_6, 17) := rfl
theorem b57_17 : blk 57 17 = some (l57_17, 20) := rfl
theorem b57_20 : blk 57 20 = some (l57_20, 23) := rfl
theorem b57_23 : blk 57 23 = some (l57_23, 38) := rfl
theorem b57_38 : blk 57 38 = some (l57_38, 49) := rfl
theorem b57_49 : blk 57 49 = some (l57_49, 102) := rfl
theorem bo58 : bkOf 58 = bk58 := rfl
theorem b58_0 : blk 58 0 = some (l58_0, 8) := rfl
theorem b58_8 : blk 58 8 = some (l58_8, 13) := rfl
theorem b58_13 : blk 58 13 = some (l58_13, 32) := rfl
theorem b58_32 : blk 58 32 = some (l58_32, 43) := rfl
theorem b58_43 : blk 58 43 = some (l58_43, 59) := rfl
theorem b58_59 : blk 58 59 = some (l58_59, 60) := rfl
theorem b58_60 : blk 58 60 = some (l58_60, 79) := rfl
theorem b58_79 : blk 58 79 = some (l58_79, 84) := rfl
theorem b58_84 : blk 58 84 = some (l58_84, 87) := rfl
theorem b58_87 : blk 58 87 = some (l58_87, 88) := rfl
theorem bo59 : bkOf 59 = bk59 := rfl
theorem b59_0 : blk 59 0 = some (l59_0, 8) := rfl
theorem b59_8 : blk 59 8 = some (l59_8, 13) := rfl
theorem b59_13 : blk 59 13 = some (l59_13, 52) := rfl
theorem b59_52 : blk 59 52 = some (l59_52, 65) := rfl
theorem b59_65 : blk 59 65 = some (l59_65, 78) := rfl
theorem b59_78 : blk 59 78 = some (l59_78, 89) := rfl
theorem b59_89 : blk 59 89 = some (l59_89, 90) := rfl
theorem b59_90 : blk 59 90 = some (l59_90, 101) := rfl
theorem b59_101 : blk 59 101 = some (l59_101, 102) := rfl
theorem b59_102 : blk 59 102 = some (l59_102, 115) := rfl
theorem b59_115 : blk 59 115 = some (l59_115, 125) := rfl
theorem b59_125 : blk 59 125 = some (l59_125, 128) := rfl
theorem bo60 : bkOf 60 = bk60 := rfl
theorem b60_0 : blk 60 0 = some (l60_0, 11) := rfl
theorem b60_11 : blk 60 11 = some (l60_11, 12) := rfl
theorem bo61 : bkOf 61 = bk61 := rfl
theorem b61_0 : blk 61 0 = some (l61_0, 8) := rfl
theorem b61_8 : blk 61 8 = some (l61_8, 27) := rfl
theorem b61_27 : blk 61 27 = some (l61_27, 30) := rfl
theorem b61_30 : blk 61 30 = some (l61_30, 32) := rfl
theorem b61_32 : blk 61 32 = some (l61_32, 41) := rfl
theorem b61_41 : blk 61 41 = some (l61_41, 42) := rfl
theorem bo62 : bkOf 62 = bk62 := rfl
theorem b62_0 : blk 62 0 = some (l62_0, 8) := rfl
theorem b62_8 : blk 62 8 = some (l62_8, 13) := rfl
theorem b62_13 : blk 62 13 = some (l62_13, 44) := rfl
theorem b62_44 : blk 62 44 = some (l62_44, 54) := rfl
theorem b62_54 : blk 62 54 = some (l62_54, 64) := rfl
theorem b62_64 : blk 62 64 = some (l62_64, 72) := rfl
theorem b62_72 : blk 62 72 = some (l62_72, 73) := rfl
theorem b62_73 : blk 62 73 = some (l62_73, 78) := rfl
theorem b62_78 : blk 62 78 = some (l62_78, 79) := rfl
theorem b62_79 : blk 62 79 = some (l62_79, 82) := rfl
theorem bo63 : bkOf 63 = bk63 := rfl
theorem b63_0 : blk 63 0 = some (l63_0, 8) := rfl
theorem b63_8 : blk 63 8 = some (l63_8, 13) := rfl
theorem b63_13 : blk 63 13 = some (l63_13, 60) := rfl
theorem b63_60 : blk 63 60 = some (l63_60, 70) := rfl
theorem b63_70 : blk 63 70 = some (l63_70, 80) := rfl
theorem b63_80 : blk 63 80 = some (l63_80, 92) := rfl
theorem b63_92 : blk 63 92 = some (l63_92, 93) := rfl
theorem b63_93 : blk 63 93 = some (l63_93, 98) := rfl
theorem b63_98 : blk 63 98 = some (l63_98, 101) := rfl
theorem b63_101 : blk 63 101 = some (l63_101, 102) := rfl
theorem b63_102 : blk 63 102 = some (l63_102, 107) := rfl
theorem b63_107 : blk 63 107 = some (l63_107, 110) := rfl
theorem b63_110 : blk 63 110 = some (l63_110, 111) := rfl
theorem b63_111 : blk 63 111 = some (l63_111, 116) := rfl
theorem b63_116 : blk 63 116 = some (l63_116, 119) := rfl
theorem b63_119 : blk 63 119 = some (l63_119, 120) := rfl
theorem b63_120 : blk 63 120 = some (l63_120, 125) := rfl
theorem b63_125 : blk 63 125 = some (l63_125, 128) := rfl
theorem b63_128 : blk 63 128 = some (l63_128, 129) := rfl
theorem b63_129 : blk 63 129 = some (l63_129, 134) := rfl
theorem b63_134 : blk 63 134 = some (l63_134, 141) := rfl
theorem b63_141 : blk 63 141 = some (l63_141, 144) := rfl
theorem bo64 : bkOf 64 = bk64 := rfl
theorem b64_0 : blk 64 0 = some (l64_0, 52) := rfl
theorem b64_52 : blk 64 52 = some (l64_52, 63) := rfl
theorem b64_63 : blk 64 63 = some (l64_63, 73) := rfl
theorem b64_73 : blk 64 73 = some (l64_73, 74) := rfl
theorem b64_74 : blk 64 74 = some (l64_74, 84) := rfl
theorem b64_84 : blk 64 84 = some (l64_84, 85) := rfl
theorem b64_85 : blk 64 85 = some (l64_85, 93) := rfl
theorem b64_93 : blk 64 93 = some (l64_93, 101) := rfl
theorem b64_101 : blk 64 101 = some (l64_101, 105) := rfl
theorem b64_105 : blk 64 105 = some (l64_105, 106) := rfl
theorem b64_106 : blk 64 106 = some (l64_106, 110) := rfl
theorem b64_110 : blk 64 110 = some (l64_110, 111) := rfl
theorem b64_111 : blk 64 111 = some (l64_111, 119) := rfl
theorem b64_119 : blk 64 119 = some (l64_119, 127) := rfl
theorem b64_127 : blk 64 127 = some (l64_127, 130) := rfl
theorem bo65 : bkOf 65 = bk65 := rfl
theorem b65_0 : blk 65 0 = some (l65_0, 8) := rfl
theorem b65_8 : blk 65 8 = some (l65_8, 13) := rfl
theorem b65_13 : blk 65 13 = some (l65_13, 18) := rfl
theorem b65_18 : blk 65 18 = some (l65_18, 33) := rfl
theorem b65_33 : blk 65 33 = some (l65_33, 38) := rfl
theorem b65_38 : blk 65 38 = some (l65_38, 45) := rfl
theorem bo66 : bkOf 66 = bk66 := rfl
theorem b66_0 : blk 66 0 = some (l66_0, 8) := rfl
theorem b66_8 : blk 66 8 = some (l66_8, 13) := rfl
theorem b66_13 : blk 66 13 = some (l66_13, 21) := rfl
theorem b66_21 : blk 66 21 = some (l66_21, 27) := rfl
theorem b66_27 : blk 66 27 = some (l66_27, 32) := rfl
theorem b66_32 : blk 66 32 = some (l66_32, 41) := rfl
theorem b66_41 : blk 66 41 = some (l66_41, 53) := rfl
theorem b66_53 : blk 66 53 = some (l66_53, 59) := rfl
theorem b66_59 : blk 66 59 = some (l66_59, 70) := rfl
theorem b66_70 : blk 66 70 = some (l66_70, 72) := rfl
theorem bo67 : bkOf 67 = bk67 := rfl
theorem b67_0 : blk 67 0 = some (l67_0, 8) := rfl
theorem b67_8 : blk 67 8 = some (l67_8, 13) := rfl
theorem b67_13 : blk 67 13 = some (l67_13, 21) := rfl
theorem b67_21 : blk 67 21 = some (l67_21, 30) := rfl
theorem b67_30 : blk 67 30 = some (l67_30, 33) := rfl
theorem b67_33 : blk 67 33 = some (l67_33, 36) := rfl
theorem b67_36 : blk 67 36 = some (l67_36, 41) := rfl
theorem b67_41 : blk 67 41 = some (l67_41, 49) := rfl
theorem b67_49 : blk 67 49 = some (l67_49, 61) := rfl
theorem b67_61 : blk 67 61 = some (l67_61, 69) := rfl
theorem b67_69 : blk 67 69 = some (l67_69, 81) := rfl
theorem b67_81 : blk 67 81 = some (l67_81, 82) := rfl
theorem b67_82 : blk 67 82 = some (l67_82, 112) := rfl
theorem b67_112 : blk 67 112 = some (l67_112, 122) := rfl
theorem b67_122 : blk 67 122 = some (l67_122, 132) := rfl
theorem b67_132 : blk 67 132 = some (l67_132, 135) := rfl
theorem b67_135 : blk 67 135 = some (l67_135, 136) := rfl
theorem b67_136 : blk 67 136 = some (l67_136, 152) := rfl
theorem b67_152 : blk 67 152 = some (l67_152, 154) := rfl
theorem b67_154 : blk 67 154 = some (l67_154, 155) := rfl
theorem b67_155 : blk 67 155 = some (l67_155, 158) := rfl
theorem b67_158 : blk 67 158 = some (l67_158, 168) := rfl
theorem b67_168 : blk 67 168 = some (l67_168, 169) := rfl
theorem bo68 : bkOf 68 = bk68 := rfl
theorem b68_0 : blk 68 0 = some (l68_0, 8) := rfl
theorem b68_8 : blk 68 8 = some (l68_8, 13) := rfl
theorem b68_13 : blk 68 13 = some (l68_13, 18) := rfl
theorem b68_18 : blk 68 18 = some (l68_18, 28) := rfl
theorem b68_28 : blk 68 28 = some (l68_28, 33) := rfl
theorem b68_33 : blk 68 33 = some (l68_33, 38) := rfl
theorem b68_38 : blk 68 38 = some (l68_38, 47) := rfl
theorem b68_47 : blk 68 47 = some (l68_47, 50) := rfl
theorem b68_50 : blk 68 50 = some (l68_50, 51) := rfl
theorem bo69 : bkOf 69 = bk69 := rfl
theorem b69_0 : blk 69 0 = some (l69_0, 8) := rfl
theorem b69_8 : blk 69 8 = some (l69_8, 13) := rfl
theorem b69_13 : blk 69 13 = some (l69_13, 21) := rfl
theorem b69_21 : blk 69 21 = some (l69_21, 27) := rfl
theorem b69_27 : blk 69 27 = some (l69_27, 32) := rfl
theorem b69_32 : blk 69 32 = some (l69_32, 43) := rfl
theorem b69_43 : blk 69 43 = some (l69_43, 66) := rfl
theorem b69_66 : blk 69 66 = some (l69_66, 69) := rfl
theorem b69_69 : blk 69 69 = some (l69_69, 76) := rfl
theorem b69_76 : blk 69 76 = some (l69_76, 79) := rfl
theorem bo70 : bkOf 70 = bk70 := rfl
theorem b70_0 : blk 70 0 = some (l70_0, 8) := rfl
theorem b70_8 : blk 70 8 = some (l70_8, 19) := rfl
theorem b70_19 : blk 70 19 = some (l70_19, 22) := rfl
theorem b70_22 : blk 70 22 = some (l70_22, 24) := rfl
theorem b70_24 : blk 70 24 = some (l70_24, 32) := rfl
theorem b70_32 : blk 70 32 = some (l70_32, 38) := rfl
theorem b70_38 : blk 70 38 = some (l70_38, 44) := rfl
theorem b70_44 : blk 70 44 = some (l70_44, 52) := rfl
theorem b70_52 : blk 70 52 = some (l70_52, 68) := rfl
theorem b70_68 : blk 70 68 = some (l70_68, 71) := rfl
theorem b70_71 : blk 70 71 = some (l70_71, 80) := rfl
theorem bo71 : bkOf 71 = bk71 := rfl
theorem b71_0 : blk 71 0 = some (l71_0, 8) := rfl
theorem b71_8 : blk 71 8 = some (l71_8, 19) := rfl
theorem b71_19 : blk 71 19 = some (l71_19, 22) := rfl
theorem b71_22 : blk 71 22 = some (l71_22, 24) := rfl
theorem b71_24 : blk 71 24 = some (l71_24, 32) := rfl
theorem b71_32 : blk 71 32 = some (l71_32, 38) := rfl
theorem b71_38 : blk 71 38 = some (l71_38, 42) := rfl
theorem b71_42 : blk 71 42 = some (l71_42, 52) := rfl
theorem b71_52 : blk 71 52 = some (l71_52, 56) := rfl
theorem b71_56 : blk 71 56 = some (l71_56, 66) := rfl
theorem b71_66 : blk 71 66 = some (l71_66, 75) := rfl
theorem bo72 : bkOf 72 = bk72 := rfl
theorem b72_0 : blk 72 0 = some (l72_0, 8) := rfl
theorem b72_8 : blk 72 8 = some (l72_8, 13) := rfl
theorem b72_13 : blk 72 13 = some (l72_13, 19) := rfl
theorem b72_19 : blk 72 19 = some (l72_19, 25) := rfl
theorem b72_25 : blk 72 25 = some (l72_25, 35) := rfl
theorem b72_35 : blk 72 35 = some (l72_35, 57) := rfl
theorem b72_57 : blk 72 57 = some (l72_57, 73) := rfl
theorem b72_73 : blk 72 73 = some (l72_73, 79) := rfl
theorem b72_79 : blk 72 79 = some (l72_79, 87) := rfl
theorem b72_87 : blk 72 87 = some (l72_87, 89) := rfl
theorem b72_89 : blk 72 89 = some (l72_89, 90) := rfl
theorem bo73 : bkOf 73 = bk73 := rfl
theorem b73_0 : blk 73 0 = some (l73_0, 8) := rfl
theorem b73_8 : blk 73 8 = some (l73_8, 13) := rfl
theorem b73_13 : blk 73 13 = some (l73_13, 21) := rfl
theorem b73_21 : blk 73 21 = some (l73_21, 34) := rfl
theorem b73_34 : blk 73 34 = some (l73_34, 51) := rfl
theorem b73_51 : blk 73 51 = some (l73_51, 58) := rfl
theorem b73_58 : blk 73 58 = some (l73_58, 72) := rfl
theorem b73_72 : blk 73 72 = some (l73_72, 80) := rfl
theorem b73_80 : blk 73 80 = some (l73_80, 86) := rfl
theorem b73_86 : blk 73 86 = some (l73_86, 90) := rfl
theorem bo74 : bkOf 74 = bk74 := rfl
theorem b74_0 : blk 74 0 = some (l74_0, 4) := rfl
theorem b74_4 : blk 74 4 = some (l74_4, 14) := rfl
theorem b74_14 : blk 74 14 = some (l74_14, 31) := rfl
theorem b74_31 : blk 74 31 = some (l74_31, 40) := rfl
theorem b74_40 : blk 74 40 = some (l74_40, 48) := rfl
theorem bo75 : bkOf 75 = bk75 := rfl
theorem b75_0 : blk 75 0 = some (l75_0, 18) := rfl
theorem bo76 : bkOf 76 = bk76 := rfl
theorem b76_0 : blk 76 0 = some (l76_0, 7) := rfl
theorem b76_7 : blk 76 7 = some (l76_7, 8) := rfl
theorem bo77 : bkOf 77 = bk77 := rfl
theorem b77_0 : blk 77 0 = some (l77_0, 13) := rfl
theorem b77_13 : blk 77 13 = some (l77_13, 24) := rfl
theorem b77_24 : blk 77 24 = some (l77_24, 32) := rfl
theorem bo78 : bkOf 78 = bk78 := rfl
theorem b78_0 : blk 78 0 = some (l78_0, 6) := rfl
theorem b78_6 : blk 78 6 = some (l78_6, 12) := rfl
theorem b78_12 : blk 78 12 = some (l78_12, 25) := rfl
theorem b78_25 : blk 78 25 = some (l78_25, 43) := rfl
theorem bo79 : bkOf 79 = bk79 := rfl
theorem b79_0 : blk 79 0 = some (l79_0, 6) := rfl
theorem b79_6 : blk 79 6 = some (l79_6, 12) := rfl
theorem b79_12 : blk 79 12 = some (l79_12, 24) := rfl
theorem b79_24 : blk 79 24 = some (l79_24, 35) := rfl
theorem b79_35 : blk 79 35 = some (l79_35, 48) := rfl
theorem b79_48 : blk 79 48 = some (l79_48, 59) := rfl
theorem bo80 : bkOf 80 = bk80 := rfl
theorem b80_0 : blk 80 0 = some (l80_0, 14) := rfl
theorem b80_14 : blk 80 14 = some (l80_14, 15) := rfl
theorem b80_15 : blk 80 15 = some (l80_15, 16) := rfl
theorem bo81 : bkOf 81 = bk81 := rfl
theorem b81_0 : blk 81 0 = some (l81_0, 8) := rfl
theorem b81_8 : blk 81 8 = some (l81_8, 9) := rfl
theorem b81_9 : blk 81 9 = some (l81_9, 10) := rfl
theorem bo82 : bkOf 82 = bk82 := rfl
theorem b82_0 : blk 82 0 = some (l82_0, 14) := rfl
theorem b82_14 : blk 82 14 = some (l82_14, 57) := rfl
theorem b82_57 : blk 82 57 = some (l82_57, 61) := rfl
theorem b82_61 : blk 82 61 = some (l82_61, 76) := rfl
theorem b82_76 : blk 82 76 = some (l82_76, 82) := rfl
theorem b82_82 : blk 82 82 = some (l82_82, 83) := rfl
theorem bo83 : bkOf 83 = bk83 := rfl
theorem b83_0 : blk 83 0 = some (l83_0, 22) := rfl
theorem b83_22 : blk 83 22 = some (l83_22, 31) := rfl
theorem b83_31 : blk 83 31 = some (l83_31, 36) := rfl
theorem bo84 : bkOf 84 = bk84 := rfl
theorem b84_0 : blk 84 0 = some (l84_0, 14) := rfl
theorem b84_14 : blk 84 14 = some (l84_14, 39) := rfl
theorem b84_39 : blk 84 39 = some (l84_39, 41) := rfl
theorem b84_41 : blk 84 41 = some (l84_41, 67) := rfl
theorem b84_67 : blk 84 67 = some (l84_67, 93) := rfl
theorem b84_93 : blk 84 93 = some (l84_93, 103) := rfl
theorem b84_103 : blk 84 103 = some (l84_103, 110) := rfl
theorem b84_110 : blk 84 110 = some (l84_110, 111) := rfl
theorem bo85 : bkOf 85 = bk85 := rfl
theorem b85_0 : blk 85 0 = some (l85_0, 14) := rfl
theorem b85_14 : blk 85 14 = some (l85_14, 23) := rfl
theorem b85_23 : blk 85 23 = some (l85_23, 39) := rfl
theorem b85_39 : blk 85 39 = some (l85_39, 46) := rfl
theorem b85_46 : blk 85 46 = some (l85_46, 47) := rfl
theorem b85_47 : blk 85 47 = some (l85_47, 48) := rfl
theorem bo86 : bkOf 86 = bk86 := rfl
theorem b86_0 : blk 86 0 = some (l86_0, 4) := rfl
theorem b86_4 : blk 86 4 = some (l86_4, 20) := rfl
theorem b86_20 : blk 86 20 = some (l86_20, 29) := rfl
theorem b86_29 : blk 86 29 = some (l86_29, 35) := rfl
theorem b86_35 : blk 86 35 = some (l86_35, 37) := rfl
theorem bo87 : bkOf 87 = bk87 := rfl
theorem b87_0 : blk 87 0 = some (l87_0, 8) := rfl
theorem b87_8 : blk 87 8 = some (l87_8, 24) := rfl
theorem b87_24 : blk 87 24 = some (l87_24, 27) := rfl
theorem b87_27 : blk 87 27 = some (l87_27, 40) := rfl
theorem b87_40 : blk 87 40 = some (l87_40, 46) := rfl
theorem b87_46 : blk 87 46 = some (l87_46, 48) := rfl
theorem bo88 : bkOf 88 = bk88 := rfl
theorem b88_0 : blk 88 0 = some (l88_0, 5) := rfl
theorem b88_5 : blk 88 5 = some (l88_5, 11) := rfl
theorem b88_11 : blk 88 11 = some (l88_11, 23) := rfl
theorem b88_23 : blk 88 23 = some (l88_23, 43) := rfl
theorem b88_43 : blk 88 43 = some (l88_43, 54) := rfl
theorem b88_54 : blk 88 54 = some (l88_54, 66) := rfl
theorem b88_66 : blk 88 66 = some (l88_66, 74) := rfl
theorem b88_74 : blk 88 74 = some (l88_74, 80) := rfl
theorem bo89 : bkOf 89 = bk89 := rfl
theorem b89_0 : blk 89 0 = some (l89_0, 17) := rfl
theorem b89_17 : blk 89 17 = some (l89_17, 19) := rfl
theorem b89_19 : blk 89 19 = some (l89_19, 45) := rfl
theorem b89_45 : blk 89 45 = some (l89_45, 52) := rfl
theorem b89_52 : blk 89 52 = some (l89_52, 53) := rfl
theorem bo90 : bkOf 90 = bk90 := rfl
theorem b90_0 : blk 90 0 = some (l90_0, 4) := rfl
theorem b90_4 : blk 90 4 = some (l90_4, 29) := rfl
theorem b90_29 : blk 90 29 = some (l90_29, 45) := rfl
theorem b90_45 : blk 90 45 = some (l90_45, 47) := rfl
theorem bo91 : bkOf 91 = bk91 := rfl
theorem b91_0 : blk 91 0 = some (l91_0, 4) := rfl
theorem b91_4 : blk 91 4 = some (l91_4, 29) := rfl
theorem b91_29 : blk 91 29 = some (l91_29, 49) := rfl
theorem b91_49 : blk 91 49 = some (l91_49, 51) := rfl
theorem bo92 : bkOf 92 = bk92 := rfl
theorem b92_0 : blk 92 0 = some (l92_0, 8) := rfl
theorem b92_8 : blk 92 8 = some (l92_8, 14) := rfl
theorem b92_14 : blk 92 14 = some (l92_14, 23) := rfl
theorem b92_23 : blk 92 23 = some (l92_23, 28) := rfl
theorem b92_28 : blk 92 28 = some (l92_28, 37) := rfl
theorem b92_37 : blk 92 37 = some (l92_37, 39) := rfl
theorem bo94 : bkOf 94 = bk94 := rfl
theorem b94_0 : blk 94 0 = some (l94_0, 14) := rfl
theorem b94_14 : blk 94 14 = some (l94_14, 15) := rfl
theorem b94_15 : blk 94 15 = some (l94_15, 16) := rfl
theorem bo95 : bkOf 95 = bk95 := rfl
theorem b95_0 : blk 95 0 = some (l95_0, 18) := rfl
theorem b95_18 : blk 95 18 = some (l95_18, 19) := rfl
theorem b95_19 : blk 95 19 = some (l95_19, 20) := rfl
theorem bo96 : bkOf 96 = bk96 := rfl
theorem b96_0 : blk 96 0 = some (l96_0, 18) := rfl
theorem b96_18 : blk 96 18 = some (l96_18, 19) := rfl
theorem b96_19 : blk 96 19 = some (l96_19, 20) := rfl
theorem bo97 : bkOf 97 = bk97 := rfl
theorem b97_0 : blk 97 0 = some (l97_0, 18) := rfl
theorem b97_18 : blk 97 18 = some (l97_18, 19) := rfl
theorem b97_19 : blk 97 19 = some (l97_19, 20) := rfl
theorem bo98 : bkOf 98 = bk98 := rfl
theorem b98_0 : blk 98 0 = some (l98_0, 13) := rfl
theorem bo99 : bkOf 99 = bk99 := rfl
theorem b99_0 : blk 99 0 = some (l99_0, 12) := rfl
theorem bo100 : bkOf 100 = bk100 := rfl
theorem b100_0 : blk 100 0 = some (l100_0, 16) := rfl
theorem bo101 : bkOf 101 = bk101 := rfl
theorem b101_0 : blk 101 0 = some (l101_0, 13) := rfl
theorem bo102 : bkOf 102 = bk102 := rfl
theorem b102_0 : blk 102 0 = some (l102_0, 15) := rfl
theorem bo103 : bkOf 103 = bk103 := rfl
theorem b103_0 : blk 103 0 = some (l103_0, 13) := rfl
theorem bo104 : bkOf 104 = bk104 := rfl
theorem b104_0 : blk 104 0 = some (l104_0, 15) := rfl
theorem bo105 : bkOf 105 = bk105 := rfl
theorem b105_0 : blk 105 0 = some (l105_0, 22) := rfl
theorem b105_22 : blk 105 22 = some (l105_22, 23) := rfl
theorem b105_23 : blk 105 23 = some (l105_23, 24) := rfl
theorem bo106 : bkOf 106 = bk106 := rfl
theorem b106_0 : blk 106 0 = some (l106_0, 11) := rfl
theorem b106_11 : blk 106 11 = some (l106_11, 40) := rfl
theorem b106_40 : blk 106 40 = some (l106_40, 50) := rfl
theorem b106_50 : blk 106 50 = some (l106_50, 52) := rfl
theorem b106_52 : blk 106 52 = some (l106_52, 86) := rfl
theorem b106_86 : blk 106 86 = some (l106_86, 97) := rfl
theorem bo107 : bkOf 107 = bk107 := rfl
theorem b107_0 : blk 107 0 = some (l107_0, 10) := rfl
theorem b107_10 : blk 107 10 = some (l107_10, 22) := rfl
theorem b107_22 : blk 107 22 = some (l107_22, 56) := rfl
theorem b107_56 : blk 107 56 = some (l107_56, 61) := rfl
theorem bo108 : bkOf 108 = bk108 := rfl
theorem b108_0 : blk 108 0 = some (l108_0, 6) := rfl
theorem b108_6 : blk 108 6 = some (l108_6, 12) := rfl
theorem b108_12 : blk 108 12 = some (l108_12, 21) := rfl
theorem b108_21 : blk 108 21 = some (l108_21, 52) := rfl
theorem b108_52 : blk 108 52 = some (l108_52, 59) := rfl
theorem bo109 : bkOf 109 = bk109 := rfl
theorem b109_0 : blk 109 0 = some (l109_0, 6) := rfl
theorem b109_6 : blk 109 6 = some (l109_6, 12) := rfl
theorem b109_12 : blk 109 12 = some (l109_12, 24) := rfl
theorem b109_24 : blk 109 24 = some (l109_24, 28) := rfl
theorem b109_28 : blk 109 28 = some (l109_28, 30) := rfl
theorem b109_30 : blk 109 30 = some (l109_30, 61) := rfl
theorem b109_61 : blk 109 61 = some (l109_61, 68) := rfl
theorem bo110 : bkOf 110 = bk110 := rfl
theorem b110_0 : blk 110 0 = some (l110_0, 20) := rfl
theorem b110_20 : blk 110 20 = some (l110_20, 41) := rfl
theorem b110_41 : blk 110 41 = some (l110_41, 45) := rfl
theorem b110_45 : blk 110 45 = some (l110_45, 58) := rfl
theorem b110_58 : blk 110 58 = some (l110_58, 66) := rfl
theorem b110_66 : blk 110 66 = some (l110_66, 71) := rfl
theorem b110_71 : blk 110 71 = some (l110_71, 95) := rfl
theorem b110_95 : blk 110 95 = some (l110_95, 104) := rfl
theorem b110_104 : blk 110 104 = some (l110_104, 105) := rfl
theorem b110_105 : blk 110 105 = some (l110_105, 117) := rfl
theorem b110_117 : blk 110 117 = some (l110_117, 119) := rfl
theorem b110_119 : blk 110 119 = some (l110_119, 127) := rfl
theorem b110_127 : blk 110 127 = some (l110_127, 161) := rfl
theorem b110_161 : blk 110 161 = some (l110_161, 167) := rfl
theorem b110_167 : blk 110 167 = some (l110_167, 185) := rfl
theorem b110_185 : blk 110 185 = some (l110_185, 203) := rfl
theorem b110_203 : blk 110 203 = some (l110_203, 221) := rfl
theorem b110_221 : blk 110 221 = some (l110_221, 250) := rfl
theorem b110_250 : blk 110 250 = some (l110_250, 254) := rfl
theorem b110_254 : blk 110 254 = some (l110_254, 262) := rfl
theorem b110_262 : blk 110 262 = some (l110_262, 274) := rfl
theorem b110_274 : blk 110 274 = some (l110_274, 295) := rfl
theorem b110_295 : blk 110 295 = some (l110_295, 296) := rfl
theorem bo111 : bkOf 111 = bk111 := rfl
theorem b111_0 : blk 111 0 = some (l111_0, 7) := rfl
theorem b111_7 : blk 111 7 = some (l111_7, 10) := rfl
theorem b111_10 : blk 111 10 = some (l111_10, 11) := rfl
theorem bo112 : bkOf 112 = bk112 := rfl
theorem b112_0 : blk 112 0 = some (l112_0, 5) := rfl
theorem b112_5 : blk 112 5 = some (l112_5, 10) := rfl
theorem b112_10 : blk 112 10 = some (l112_10, 43) := rfl
theorem b112_43 : blk 112 43 = some (l112_43, 46) := rfl
theorem b112_46 : blk 112 46 = some (l112_46, 51) := rfl
theorem b112_51 : blk 112 51 = some (l112_51, 52) := rfl
theorem bo113 : bkOf 113 = bk113 := rfl
theorem b113_0 : blk 113 0 = some (l113_0, 7) := rfl
theorem b113_7 : blk 113 7 = some (l113_7, 9) := rfl
theorem b113_9 : blk 113 9 = some (l113_9, 24) := rfl
theorem b113_24 : blk 113 24 = some (l113_24, 51) := rfl
theorem b113_51 : blk 113 51 = some (l113_51, 55) := rfl
theorem b113_55 : blk 113 55 = some (l113_55, 56) := rfl
theorem b113_56 : blk 113 56 = some (l113_56, 63) := rfl
theorem b113_63 : blk 113 63 = some (l113_63, 65) := rfl
theorem bo114 : bkOf 114 = bk114 := rfl
theorem b114_0 : blk 114 0 = some (l114_0, 4) := rfl
theorem b114_4 : blk 114 4 = some (l114_4, 42) := rfl
theorem b114_42 : blk 114 42 = some (l114_42, 43) := rfl
theorem b114_43 : blk 114 43 = some (l114_43, 52) := rfl
theorem b114_52 : blk 114 52 = some (l114_52, 54) := rfl
theorem bo115 : bkOf 115 = bk115 := rfl
theorem b115_0 : blk 115 0 = some (l115_0, 4) := rfl
theorem b115_4 : blk 115 4 = some (l115_4, 34) := rfl
theorem b115_34 : blk 115 34 = some (l115_34, 35) := rfl
theorem b115_35 : blk 115 35 = some (l115_35, 43) := rfl
theorem b115_43 : blk 115 43 = some (l115_43, 45) := rfl
theorem bo116 : bkOf 116 = bk116 := rfl
theorem b116_0 : blk 116 0 = some (l116_0, 4) := rfl
theorem b116_4 : blk 116 4 = some (l116_4, 32) := rfl
theorem b116_32 : blk 116 32 = some (l116_32, 36) := rfl
theorem b116_36 : blk 116 36 = some (l116_36, 37) := rfl
theorem b116_37 : blk 116 37 = some (l116_37, 44) := rfl
theorem b116_44 : blk 116 44 = some (l116_44, 46) := rfl
theorem bo117 : bkOf 117 = bk117 := rfl
theorem b117_0 : blk 117 0 = some (l117_0, 2) := rfl
theorem b117_2 : blk 117 2 = some (l117_2, 53) := rfl
theorem b117_53 : blk 117 53 = some (l117_53, 54) := rfl
theorem bo118 : bkOf 118 = bk118 := rfl
theorem b118_0 : blk 118 0 = some (l118_0, 10) := rfl
theorem b118_10 : blk 118 10 = some (l118_10, 21) := rfl
theorem b118_21 : blk 118 21 = some (l118_21, 22) := rfl
theorem bo119 : bkOf 119 = bk119 := rfl
theorem b119_0 : blk 119 0 = some (l119_0, 2) := rfl
theorem b119_2 : blk 119 2 = some (l119_2, 26) := rfl
theorem b119_26 : blk 119 26 = some (l119_26, 28) := rfl
theorem b119_28 : blk 119 28 = some (l119_28, 53) := rfl
theorem b119_53 : blk 119 53 = some (l119_53, 54) := rfl
theorem bo120 : bkOf 120 = bk120 := rfl
theorem b120_0 : blk 120 0 = some (l120_0, 11) := rfl
theorem b120_11 : blk 120 11 = some (l120_11, 16) := rfl
theorem b120_16 : blk 120 16 = some (l120_16, 24) := rfl
theorem b120_24 : blk 120 24 = some (l120_24, 30) := rfl
theorem b120_30 : blk 120 30 = some (l120_30, 52) := rfl
theorem b120_52 : blk 120 52 = some (l120_52, 55) := rfl
theorem b120_55 : blk 120 55 = some (l120_55, 59) := rfl
theorem b120_59 : blk 120 59 = some (l120_59, 71) := rfl
theorem b120_71 : blk 120 71 = some (l120_71, 119) := rfl
theorem b120_119 : blk 120 119 = some (l120_119, 120) := rfl
theorem b120_120 : blk 120 120 = some (l120_120, 146) := rfl
theorem b120_146 : blk 120 146 = some (l120_146, 158) := rfl
theorem b120_158 : blk 120 158 = some (l120_158, 164) := rfl
theorem b120_164 : blk 120 164 = some (l120_164, 170) := rfl
theorem b120_170 : blk 120 170 = some (l120_170, 171) := rfl
theorem bo121 : bkOf 121 = bk121 := rfl
theorem b121_0 : blk 121 0 = some (l121_0, 5) := rfl
theorem b121_5 : blk 121 5 = some (l121_5, 10) := rfl
theorem b121_10 : blk 121 10 = some (l121_10, 23) := rfl
theorem b121_23 : blk 121 23 = some (l121_23, 27) := rfl
theorem b121_27 : blk 121 27 = some (l121_27, 33) := rfl
theorem b121_33 : blk 121 33 = some (l121_33, 36) := rfl
theorem b121_36 : blk 121 36 = some (l121_36, 53) := rfl
theorem b121_53 : blk 121 53 = some (l121_53, 59) := rfl
theorem b121_59 : blk 121 59 = some (l121_59, 79) := rfl
theorem b121_79 : blk 121 79 = some (l121_79, 89) := rfl
theorem bo122 : bkOf 122 = bk122 := rfl
theorem b122_0 : blk 122 0 = some (l122_0, 5) := rfl
theorem b122_5 : blk 122 5 = some (l122_5, 10) := rfl
theorem b122_10 : blk 122 10 = some (l122_10, 18) := rfl
theorem b122_18 : blk 122 18 = some (l122_18, 24) := rfl
theorem b122_24 : blk 122 24 = some (l122_24, 28) := rfl
theorem b122_28 : blk 122 28 = some (l122_28, 34) := rfl
theorem b122_34 : blk 122 34 = some (l122_34, 50) := rfl
theorem bo123 : bkOf 123 = bk123 := rfl
theorem b123_0 : blk 123 0 = some (l123_0, 4) := rfl
theorem b123_4 : blk 123 4 = some (l123_4, 21) := rfl
theorem b123_21 : blk 123 21 = some (l123_21, 29) := rfl
theorem b123_29 : blk 123 29 = some (l123_29, 31) := rfl
theorem bo124 : bkOf 124 = bk124 := rfl
theorem b124_0 : blk 124 0 = some (l124_0, 5) := rfl
theorem b124_5 : blk 124 5 = some (l124_5, 10) := rfl
theorem b124_10 : blk 124 10 = some (l124_10, 20) := rfl
theorem b124_20 : blk 124 20 = some (l124_20, 28) := rfl
theorem b124_28 : blk 124 28 = some (l124_28, 29) := rfl
theorem b124_29 : blk 124 29 = some (l124_29, 33) := rfl
theorem b124_33 : blk 124 33 = some (l124_33, 36) := rfl
theorem b124_36 : blk 124 36 = some (l124_36, 40) := rfl
theorem b124_40 : blk 124 40 = some (l124_40, 59) := rfl
theorem b124_59 : blk 124 59 = some (l124_59, 60) := rfl
theorem b124_60 : blk 124 60 = some (l124_60, 65) := rfl
theorem b124_65 : blk 124 65 = some (l124_65, 66) := rfl
theorem bo125 : bkOf 125 = bk125 := rfl
theorem b125_0 : blk 125 0 = some (l125_0, 7) := rfl
theorem b125_7 : blk 125 7 = some (l125_7, 17) := rfl
theorem b125_17 : blk 125 17 = some (l125_17, 20) := rfl
theorem b125_20 : blk 125 20 = some (l125_20, 23) := rfl
theorem b125_23 : blk 125 23 = some (l125_23, 37) := rfl
theorem b125_37 : blk 125 37 = some (l125_37, 41) := rfl
theorem b125_41 : blk 125 41 = some (l125_41, 98) := rfl
theorem bo126 : bkOf 126 = bk126 := rfl
theorem b126_0 : blk 126 0 = some (l126_0, 17) := rfl
theorem b126_17 : blk 126 17 = some (l126_17, 36) := rfl
theorem bo127 : bkOf 127 = bk127 := rfl
theorem b127_0 : blk 127 0 = some (l127_0, 32) := rfl
theorem b127_32 : blk 127 32 = some (l127_32, 36) := rfl
theorem bo128 : bkOf 128 = bk128 := rfl
theorem b128_0 : blk 128 0 = some (l128_0, 5) := rfl
theorem b128_5 : blk 128 5 = some (l128_5, 13) := rfl
theorem b128_13 : blk 128 13 = some (l128_13, 16) := rfl
theorem b128_16 : blk 128 16 = some (l128_16, 20) := rfl
theorem b128_20 : blk 128 20 = some (l128_20, 25) := rfl
theorem b128_25 : blk 128 25 = some (l128_25, 34) := rfl
theorem b128_34 : blk 128 34 = some (l128_34, 35) := rfl
theorem b128_35 : blk 128 35 = some (l128_35, 36) := rfl
theorem bo129 : bkOf 129 = bk129 := rfl
theorem b129_0 : blk 129 0 = some (l129_0, 6) := rfl
theorem b129_6 : blk 129 6 = some (l129_6, 13) := rfl
theorem b129_13 : blk 129 13 = some (l129_13, 17) := rfl
theorem b129_17 : blk 129 17 = some (l129_17, 23) := rfl
theorem b129_23 : blk 129 23 = some (l129_23, 28) := rfl
theorem b129_28 : blk 129 28 = some (l129_28, 29) := rfl
theorem bo130 : bkOf 130 = bk130 := rfl
theorem b130_0 : blk 130 0 = some (l130_0, 5) := rfl
theorem b130_5 : blk 130 5 = some (l130_5, 8) := rfl
theorem b130_8 : blk 130 8 = some (l130_8, 33) := rfl
theorem b130_33 : blk 130 33 = some (l130_33, 35) := rfl
theorem bo131 : bkOf 131 = bk131 := rfl
theorem b131_0 : blk 131 0 = some (l131_0, 5) := rfl
theorem b131_5 : blk 131 5 = some (l131_5, 10) := rfl
theorem b131_10 : blk 131 10 = some (l131_10, 14) := rfl
theorem b131_14 : blk 131 14 = some (l131_14, 19) := rfl
theorem b131_19 : blk 131 19 = some (l131_19, 20) := rfl
theorem bo132 : bkOf 132 = bk132 := rfl
theorem b132_0 : blk 132 0 = some (l132_0, 6) := rfl
theorem b132_6 : blk 132 6 = some (l132_6, 17) := rfl
theorem b132_17 : blk 132 17 = some (l132_17, 20) := rfl
theorem b132_20 : blk 132 20 = some (l132_20, 23) := rfl
theorem b132_23 : blk 132 23 = some (l132_23, 37) := rfl
theorem b132_37 : blk 132 37 = some (l132_37, 41) := rfl
theorem b132_41 : blk 132 41 = some (l132_41, 103) := rfl
theorem bo133 : bkOf 133 = bk133 := rfl
theorem b133_0 : blk 133 0 = some (l133_0, 5) := rfl
theorem b133_5 : blk 133 5 = some (l133_5, 10) := rfl
theorem b133_10 : blk 133 10 = some (l133_10, 19) := rfl
theorem b133_19 : blk 133 19 = some (l133_19, 25) := rfl
theorem b133_25 : blk 133 25 = some (l133_25, 29) := rfl
theorem b133_29 : blk 133 29 = some (l133_29, 34) := rfl
theorem b133_34 : blk 133 34 = some (l133_34, 36) := rfl
theorem b133_36 : blk 133 36 = some (l133_36, 64) := rfl
theorem b133_64 : blk 133 64 = some (l133_64, 70) := rfl
theorem b133_70 : blk 133 70 = some (l133_70, 77) := rfl
theorem b133_77 : blk 133 77 = some (l133_77, 98) := rfl
theorem b133_98 : blk 133 98 = some (l133_98, 99) := rfl
theorem b133_99 : blk 133 99 = some (l133_99, 105) := rfl
theorem b133_105 : blk 133 105 = some (l133_105, 106) := rfl
theorem bo134 : bkOf 134 = bk134 := rfl
theorem b134_0 : blk 134 0 = some (l134_0, 4) := rfl
theorem b134_4 : blk 134 4 = some (l134_4, 16) := rfl
theorem b134_16 : blk 134 16 = some (l134_16, 24) := rfl
theorem b134_24 : blk 134 24 = some (l134_24, 26) := rfl
theorem bo135 : bkOf 135 = bk135 := rfl
theorem b135_0 : blk 135 0 = some (l135_0, 4) := rfl
theorem b135_4 : blk 135 4 = some (l135_4, 16) := rfl
theorem b135_16 : blk 135 16 = some (l135_16, 24) := rfl
theorem b135_24 : blk 135 24 = some (l135_24, 26) := rfl
theorem bo136 : bkOf 136 = bk136 := rfl
theorem b136_0 : blk 136 0 = some (l136_0, 5) := rfl
theorem b136_5 : blk 136 5 = some (l136_5, 10) := rfl
theorem b136_10 : blk 136 10 = some (l136_10, 48) := rfl
theorem b136_48 : blk 136 48 = some (l136_48, 54) := rfl
theorem b136_54 : blk 136 54 = some (l136_54, 55) := rfl
theorem b136_55 : blk 136 55 = some (l136_55, 60) := rfl
theorem b136_60 : blk 136 60 = some (l136_60, 61) := rfl
theorem b136_61 : blk 136 61 = some (l136_61, 66) := rfl
theorem b136_66 : blk 136 66 = some (l136_66, 67) := rfl
theorem b136_67 : blk 136 67 = some (l136_67, 73) := rfl
theorem b136_73 : blk 136 73 = some (l136_73, 74) := rfl
theorem b136_74 : blk 136 74 = some (l136_74, 79) := rfl
theorem b136_79 : blk 136 79 = some (l136_79, 80) := rfl
theorem b136_80 : blk 136 80 = some (l136_80, 83) := rfl
theorem bo137 : bkOf 137 = bk137 := rfl
theorem b137_0 : blk 137 0 = some (l137_0, 2) := rfl
theorem b137_2 : blk 137 2 = some (l137_2, 18) := rfl
theorem b137_18 : blk 137 18 = some (l137_18, 24) := rfl
theorem b137_24 : blk 137 24 = some (l137_24, 30) := rfl
theorem b137_30 : blk 137 30 = some (l137_30, 32) := rfl
theorem bo138 : bkOf 138 = bk138 := rfl
theorem b138_0 : blk 138 0 = some (l138_0, 5) := rfl
theorem b138_5 : blk 138 5 = some (l138_5, 15) := rfl
theorem b138_15 : blk 138 15 = some (l138_15, 20) := rfl
theorem b138_20 : blk 138 20 = some (l138_20, 29) := rfl
theorem b138_29 : blk 138 29 = some (l138_29, 32) := rfl
theorem b138_32 : blk 138 32 = some (l138_32, 33) := rfl
theorem b138_33 : blk 138 33 = some (l138_33, 34) := rfl
theorem bo139 : bkOf 139 = bk139 := rfl
theorem b139_0 : blk 139 0 = some (l139_0, 4) := rfl
theorem b139_4 : blk 139 4 = some (l139_4, 20) := rfl
theorem b139_20 : blk 139 20 = some (l139_20, 27) := rfl
theorem b139_27 : blk 139 27 = some (l139_27, 42) := rfl
theorem b139_42 : blk 139 42 = some (l139_42, 46) := rfl
theorem b139_46 : blk 139 46 = some (l139_46, 50) := rfl
theorem b139_50 : blk 139 50 = some (l139_50, 51) := rfl
theorem b139_51 : blk 139 51 = some (l139_51, 59) := rfl
theorem b139_59 : blk 139 59 = some (l139_59, 69) := rfl
theorem b139_69 : blk 139 69 = some (l139_69, 70) := rfl
theorem b139_70 : blk 139 70 = some (l139_70, 78) := rfl
theorem b139_78 : blk 139 78 = some (l139_78, 80) := rfl
theorem bo140 : bkOf 140 = bk140 := rfl
theorem b140_0 : blk 140 0 = some (l140_0, 4) := rfl
theorem b140_4 : blk 140 4 = some (l140_4, 19) := rfl
theorem b140_19 : blk 140 19 = some (l140_19, 25) := rfl
theorem b140_25 : blk 140 25 = some (l140_25, 32) := rfl
theorem b140_32 : blk 140 32 = some (l140_32, 33) := rfl
theorem b140_33 : blk 140 33 = some (l140_33, 41) := rfl
theorem b140_41 : blk 140 41 = some (l140_41, 43) := rfl
theorem bo141 : bkOf 141 = bk141 := rfl
theorem b141_0 : blk 141 0 = some (l141_0, 5) := rfl
theorem b141_5 : blk 141 5 = some (l141_5, 10) := rfl
theorem b141_10 : blk 141 10 = some (l141_10, 40) := rfl
theorem b141_40 : blk 141 40 = some (l141_40, 45) := rfl
theorem b141_45 : blk 141 45 = some (l141_45, 46) := rfl
theorem b141_46 : blk 141 46 = some (l141_46, 51) := rfl
theorem b141_51 : blk 141 51 = some (l141_51, 52) := rfl
theorem b141_52 : blk 141 52 = some (l141_52, 57) := rfl
theorem b141_57 : blk 141 57 = some (l141_57, 58) := rfl
theorem b141_58 : blk 141 58 = some (l141_58, 63) := rfl
theorem b141_63 : blk 141 63 = some (l141_63, 64) := rfl
theorem b141_64 : blk 141 64 = some (l141_64, 67) := rfl
theorem bo142 : bkOf 142 = bk142 := rfl
theorem b142_0 : blk 142 0 = some (l142_0, 5) := rfl
theorem b142_5 : blk 142 5 = some (l142_5, 10) := rfl
theorem b142_10 : blk 142 10 = some (l142_10, 20) := rfl
theorem b142_20 : blk 142 20 = some (l142_20, 27) := rfl
theorem b142_27 : blk 142 27 = some (l142_27, 28) := rfl
theorem b142_28 : blk 142 28 = some (l142_28, 29) := rfl
theorem b142_29 : blk 142 29 = some (l142_29, 34) := rfl
theorem b142_34 : blk 142 34 = some (l142_34, 80) := rfl
theorem b142_80 : blk 142 80 = some (l142_80, 85) := rfl
theorem b142_85 : blk 142 85 = some (l142_85, 86) := rfl
theorem b142_86 : blk 142 86 = some (l142_86, 91) := rfl
theorem b142_91 : blk 142 91 = some (l142_91, 92) := rfl
theorem b142_92 : blk 142 92 = some (l142_92, 97) := rfl
theorem b142_97 : blk 142 97 = some (l142_97, 104) := rfl
theorem b142_104 : blk 142 104 = some (l142_104, 105) := rfl
theorem b142_105 : blk 142 105 = some (l142_105, 106) := rfl
theorem b142_106 : blk 142 106 = some (l142_106, 111) := rfl
theorem b142_111 : blk 142 111 = some (l142_111, 112) := rfl
theorem b142_112 : blk 142 112 = some (l142_112, 116) := rfl
theorem b142_116 : blk 142 116 = some (l142_116, 117) := rfl
theorem b142_117 : blk 142 117 = some (l142_117, 122) := rfl
theorem b142_122 : blk 142 122 = some (l142_122, 123) := rfl
theorem b142_123 : blk 142 123 = some (l142_123, 130) := rfl
theorem b142_130 : blk 142 130 = some (l142_130, 133) := rfl
theorem bo143 : bkOf 143 = bk143 := rfl
theorem b143_0 : blk 143 0 = some (l143_0, 4) := rfl
theorem b143_4 : blk 143 4 = some (l143_4, 20) := rfl
theorem b143_20 : blk 143 20 = some (l143_20, 29) := rfl
theorem b143_29 : blk 143 29 = some (l143_29, 30) := rfl
theorem b143_30 : blk 143 30 = some (l143_30, 38) := rfl
theorem b143_38 : blk 143 38 = some (l143_38, 40) := rfl
theorem bo144 : bkOf 144 = bk144 := rfl
theorem b144_0 : blk 144 0 = some (l144_0, 8) := rfl
theorem b144_8 : blk 144 8 = some (l144_8, 23) := rfl
theorem b144_23 : blk 144 23 = some (l144_23, 28) := rfl
theorem b144_28 : blk 144 28 = some (l144_28, 40) := rfl
theorem b144_40 : blk 144 40 = some (l144_40, 41) := rfl
theorem b144_41 : blk 144 41 = some (l144_41, 53) := rfl
theorem b144_53 : blk 144 53 = some (l144_53, 54) := rfl
theorem b144_54 : blk 144 54 = some (l144_54, 61) := rfl
theorem b144_61 : blk 144 61 = some (l144_61, 63) := rfl
theorem bo145 : bkOf 145 = bk145 := rfl
theorem b145_0 : blk 145 0 = some (l145_0, 52) := rfl
theorem b145_52 : blk 145 52 = some (l145_52, 59) := rfl
theorem b145_59 : blk 145 59 = some (l145_59, 69) := rfl
theorem b145_69 : blk 145 69 = some (l145_69, 70) := rfl
theorem b145_70 : blk 145 70 = some (l145_70, 74) := rfl
theorem b145_74 : blk 145 74 = some (l145_74, 75) := rfl
theorem b145_75 : blk 145 75 = some (l145_75, 82) := rfl
theorem b145_82 : blk 145 82 = some (l145_82, 89) := rfl
theorem b145_89 : blk 145 89 = some (l145_89, 93) := rfl
theorem b145_93 : blk 145 93 = some (l145_93, 94) := rfl
theorem b145_94 : blk 145 94 = some (l145_94, 98) := rfl
theorem b145_98 : blk 145 98 = some (l145_98, 99) := rfl
theorem b145_99 : blk 145 99 = some (l145_99, 104) := rfl
theorem b145_104 : blk 145 104 = some (l145_104, 109) := rfl
theorem b145_109 : blk 145 109 = some (l145_109, 112) := rfl
theorem bo146 : bkOf 146 = bk146 := rfl
theorem b146_0 : blk 146 0 = some (l146_0, 5) := rfl
theorem b146_5 : blk 146 5 = some (l146_5, 10) := rfl
theorem b146_10 : blk 146 10 = some (l146_10, 15) := rfl
theorem b146_15 : blk 146 15 = some (l146_15, 28) := rfl
theorem b146_28 : blk 146 28 = some (l146_28, 44) := rfl
theorem b146_44 : blk 146 44 = some (l146_44, 45) := rfl
theorem b146_45 : blk 146 45 = some (l146_45, 46) := rfl
theorem bo147 : bkOf 147 = bk147 := rfl
theorem b147_0 : blk 147 0 = some (l147_0, 5) := rfl
theorem b147_5 : blk 147 5 = some (l147_5, 10) := rfl
theorem b147_10 : blk 147 10 = some (l147_10, 18) := rfl
theorem b147_18 : blk 147 18 = some (l147_18, 24) := rfl
theorem b147_24 : blk 147 24 = some (l147_24, 29) := rfl
theorem b147_29 : blk 147 29 = some (l147_29, 37) := rfl
theorem b147_37 : blk 147 37 = some (l147_37, 88) := rfl
theorem b147_88 : blk 147 88 = some (l147_88, 94) := rfl
theorem b147_94 : blk 147 94 = some (l147_94, 97) := rfl
theorem bo148 : bkOf 148 = bk148 := rfl
theorem b148_0 : blk 148 0 = some (l148_0, 9) := rfl
theorem b148_9 : blk 148 9 = some (l148_9, 59) := rfl
theorem b148_59 : blk 148 59 = some (l148_59, 100) := rfl
theorem b148_100 : blk 148 100 = some (l148_100, 102) := rfl
theorem bo149 : bkOf 149 = bk149 := rfl
theorem b149_0 : blk 149 0 = some (l149_0, 4) := rfl
theorem b149_4 : blk 149 4 = some (l149_4, 28) := rfl
theorem b149_28 : blk 149 28 = some (l149_28, 30) := rfl
theorem bo150 : bkOf 150 = bk150 := rfl
theorem b150_0 : blk 150 0 = some (l150_0, 5) := rfl
theorem b150_5 : blk 150 5 = some (l150_5, 10) := rfl
theorem b150_10 : blk 150 10 = some (l150_10, 18) := rfl
theorem b150_18 : blk 150 18 = some (l150_18, 27) := rfl
theorem b150_27 : blk 150 27 = some (l150_27, 30) := rfl
theorem b150_30 : blk 150 30 = some (l150_30, 33) := rfl
theorem b150_33 : blk 150 33 = some (l150_33, 38) := rfl
theorem b150_38 : blk 150 38 = some (l150_38, 43) := rfl
theorem b150_43 : blk 150 43 = some (l150_43, 49) := rfl
theorem b150_49 : blk 150 49 = some (l150_49, 65) := rfl
theorem b150_65 : blk 150 65 = some (l150_65, 74) := rfl
theorem b150_74 : blk 150 74 = some (l150_74, 75) := rfl
theorem b150_75 : blk 150 75 = some (l150_75, 103) := rfl
theorem b150_103 : blk 150 103 = some (l150_103, 108) := rfl
theorem b150_108 : blk 150 108 = some (l150_108, 120) := rfl
theorem b150_120 : blk 150 120 = some (l150_120, 128) := rfl
theorem b150_128 : blk 150 128 = some (l150_128, 129) := rfl
theorem bo151 : bkOf 151 = bk151 := rfl
theorem b151_0 : blk 151 0 = some (l151_0, 5) := rfl
theorem b151_5 : blk 151 5 = some (l151_5, 10) := rfl
theorem b151_10 : blk 151 10 = some (l151_10, 15) := rfl
theorem b151_15 : blk 151 15 = some (l151_15, 23) := rfl
theorem b151_23 : blk 151 23 = some (l151_23, 73) := rfl
theorem b151_73 : blk 151 73 = some (l151_73, 105) := rfl
theorem b151_105 : blk 151 105 = some (l151_105, 107) := rfl
theorem bo152 : bkOf 152 = bk152 := rfl
theorem b152_0 : blk 152 0 = some (l152_0, 5) := rfl
theorem b152_5 : blk 152 5 = some (l152_5, 10) := rfl
theorem b152_10 : blk 152 10 = some (l152_10, 18) := rfl
theorem b152_18 : blk 152 18 = some (l152_18, 24) := rfl
theorem b152_24 : blk 152 24 = some (l152_24, 29) := rfl
theorem b152_29 : blk 152 29 = some (l152_29, 35) := rfl
theorem b152_35 : blk 152 35 = some (l152_35, 99) := rfl
theorem b152_99 : blk 152 99 = some (l152_99, 101) := rfl
theorem b152_101 : blk 152 101 = some (l152_101, 102) := rfl
theorem b152_102 : blk 152 102 = some (l152_102, 124) := rfl
theorem b152_124 : blk 152 124 = some (l152_124, 127) := rfl
theorem bo153 : bkOf 153 = bk153 := rfl
theorem b153_0 : blk 153 0 = some (l153_0, 5) := rfl
theorem b153_5 : blk 153 5 = some (l153_5, 10) := rfl
theorem b153_10 : blk 153 10 = some (l153_10, 16) := rfl
theorem b153_16 : blk 153 16 = some (l153_16, 33) := rfl
theorem b153_33 : blk 153 33 = some (l153_33, 43) := rfl
theorem b153_43 : blk 153 43 = some (l153_43, 48) := rfl
theorem b153_48 : blk 153 48 = some (l153_48, 59) := rfl
theorem b153_59 : blk 153 59 = some (l153_59, 63) := rfl
theorem b153_63 : blk 153 63 = some (l153_63, 64) := rfl
theorem b153_64 : blk 153 64 = some (l153_64, 65) := rfl
theorem bo154 : bkOf 154 = bk154 := rfl
theorem b154_0 : blk 154 0 = some (l154_0, 5) := rfl
theorem b154_5 : blk 154 5 = some (l154_5, 13) := rfl
theorem b154_13 : blk 154 13 = some (l154_13, 16) := rfl
theorem b154_16 : blk 154 16 = some (l154_16, 18) := rfl
theorem b154_18 : blk 154 18 = some (l154_18, 26) := rfl
theorem b154_26 : blk 154 26 = some (l154_26, 32) := rfl
theorem b154_32 : blk 154 32 = some (l154_32, 38) := rfl
theorem b154_38 : blk 154 38 = some (l154_38, 46) := rfl
theorem b154_46 : blk 154 46 = some (l154_46, 58) := rfl
theorem b154_58 : blk 154 58 = some (l154_58, 61) := rfl
theorem b154_61 : blk 154 61 = some (l154_61, 76) := rfl
theorem b154_76 : blk 154 76 = some (l154_76, 81) := rfl
theorem b154_81 : blk 154 81 = some (l154_81, 82) := rfl
theorem bo155 : bkOf 155 = bk155 := rfl
theorem b155_0 : blk 155 0 = some (l155_0, 4) := rfl
theorem b155_4 : blk 155 4 = some (l155_4, 19) := rfl
theorem b155_19 : blk 155 19 = some (l155_19, 25) := rfl
theorem b155_25 : blk 155 25 = some (l155_25, 33) := rfl
theorem b155_33 : blk 155 33 = some (l155_33, 35) := rfl
theorem bo156 : bkOf 156 = bk156 := rfl
theorem b156_0 : blk 156 0 = some (l156_0, 6) := rfl
theorem b156_6 : blk 156 6 = some (l156_6, 13) := rfl
theorem b156_13 : blk 156 13 = some (l156_13, 17) := rfl
theorem b156_17 : blk 156 17 = some (l156_17, 25) := rfl
theorem b156_25 : blk 156 25 = some (l156_25, 29) := rfl
theorem b156_29 : blk 156 29 = some (l156_29, 36) := rfl
theorem b156_36 : blk 156 36 = some (l156_36, 46) := rfl
theorem bo157 : bkOf 157 = bk157 := rfl
theorem b157_0 : blk 157 0 = some (l157_0, 5) := rfl
theorem b157_5 : blk 157 5 = some (l157_5, 10) := rfl
theorem b157_10 : blk 157 10 = some (l157_10, 16) := rfl
theorem b157_16 : blk 157 16 = some (l157_16, 22) := rfl
theorem b157_22 : blk 157 22 = some (l157_22, 32) := rfl
theorem b157_32 : blk 157 32 = some (l157_32, 49) := rfl
theorem b157_49 : blk 157 49 = some (l157_49, 60) := rfl
theorem b157_60 : blk 157 60 = some (l157_60, 65) := rfl
theorem b157_65 : blk 157 65 = some (l157_65, 73) := rfl
theorem b157_73 : blk 157 73 = some (l157_73, 85) := rfl
theorem b157_85 : blk 157 85 = some (l157_85, 86) := rfl
theorem b157_86 : blk 157 86 = some (l157_86, 99) := rfl
theorem b157_99 : blk 157 99 = some (l157_99, 101) := rfl
theorem b157_101 : blk 157 101 = some (l157_101, 103) := rfl
theorem b157_103 : blk 157 103 = some (l157_103, 109) := rfl
theorem b157_109 : blk 157 109 = some (l157_109, 117) := rfl
theorem b157_117 : blk 157 117 = some (l157_117, 119) := rfl
theorem b157_119 : blk 157 119 = some (l157_119, 120) := rfl
theorem bo158 : bkOf 158 = bk158 := rfl
theorem b158_0 : blk 158 0 = some (l158_0, 5) := rfl
theorem b158_5 : blk 158 5 = some (l158_5, 10) := rfl
theorem b158_10 : blk 158 10 = some (l158_10, 18) := rfl
theorem b158_18 : blk 158 18 = some (l158_18, 22) := rfl
theorem b158_22 : blk 158 22 = some (l158_22, 25) := rfl
theorem b158_25 : blk 158 25 = some (l158_25, 38) := rfl
theorem b158_38 : blk 158 38 = some (l158_38, 42) := rfl
theorem b158_42 : blk 158 42 = some (l158_42, 48) := rfl
theorem b158_48 : blk 158 48 = some (l158_48, 54) := rfl
theorem b158_54 : blk 158 54 = some (l158_54, 58) := rfl
theorem bo159 : bkOf 159 = bk159 := rfl
theorem b159_0 : blk 159 0 = some (l159_0, 8) := rfl
theorem b159_8 : blk 159 8 = some (l159_8, 34) := rfl
theorem b159_34 : blk 159 34 = some (l159_34, 49) := rfl
theorem b159_49 : blk 159 49 = some (l159_49, 58) := rfl
theorem b159_58 : blk 159 58 = some (l159_58, 61) := rfl
theorem b159_61 : blk 159 61 = some (l159_61, 75) := rfl
theorem b159_75 : blk 159 75 = some (l159_75, 80) := rfl
theorem b159_80 : blk 159 80 = some (l159_80, 123) := rfl
theorem b159_123 : blk 159 123 = some (l159_123, 128) := rfl
theorem bo160 : bkOf 160 = bk160 := rfl
theorem b160_0 : blk 160 0 = some (l160_0, 12) := rfl
theorem bo161 : bkOf 161 = bk161 := rfl
theorem b161_0 : blk 161 0 = some (l161_0, 31) := rfl
theorem b161_31 : blk 161 31 = some (l161_31, 35) := rfl
theorem b161_35 : blk 161 35 = some (l161_35, 36) := rfl
theorem b161_36 : blk 161 36 = some (l161_36, 54) := rfl
theorem b161_54 : blk 161 54 = some (l161_54, 55) := rfl
theorem b161_55 : blk 161 55 = some (l161_55, 89) := rfl
theorem b161_89 : blk 161 89 = some (l161_89, 92) := rfl
theorem b161_92 : blk 161 92 = some (l161_92, 118) := rfl
theorem b161_118 : blk 161 118 = some (l161_118, 119) := rfl
theorem b161_119 : blk 161 119 = some (l161_119, 127) := rfl
theorem b161_127 : blk 161 127 = some (l161_127, 152) := rfl
theorem b161_152 : blk 161 152 = some (l161_152, 155) := rfl
theorem b161_155 : blk 161 155 = some (l161_155, 157) := rfl
theorem b161_157 : blk 161 157 = some (l161_157, 186) := rfl
theorem bo162 : bkOf 162 = bk162 := rfl
theorem b162_0 : blk 162 0 = some (l162_0, 19) := rfl
theorem b162_19 : blk 162 19 = some (l162_19, 37) := rfl
theorem b162_37 : blk 162 37 = some (l162_37, 42) := rfl
theorem b162_42 : blk 162 42 = some (l162_42, 48) := rfl
theorem b162_48 : blk 162 48 = some (l162_48, 71) := rfl
theorem b162_71 : blk 162 71 = some (l162_71, 76) := rfl
theorem b162_76 : blk 162 76 = some (l162_76, 80) := rfl
theorem b162_80 : blk 162 80 = some (l162_80, 81) := rfl
theorem bo163 : bkOf 163 = bk163 := rfl
theorem b163_0 : blk 163 0 = some (l163_0, 4) := rfl
theorem b163_4 : blk 163 4 = some (l163_4, 5) := rfl
theorem bo164 : bkOf 164 = bk164 := rfl
theorem b164_0 : blk 164 0 = some (l164_0, 17) := rfl
theorem b164_17 : blk 164 17 = some (l164_17, 18) := rfl
theorem b164_18 : blk 164 18 = some (l164_18, 21) := rfl
theorem b164_21 : blk 164 21 = some (l164_21, 31) := rfl
theorem b164_31 : blk 164 31 = some (l164_31, 61) := rfl
theorem b164_61 : blk 164 61 = some (l164_61, 68) := rfl
theorem b164_68 : blk 164 68 = some (l164_68, 69) := rfl
theorem b164_69 : blk 164 69 = some (l164_69, 76) := rfl
theorem b164_76 : blk 164 76 = some (l164_76, 82) := rfl
theorem b164_82 : blk 164 82 = some (l164_82, 84) := rfl
theorem bo165 : bkOf 165 = bk165 := rfl
theorem b165_0 : blk 165 0 = some (l165_0, 4) := rfl
theorem b165_4 : blk 165 4 = some (l165_4, 12) := rfl
theorem b165_12 : blk 165 12 = some (l165_12, 16) := rfl
theorem b165_16 : blk 165 16 = some (l165_16, 21) := rfl
theorem b165_21 : blk 165 21 = some (l165_21, 25) := rfl
theorem b165_25 : blk 165 25 = some (l165_25, 27) := rfl
theorem b165_27 : blk 165 27 = some (l165_27, 40) := rfl
theorem b165_40 : blk 165 40 = some (l165_40, 43) := rfl
theorem b165_43 : blk 165 43 = some (l165_43, 70) := rfl
theorem b165_70 : blk 165 70 = some (l165_70, 76) := rfl
theorem b165_76 : blk 165 76 = some (l165_76, 82) := rfl
theorem b165_82 : blk 165 82 = some (l165_82, 92) := rfl
