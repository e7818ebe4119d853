/-! the instructions that the run meets, by method and place (by wip/whole/mk.py) -/
def rf_m_20_5 : List (List (Nat × Instr × Nat)) := [[(0, .aload_n 0, 1), (1, .getfield 116, 3), (4, .invokevirtual 133, 3), (7, .istore 4, 2), (9, .iload 4, 2), (11, .ifCond .eq 17, 3), (14, .iload 4, 2)],
  [(16, .iload_n 3, 1), (17, .iload_n 2, 1), (18, .isub, 1), (19, .if_icmp .ne 9, 3), (22, .iload_n 3, 1), (23, .aload_n 1, 1), (24, .arraylength, 1), (25, .if_icmp .le 5, 3), (28, .iconst 0, 1), (29, .ireturn, 1), (30, .iconst 0, 1), (31, .istore 5, 2)],
  [(33, .iload 5, 2), (35, .iload 4, 2), (37, .if_icmp .ge 29, 3), (40, .aload_n 0, 1), (41, .getfield 116, 3), (44, .iload 5, 2), (46, .invokevirtual 139, 3)],
  [(49, .aload_n 1, 1), (50, .iload_n 2, 1), (51, .iload 5, 2), (53, .iadd, 1), (54, .caload, 1), (55, .if_icmp .eq 5, 3), (58, .iconst 0, 1), (59, .ireturn, 1), (60, .iinc 5 1, 3), (63, .goto (-30), 3)],
  [(66, .iconst 1, 1), (67, .ireturn, 1)]]
def rf_m_20_4 : List (List (Nat × Instr × Nat)) := [[(0, .iconst 0, 1), (1, .istore_n 3, 1), (2, .iload_n 3, 1), (3, .getstatic 126, 3), (6, .arraylength, 1), (7, .if_icmp .ge 29, 3), (10, .getstatic 126, 3), (13, .iload_n 3, 1), (14, .aaload, 1), (15, .aload_n 0, 1)],
  [(16, .iload_n 1, 1), (17, .iload_n 2, 1), (18, .invokevirtual 129, 3), (21, .ifCond .eq 9, 3), (24, .getstatic 126, 3), (27, .iload_n 3, 1), (28, .aaload, 1), (29, .areturn, 1), (30, .iinc 3 1, 3)],
  [(33, .goto (-31), 3), (36, .getstatic 94, 3), (39, .areturn, 1)]]
def rf_m_19_0 : List (List (Nat × Instr × Nat)) := [[(0, .iconst 0, 1), (1, .istore_n 2, 1), (2, .aload_n 0, 1), (3, .arraylength, 1), (4, .istore_n 3, 1), (5, .iload_n 2, 1), (6, .iload_n 3, 1), (7, .if_icmp .ge 13, 3), (10, .aload_n 0, 1), (11, .iload_n 2, 1), (12, .iload_n 1, 1), (13, .iastore, 1), (14, .iinc 2 1, 3)],
  [(17, .goto (-12), 3), (20, .return_, 1)]]
def rf_m_11_0 : List (List (Nat × Instr × Nat)) := [[(0, .aload_n 0, 1), (1, .getfield 9, 3), (4, .arraylength, 1), (5, .aload_n 0, 1), (6, .invokevirtual 335, 3), (9, .ishr, 1), (10, .ireturn, 1)]]
def rf_m_9_1 : List (List (Nat × Instr × Nat)) := [[(0, .aload_n 0, 1), (1, .iconst 0, 1), (2, .putfield 72, 3), (5, .iconst 0, 1), (6, .istore_n 3, 1), (7, .bipush 7, 2), (9, .istore 4, 2), (11, .iload 4, 2), (13, .ifCond .lt 57, 3)],
  [(16, .lload_n 1, 1), (17, .bipush 8, 2), (19, .iload 4, 2), (21, .imul, 1), (22, .lushr, 1), (23, .l2i, 1), (24, .sipush 255, 3), (27, .iand, 1), (28, .istore 5, 2), (30, .iload 5, 2)],
  [(32, .ifCond .eq 19, 3), (35, .iload 5, 2), (37, .bipush 32, 2), (39, .if_icmp .lt 10, 3), (42, .iload 5, 2), (44, .bipush 126, 2), (46, .if_icmp .le 5, 3)],
  [(51, .iload 5, 2), (53, .ifCond .eq 9, 3), (56, .iload_n 3, 1), (57, .iconst 1, 1), (58, .iadd, 1), (59, .goto 4, 3), (62, .iload_n 3, 1), (63, .istore_n 3, 1)],
  [(64, .iinc 4 (-1), 3), (67, .goto (-56), 3), (70, .aload_n 0, 1), (71, .getfield 75, 3), (74, .iload_n 3, 1), (75, .iadd, 1), (76, .sipush 180, 3), (79, .if_icmp .le 5, 3)],
  [(84, .bipush 7, 2), (86, .istore 4, 2), (88, .iload 4, 2), (90, .ifCond .lt 50, 3), (93, .lload_n 1, 1), (94, .bipush 8, 2)],
  [(96, .iload 4, 2), (98, .imul, 1), (99, .lushr, 1), (100, .l2i, 1), (101, .sipush 255, 3), (104, .iand, 1), (105, .istore 5, 2), (107, .iload 5, 2), (109, .ifCond .eq 25, 3)],
  [(112, .aload_n 0, 1), (113, .getfield 7, 3), (116, .aload_n 0, 1), (117, .getfield 75, 3), (120, .iload 5, 2), (122, .i2c, 1), (123, .castore, 1), (124, .aload_n 0, 1), (125, .dup, 1), (126, .getfield 75, 3)],
  [(129, .iconst 1, 1), (130, .iadd, 1), (131, .putfield 75, 3), (134, .iinc 4 (-1), 3), (137, .goto (-49), 3), (140, .iconst 1, 1), (141, .ireturn, 1)]]
def rf_m_11_2 : List (List (Nat × Instr × Nat)) := [[(0, .getstatic 38, 3), (3, .ifCond .eq 10, 3), (6, .aload_n 0, 1), (7, .getfield 15, 3), (10, .goto 4, 3), (14, .ireturn, 1)]]
def rf_m_12_0 : List (List (Nat × Instr × Nat)) := [[(0, .iload_n 1, 1), (1, .aload_n 0, 1), (2, .arraylength, 1), (3, .invokestatic 9, 3), (6, .aload_n 0, 1), (7, .iload_n 1, 1), (8, .baload, 1), (9, .sipush 255, 3), (12, .iand, 1), (13, .i2c, 1), (14, .ireturn, 1)]]
def rf_m_11_1 : List (List (Nat × Instr × Nat)) := [[(0, .aload_n 0, 1), (1, .invokevirtual 492, 3), (4, .ifCond .eq 12, 3), (7, .aload_n 0, 1), (8, .getfield 9, 3), (11, .iload_n 1, 1), (12, .invokestatic 495, 3), (15, .ireturn, 1)]]
def rf_m_11_3 : List (List (Nat × Instr × Nat)) := [[(0, .getstatic 38, 3), (3, .ifCond .eq 14, 3), (6, .aload_n 0, 1), (7, .getfield 15, 3), (10, .ifCond .ne 7, 3), (13, .iconst 1, 1), (14, .goto 4, 3)],
  [(18, .ireturn, 1)]]
def rf_m_13_0 : List (List (Nat × Instr × Nat)) := [[(0, .iload_n 0, 1), (1, .ifCond .lt 8, 3), (4, .iload_n 0, 1), (5, .iload_n 1, 1), (6, .if_icmp .lt 10, 3)],
  [(16, .iload_n 0, 1), (17, .ireturn, 1)]]
def rf_m_6_0 : List (List (Nat × Instr × Nat)) := [[(0, .aload_n 0, 1), (1, .invokespecial 1, 3), (4, .aload_n 0, 1), (5, .iconst 0, 1), (6, .putfield 7, 3), (9, .aload_n 0, 1), (10, .iconst 0, 1), (11, .putfield 13, 3), (14, .aload_n 0, 1), (15, .iconst 0, 1)],
  [(16, .putfield 16, 3), (19, .aload_n 0, 1), (20, .iconst 0, 1), (21, .putfield 19, 3), (24, .aload_n 0, 1), (25, .iconst 0, 1), (26, .putfield 22, 3), (29, .return_, 1)]]
def rf_m_2_11 : List (List (Nat × Instr × Nat)) := [[(0, .bipush 56, 2), (2, .istore_n 3, 1), (3, .iload_n 3, 1), (4, .ifCond .lt 53, 3), (7, .lload_n 1, 1), (8, .iload_n 3, 1), (9, .invokestatic 38, 3), (12, .istore 4, 2), (14, .iload 4, 2)],
  [(16, .ifCond .eq 35, 3), (19, .aload_n 0, 1), (20, .getfield 13, 3), (23, .sipush 180, 3), (26, .if_icmp .ge 25, 3), (29, .aload_n 0, 1), (30, .getfield 9, 3)],
  [(33, .aload_n 0, 1), (34, .getfield 13, 3), (37, .iload 4, 2), (39, .i2c, 1), (40, .castore, 1), (41, .aload_n 0, 1), (42, .dup, 1), (43, .getfield 13, 3), (46, .iconst 1, 1), (47, .iadd, 1)],
  [(48, .putfield 13, 3), (51, .iinc 3 (-8), 3), (54, .goto (-51), 3), (57, .return_, 1)]]
def rf_m_11_4 : List (List (Nat × Instr × Nat)) := [[(0, .iload_n 0, 1), (1, .iload_n 1, 1), (2, .getstatic 1053, 3), (5, .invokestatic 1059, 3), (8, .pop, 1), (9, .return_, 1)]]
def rf_m_9_7 : List (List (Nat × Instr × Nat)) := [[(0, .iload_n 1, 1), (1, .istore_n 2, 1), (2, .iload_n 2, 1), (3, .aload_n 0, 1), (4, .getfield 75, 3), (7, .if_icmp .ge 20, 3), (10, .aload_n 0, 1), (11, .getfield 7, 3), (14, .iload_n 2, 1), (15, .caload, 1)],
  [(16, .bipush 32, 2), (18, .if_icmp .ne 9, 3), (21, .iinc 2 1, 3), (24, .goto (-22), 3), (27, .aload_n 0, 1), (28, .iload_n 2, 1), (29, .putfield 78, 3)],
  [(32, .aload_n 0, 1), (33, .iload_n 2, 1), (34, .invokevirtual 81, 3), (37, .istore_n 3, 1), (38, .aload_n 0, 1), (39, .iconst 0, 1), (40, .putfield 85, 3), (43, .iload_n 3, 1), (44, .ifCond .ne 11, 3)],
  [(55, .iload_n 3, 1), (56, .invokestatic 91, 3), (59, .ifCond .eq 98, 3), (62, .iload_n 2, 1), (63, .aload_n 0, 1)],
  [(64, .getfield 75, 3), (67, .if_icmp .ge 61, 3), (70, .aload_n 0, 1), (71, .getfield 7, 3), (74, .iload_n 2, 1), (75, .caload, 1), (76, .invokestatic 91, 3), (79, .ifCond .eq 49, 3)],
  [(82, .aload_n 0, 1), (83, .iload_n 2, 1), (84, .aload_n 0, 1), (85, .getfield 78, 3), (88, .isub, 1), (89, .bipush 6, 2), (91, .if_icmp .ge 24, 3), (94, .aload_n 0, 1), (95, .getfield 85, 3)],
  [(98, .iconst 5, 1), (99, .ishl, 1), (100, .aload_n 0, 1), (101, .getfield 7, 3), (104, .iload_n 2, 1), (105, .caload, 1), (106, .bipush 97, 2), (108, .isub, 1), (109, .iconst 1, 1), (110, .iadd, 1), (111, .ior, 1)],
  [(112, .goto 7, 3), (119, .putfield 85, 3), (122, .iinc 2 1, 3), (125, .goto (-63), 3)],
  [(128, .aload_n 0, 1), (129, .iload_n 2, 1), (130, .aload_n 0, 1), (131, .getfield 78, 3), (134, .isub, 1), (135, .bipush 6, 2), (137, .if_icmp .le 7, 3)],
  [(144, .aload_n 0, 1), (145, .getfield 85, 3), (148, .invokestatic 95, 3), (151, .putfield 88, 3), (154, .goto 145, 3), (157, .iload_n 3, 1), (158, .invokestatic 98, 3)],
  [(161, .ifCond .eq 89, 3), (164, .iload_n 2, 1), (165, .aload_n 0, 1), (166, .getfield 75, 3), (169, .if_icmp .ge 59, 3), (172, .aload_n 0, 1), (173, .getfield 7, 3)],
  [(176, .iload_n 2, 1), (177, .caload, 1), (178, .invokestatic 98, 3), (181, .ifCond .eq 47, 3), (184, .aload_n 0, 1), (185, .iload_n 2, 1), (186, .aload_n 0, 1), (187, .getfield 78, 3), (190, .isub, 1), (191, .iconst 4, 1)],
  [(192, .if_icmp .ge 23, 3), (195, .bipush 10, 2), (197, .aload_n 0, 1), (198, .getfield 85, 3), (201, .imul, 1), (202, .aload_n 0, 1), (203, .getfield 7, 3), (206, .iload_n 2, 1), (207, .caload, 1)],
  [(208, .iadd, 1), (209, .bipush 48, 2), (211, .isub, 1), (212, .goto 7, 3), (219, .putfield 85, 3), (222, .iinc 2 1, 3)],
  [(225, .goto (-61), 3), (228, .aload_n 0, 1), (229, .iload_n 2, 1), (230, .aload_n 0, 1), (231, .getfield 78, 3), (234, .isub, 1), (235, .iconst 4, 1), (236, .if_icmp .le 7, 3)],
  [(243, .iconst 3, 1), (244, .putfield 88, 3), (247, .goto 52, 3), (250, .iload_n 3, 1), (251, .bipush 58, 2), (253, .if_icmp .ne 27, 3)],
  [],
  [(280, .aload_n 0, 1), (281, .iload_n 3, 1), (282, .invokestatic 101, 3), (285, .ifCond .eq 7, 3)],
  [(288, .iload_n 3, 1), (289, .goto 4, 3), (293, .putfield 88, 3), (296, .iinc 2 1, 3), (299, .aload_n 0, 1), (300, .iload_n 2, 1), (301, .putfield 104, 3)],
  [(304, .return_, 1)]]
def rf_m_4_11 : List (List (Nat × Instr × Nat)) := [[(0, .iconst 0, 1), (1, .istore_n 3, 1), (2, .iload_n 1, 1), (3, .istore 4, 2), (5, .iload 4, 2), (7, .iload_n 2, 1), (8, .if_icmp .ge 47, 3), (11, .aload_n 0, 1), (12, .iload 4, 2), (14, .caload, 1), (15, .invokestatic 60, 3)],
  [(18, .ifCond .eq 19, 3), (21, .iload_n 3, 1), (22, .bipush 10, 2), (24, .imul, 1), (25, .aload_n 0, 1), (26, .iload 4, 2), (28, .caload, 1), (29, .iadd, 1), (30, .bipush 48, 2)],
  [(32, .isub, 1), (33, .istore_n 3, 1), (34, .goto 15, 3), (37, .iload_n 3, 1), (38, .iconst 5, 1), (39, .ishl, 1), (40, .aload_n 0, 1), (41, .iload 4, 2), (43, .caload, 1), (44, .bipush 31, 2), (46, .iand, 1), (47, .ior, 1)],
  [(48, .istore_n 3, 1), (49, .iinc 4 1, 3), (52, .goto (-47), 3), (55, .iload_n 3, 1), (56, .ireturn, 1)]]
def rf_m_5_0 : List (List (Nat × Instr × Nat)) := [[(0, .aload_n 0, 1), (1, .invokespecial 3, 3), (4, .aload_n 0, 1), (5, .bipush 90, 2), (7, .anewarray 11, 3), (10, .putfield 13, 3), (13, .aload_n 0, 1), (14, .iconst 0, 1), (15, .putfield 17, 3)],
  [(18, .aload_n 0, 1), (19, .iconst 5, 1), (20, .newarray .int, 2), (22, .putfield 21, 3), (25, .aload_n 0, 1), (26, .iconst 0, 1), (27, .putfield 25, 3), (30, .iconst 0, 1), (31, .istore_n 1, 1)],
  [(32, .iload_n 1, 1), (33, .bipush 90, 2), (35, .if_icmp .ge 22, 3), (38, .aload_n 0, 1), (39, .getfield 13, 3), (42, .iload_n 1, 1), (43, .new 11, 3), (46, .dup, 1), (47, .invokespecial 28, 3)],
  [(50, .aastore, 1), (51, .iinc 1 1, 3), (54, .goto (-22), 3), (57, .return_, 1)]]
def rf_m_9_15 : List (List (Nat × Instr × Nat)) := [[(0, .aload_n 0, 1), (1, .getfield 20, 3), (4, .aload_n 0, 1), (5, .getfield 136, 3), (8, .iload_n 1, 1), (9, .iastore, 1), (10, .aload_n 0, 1), (11, .getfield 24, 3), (14, .aload_n 0, 1), (15, .getfield 136, 3)],
  [(18, .iload_n 2, 1), (19, .iastore, 1), (20, .aload_n 0, 1), (21, .getfield 27, 3), (24, .aload_n 0, 1), (25, .getfield 136, 3), (28, .iload_n 3, 1), (29, .iastore, 1), (30, .aload_n 0, 1), (31, .dup, 1)],
  [(32, .getfield 136, 3), (35, .iconst 1, 1), (36, .iadd, 1), (37, .putfield 136, 3), (40, .return_, 1)]]
def rf_m_2_1 : List (List (Nat × Instr × Nat)) := [[(0, .iconst 0, 1), (1, .istore_n 3, 1), (2, .bipush 56, 2), (4, .istore 4, 2), (6, .iload 4, 2), (8, .ifCond .lt 41, 3), (11, .lload_n 1, 1), (12, .iload 4, 2), (14, .invokestatic 38, 3)],
  [(17, .istore 5, 2), (19, .iload 5, 2), (21, .ifCond .eq 22, 3), (24, .iload 5, 2), (26, .bipush 32, 2), (28, .if_icmp .lt 10, 3), (31, .iload 5, 2)],
  [(33, .bipush 126, 2), (35, .if_icmp .le 5, 3), (40, .iinc 3 1, 3), (43, .iinc 4 (-8), 3), (46, .goto (-40), 3)],
  [(49, .iload_n 3, 1), (50, .sipush 180, 3), (53, .aload_n 0, 1), (54, .getfield 13, 3), (57, .isub, 1), (58, .if_icmp .le 5, 3), (63, .aload_n 0, 1)],
  [(64, .lload_n 1, 1), (65, .invokevirtual 42, 3), (68, .iconst 1, 1), (69, .ireturn, 1)]]
def rf_m_4_1 : List (List (Nat × Instr × Nat)) := [[(0, .aload_n 0, 1), (1, .iconst 0, 1), (2, .putfield 24, 3), (5, .aload_n 0, 1), (6, .iconst 0, 1), (7, .putfield 28, 3), (10, .iconst 0, 1), (11, .istore_n 3, 1), (12, .iload_n 3, 1), (13, .iload_n 2, 1), (14, .if_icmp .ge 50, 3)],
  [(17, .aload_n 1, 1), (18, .iload_n 3, 1), (19, .iload_n 2, 1), (20, .invokestatic 31, 3), (23, .istore 4, 2), (25, .aload_n 1, 1), (26, .iload_n 3, 1), (27, .caload, 1), (28, .bipush 32, 2), (30, .if_icmp .eq 22, 3)],
  [(33, .aload_n 0, 1), (34, .aload_n 1, 1), (35, .iload_n 3, 1), (36, .iload 4, 2), (38, .invokestatic 35, 3), (41, .iload_n 3, 1), (42, .aload_n 1, 1), (43, .iload_n 3, 1), (44, .iload 4, 2), (46, .invokestatic 39, 3)],
  [(49, .invokevirtual 42, 3), (52, .iload 4, 2), (54, .iload_n 3, 1), (55, .iconst 1, 1), (56, .iadd, 1), (57, .invokestatic 46, 3), (60, .istore_n 3, 1), (61, .goto (-49), 3)],
  [(64, .aload_n 0, 1), (65, .getstatic 52, 3), (68, .iload_n 2, 1), (69, .iconst 0, 1), (70, .invokevirtual 42, 3), (73, .return_, 1)]]
def rf_m_4_9 : List (List (Nat × Instr × Nat)) := [[(0, .iload_n 1, 1), (1, .iconst 1, 1), (2, .iadd, 1), (3, .istore_n 3, 1), (4, .aload_n 0, 1), (5, .iload_n 1, 1), (6, .caload, 1), (7, .invokestatic 56, 3), (10, .ifCond .eq 23, 3), (13, .iload_n 3, 1), (14, .iload_n 2, 1), (15, .if_icmp .ge 71, 3)],
  [(18, .aload_n 0, 1), (19, .iload_n 3, 1), (20, .caload, 1), (21, .invokestatic 56, 3), (24, .ifCond .eq 62, 3), (27, .iinc 3 1, 3), (30, .goto (-17), 3)],
  [(33, .aload_n 0, 1), (34, .iload_n 1, 1), (35, .caload, 1), (36, .invokestatic 60, 3), (39, .ifCond .eq 23, 3), (42, .iload_n 3, 1), (43, .iload_n 2, 1), (44, .if_icmp .ge 42, 3), (47, .aload_n 0, 1)],
  [(48, .iload_n 3, 1), (49, .caload, 1), (50, .invokestatic 60, 3), (53, .ifCond .eq 33, 3), (62, .aload_n 0, 1), (63, .iload_n 1, 1)],
  [(64, .caload, 1), (65, .bipush 58, 2), (67, .if_icmp .ne 19, 3), (70, .iload_n 3, 1), (71, .iload_n 2, 1), (72, .if_icmp .ge 14, 3), (75, .aload_n 0, 1), (76, .iload_n 3, 1), (77, .caload, 1), (78, .bipush 61, 2)],
  [(80, .if_icmp .ne 6, 3), (83, .iinc 3 1, 3), (86, .iload_n 3, 1), (87, .ireturn, 1)]]
def rf_m_4_8 : List (List (Nat × Instr × Nat)) := [[(0, .aload_n 0, 1), (1, .getfield 24, 3), (4, .sipush 181, 3), (7, .if_icmp .ge 43, 3), (10, .aload_n 0, 1), (11, .getfield 13, 3), (14, .aload_n 0, 1), (15, .getfield 24, 3)],
  [(18, .aload_n 1, 1), (19, .aastore, 1), (20, .aload_n 0, 1), (21, .getfield 17, 3), (24, .aload_n 0, 1), (25, .getfield 24, 3), (28, .iload_n 2, 1), (29, .iastore, 1), (30, .aload_n 0, 1), (31, .getfield 21, 3)],
  [(34, .aload_n 0, 1), (35, .getfield 24, 3), (38, .iload_n 3, 1), (39, .iastore, 1), (40, .aload_n 0, 1), (41, .dup, 1), (42, .getfield 24, 3), (45, .iconst 1, 1), (46, .iadd, 1), (47, .putfield 24, 3)],
  [(50, .return_, 1)]]
def rf_m_9_36 : List (List (Nat × Instr × Nat)) := [[(0, .aload_n 0, 1), (1, .iconst 0, 1), (2, .putfield 136, 3), (5, .aload_n 0, 1), (6, .iconst 0, 1), (7, .putfield 124, 3), (10, .aload_n 0, 1), (11, .iconst 0, 1), (12, .putfield 130, 3), (15, .aload_n 0, 1)],
  [(16, .iconst 3, 1), (17, .putfield 142, 3), (20, .aload_n 0, 1), (21, .iconst 0, 1), (22, .putfield 159, 3), (25, .aload_n 0, 1), (26, .iconst 0, 1), (27, .putfield 139, 3), (30, .aload_n 0, 1), (31, .iconst 0, 1)],
  [(32, .putfield 133, 3), (35, .aload_n 0, 1), (36, .iconst 0, 1), (37, .putfield 111, 3), (40, .aload_n 0, 1), (41, .iconst 4, 1), (42, .iconst 0, 1), (43, .iconst 0, 1), (44, .invokevirtual 162, 3), (47, .aload_n 0, 1)],
  [(48, .iconst 0, 1), (49, .iconst 0, 1), (50, .iconst 0, 1), (51, .invokevirtual 162, 3), (54, .aload_n 0, 1), (55, .iconst 0, 1), (56, .invokevirtual 107, 3), (59, .iconst 0, 1), (60, .istore_n 1, 1), (61, .iload_n 1, 1), (62, .sipush 5000, 3)],
  [(65, .if_icmp .ge 64, 3), (68, .aload_n 0, 1), (69, .getfield 136, 3), (72, .ifCond .le 57, 3), (75, .aload_n 0, 1), (76, .getfield 111, 3), (79, .ifCond .ne 50, 3)],
  [(82, .aload_n 0, 1), (83, .dup, 1), (84, .getfield 136, 3), (87, .iconst 1, 1), (88, .isub, 1), (89, .putfield 136, 3), (92, .aload_n 0, 1), (93, .aload_n 0, 1), (94, .getfield 20, 3)],
  [(97, .aload_n 0, 1), (98, .getfield 136, 3), (101, .iaload, 1), (102, .aload_n 0, 1), (103, .getfield 24, 3), (106, .aload_n 0, 1), (107, .getfield 136, 3), (110, .iaload, 1), (111, .aload_n 0, 1)],
  [(112, .getfield 27, 3), (115, .aload_n 0, 1), (116, .getfield 136, 3), (119, .iaload, 1), (120, .invokevirtual 226, 3), (123, .iinc 1 1, 3), (126, .goto (-65), 3)],
  [(129, .aload_n 0, 1), (130, .iconst 0, 1), (131, .putfield 75, 3), (134, .aload_n 0, 1), (135, .aload_n 0, 1), (136, .getfield 111, 3), (139, .ifCond .le 7, 3), (142, .iconst 1, 1), (143, .goto 4, 3)],
  [(147, .putfield 72, 3), (150, .aload_n 0, 1), (151, .aload_n 0, 1), (152, .getfield 111, 3), (155, .ifCond .le 10, 3), (158, .aload_n 0, 1), (159, .getfield 111, 3)],
  [(162, .goto 4, 3), (166, .putfield 13, 3), (169, .aload_n 0, 1), (170, .aload_n 0, 1), (171, .getfield 111, 3), (174, .ifCond .le 10, 3)],
  [(177, .aload_n 0, 1), (178, .getfield 114, 3), (181, .goto 4, 3), (185, .putfield 17, 3), (188, .aload_n 0, 1), (189, .getfield 111, 3)],
  [(192, .ifCond .le 5, 3), (195, .iconst 0, 1), (196, .ireturn, 1)]]
def rf_m_2_12 : List (List (Nat × Instr × Nat)) := [[(0, .lload_n 0, 1), (1, .iload_n 2, 1), (2, .lushr, 1), (3, .l2i, 1), (4, .sipush 255, 3), (7, .iand, 1), (8, .ireturn, 1)]]
def rf_m_4_13 : List (List (Nat × Instr × Nat)) := [[(0, .iload_n 0, 1), (1, .bipush 48, 2), (3, .if_icmp .lt 13, 3), (6, .iload_n 0, 1), (7, .bipush 57, 2), (9, .if_icmp .gt 7, 3), (12, .iconst 1, 1), (13, .goto 4, 3)],
  [(16, .iconst 0, 1), (17, .ireturn, 1)]]
def rf_m_0_0 : List (List (Nat × Instr × Nat)) := [[(0, .new 8, 3), (3, .dup, 1), (4, .invokespecial 19, 3), (7, .astore_n 1, 1), (8, .new 20, 3), (11, .dup, 1), (12, .invokespecial 22, 3), (15, .astore_n 2, 1)],
  [(16, .iconst 1, 1), (17, .newarray .long, 2), (19, .astore_n 3, 1), (20, .iconst 0, 1), (21, .istore 4, 2), (23, .iload 4, 2), (25, .aload_n 0, 1), (26, .arraylength, 1), (27, .iconst 3, 1), (28, .isub, 1), (29, .if_icmp .gt 357, 3)],
  [(32, .aload_n 0, 1), (33, .iload 4, 2), (35, .iaload, 1), (36, .bipush 15, 2), (38, .iand, 1), (39, .tableswitch 341 0 9 #[53, 110, 126, 151, 188, 201, 229, 254, 279, 304], 53)],
  [],
  [],
  [(92, .aload_n 1, 1), (93, .aload_n 0, 1), (94, .iload 4, 2)],
  [(96, .iconst 1, 1), (97, .iadd, 1), (98, .iaload, 1), (99, .i2l, 1), (100, .bipush 32, 2), (102, .lshl, 1), (103, .aload_n 0, 1), (104, .iload 4, 2), (106, .iconst 2, 1), (107, .iadd, 1), (108, .iaload, 1), (109, .i2l, 1), (110, .ldc2_w 23, 3)],
  [(113, .land, 1), (114, .lor, 1), (115, .invokevirtual 25, 3), (118, .pop, 1), (119, .aload_n 2, 1), (120, .aload_n 0, 1), (121, .iload 4, 2), (123, .iconst 1, 1), (124, .iadd, 1), (125, .iaload, 1), (126, .i2l, 1), (127, .bipush 32, 2)],
  [(129, .lshl, 1), (130, .aload_n 0, 1), (131, .iload 4, 2), (133, .iconst 2, 1), (134, .iadd, 1), (135, .iaload, 1), (136, .i2l, 1), (137, .ldc2_w 23, 3), (140, .land, 1), (141, .lor, 1), (142, .invokevirtual 29, 3)],
  [(145, .pop, 1), (146, .goto 234, 3), (149, .aload_n 1, 1), (150, .aload_n 3, 1), (151, .invokestatic 30, 3), (154, .istore 5, 2), (156, .aload_n 2, 1), (157, .invokevirtual 35, 3)],
  [(160, .istore 6, 2), (162, .goto 218, 3)],
  [],
  [],
  [],
  [(227, .aload_n 1, 1), (228, .invokevirtual 45, 3), (231, .pop, 1), (232, .aload_n 2, 1), (233, .invokevirtual 49, 3), (236, .pop, 1), (237, .goto 143, 3)],
  [(240, .aload_n 1, 1), (241, .aload_n 0, 1), (242, .iload 4, 2), (244, .iconst 1, 1), (245, .iadd, 1), (246, .iaload, 1), (247, .aload_n 3, 1), (248, .invokestatic 50, 3), (251, .istore 5, 2), (253, .aload_n 2, 1), (254, .aload_n 0, 1), (255, .iload 4, 2)],
  [(257, .iconst 1, 1), (258, .iadd, 1), (259, .iaload, 1), (260, .invokevirtual 53, 3), (263, .istore 6, 2), (265, .goto 115, 3)],
  [],
  [],
  [(318, .aload_n 1, 1), (319, .aload_n 0, 1)],
  [(320, .iload 4, 2), (322, .iconst 1, 1), (323, .iadd, 1), (324, .iaload, 1), (325, .invokevirtual 62, 3), (328, .aload_n 2, 1), (329, .aload_n 0, 1), (330, .iload 4, 2), (332, .iconst 1, 1), (333, .iadd, 1), (334, .iaload, 1), (335, .invokevirtual 65, 3)],
  [(338, .if_icmp .eq 42, 3), (341, .iconst 0, 1), (342, .ireturn, 1)],
  [],
  [(380, .iinc 4 3, 3), (383, .goto (-360), 3)]]
def rf_m_4_10 : List (List (Nat × Instr × Nat)) := [[(0, .aload_n 0, 1), (1, .iload_n 1, 1), (2, .caload, 1), (3, .invokestatic 60, 3), (6, .ifCond .eq 20, 3), (9, .iload_n 2, 1), (10, .iload_n 1, 1), (11, .isub, 1), (12, .iconst 4, 1), (13, .if_icmp .gt 9, 3)],
  [(16, .getstatic 63, 3), (19, .goto 6, 3), (25, .areturn, 1), (26, .aload_n 0, 1), (27, .iload_n 1, 1), (28, .iload_n 2, 1), (29, .invokestatic 69, 3)],
  [(32, .astore_n 3, 1), (33, .aload_n 3, 1), (34, .getstatic 66, 3), (37, .if_acmp .ne 24, 3), (40, .aload_n 0, 1), (41, .iload_n 1, 1), (42, .caload, 1), (43, .invokestatic 56, 3), (46, .ifCond .eq 15, 3)],
  [(49, .iload_n 2, 1), (50, .iload_n 1, 1), (51, .isub, 1), (52, .bipush 6, 2), (54, .if_icmp .gt 7, 3), (57, .getstatic 72, 3), (60, .areturn, 1), (61, .aload_n 3, 1), (62, .areturn, 1)]]
def rf_m_4_7 : List (List (Nat × Instr × Nat)) := [[(0, .aload_n 0, 1), (1, .getfield 28, 3), (4, .iconst 1, 1), (5, .iadd, 1), (6, .aload_n 0, 1), (7, .getfield 24, 3), (10, .if_icmp .ge 13, 3), (13, .aload_n 0, 1), (14, .dup, 1), (15, .getfield 28, 3)],
  [(18, .iconst 1, 1), (19, .iadd, 1), (20, .putfield 28, 3), (23, .return_, 1)]]
def rf_m_4_12 : List (List (Nat × Instr × Nat)) := [[(0, .iload_n 0, 1), (1, .bipush 97, 2), (3, .if_icmp .lt 13, 3), (6, .iload_n 0, 1), (7, .bipush 122, 2), (9, .if_icmp .gt 7, 3), (12, .iconst 1, 1), (13, .goto 4, 3)],
  [(16, .iconst 0, 1), (17, .ireturn, 1)]]
def rf_m_8_8 : List (List (Nat × Instr × Nat)) := [[(0, .aload_n 1, 1), (1, .aload_n 0, 1), (2, .getfield 22, 3), (5, .invokevirtual 53, 3), (8, .istore_n 2, 1), (9, .aload_n 1, 1), (10, .aload_n 0, 1), (11, .getfield 22, 3), (14, .invokevirtual 58, 3)],
  [(17, .istore_n 3, 1), (18, .aload_n 1, 1), (19, .aload_n 0, 1), (20, .getfield 22, 3), (23, .invokevirtual 61, 3), (26, .istore 4, 2), (28, .aload_n 0, 1), (29, .iload_n 2, 1), (30, .iload 4, 2)],
  [(32, .invokevirtual 64, 3), (35, .istore 5, 2), (37, .iload 5, 2), (39, .iconst 1, 1), (40, .if_icmp .eq 10, 3)],
  [(50, .aload_n 0, 1), (51, .dup, 1), (52, .getfield 22, 3), (55, .iconst 1, 1), (56, .iadd, 1), (57, .putfield 22, 3), (60, .aload_n 0, 1), (61, .iload_n 2, 1), (62, .iload_n 3, 1), (63, .iload 4, 2)],
  [(65, .invokevirtual 68, 3), (68, .return_, 1)]]
def rf_m_7_3 : List (List (Nat × Instr × Nat)) := [[(0, .aload_n 0, 1), (1, .getfield 21, 3), (4, .sipush 180, 3), (7, .if_icmp .lt 5, 3), (12, .aload_n 0, 1), (13, .getfield 11, 3)],
  [(16, .aload_n 0, 1), (17, .getfield 21, 3), (20, .iload_n 1, 1), (21, .iastore, 1), (22, .aload_n 0, 1), (23, .getfield 15, 3), (26, .aload_n 0, 1), (27, .getfield 21, 3), (30, .iload_n 2, 1), (31, .iastore, 1)],
  [(32, .aload_n 0, 1), (33, .getfield 18, 3), (36, .aload_n 0, 1), (37, .getfield 21, 3), (40, .iload_n 3, 1), (41, .iastore, 1), (42, .aload_n 0, 1), (43, .dup, 1), (44, .getfield 21, 3), (47, .iconst 1, 1)],
  [(48, .iadd, 1), (49, .putfield 21, 3), (52, .aload_n 0, 1), (53, .getfield 21, 3), (56, .iconst 1, 1), (57, .isub, 1), (58, .ireturn, 1)]]
def rf_m_9_6 : List (List (Nat × Instr × Nat)) := [[(0, .iload_n 0, 1), (1, .bipush 43, 2), (3, .if_icmp .eq 87, 3), (6, .iload_n 0, 1), (7, .bipush 45, 2), (9, .if_icmp .eq 81, 3), (12, .iload_n 0, 1), (13, .bipush 42, 2), (15, .if_icmp .eq 75, 3)],
  [(18, .iload_n 0, 1), (19, .bipush 47, 2), (21, .if_icmp .eq 69, 3), (24, .iload_n 0, 1), (25, .bipush 61, 2), (27, .if_icmp .eq 63, 3), (30, .iload_n 0, 1), (31, .bipush 35, 2)],
  [(33, .if_icmp .eq 57, 3), (36, .iload_n 0, 1), (37, .bipush 60, 2), (39, .if_icmp .eq 51, 3), (42, .iload_n 0, 1), (43, .bipush 62, 2), (45, .if_icmp .eq 45, 3)],
  [(48, .iload_n 0, 1), (49, .bipush 40, 2), (51, .if_icmp .eq 39, 3), (54, .iload_n 0, 1), (55, .bipush 41, 2), (57, .if_icmp .eq 33, 3), (60, .iload_n 0, 1), (61, .bipush 91, 2), (63, .if_icmp .eq 27, 3)],
  [(66, .iload_n 0, 1), (67, .bipush 93, 2), (69, .if_icmp .eq 21, 3), (72, .iload_n 0, 1), (73, .bipush 44, 2), (75, .if_icmp .eq 15, 3), (78, .iload_n 0, 1), (79, .bipush 59, 2)],
  [(81, .if_icmp .eq 9, 3), (90, .iconst 1, 1), (91, .goto 4, 3), (95, .ireturn, 1)]]
def rf_m_4_3 : List (List (Nat × Instr × Nat)) := [[(0, .aload_n 0, 1), (1, .getfield 13, 3), (4, .aload_n 0, 1), (5, .getfield 28, 3), (8, .aaload, 1), (9, .aload_n 1, 1), (10, .if_acmp .ne 7, 3), (13, .iconst 1, 1), (14, .goto 4, 3)],
  [(17, .iconst 0, 1), (18, .ireturn, 1)]]
def rf_m_9_3 : List (List (Nat × Instr × Nat)) := [[(0, .iload_n 0, 1), (1, .bipush 97, 2), (3, .if_icmp .lt 13, 3), (6, .iload_n 0, 1), (7, .bipush 122, 2), (9, .if_icmp .gt 7, 3), (12, .iconst 1, 1), (13, .goto 4, 3)],
  [(16, .iconst 0, 1), (17, .ireturn, 1)]]
def rf_m_7_9 : List (List (Nat × Instr × Nat)) := [[(0, .iload_n 1, 1), (1, .ifCond .lt 15, 3), (4, .iload_n 1, 1), (5, .aload_n 0, 1), (6, .getfield 21, 3), (9, .if_icmp .ge 7, 3), (12, .iconst 1, 1), (13, .goto 4, 3)],
  [(17, .ireturn, 1)]]
def rf_m_3_26 : List (List (Nat × Instr × Nat)) := [[(0, .getstatic 183, 3), (3, .aload_n 0, 1), (4, .getfield 12, 3), (7, .invokevirtual 189, 3), (10, .invokevirtual 192, 3), (13, .iaload, 1), (14, .lookupswitch 103 #[(1, 61), (6, 34), (7, 68)], 34)],
  [],
  [],
  [(48, .aload_n 0, 1), (49, .getfield 28, 3), (52, .iconst 0, 1), (53, .iconst 0, 1), (54, .aload_n 0, 1), (55, .getfield 12, 3), (58, .invokevirtual 131, 3), (61, .invokevirtual 67, 3)],
  [(64, .pop, 1), (65, .aload_n 0, 1), (66, .getfield 12, 3), (69, .invokevirtual 78, 3), (72, .goto 57, 3)],
  [(82, .aload_n 0, 1), (83, .invokevirtual 242, 3), (86, .aload_n 0, 1), (87, .getfield 12, 3), (90, .invokevirtual 78, 3), (93, .aload_n 0, 1), (94, .invokevirtual 216, 3)],
  [(97, .aload_n 0, 1), (98, .getstatic 173, 3), (101, .invokevirtual 60, 3), (104, .aload_n 0, 1), (105, .dup, 1), (106, .getfield 32, 3), (109, .iconst 1, 1), (110, .isub, 1), (111, .putfield 32, 3)],
  [(114, .goto 15, 3)],
  [(129, .return_, 1)]]
def rf_m_15_0 : List (List (Nat × Instr × Nat)) := [[(0, .iload_n 0, 1), (1, .iload_n 1, 1), (2, .if_icmp .lt 7, 3), (5, .iload_n 0, 1), (6, .goto 4, 3), (10, .ireturn, 1)]]
def rf_m_3_24 : List (List (Nat × Instr × Nat)) := [[(0, .aload_n 0, 1), (1, .getfield 12, 3), (4, .getstatic 270, 3), (7, .invokevirtual 74, 3), (10, .istore_n 1, 1), (11, .iload_n 1, 1), (12, .ifCond .eq 10, 3)],
  [(22, .aload_n 0, 1), (23, .invokevirtual 273, 3), (26, .iload_n 1, 1), (27, .ifCond .eq 15, 3)],
  [(42, .iconst 0, 1), (43, .istore_n 2, 1), (44, .iload_n 2, 1), (45, .sipush 180, 3)],
  [(48, .if_icmp .ge 56, 3), (51, .aload_n 0, 1), (52, .getfield 12, 3), (55, .invokevirtual 189, 3), (58, .invokevirtual 276, 3), (61, .ifCond .eq 43, 3)],
  [],
  [],
  [(104, .return_, 1)]]
def rf_m_9_35 : List (List (Nat × Instr × Nat)) := [[(0, .iload_n 1, 1), (1, .tableswitch 345 0 23 #[111, 118, 127, 140, 169, 194, 201, 208, 345, 345, 345, 345, 345, 221, 228, 235, 250, 269, 284, 291, 300, 309, 318, 327], 111)],
  [],
  [],
  [],
  [],
  [],
  [],
  [(112, .aload_n 0, 1), (113, .invokevirtual 191, 3), (116, .goto 237, 3), (119, .aload_n 0, 1), (120, .iload_n 2, 1), (121, .iload_n 3, 1), (122, .invokevirtual 194, 3), (125, .goto 228, 3)],
  [],
  [],
  [],
  [],
  [(202, .aload_n 0, 1), (203, .invokevirtual 200, 3), (206, .goto 147, 3)],
  [],
  [(229, .aload_n 0, 1), (230, .invokevirtual 206, 3), (233, .goto 120, 3)],
  [(251, .aload_n 0, 1), (252, .bipush 17, 2), (254, .iconst 0, 1), (255, .iconst 0, 1)],
  [(256, .invokevirtual 162, 3), (259, .aload_n 0, 1), (260, .bipush 18, 2), (262, .iconst 0, 1), (263, .iconst 0, 1), (264, .invokevirtual 162, 3), (267, .goto 86, 3)],
  [(285, .aload_n 0, 1), (286, .invokevirtual 213, 3)],
  [(289, .goto 64, 3)],
  [],
  [],
  [],
  [(353, .return_, 1)]]
def rf_m_4_2 : List (List (Nat × Instr × Nat)) := [[(0, .aload_n 0, 1), (1, .getfield 13, 3), (4, .aload_n 0, 1), (5, .getfield 28, 3), (8, .aaload, 1), (9, .areturn, 1)]]
def rf_m_9_2 : List (List (Nat × Instr × Nat)) := [[(0, .iload_n 1, 1), (1, .aload_n 0, 1), (2, .getfield 75, 3), (5, .if_icmp .ge 12, 3), (8, .aload_n 0, 1), (9, .getfield 7, 3), (12, .iload_n 1, 1), (13, .caload, 1), (14, .goto 4, 3)],
  [(18, .ireturn, 1)]]
def rf_m_2_6 : List (List (Nat × Instr × Nat)) := [[(0, .iload_n 1, 1), (1, .ifCond .lt 10, 3), (4, .iload_n 1, 1), (5, .sipush 200, 3), (8, .if_icmp .le 11, 3)],
  [(19, .iconst 0, 1), (20, .istore_n 2, 1), (21, .iload_n 2, 1), (22, .iload_n 1, 1), (23, .if_icmp .ge 30, 3), (26, .aload_n 0, 1), (27, .getfield 34, 3), (30, .invokevirtual 87, 3)],
  [(33, .ifCond .eq 20, 3), (36, .aload_n 0, 1), (37, .getfield 34, 3), (40, .aload_n 0, 1), (41, .getfield 27, 3), (44, .invokevirtual 91, 3), (47, .iinc 2 1, 3)],
  [(50, .goto (-29), 3), (53, .iload_n 2, 1), (54, .ireturn, 1)]]
def rf_m_3_31 : List (List (Nat × Instr × Nat)) := [[(0, .aload_n 0, 1), (1, .getfield 12, 3), (4, .aload_n 1, 1), (5, .invokevirtual 74, 3), (8, .ifCond .ne 15, 3)],
  [(23, .aload_n 0, 1), (24, .getfield 12, 3), (27, .invokevirtual 78, 3), (30, .return_, 1)]]
def rf_m_9_31 : List (List (Nat × Instr × Nat)) := [[(0, .aload_n 0, 1), (1, .getfield 88, 3), (4, .iconst 3, 1), (5, .if_icmp .ne 21, 3)],
  [(26, .aload_n 0, 1), (27, .getfield 88, 3), (30, .bipush 40, 2)],
  [(32, .if_icmp .ne 26, 3), (35, .aload_n 0, 1), (36, .invokevirtual 168, 3), (39, .aload_n 0, 1), (40, .bipush 19, 2), (42, .iconst 0, 1), (43, .iconst 0, 1), (44, .invokevirtual 162, 3), (47, .aload_n 0, 1)],
  [(48, .bipush 14, 2), (50, .iconst 0, 1), (51, .iconst 0, 1), (52, .invokevirtual 162, 3), (55, .goto 156, 3)],
  [],
  [],
  [],
  [],
  [],
  [],
  [],
  [],
  [],
  [(211, .return_, 1)]]
def rf_m_3_25 : List (List (Nat × Instr × Nat)) := [[(0, .aload_n 0, 1), (1, .invokevirtual 279, 3), (4, .iconst 0, 1), (5, .istore_n 1, 1), (6, .iload_n 1, 1), (7, .sipush 180, 3), (10, .if_icmp .ge 56, 3), (13, .aload_n 0, 1), (14, .getfield 12, 3)],
  [(17, .invokevirtual 189, 3), (20, .invokevirtual 282, 3), (23, .ifCond .eq 43, 3)],
  [],
  [],
  [(66, .return_, 1)]]
def rf_m_9_4 : List (List (Nat × Instr × Nat)) := [[(0, .iload_n 0, 1), (1, .bipush 48, 2), (3, .if_icmp .lt 13, 3), (6, .iload_n 0, 1), (7, .bipush 57, 2), (9, .if_icmp .gt 7, 3), (12, .iconst 1, 1), (13, .goto 4, 3)],
  [(16, .iconst 0, 1), (17, .ireturn, 1)]]
def rf_m_1_0 : List (List (Nat × Instr × Nat)) := [[(0, .return_, 1)]]
def rf_m_9_16 : List (List (Nat × Instr × Nat)) := [[(0, .aload_n 0, 1), (1, .getfield 139, 3), (4, .bipush 6, 2), (6, .if_icmp .ne 12, 3), (9, .aload_n 0, 1), (10, .iconst 1, 1), (11, .aload_n 0, 1), (12, .getfield 78, 3), (15, .invokevirtual 120, 3)],
  [(18, .aload_n 0, 1), (19, .dup, 1), (20, .getfield 139, 3), (23, .iconst 1, 1), (24, .iadd, 1), (25, .putfield 139, 3), (28, .aload_n 0, 1), (29, .invokevirtual 117, 3)],
  [(32, .return_, 1)]]
def rf_m_9_18 : List (List (Nat × Instr × Nat)) := [[(0, .aload_n 0, 1), (1, .getfield 88, 3), (4, .iconst 4, 1), (5, .if_icmp .eq 4, 3), (9, .aload_n 0, 1), (10, .invokevirtual 117, 3), (13, .iconst 1, 1), (14, .istore_n 1, 1), (15, .iconst 0, 1)],
  [(16, .istore_n 2, 1), (17, .iload_n 2, 1), (18, .sipush 180, 3), (21, .if_icmp .ge 169, 3), (24, .iload_n 1, 1), (25, .ifCond .eq 165, 3), (28, .aload_n 0, 1), (29, .getfield 111, 3)],
  [(32, .ifCond .ne 158, 3), (35, .aload_n 0, 1), (36, .iconst 0, 1), (37, .aload_n 0, 1), (38, .getfield 142, 3), (41, .iconst 0, 1), (42, .invokevirtual 145, 3), (45, .iconst 1, 1), (46, .istore_n 3, 1), (47, .aload_n 0, 1)],
  [(48, .getfield 111, 3), (51, .ifCond .ne 96, 3), (54, .aload_n 0, 1), (55, .getfield 88, 3), (58, .bipush 6, 2), (60, .if_icmp .ne 87, 3), (63, .aload_n 0, 1)],
  [(64, .invokevirtual 117, 3), (67, .aload_n 0, 1), (68, .getfield 88, 3), (71, .iconst 3, 1), (72, .if_icmp .eq 15, 3)],
  [(87, .aload_n 0, 1), (88, .getfield 85, 3), (91, .iconst 1, 1), (92, .if_icmp .lt 12, 3), (95, .aload_n 0, 1)],
  [(96, .getfield 85, 3), (99, .bipush 30, 2), (101, .if_icmp .le 13, 3)],
  [(114, .aload_n 0, 1), (115, .getfield 85, 3), (118, .istore_n 3, 1), (119, .aload_n 0, 1), (120, .getfield 33, 3), (123, .aload_n 0, 1), (124, .getfield 124, 3), (127, .iconst 1, 1)],
  [(128, .isub, 1), (129, .iconst 1, 1), (130, .iastore, 1), (131, .aload_n 0, 1), (132, .getfield 42, 3), (135, .aload_n 0, 1), (136, .getfield 124, 3), (139, .iconst 1, 1), (140, .isub, 1), (141, .iload_n 3, 1), (142, .iastore, 1), (143, .aload_n 0, 1)],
  [(144, .invokevirtual 117, 3), (147, .aload_n 0, 1), (148, .dup, 1), (149, .getfield 142, 3), (152, .iload_n 3, 1), (153, .iadd, 1), (154, .putfield 142, 3), (157, .aload_n 0, 1), (158, .getfield 111, 3)],
  [(161, .ifCond .ne 9, 3), (164, .aload_n 0, 1), (165, .bipush 59, 2), (167, .invokevirtual 149, 3), (170, .aload_n 0, 1), (171, .getfield 88, 3), (174, .iconst 2, 1), (175, .if_icmp .ne 7, 3)],
  [(182, .iconst 0, 1), (183, .istore_n 1, 1), (184, .iinc 2 1, 3), (187, .goto (-170), 3), (190, .return_, 1)]]
def rf_m_20_2 : List (List (Nat × Instr × Nat)) := [[(0, .aload_n 0, 1), (1, .getfield 120, 3), (4, .iconst 4, 1), (5, .if_icmp .eq 11, 3), (8, .aload_n 0, 1), (9, .getfield 120, 3), (12, .iconst 5, 1), (13, .if_icmp .ne 7, 3)],
  [(20, .iconst 0, 1), (21, .ireturn, 1)]]
def rf_m_20_1 : List (List (Nat × Instr × Nat)) := [[(0, .aload_n 0, 1), (1, .getfield 120, 3), (4, .iconst 2, 1), (5, .if_icmp .eq 11, 3), (8, .aload_n 0, 1), (9, .getfield 120, 3), (12, .iconst 3, 1), (13, .if_icmp .ne 7, 3)],
  [(20, .iconst 0, 1), (21, .ireturn, 1)]]
def rf_m_9_29 : List (List (Nat × Instr × Nat)) := [[(0, .aload_n 0, 1), (1, .bipush 15, 2), (3, .iconst 0, 1), (4, .iconst 0, 1), (5, .invokevirtual 162, 3), (8, .aload_n 0, 1), (9, .getfield 88, 3), (12, .bipush 45, 2), (14, .if_icmp .ne 17, 3)],
  [(31, .aload_n 0, 1)],
  [(32, .bipush 16, 2), (34, .iconst 0, 1), (35, .iconst 0, 1), (36, .invokevirtual 162, 3), (39, .return_, 1)]]
def rf_m_7_6 : List (List (Nat × Instr × Nat)) := [[(0, .aload_n 0, 1), (1, .iload_n 1, 1), (2, .invokevirtual 25, 3), (5, .ifCond .eq 12, 3), (8, .aload_n 0, 1), (9, .getfield 11, 3), (12, .iload_n 1, 1), (13, .iaload, 1), (14, .goto 4, 3)],
  [(18, .ireturn, 1)]]
def rf_m_7_7 : List (List (Nat × Instr × Nat)) := [[(0, .aload_n 0, 1), (1, .iload_n 1, 1), (2, .invokevirtual 25, 3), (5, .ifCond .eq 12, 3), (8, .aload_n 0, 1), (9, .getfield 15, 3), (12, .iload_n 1, 1), (13, .iaload, 1), (14, .goto 4, 3)],
  [(18, .ireturn, 1)]]
def rf_m_7_8 : List (List (Nat × Instr × Nat)) := [[(0, .aload_n 0, 1), (1, .iload_n 1, 1), (2, .invokevirtual 25, 3), (5, .ifCond .eq 12, 3), (8, .aload_n 0, 1), (9, .getfield 18, 3), (12, .iload_n 1, 1), (13, .iaload, 1), (14, .goto 4, 3)],
  [(18, .ireturn, 1)]]
def rf_m_9_0 : List (List (Nat × Instr × Nat)) := [[(0, .aload_n 0, 1), (1, .invokespecial 1, 3), (4, .aload_n 0, 1), (5, .sipush 180, 3), (8, .newarray .char, 2), (10, .putfield 7, 3), (13, .aload_n 0, 1), (14, .iconst (-1), 1), (15, .putfield 13, 3)],
  [(18, .aload_n 0, 1), (19, .iconst (-1), 1), (20, .putfield 17, 3), (23, .aload_n 0, 1), (24, .sipush 260, 3), (27, .newarray .int, 2), (29, .putfield 20, 3)],
  [(32, .aload_n 0, 1), (33, .sipush 260, 3), (36, .newarray .int, 2), (38, .putfield 24, 3), (41, .aload_n 0, 1), (42, .sipush 260, 3), (45, .newarray .int, 2), (47, .putfield 27, 3)],
  [(50, .aload_n 0, 1), (51, .bipush 100, 2), (53, .newarray .int, 2), (55, .putfield 30, 3), (58, .aload_n 0, 1), (59, .bipush 100, 2), (61, .newarray .int, 2), (63, .putfield 33, 3)],
  [(66, .aload_n 0, 1), (67, .bipush 100, 2), (69, .newarray .int, 2), (71, .putfield 36, 3), (74, .aload_n 0, 1), (75, .bipush 100, 2), (77, .newarray .int, 2), (79, .putfield 39, 3)],
  [(82, .aload_n 0, 1), (83, .bipush 100, 2), (85, .newarray .int, 2), (87, .putfield 42, 3), (90, .aload_n 0, 1), (91, .sipush 400, 3), (94, .newarray .int, 2)],
  [(96, .putfield 45, 3), (99, .aload_n 0, 1), (100, .sipush 400, 3), (103, .newarray .int, 2), (105, .putfield 48, 3), (108, .aload_n 0, 1), (109, .sipush 400, 3)],
  [(112, .newarray .int, 2), (114, .putfield 51, 3), (117, .aload_n 0, 1), (118, .sipush 400, 3), (121, .newarray .int, 2), (123, .putfield 54, 3), (126, .aload_n 0, 1), (127, .sipush 400, 3)],
  [(130, .newarray .int, 2), (132, .putfield 57, 3), (135, .aload_n 0, 1), (136, .sipush 400, 3), (139, .newarray .int, 2), (141, .putfield 60, 3)],
  [(144, .aload_n 0, 1), (145, .iconst (-1), 1), (146, .putfield 63, 3), (149, .aload_n 0, 1), (150, .sipush 200, 3), (153, .newarray .int, 2), (155, .putfield 66, 3), (158, .aload_n 0, 1), (159, .bipush 8, 2)],
  [(161, .newarray .int, 2), (163, .putfield 69, 3), (166, .return_, 1)]]
def rf_m_8_21 : List (List (Nat × Instr × Nat)) := [[(0, .iload_n 1, 1), (1, .ifCond .lt 19, 3), (4, .iload_n 1, 1), (5, .sipush 200, 3), (8, .if_icmp .ge 12, 3), (11, .aload_n 0, 1), (12, .getfield 11, 3), (15, .iload_n 1, 1)],
  [(16, .iaload, 1), (17, .goto 4, 3), (21, .ireturn, 1)]]
def rf_m_9_8 : List (List (Nat × Instr × Nat)) := [[(0, .aload_n 0, 1), (1, .aload_n 0, 1), (2, .getfield 104, 3), (5, .invokevirtual 107, 3), (8, .return_, 1)]]
def rf_m_3_30 : List (List (Nat × Instr × Nat)) := [[(0, .aload_n 0, 1), (1, .getfield 32, 3), (4, .bipush 6, 2), (6, .if_icmp .lt 15, 3)],
  [(21, .aload_n 0, 1), (22, .dup, 1), (23, .getfield 32, 3), (26, .iconst 1, 1), (27, .iadd, 1), (28, .putfield 32, 3), (31, .return_, 1)]]
def rf_m_8_11 : List (List (Nat × Instr × Nat)) := [[(0, .iload_n 1, 1), (1, .tableswitch 185 0 9 #[55, 63, 81, 99, 122, 136, 145, 153, 161, 176], 55)],
  [],
  [],
  [(56, .aload_n 0, 1), (57, .iload_n 3, 1), (58, .invokevirtual 75, 3), (61, .goto 125, 3)],
  [],
  [],
  [],
  [(123, .aload_n 0, 1), (124, .aload_n 0, 1), (125, .iload_n 2, 1), (126, .invokevirtual 50, 3)],
  [(129, .iload_n 3, 1), (130, .iadd, 1), (131, .invokevirtual 87, 3), (134, .goto 52, 3)],
  [(146, .aload_n 0, 1), (147, .iload_n 3, 1), (148, .invokevirtual 93, 3), (151, .goto 35, 3), (154, .aload_n 0, 1), (155, .iload_n 3, 1), (156, .putfield 22, 3), (159, .goto 27, 3)],
  [],
  [(177, .aload_n 0, 1), (178, .iload_n 3, 1), (179, .iload_n 2, 1), (180, .invokevirtual 96, 3), (183, .goto 3, 3), (186, .return_, 1)]]
def rf_m_8_3 : List (List (Nat × Instr × Nat)) := [[(0, .aload_n 0, 1), (1, .getfield 18, 3), (4, .iconst 1, 1), (5, .if_icmp .ne 7, 3), (8, .iconst 1, 1), (9, .goto 4, 3), (13, .ireturn, 1)]]
def rf_m_8_9 : List (List (Nat × Instr × Nat)) := [[(0, .iload_n 1, 1), (1, .tableswitch 132 0 11 #[63, 63, 132, 132, 132, 69, 75, 132, 132, 110, 132, 81], 63)],
  [],
  [],
  [],
  [(64, .aload_n 0, 1), (65, .iconst 1, 1), (66, .invokevirtual 72, 3), (69, .ireturn, 1), (76, .aload_n 0, 1), (77, .iload_n 2, 1), (78, .invokevirtual 72, 3)],
  [(81, .ireturn, 1), (82, .aload_n 0, 1), (83, .aload_n 0, 1), (84, .getfield 28, 3), (87, .invokevirtual 46, 3), (90, .ifCond .lt 19, 3), (93, .aload_n 0, 1), (94, .aload_n 0, 1), (95, .getfield 28, 3)],
  [(98, .invokevirtual 46, 3), (101, .iload_n 2, 1), (102, .if_icmp .ge 7, 3), (105, .iconst 1, 1), (106, .goto 4, 3), (110, .ireturn, 1), (111, .iload_n 2, 1)],
  [(112, .iconst 5, 1), (113, .if_icmp .ne 18, 3)],
  [(131, .iconst 1, 1), (132, .ireturn, 1), (133, .iconst 1, 1), (134, .ireturn, 1)]]
def rf_m_3_5 : List (List (Nat × Instr × Nat)) := [[(0, .aload_n 0, 1), (1, .getfield 28, 3), (4, .bipush 7, 2), (6, .iconst 0, 1), (7, .iconst 0, 1), (8, .invokevirtual 67, 3), (11, .istore_n 2, 1), (12, .iconst 3, 1), (13, .istore_n 3, 1), (14, .aload_n 0, 1), (15, .getfield 12, 3)],
  [(18, .getstatic 71, 3), (21, .invokevirtual 74, 3), (24, .ifCond .eq 16, 3), (27, .aload_n 0, 1), (28, .getfield 12, 3), (31, .invokevirtual 78, 3)],
  [(34, .aload_n 0, 1), (35, .iload_n 3, 1), (36, .invokevirtual 81, 3), (39, .istore_n 3, 1), (40, .iconst 0, 1), (41, .istore 4, 2), (43, .iload 4, 2), (45, .sipush 180, 3)],
  [(48, .if_icmp .ge 26, 3), (51, .aload_n 0, 1), (52, .getfield 12, 3), (55, .getstatic 85, 3), (58, .invokevirtual 74, 3), (61, .ifCond .eq 13, 3)],
  [(74, .aload_n 0, 1), (75, .getfield 28, 3), (78, .iload_n 2, 1), (79, .invokevirtual 91, 3)],
  [(82, .aload_n 0, 1), (83, .getfield 28, 3), (86, .bipush 6, 2), (88, .iconst 0, 1), (89, .iload_n 3, 1), (90, .invokevirtual 67, 3), (93, .pop, 1), (94, .aload_n 0, 1), (95, .getstatic 94, 3)],
  [(98, .invokevirtual 60, 3), (101, .aload_n 0, 1), (102, .invokevirtual 97, 3), (105, .aload_n 0, 1), (106, .getstatic 100, 3), (109, .invokevirtual 60, 3)],
  [(112, .aload_n 0, 1), (113, .getfield 28, 3), (116, .bipush 9, 2), (118, .iload_n 1, 1), (119, .iconst 0, 1), (120, .invokevirtual 67, 3), (123, .pop, 1), (124, .return_, 1)]]
def rf_m_9_14 : List (List (Nat × Instr × Nat)) := [[(0, .aload_n 0, 1), (1, .getfield 45, 3), (4, .aload_n 0, 1), (5, .getfield 133, 3), (8, .iload_n 1, 1), (9, .iastore, 1), (10, .aload_n 0, 1), (11, .getfield 48, 3), (14, .aload_n 0, 1), (15, .getfield 133, 3)],
  [(18, .iload_n 2, 1), (19, .iastore, 1), (20, .aload_n 0, 1), (21, .getfield 51, 3), (24, .aload_n 0, 1), (25, .getfield 133, 3), (28, .iload_n 3, 1), (29, .iastore, 1), (30, .aload_n 0, 1), (31, .dup, 1)],
  [(32, .getfield 133, 3), (35, .iconst 1, 1), (36, .iadd, 1), (37, .putfield 133, 3), (40, .aload_n 0, 1), (41, .getfield 133, 3), (44, .iconst 1, 1), (45, .isub, 1), (46, .ireturn, 1)]]
def rf_m_8_22 : List (List (Nat × Instr × Nat)) := [[(0, .iload_n 1, 1), (1, .ifCond .lt 17, 3), (4, .iload_n 1, 1), (5, .sipush 200, 3), (8, .if_icmp .ge 10, 3), (11, .aload_n 0, 1), (12, .getfield 11, 3), (15, .iload_n 1, 1)],
  [(16, .iload_n 2, 1), (17, .iastore, 1), (18, .return_, 1)]]
def rf_m_9_13 : List (List (Nat × Instr × Nat)) := [[(0, .aload_n 0, 1), (1, .aload_n 0, 1), (2, .getfield 85, 3), (5, .invokevirtual 127, 3), (8, .istore 4, 2), (10, .aload_n 0, 1), (11, .getfield 88, 3), (14, .iconst 2, 1), (15, .if_icmp .eq 15, 3)],
  [(30, .iload 4, 2)],
  [(32, .ifCond .lt 26, 3)],
  [(58, .aload_n 0, 1), (59, .getfield 30, 3), (62, .aload_n 0, 1), (63, .getfield 124, 3)],
  [(66, .aload_n 0, 1), (67, .getfield 85, 3), (70, .iastore, 1), (71, .aload_n 0, 1), (72, .getfield 33, 3), (75, .aload_n 0, 1), (76, .getfield 124, 3), (79, .iload_n 1, 1)],
  [(80, .iastore, 1), (81, .aload_n 0, 1), (82, .getfield 36, 3), (85, .aload_n 0, 1), (86, .getfield 124, 3), (89, .aload_n 0, 1), (90, .getfield 130, 3), (93, .iastore, 1), (94, .aload_n 0, 1), (95, .getfield 39, 3)],
  [(98, .aload_n 0, 1), (99, .getfield 124, 3), (102, .iload_n 2, 1), (103, .iastore, 1), (104, .aload_n 0, 1), (105, .getfield 42, 3), (108, .aload_n 0, 1), (109, .getfield 124, 3)],
  [(112, .iload_n 3, 1), (113, .iastore, 1), (114, .aload_n 0, 1), (115, .dup, 1), (116, .getfield 124, 3), (119, .iconst 1, 1), (120, .iadd, 1), (121, .putfield 124, 3), (124, .aload_n 0, 1), (125, .invokevirtual 117, 3)],
  [(128, .return_, 1)]]
def rf_m_8_1 : List (List (Nat × Instr × Nat)) := [[(0, .aload_n 0, 1), (1, .getfield 11, 3), (4, .iconst 0, 1), (5, .invokestatic 37, 3), (8, .aload_n 0, 1), (9, .iconst 0, 1), (10, .putfield 18, 3), (13, .aload_n 0, 1), (14, .iconst 0, 1), (15, .putfield 22, 3)],
  [(18, .aload_n 0, 1), (19, .iconst 0, 1), (20, .putfield 25, 3), (23, .aload_n 0, 1), (24, .iconst (-1), 1), (25, .putfield 28, 3), (28, .aload_n 0, 1), (29, .iconst 0, 1), (30, .putfield 31, 3)],
  [(33, .aload_n 0, 1), (34, .iconst 0, 1), (35, .putfield 34, 3), (38, .return_, 1)]]
def rf_m_8_19 : List (List (Nat × Instr × Nat)) := [[(0, .aload_n 0, 1), (1, .aload_n 0, 1), (2, .getfield 28, 3), (5, .iconst 1, 1), (6, .iadd, 1), (7, .iload_n 1, 1), (8, .invokevirtual 83, 3), (11, .aload_n 0, 1), (12, .dup, 1), (13, .getfield 28, 3)],
  [(16, .iconst 1, 1), (17, .iadd, 1), (18, .putfield 28, 3), (21, .return_, 1)]]
def rf_m_9_24 : List (List (Nat × Instr × Nat)) := [[(0, .aload_n 0, 1), (1, .aload_n 0, 1), (2, .getfield 85, 3), (5, .invokevirtual 127, 3), (8, .istore_n 1, 1), (9, .aload_n 0, 1), (10, .invokevirtual 178, 3), (13, .istore_n 2, 1), (14, .iload_n 1, 1), (15, .ifCond .ge 15, 3)],
  [(30, .aload_n 0, 1), (31, .getfield 33, 3)],
  [(34, .iload_n 1, 1), (35, .iaload, 1), (36, .iconst 2, 1), (37, .if_icmp .ne 35, 3)],
  [],
  [(72, .aload_n 0, 1), (73, .getfield 33, 3), (76, .iload_n 1, 1), (77, .iaload, 1), (78, .iconst 1, 1), (79, .if_icmp .ne 48, 3)],
  [(82, .iload_n 2, 1), (83, .bipush 91, 2), (85, .if_icmp .eq 15, 3)],
  [(100, .aload_n 0, 1), (101, .invokevirtual 117, 3), (104, .aload_n 0, 1), (105, .invokevirtual 168, 3), (108, .aload_n 0, 1), (109, .bipush 21, 2), (111, .iload_n 1, 1)],
  [(112, .iconst 0, 1), (113, .invokevirtual 162, 3), (116, .aload_n 0, 1), (117, .bipush 14, 2), (119, .iconst 0, 1), (120, .iconst 0, 1), (121, .invokevirtual 162, 3), (124, .goto 57, 3)],
  [],
  [],
  [],
  [(181, .return_, 1)]]
def rf_m_3_13 : List (List (Nat × Instr × Nat)) := [[(0, .getstatic 183, 3), (3, .aload_n 0, 1), (4, .getfield 12, 3), (7, .invokevirtual 189, 3), (10, .invokevirtual 192, 3), (13, .iaload, 1), (14, .tableswitch 114 1 5 #[34, 64, 71, 79, 87], 34)],
  [],
  [],
  [(48, .aload_n 0, 1), (49, .invokevirtual 195, 3), (52, .astore_n 2, 1), (53, .aload_n 2, 1), (54, .getfield 122, 3), (57, .iconst 2, 1), (58, .if_icmp .ne 12, 3)],
  [(70, .aload_n 0, 1), (71, .aload_n 2, 1), (72, .invokevirtual 203, 3), (75, .goto 53, 3)],
  [],
  [(101, .aload_n 0, 1), (102, .getfield 12, 3), (105, .invokevirtual 78, 3), (108, .aload_n 0, 1), (109, .invokevirtual 216, 3)],
  [(112, .aload_n 0, 1), (113, .getfield 28, 3), (116, .bipush 9, 2), (118, .iconst 0, 1), (119, .bipush 10, 2), (121, .invokevirtual 67, 3), (124, .pop, 1), (125, .goto 3, 3)],
  [(128, .return_, 1)]]
def rf_m_9_21 : List (List (Nat × Instr × Nat)) := [[(0, .aload_n 0, 1), (1, .getfield 88, 3), (4, .iconst 5, 1), (5, .if_icmp .ne 17, 3)],
  [(22, .aload_n 0, 1), (23, .getfield 88, 3), (26, .bipush 7, 2), (28, .if_icmp .eq 15, 3)],
  [(43, .aload_n 0, 1), (44, .invokevirtual 117, 3), (47, .aload_n 0, 1)],
  [(48, .getfield 51, 3), (51, .iload_n 1, 1), (52, .aload_n 0, 1), (53, .getfield 133, 3), (56, .iastore, 1), (57, .aload_n 0, 1), (58, .bipush 6, 2), (60, .iconst 0, 1), (61, .aload_n 0, 1), (62, .getfield 142, 3)],
  [(65, .invokevirtual 152, 3), (68, .istore_n 3, 1), (69, .aload_n 0, 1), (70, .iconst 2, 1), (71, .iload_n 2, 1), (72, .iconst 0, 1), (73, .invokevirtual 162, 3), (76, .aload_n 0, 1), (77, .iconst 5, 1), (78, .iconst 0, 1), (79, .iconst 0, 1)],
  [(80, .invokevirtual 162, 3), (83, .aload_n 0, 1), (84, .bipush 6, 2), (86, .iconst 0, 1), (87, .iconst 0, 1), (88, .invokevirtual 162, 3), (91, .return_, 1)]]
def rf_m_8_20 : List (List (Nat × Instr × Nat)) := [[(0, .aload_n 0, 1), (1, .aload_n 0, 1), (2, .getfield 28, 3), (5, .invokevirtual 46, 3), (8, .istore_n 1, 1), (9, .aload_n 0, 1), (10, .dup, 1), (11, .getfield 28, 3), (14, .iconst 1, 1), (15, .isub, 1)],
  [(16, .putfield 28, 3), (19, .iload_n 1, 1), (20, .ireturn, 1)]]
def rf_m_4_4 : List (List (Nat × Instr × Nat)) := [[(0, .aload_n 0, 1), (1, .getfield 28, 3), (4, .iconst 1, 1), (5, .iadd, 1), (6, .aload_n 0, 1), (7, .getfield 24, 3), (10, .if_icmp .ge 22, 3), (13, .aload_n 0, 1), (14, .getfield 13, 3)],
  [(17, .aload_n 0, 1), (18, .getfield 28, 3), (21, .iconst 1, 1), (22, .iadd, 1), (23, .aaload, 1), (24, .aload_n 1, 1), (25, .if_acmp .ne 7, 3), (28, .iconst 1, 1), (29, .goto 4, 3)],
  [(32, .iconst 0, 1), (33, .ireturn, 1)]]
def rf_m_7_0 : List (List (Nat × Instr × Nat)) := [[(0, .aload_n 0, 1), (1, .invokespecial 3, 3), (4, .aload_n 0, 1), (5, .sipush 180, 3), (8, .newarray .int, 2), (10, .putfield 11, 3), (13, .aload_n 0, 1), (14, .sipush 180, 3)],
  [(17, .newarray .int, 2), (19, .putfield 15, 3), (22, .aload_n 0, 1), (23, .sipush 180, 3), (26, .newarray .int, 2), (28, .putfield 18, 3), (31, .aload_n 0, 1)],
  [(32, .iconst 0, 1), (33, .putfield 21, 3), (36, .return_, 1)]]
def rf_m_4_6 : List (List (Nat × Instr × Nat)) := [[(0, .aload_n 0, 1), (1, .getfield 21, 3), (4, .aload_n 0, 1), (5, .getfield 28, 3), (8, .iaload, 1), (9, .ireturn, 1)]]
def rf_m_8_10 : List (List (Nat × Instr × Nat)) := [[(0, .iload_n 1, 1), (1, .sipush 199, 3), (4, .aload_n 0, 1), (5, .getfield 28, 3), (8, .isub, 1), (9, .if_icmp .gt 7, 3), (12, .iconst 1, 1), (13, .goto 4, 3)],
  [(17, .ireturn, 1)]]
def rf_m_8_15 : List (List (Nat × Instr × Nat)) := [[(0, .aload_n 0, 1), (1, .getfield 25, 3), (4, .istore_n 2, 1), (5, .aload_n 0, 1), (6, .aload_n 0, 1), (7, .iload_n 2, 1), (8, .iconst 1, 1), (9, .iadd, 1), (10, .invokevirtual 46, 3), (13, .putfield 25, 3)],
  [(16, .aload_n 0, 1), (17, .aload_n 0, 1), (18, .iload_n 2, 1), (19, .iconst 2, 1), (20, .iadd, 1), (21, .invokevirtual 46, 3), (24, .putfield 22, 3), (27, .aload_n 0, 1), (28, .iload_n 2, 1), (29, .iconst 1, 1), (30, .isub, 1), (31, .iload_n 1, 1)],
  [(32, .isub, 1), (33, .putfield 28, 3), (36, .aload_n 0, 1), (37, .dup, 1), (38, .getfield 31, 3), (41, .iconst 1, 1), (42, .isub, 1), (43, .putfield 31, 3), (46, .iload_n 2, 1), (47, .ifCond .ne 8, 3)],
  [(50, .aload_n 0, 1), (51, .iconst 2, 1), (52, .putfield 18, 3), (55, .return_, 1)]]
def rf_m_5_8 : List (List (Nat × Instr × Nat)) := [[(0, .aload_n 0, 1), (1, .getfield 13, 3), (4, .aload_n 0, 1), (5, .getfield 17, 3), (8, .bipush 89, 2), (10, .invokestatic 37, 3), (13, .aaload, 1), (14, .astore 4, 2)],
  [(16, .aload_n 0, 1), (17, .aload_n 0, 1), (18, .getfield 17, 3), (21, .iconst 1, 1), (22, .iadd, 1), (23, .bipush 90, 2), (25, .invokestatic 37, 3), (28, .putfield 17, 3), (31, .aload 4, 2)],
  [(33, .iload_n 1, 1), (34, .putfield 29, 3), (37, .aload 4, 2), (39, .iload_n 2, 1), (40, .putfield 43, 3), (43, .aload 4, 2), (45, .aload_n 0, 1), (46, .getfield 25, 3)],
  [(49, .putfield 36, 3), (52, .aload 4, 2), (54, .iload_n 3, 1), (55, .putfield 46, 3), (58, .aload 4, 2), (60, .iconst 0, 1), (61, .putfield 49, 3)],
  [(64, .aload 4, 2), (66, .areturn, 1)]]
def rf_m_10_0 : List (List (Nat × Instr × Nat)) := [[(0, .aload_n 0, 1), (1, .getfield 7, 3), (4, .ireturn, 1)]]
def rf_m_9_11 : List (List (Nat × Instr × Nat)) := [[(0, .aload_n 0, 1), (1, .getfield 88, 3), (4, .istore_n 1, 1), (5, .aload_n 0, 1), (6, .getfield 78, 3), (9, .istore_n 2, 1), (10, .aload_n 0, 1), (11, .getfield 85, 3), (14, .istore_n 3, 1), (15, .aload_n 0, 1)],
  [(16, .getfield 104, 3), (19, .istore 4, 2), (21, .aload_n 0, 1), (22, .aload_n 0, 1), (23, .getfield 104, 3), (26, .invokevirtual 107, 3), (29, .aload_n 0, 1), (30, .getfield 88, 3)],
  [(33, .istore 5, 2), (35, .aload_n 0, 1), (36, .iload_n 1, 1), (37, .putfield 88, 3), (40, .aload_n 0, 1), (41, .iload_n 2, 1), (42, .putfield 78, 3), (45, .aload_n 0, 1), (46, .iload_n 3, 1), (47, .putfield 85, 3)],
  [(50, .aload_n 0, 1), (51, .iload 4, 2), (53, .putfield 104, 3), (56, .iload 5, 2), (58, .ireturn, 1)]]
def rf_m_7_5 : List (List (Nat × Instr × Nat)) := [[(0, .aload_n 0, 1), (1, .aload_n 1, 1), (2, .getfield 21, 3), (5, .putfield 21, 3), (8, .aload_n 1, 1), (9, .getfield 11, 3), (12, .iconst 0, 1), (13, .aload_n 0, 1), (14, .getfield 11, 3)],
  [(17, .iconst 0, 1), (18, .aload_n 0, 1), (19, .getfield 21, 3), (22, .invokestatic 29, 3), (25, .aload_n 1, 1), (26, .getfield 15, 3), (29, .iconst 0, 1), (30, .aload_n 0, 1), (31, .getfield 15, 3)],
  [(34, .iconst 0, 1), (35, .aload_n 0, 1), (36, .getfield 21, 3), (39, .invokestatic 29, 3), (42, .aload_n 1, 1), (43, .getfield 18, 3), (46, .iconst 0, 1), (47, .aload_n 0, 1)],
  [(48, .getfield 18, 3), (51, .iconst 0, 1), (52, .aload_n 0, 1), (53, .getfield 21, 3), (56, .invokestatic 29, 3), (59, .return_, 1)]]
def rf_m_3_4 : List (List (Nat × Instr × Nat)) := [[(0, .aload_n 0, 1), (1, .getfield 21, 3), (4, .invokevirtual 42, 3), (7, .aload_n 0, 1), (8, .getfield 28, 3), (11, .invokevirtual 45, 3), (14, .aload_n 0, 1), (15, .iconst 0, 1)],
  [(16, .putfield 32, 3), (19, .aload_n 0, 1), (20, .iconst (-1), 1), (21, .putfield 36, 3), (24, .aload_n 0, 1), (25, .iconst (-1), 1), (26, .putfield 39, 3), (29, .aload_n 0, 1), (30, .getfield 12, 3)],
  [(33, .aload_n 1, 1), (34, .iload_n 2, 1), (35, .invokevirtual 46, 3), (38, .aload_n 0, 1), (39, .iconst 0, 1), (40, .invokevirtual 50, 3), (43, .aload_n 0, 1), (44, .getstatic 54, 3), (47, .invokevirtual 60, 3)],
  [(50, .aload_n 0, 1), (51, .getstatic 64, 3), (54, .invokevirtual 60, 3), (57, .return_, 1)]]
def rf_m_3_12 : List (List (Nat × Instr × Nat)) := [[(0, .aload_n 0, 1), (1, .iconst 0, 1), (2, .invokevirtual 179, 3), (5, .iconst 0, 1), (6, .istore_n 1, 1), (7, .iload_n 1, 1), (8, .sipush 180, 3), (11, .if_icmp .ge 34, 3), (14, .aload_n 0, 1), (15, .getfield 12, 3)],
  [(18, .getstatic 128, 3), (21, .invokevirtual 74, 3), (24, .ifCond .eq 21, 3), (27, .aload_n 0, 1), (28, .getfield 12, 3), (31, .invokevirtual 78, 3)],
  [(34, .aload_n 0, 1), (35, .iconst 0, 1), (36, .invokevirtual 179, 3), (39, .iinc 1 1, 3), (42, .goto (-35), 3), (45, .return_, 1)]]
def rf_m_8_0 : List (List (Nat × Instr × Nat)) := [[(0, .aload_n 0, 1), (1, .invokespecial 3, 3), (4, .aload_n 0, 1), (5, .sipush 200, 3), (8, .newarray .int, 2), (10, .putfield 11, 3), (13, .aload_n 0, 1), (14, .bipush 8, 2)],
  [(16, .newarray .int, 2), (18, .putfield 15, 3), (21, .aload_n 0, 1), (22, .iconst 0, 1), (23, .putfield 18, 3), (26, .aload_n 0, 1), (27, .iconst 0, 1), (28, .putfield 22, 3), (31, .aload_n 0, 1)],
  [(32, .iconst 0, 1), (33, .putfield 25, 3), (36, .aload_n 0, 1), (37, .iconst (-1), 1), (38, .putfield 28, 3), (41, .aload_n 0, 1), (42, .iconst 0, 1), (43, .putfield 31, 3), (46, .aload_n 0, 1), (47, .iconst 0, 1)],
  [(48, .putfield 34, 3), (51, .return_, 1)]]
def rf_m_3_7 : List (List (Nat × Instr × Nat)) := [[(0, .aload_n 0, 1), (1, .iconst 0, 1), (2, .iload_n 1, 1), (3, .invokevirtual 111, 3), (6, .astore_n 2, 1), (7, .iconst 1, 1), (8, .istore_n 3, 1), (9, .aload_n 0, 1), (10, .getfield 12, 3), (13, .getstatic 115, 3)],
  [(16, .invokevirtual 74, 3), (19, .ifCond .eq 25, 3), (22, .aload_n 0, 1), (23, .getfield 12, 3), (26, .invokevirtual 78, 3), (29, .aload_n 0, 1), (30, .invokevirtual 118, 3)],
  [(33, .istore_n 3, 1), (34, .aload_n 2, 1), (35, .iconst 1, 1), (36, .putfield 122, 3), (39, .aload_n 2, 1), (40, .iload_n 3, 1), (41, .putfield 125, 3), (44, .aload_n 0, 1), (45, .getstatic 128, 3)],
  [(48, .invokevirtual 60, 3), (51, .iload_n 3, 1), (52, .ireturn, 1)]]
def rf_m_5_6 : List (List (Nat × Instr × Nat)) := [[(0, .aload_n 0, 1), (1, .getfield 17, 3), (4, .iconst 1, 1), (5, .isub, 1), (6, .istore_n 2, 1), (7, .iload_n 2, 1), (8, .ifCond .lt 29, 3), (11, .aload_n 0, 1), (12, .getfield 13, 3), (15, .iload_n 2, 1)],
  [(16, .aaload, 1), (17, .getfield 29, 3), (20, .iload_n 1, 1), (21, .if_icmp .ne 10, 3), (24, .aload_n 0, 1), (25, .getfield 13, 3), (28, .iload_n 2, 1), (29, .aaload, 1), (30, .areturn, 1)],
  [(37, .aconst_null, 1), (38, .areturn, 1)]]
def rf_m_3_0 : List (List (Nat × Instr × Nat)) := [[(0, .aload_n 0, 1), (1, .invokespecial 3, 3), (4, .aload_n 0, 1), (5, .new 9, 3), (8, .dup, 1), (9, .invokespecial 11, 3), (12, .putfield 12, 3), (15, .aload_n 0, 1)],
  [(16, .new 18, 3), (19, .dup, 1), (20, .invokespecial 20, 3), (23, .putfield 21, 3), (26, .aload_n 0, 1), (27, .new 25, 3), (30, .dup, 1), (31, .invokespecial 27, 3)],
  [(34, .putfield 28, 3), (37, .aload_n 0, 1), (38, .iconst 0, 1), (39, .putfield 32, 3), (42, .aload_n 0, 1), (43, .iconst (-1), 1), (44, .putfield 36, 3), (47, .aload_n 0, 1)],
  [(48, .iconst (-1), 1), (49, .putfield 39, 3), (52, .return_, 1)]]
def rf_m_3_14 : List (List (Nat × Instr × Nat)) := [[(0, .aload_n 0, 1), (1, .invokevirtual 219, 3), (4, .astore_n 1, 1), (5, .aload_n 0, 1), (6, .getfield 12, 3), (9, .getstatic 222, 3), (12, .invokevirtual 225, 3), (15, .istore_n 2, 1)],
  [(16, .aload_n 0, 1), (17, .getfield 12, 3), (20, .getstatic 228, 3), (23, .invokevirtual 225, 3), (26, .istore_n 3, 1), (27, .aload_n 1, 1), (28, .getfield 122, 3), (31, .lookupswitch 49 #[(1, 43), (2, 25)], 25)],
  [],
  [],
  [(74, .iload_n 3, 1), (75, .istore 4, 2), (77, .goto 6, 3)],
  [(83, .iload 4, 2), (85, .ifCond .ne 15, 3)],
  [(100, .aload_n 0, 1), (101, .getfield 12, 3), (104, .invokevirtual 78, 3), (107, .aload_n 1, 1), (108, .areturn, 1)]]
def rf_m_8_14 : List (List (Nat × Instr × Nat)) := [[(0, .iconst 3, 1), (1, .istore_n 2, 1), (2, .iload_n 2, 1), (3, .iload_n 1, 1), (4, .if_icmp .ge 22, 3), (7, .aload_n 0, 1), (8, .aload_n 0, 1), (9, .getfield 28, 3), (12, .iconst 1, 1), (13, .iadd, 1), (14, .iload_n 2, 1), (15, .iadd, 1)],
  [(16, .iconst 0, 1), (17, .invokevirtual 83, 3), (20, .iinc 2 1, 3), (23, .goto (-21), 3), (26, .aload_n 0, 1), (27, .dup, 1), (28, .getfield 28, 3), (31, .iload_n 1, 1)],
  [(32, .iadd, 1), (33, .putfield 28, 3), (36, .return_, 1)]]
def rf_m_8_16 : List (List (Nat × Instr × Nat)) := [[(0, .iload_n 1, 1), (1, .lookupswitch 84 #[(0, 35), (1, 43), (10, 55)], 35)],
  [],
  [(36, .aload_n 0, 1), (37, .iload_n 2, 1), (38, .invokevirtual 99, 3), (41, .goto 66, 3)],
  [(56, .aload_n 0, 1), (57, .getfield 15, 3), (60, .aload_n 0, 1), (61, .getfield 34, 3)],
  [(64, .bipush 8, 2), (66, .irem, 1), (67, .aload_n 0, 1), (68, .invokevirtual 79, 3), (71, .iastore, 1), (72, .aload_n 0, 1), (73, .dup, 1), (74, .getfield 34, 3), (77, .iconst 1, 1), (78, .iadd, 1), (79, .putfield 34, 3)],
  [(82, .goto 25, 3)],
  [(107, .return_, 1)]]
def rf_m_2_0 : List (List (Nat × Instr × Nat)) := [[(0, .aload_n 0, 1), (1, .invokespecial 1, 3), (4, .aload_n 0, 1), (5, .sipush 180, 3), (8, .newarray .char, 2), (10, .putfield 9, 3), (13, .aload_n 0, 1), (14, .iconst 0, 1), (15, .putfield 13, 3)],
  [(18, .aload_n 0, 1), (19, .new 17, 3), (22, .dup, 1), (23, .invokespecial 19, 3), (26, .putfield 20, 3), (29, .aload_n 0, 1), (30, .new 24, 3)],
  [(33, .dup, 1), (34, .invokespecial 26, 3), (37, .putfield 27, 3), (40, .aload_n 0, 1), (41, .new 31, 3), (44, .dup, 1), (45, .invokespecial 33, 3)],
  [(48, .putfield 34, 3), (51, .return_, 1)]]
def rf_m_2_2 : List (List (Nat × Instr × Nat)) := [[(0, .aload_n 0, 1), (1, .getfield 13, 3), (4, .istore_n 1, 1), (5, .aload_n 0, 1), (6, .iconst 0, 1), (7, .putfield 13, 3), (10, .aload_n 0, 1), (11, .getfield 20, 3), (14, .aload_n 0, 1), (15, .getfield 9, 3)],
  [(18, .iload_n 1, 1), (19, .invokevirtual 46, 3), (22, .aload_n 0, 1), (23, .getfield 27, 3), (26, .aload_n 0, 1), (27, .getfield 20, 3), (30, .invokevirtual 50, 3)],
  [(33, .invokevirtual 54, 3), (36, .aload_n 0, 1), (37, .getfield 34, 3), (40, .invokevirtual 58, 3), (43, .aload_n 0, 1), (44, .getfield 27, 3), (47, .invokevirtual 61, 3)],
  [(50, .ireturn, 1)]]
def rf_m_3_16 : List (List (Nat × Instr × Nat)) := [[(0, .aload_n 1, 1), (1, .getfield 122, 3), (4, .iconst 1, 1), (5, .if_icmp .ne 7, 3), (8, .iconst 1, 1), (9, .goto 4, 3), (13, .istore_n 2, 1), (14, .iload_n 2, 1), (15, .ifCond .eq 8, 3)],
  [(18, .aload_n 0, 1), (19, .aload_n 1, 1), (20, .invokevirtual 235, 3), (23, .aload_n 0, 1), (24, .getstatic 222, 3), (27, .invokevirtual 60, 3), (30, .aload_n 0, 1), (31, .invokevirtual 216, 3)],
  [(34, .aload_n 0, 1), (35, .iload_n 2, 1), (36, .ifCond .eq 7, 3), (39, .iconst 4, 1), (40, .goto 4, 3), (44, .aload_n 1, 1), (45, .invokevirtual 238, 3)],
  [(48, .return_, 1)]]
def rf_m_9_12 : List (List (Nat × Instr × Nat)) := [[(0, .aload_n 0, 1), (1, .getfield 124, 3), (4, .iconst 1, 1), (5, .isub, 1), (6, .istore_n 2, 1), (7, .iload_n 2, 1), (8, .ifCond .lt 19, 3), (11, .aload_n 0, 1), (12, .getfield 30, 3), (15, .iload_n 2, 1)],
  [(16, .iaload, 1), (17, .iload_n 1, 1), (18, .if_icmp .eq 9, 3), (27, .iload_n 2, 1), (28, .ireturn, 1)]]
def rf_m_3_9 : List (List (Nat × Instr × Nat)) := [[(0, .aload_n 0, 1), (1, .getfield 12, 3), (4, .invokevirtual 131, 3), (7, .istore_n 3, 1), (8, .aload_n 0, 1), (9, .getfield 12, 3), (12, .invokevirtual 134, 3), (15, .istore 4, 2)],
  [(17, .aload_n 0, 1), (18, .getstatic 106, 3), (21, .invokevirtual 60, 3), (24, .aload_n 0, 1), (25, .getfield 21, 3), (28, .iload_n 3, 1), (29, .invokevirtual 144, 3)],
  [(32, .ifCond .eq 10, 3), (42, .aload_n 0, 1), (43, .getfield 21, 3), (46, .iload_n 3, 1), (47, .iload_n 1, 1)],
  [(48, .iload_n 2, 1), (49, .invokevirtual 148, 3), (52, .areturn, 1)]]
def rf_m_9_50 : List (List (Nat × Instr × Nat)) := [[(0, .aload_n 0, 1), (1, .iload_n 1, 1), (2, .ifCond .lt 10, 3), (5, .iload_n 1, 1), (6, .sipush 200, 3), (9, .if_icmp .le 7, 3)],
  [(16, .iconst 0, 1), (17, .putfield 72, 3), (20, .iconst 0, 1), (21, .istore_n 2, 1), (22, .aload_n 0, 1), (23, .getfield 72, 3), (26, .ifCond .ne 26, 3), (29, .iload_n 2, 1), (30, .iload_n 1, 1), (31, .if_icmp .ge 21, 3)],
  [(34, .aload_n 0, 1), (35, .getfield 239, 3), (38, .iconst 1, 1), (39, .if_icmp .ne 13, 3)],
  [(52, .iload_n 2, 1), (53, .ireturn, 1)]]
def rf_m_4_0 : List (List (Nat × Instr × Nat)) := [[(0, .aload_n 0, 1), (1, .invokespecial 3, 3), (4, .aload_n 0, 1), (5, .sipush 181, 3), (8, .anewarray 11, 3), (11, .putfield 13, 3), (14, .aload_n 0, 1), (15, .sipush 181, 3)],
  [(18, .newarray .int, 2), (20, .putfield 17, 3), (23, .aload_n 0, 1), (24, .sipush 181, 3), (27, .newarray .int, 2), (29, .putfield 21, 3)],
  [(32, .aload_n 0, 1), (33, .iconst 0, 1), (34, .putfield 24, 3), (37, .aload_n 0, 1), (38, .iconst 0, 1), (39, .putfield 28, 3), (42, .return_, 1)]]
def rf_m_8_6 : List (List (Nat × Instr × Nat)) := [[(0, .iload_n 1, 1), (1, .ifCond .lt 17, 3), (4, .iload_n 1, 1), (5, .bipush 8, 2), (7, .if_icmp .ge 11, 3), (10, .iload_n 1, 1), (11, .aload_n 0, 1), (12, .getfield 34, 3), (15, .if_icmp .lt 5, 3)],
  [(20, .aload_n 0, 1), (21, .getfield 15, 3), (24, .aload_n 0, 1), (25, .getfield 34, 3), (28, .iconst 1, 1), (29, .isub, 1), (30, .iload_n 1, 1), (31, .isub, 1)],
  [(32, .bipush 8, 2), (34, .irem, 1), (35, .iaload, 1), (36, .ireturn, 1)]]
def rf_m_9_5 : List (List (Nat × Instr × Nat)) := [[(0, .iload_n 0, 1), (1, .lookupswitch 130 #[(143, 124), (294, 112), (5572, 109), (22578, 99), (176741, 118), (543203, 101), (663726, 115), (1656889, 103), (2268462, 106), (24388997, 121), (24716933, 127)], 99)],
  [],
  [],
  [],
  [],
  [],
  [(100, .iconst 4, 1), (101, .ireturn, 1), (104, .bipush 6, 2), (106, .ireturn, 1), (107, .bipush 7, 2), (109, .ireturn, 1)],
  [],
  [(131, .iconst 2, 1), (132, .ireturn, 1)]]
def rf_m_3_8 : List (List (Nat × Instr × Nat)) := [[(0, .aload_n 0, 1), (1, .getfield 12, 3), (4, .invokevirtual 131, 3), (7, .istore_n 1, 1), (8, .aload_n 0, 1), (9, .getfield 12, 3), (12, .invokevirtual 134, 3), (15, .istore_n 2, 1)],
  [(16, .aload_n 0, 1), (17, .getstatic 137, 3), (20, .invokevirtual 60, 3), (23, .iload_n 1, 1), (24, .iconst 1, 1), (25, .if_icmp .lt 9, 3), (28, .iload_n 1, 1), (29, .bipush 30, 2), (31, .if_icmp .le 10, 3)],
  [(41, .iload_n 1, 1), (42, .ireturn, 1)]]
def rf_m_3_6 : List (List (Nat × Instr × Nat)) := [[(0, .iload_n 1, 1), (1, .aload_n 0, 1), (2, .iload_n 1, 1), (3, .invokevirtual 103, 3), (6, .iadd, 1), (7, .istore_n 2, 1), (8, .iconst 0, 1), (9, .istore_n 3, 1), (10, .iload_n 3, 1), (11, .sipush 180, 3), (14, .if_icmp .ge 30, 3)],
  [(17, .aload_n 0, 1), (18, .getfield 12, 3), (21, .getstatic 106, 3), (24, .invokevirtual 74, 3), (27, .ifCond .eq 17, 3)],
  [(44, .iload_n 2, 1), (45, .ireturn, 1)]]
def rf_m_3_28 : List (List (Nat × Instr × Nat)) := [[(0, .aload_n 0, 1), (1, .getfield 12, 3), (4, .invokevirtual 78, 3), (7, .aload_n 0, 1), (8, .invokevirtual 216, 3), (11, .aload_n 0, 1), (12, .getstatic 288, 3), (15, .invokevirtual 60, 3)],
  [(18, .aload_n 0, 1), (19, .getfield 28, 3), (22, .bipush 11, 2), (24, .iconst 0, 1), (25, .aload_n 1, 1), (26, .getfield 125, 3), (29, .invokevirtual 67, 3)],
  [(32, .pop, 1), (33, .return_, 1)]]
def rf_m_9_19 : List (List (Nat × Instr × Nat)) := [[(0, .aload_n 0, 1), (1, .bipush 7, 2), (3, .iconst 0, 1), (4, .iconst 0, 1), (5, .invokevirtual 152, 3), (8, .istore_n 1, 1), (9, .aload_n 0, 1), (10, .invokevirtual 156, 3), (13, .aload_n 0, 1), (14, .iconst 1, 1), (15, .iload_n 1, 1)],
  [(16, .aload_n 0, 1), (17, .getfield 159, 3), (20, .invokevirtual 162, 3), (23, .return_, 1)]]
def rf_m_3_29 : List (List (Nat × Instr × Nat)) := [[(0, .aload_n 0, 1), (1, .getfield 28, 3), (4, .iload_n 1, 1), (5, .aload_n 0, 1), (6, .getfield 21, 3), (9, .invokevirtual 291, 3), (12, .aload_n 2, 1), (13, .getfield 294, 3)],
  [(16, .isub, 1), (17, .aload_n 2, 1), (18, .getfield 296, 3), (21, .invokevirtual 67, 3), (24, .pop, 1), (25, .return_, 1)]]
def rf_m_9_53 : List (List (Nat × Instr × Nat)) := [[(0, .aload_n 0, 1), (1, .iconst 0, 1), (2, .putfield 72, 3), (5, .iload_n 1, 1), (6, .ifCond .lt 18, 3), (9, .iload_n 1, 1), (10, .bipush 8, 2), (12, .if_icmp .ge 12, 3), (15, .aload_n 0, 1)],
  [(16, .getfield 69, 3), (19, .iload_n 1, 1), (20, .iaload, 1), (21, .goto 4, 3), (25, .ireturn, 1)]]
def rf_m_8_12 : List (List (Nat × Instr × Nat)) := [[(0, .aload_n 0, 1), (1, .invokevirtual 79, 3), (4, .istore_n 2, 1), (5, .aload_n 0, 1), (6, .invokevirtual 79, 3), (9, .istore_n 3, 1), (10, .aload_n 0, 1), (11, .iload_n 1, 1), (12, .iload_n 3, 1), (13, .iadd, 1), (14, .iload_n 2, 1), (15, .invokevirtual 83, 3)],
  [(18, .return_, 1)]]
def rf_m_4_5 : List (List (Nat × Instr × Nat)) := [[(0, .aload_n 0, 1), (1, .getfield 17, 3), (4, .aload_n 0, 1), (5, .getfield 28, 3), (8, .iaload, 1), (9, .ireturn, 1)]]
def rf_m_15_1 : List (List (Nat × Instr × Nat)) := [[(0, .iload_n 0, 1), (1, .iload_n 1, 1), (2, .if_icmp .gt 7, 3), (5, .iload_n 0, 1), (6, .goto 4, 3), (10, .ireturn, 1)]]
def rf_m_7_4 : List (List (Nat × Instr × Nat)) := [[(0, .aload_n 0, 1), (1, .iload_n 1, 1), (2, .invokevirtual 25, 3), (5, .ifCond .eq 13, 3), (8, .aload_n 0, 1), (9, .getfield 18, 3), (12, .iload_n 1, 1), (13, .aload_n 0, 1), (14, .getfield 21, 3)],
  [(17, .iastore, 1), (18, .return_, 1)]]
def rf_m_3_15 : List (List (Nat × Instr × Nat)) := [[(0, .aload_n 0, 1), (1, .getfield 21, 3), (4, .aload_n 0, 1), (5, .getfield 12, 3), (8, .invokevirtual 131, 3), (11, .invokevirtual 231, 3), (14, .astore_n 1, 1), (15, .aload_n 1, 1)],
  [(16, .ifnonnull 15, 3), (31, .aload_n 1, 1)],
  [(32, .areturn, 1)]]
def rf_m_9_9 : List (List (Nat × Instr × Nat)) := [[(0, .aload_n 0, 1), (1, .getfield 111, 3), (4, .ifCond .ne 13, 3), (7, .aload_n 0, 1), (8, .iload_n 1, 1), (9, .putfield 111, 3), (12, .aload_n 0, 1), (13, .iload_n 2, 1), (14, .putfield 114, 3)],
  [(17, .return_, 1)]]
def rf_m_0_2 : List (List (Nat × Instr × Nat)) := [[(0, .aload_n 2, 1), (1, .iconst 0, 1), (2, .aload_n 0, 1), (3, .iload_n 1, 1), (4, .invokevirtual 15, 3), (7, .i2l, 1), (8, .lastore, 1), (9, .goto 6, 3), (15, .iconst 0, 1)],
  [(16, .ireturn, 1)]]
def rf_m_8_18 : List (List (Nat × Instr × Nat)) := [[(0, .aload_n 0, 1), (1, .getfield 25, 3), (4, .istore_n 2, 1), (5, .iconst 0, 1), (6, .istore_n 3, 1), (7, .iload_n 3, 1), (8, .iload_n 1, 1), (9, .if_icmp .ge 19, 3)],
  [(28, .iload_n 2, 1), (29, .ireturn, 1)]]
def rf_m_0_1 : List (List (Nat × Instr × Nat)) := [[(0, .aload_n 1, 1), (1, .iconst 0, 1), (2, .aload_n 0, 1), (3, .invokevirtual 7, 3), (6, .i2l, 1), (7, .lastore, 1), (8, .goto 6, 3), (14, .iconst 0, 1), (15, .ireturn, 1)]]
def rf_m_2_5 : List (List (Nat × Instr × Nat)) := [[(0, .aload_n 0, 1), (1, .getfield 27, 3), (4, .invokevirtual 61, 3), (7, .ifCond .ne 5, 3), (12, .aload_n 0, 1), (13, .getfield 34, 3)],
  [(16, .invokevirtual 81, 3), (19, .iconst 1, 1), (20, .ireturn, 1)]]
def rf_m_8_2 : List (List (Nat × Instr × Nat)) := [[(0, .aload_n 0, 1), (1, .invokevirtual 43, 3), (4, .aload_n 0, 1), (5, .iconst 1, 1), (6, .putfield 18, 3), (9, .aload_n 0, 1), (10, .iconst 1, 1), (11, .putfield 31, 3), (14, .return_, 1)]]
def rf_m_5_7 : List (List (Nat × Instr × Nat)) := [[(0, .aload_n 0, 1), (1, .iload_n 1, 1), (2, .invokevirtual 32, 3), (5, .astore_n 2, 1), (6, .aload_n 2, 1), (7, .ifnull 18, 3)],
  [(25, .iconst 0, 1), (26, .ireturn, 1)]]
def rf_m_9_10 : List (List (Nat × Instr × Nat)) := [[(0, .aload_n 0, 1), (1, .getfield 88, 3), (4, .iload_n 1, 1), (5, .if_icmp .ne 10, 3), (8, .aload_n 0, 1), (9, .invokevirtual 117, 3), (12, .goto 12, 3)],
  [(24, .return_, 1)]]
def rf_m_9_40 : List (List (Nat × Instr × Nat)) := [[(0, .aload_n 0, 1), (1, .iconst 0, 1), (2, .putfield 72, 3), (5, .aload_n 0, 1), (6, .getfield 232, 3), (9, .ifCond .ne 5, 3), (12, .iconst 0, 1), (13, .ireturn, 1)]]
def rf_m_5_1 : List (List (Nat × Instr × Nat)) := [[(0, .aload_n 0, 1), (1, .iconst 0, 1), (2, .putfield 17, 3), (5, .aload_n 0, 1), (6, .iconst 0, 1), (7, .putfield 25, 3), (10, .return_, 1)]]
def rf_m_9_25 : List (List (Nat × Instr × Nat)) := [[(0, .aload_n 0, 1), (1, .getfield 88, 3), (4, .tableswitch 196 2 14 #[68, 196, 196, 196, 196, 75, 196, 105, 196, 196, 136, 196, 170], 68)],
  [],
  [],
  [],
  [(72, .aload_n 0, 1), (73, .invokevirtual 185, 3), (76, .goto 124, 3)],
  [],
  [],
  [],
  [],
  [],
  [],
  [],
  [(200, .return_, 1)]]
def rf_m_7_2 : List (List (Nat × Instr × Nat)) := [[(0, .aload_n 0, 1), (1, .getfield 21, 3), (4, .ireturn, 1)]]
def rf_m_2_9 : List (List (Nat × Instr × Nat)) := [[(0, .aload_n 0, 1), (1, .getfield 34, 3), (4, .iload_n 1, 1), (5, .invokevirtual 100, 3), (8, .ireturn, 1)]]
def rf_m_7_1 : List (List (Nat × Instr × Nat)) := [[(0, .aload_n 0, 1), (1, .iconst 0, 1), (2, .putfield 21, 3), (5, .return_, 1)]]
def rf_m_5_2 : List (List (Nat × Instr × Nat)) := [[(0, .aload_n 0, 1), (1, .getfield 25, 3), (4, .ireturn, 1)]]
def rf_m_3_3 : List (List (Nat × Instr × Nat)) := [[(0, .aload_n 0, 1), (1, .getfield 28, 3), (4, .areturn, 1)]]
def rf_M : List (Nat × List (List (Nat × Instr × Nat))) := [(1285, rf_m_20_5), (1284, rf_m_20_4), (1216, rf_m_19_0), (704, rf_m_11_0), (577, rf_m_9_1), (706, rf_m_11_2), (768, rf_m_12_0), (705, rf_m_11_1), (707, rf_m_11_3), (832, rf_m_13_0), (384, rf_m_6_0), (139, rf_m_2_11), (708, rf_m_11_4), (583, rf_m_9_7), (267, rf_m_4_11), (320, rf_m_5_0), (591, rf_m_9_15), (129, rf_m_2_1), (257, rf_m_4_1), (265, rf_m_4_9), (264, rf_m_4_8), (612, rf_m_9_36), (140, rf_m_2_12), (269, rf_m_4_13), (0, rf_m_0_0), (266, rf_m_4_10), (263, rf_m_4_7), (268, rf_m_4_12), (520, rf_m_8_8), (451, rf_m_7_3), (582, rf_m_9_6), (259, rf_m_4_3), (579, rf_m_9_3), (457, rf_m_7_9), (218, rf_m_3_26), (960, rf_m_15_0), (216, rf_m_3_24), (611, rf_m_9_35), (258, rf_m_4_2), (578, rf_m_9_2), (134, rf_m_2_6), (223, rf_m_3_31), (607, rf_m_9_31), (217, rf_m_3_25), (580, rf_m_9_4), (64, rf_m_1_0), (592, rf_m_9_16), (594, rf_m_9_18), (1282, rf_m_20_2), (1281, rf_m_20_1), (605, rf_m_9_29), (454, rf_m_7_6), (455, rf_m_7_7), (456, rf_m_7_8), (576, rf_m_9_0), (533, rf_m_8_21), (584, rf_m_9_8), (222, rf_m_3_30), (523, rf_m_8_11), (515, rf_m_8_3), (521, rf_m_8_9), (197, rf_m_3_5), (590, rf_m_9_14), (534, rf_m_8_22), (589, rf_m_9_13), (513, rf_m_8_1), (531, rf_m_8_19), (600, rf_m_9_24), (205, rf_m_3_13), (597, rf_m_9_21), (532, rf_m_8_20), (260, rf_m_4_4), (448, rf_m_7_0), (262, rf_m_4_6), (522, rf_m_8_10), (527, rf_m_8_15), (328, rf_m_5_8), (640, rf_m_10_0), (587, rf_m_9_11), (453, rf_m_7_5), (196, rf_m_3_4), (204, rf_m_3_12), (512, rf_m_8_0), (199, rf_m_3_7), (326, rf_m_5_6), (192, rf_m_3_0), (206, rf_m_3_14), (526, rf_m_8_14), (528, rf_m_8_16), (128, rf_m_2_0), (130, rf_m_2_2), (208, rf_m_3_16), (588, rf_m_9_12), (201, rf_m_3_9), (626, rf_m_9_50), (256, rf_m_4_0), (518, rf_m_8_6), (581, rf_m_9_5), (200, rf_m_3_8), (198, rf_m_3_6), (220, rf_m_3_28), (595, rf_m_9_19), (221, rf_m_3_29), (629, rf_m_9_53), (524, rf_m_8_12), (261, rf_m_4_5), (961, rf_m_15_1), (452, rf_m_7_4), (207, rf_m_3_15), (585, rf_m_9_9), (2, rf_m_0_2), (530, rf_m_8_18), (1, rf_m_0_1), (133, rf_m_2_5), (514, rf_m_8_2), (327, rf_m_5_7), (586, rf_m_9_10), (616, rf_m_9_40), (321, rf_m_5_1), (601, rf_m_9_25), (450, rf_m_7_2), (137, rf_m_2_9), (449, rf_m_7_1), (322, rf_m_5_2), (195, rf_m_3_3)]
def rf_sc : Array Value := #[.int 0, .int 1986097696, .int 1629512050, .int 0, .int 1918990624, .int 825975397, .int 0, .int 1734962720, .int 1633364008, .int 0, .int 673720360, .int 808003881, .int 0, .int 690563421, .int 977090363, .int 0, .int 2003986804, .int 1696610149, .int 0, .int 1852059136, .int 0, .int 1, .int 0, .int 0, .int 4, .int 0, .int 0, .int 5, .int 9, .int 0, .int 8, .int 0, .int 0]
