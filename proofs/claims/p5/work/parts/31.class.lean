def d_68 : xD := [(0, .iload_n 0, 1), (1, .ifCond .eq 8, 3), (4, .iload_n 0, 1), (5, .iconst 1, 1), (6, .if_icmp .ne 7, 3), (9, .iconst 1, 1), (10, .goto 4, 3), (13, .iconst 0, 1), (14, .ireturn, 1)]
set_option maxRecDepth 100000 in
theorem d_68_ok : x_dchk 68 d_68 = true := by decide +kernel
/-- reathingHill.isValley -/
def c_0 : xC := (68, [(0, ([(0, 1)], 0))], [], [], 1, [], 0, [(some (0, ([], 1)), [([(0, 1)], 0), ([(0, -1)], 1)], []), (some (0, ([], 0)), [], [])])
def n_0 : List xN := []
set_option maxRecDepth 100000 in
set_option maxHeartbeats 4000000 in
theorem h_0 (th : List Nat) (xs : Nat → Int32) (L J : Nat) : x_Holds x_tb th xs L J c_0 1 := x_ok (dm := 0) (cts := []) (D := d_68) (ns := n_0) (f := 17) d_68_ok (fun _ h => absurd h List.not_mem_nil) (by decide +kernel)
def d_65 : xD := [(0, .iload_n 0, 1), (1, .ifCond .lt 14, 3), (4, .iload_n 0, 1), (5, .sipush 1000, 3), (8, .if_icmp .ge 7, 3), (11, .iconst 1, 1), (12, .goto 4, 3), (15, .iconst 0, 1), (16, .ireturn, 1)]
set_option maxRecDepth 100000 in
theorem d_65_ok : x_dchk 65 d_65 = true := by decide +kernel
/-- reathingHill.isHour -/
def c_1 : xC := (65, [(0, ([(0, 1)], 0))], [], [], 1, [], 1, [(some (0, ([(1, 1)], 0)), [([(1, 1)], 0), ([(1, -1)], 1)], [])])
def n_1 : List xN := []
set_option maxRecDepth 100000 in
set_option maxHeartbeats 4000000 in
theorem h_1 (th : List Nat) (xs : Nat → Int32) (L J : Nat) : x_Holds x_tb th xs L J c_1 2 := x_ok (dm := 1) (cts := []) (D := d_65) (ns := n_1) (f := 17) d_65_ok (fun _ h => absurd h List.not_mem_nil) (by decide +kernel)
def d_122 : xD := [(0, .iload_n 0, 1), (1, .iload_n 0, 1), (2, .iconst 1, 1), (3, .iushr, 1), (4, .ldc_w 265, 3), (7, .iand, 1), (8, .isub, 1), (9, .istore_n 0, 1), (10, .iload_n 0, 1), (11, .ldc_w 266, 3), (14, .iand, 1), (15, .iload_n 0, 1), (16, .iconst 2, 1), (17, .iushr, 1), (18, .ldc_w 266, 3), (21, .iand, 1), (22, .iadd, 1), (23, .istore_n 0, 1), (24, .iload_n 0, 1), (25, .iload_n 0, 1), (26, .iconst 4, 1), (27, .iushr, 1), (28, .iadd, 1), (29, .ldc_w 267, 3), (32, .iand, 1), (33, .istore_n 0, 1), (34, .iload_n 0, 1), (35, .iload_n 0, 1), (36, .bipush 8, 2), (38, .iushr, 1), (39, .iadd, 1), (40, .istore_n 0, 1), (41, .iload_n 0, 1), (42, .iload_n 0, 1), (43, .bipush 16, 2), (45, .iushr, 1), (46, .iadd, 1), (47, .istore_n 0, 1), (48, .iload_n 0, 1), (49, .bipush 63, 2), (51, .iand, 1), (52, .ireturn, 1)]
set_option maxRecDepth 100000 in
theorem d_122_ok : x_dchk 122 d_122 = true := by decide +kernel
/-- lang/Integer.bitCount -/
def c_2 : xC := (122, [(0, ([(0, 1)], 0))], [], [], 1, [], 1, [(some (0, ([(1, 1)], 0)), [], [])])
def n_2 : List xN := []
set_option maxRecDepth 100000 in
set_option maxHeartbeats 4000000 in
theorem h_2 (th : List Nat) (xs : Nat → Int32) (L J : Nat) : x_Holds x_tb th xs L J c_2 3 := x_ok (dm := 2) (cts := []) (D := d_122) (ns := n_2) (f := 51) d_122_ok (fun _ h => absurd h List.not_mem_nil) (by decide +kernel)
def d_22 : xD := [(0, .iload_n 0, 1), (1, .bipush 32, 2), (3, .if_icmp .eq 9, 3), (6, .iload_n 0, 1), (7, .bipush 10, 2), (9, .if_icmp .ne 7, 3), (12, .iconst 1, 1), (13, .goto 4, 3), (16, .iconst 0, 1), (17, .ireturn, 1)]
set_option maxRecDepth 100000 in
theorem d_22_ok : x_dchk 22 d_22 = true := by decide +kernel
/-- ingHill.Tape.isBlank -/
def c_3 : xC := (22, [(0, ([(0, 1)], 0))], [], [], 1, [], 1, [(some (0, ([(1, 1)], 0)), [([(1, 1)], 0), ([(1, -1)], 1)], [])])
def n_3 : List xN := []
set_option maxRecDepth 100000 in
set_option maxHeartbeats 4000000 in
theorem h_3 (th : List Nat) (xs : Nat → Int32) (L J : Nat) : x_Holds x_tb th xs L J c_3 4 := x_ok (dm := 3) (cts := []) (D := d_22) (ns := n_3) (f := 18) d_22_ok (fun _ h => absurd h List.not_mem_nil) (by decide +kernel)
def d_23 : xD := [(0, .iload_n 0, 1), (1, .bipush 97, 2), (3, .if_icmp .lt 9, 3), (6, .iload_n 0, 1), (7, .bipush 122, 2), (9, .if_icmp .le 15, 3), (12, .iload_n 0, 1), (13, .bipush 48, 2), (15, .if_icmp .lt 13, 3), (18, .iload_n 0, 1), (19, .bipush 57, 2), (21, .if_icmp .gt 7, 3), (24, .iconst 1, 1), (25, .goto 4, 3), (28, .iconst 0, 1), (29, .ireturn, 1)]
set_option maxRecDepth 100000 in
theorem d_23_ok : x_dchk 23 d_23 = true := by decide +kernel
/-- ingHill.Tape.isLetterOrDigit -/
def c_4 : xC := (23, [(0, ([(0, 1)], 0))], [], [], 1, [], 1, [(some (0, ([(1, 1)], 0)), [([(1, 1)], 0), ([(1, -1)], 1)], [])])
def n_4 : List xN := []
set_option maxRecDepth 100000 in
set_option maxHeartbeats 4000000 in
theorem h_4 (th : List Nat) (xs : Nat → Int32) (L J : Nat) : x_Holds x_tb th xs L J c_4 5 := x_ok (dm := 4) (cts := []) (D := d_23) (ns := n_4) (f := 23) d_23_ok (fun _ h => absurd h List.not_mem_nil) (by decide +kernel)
def d_24 : xD := [(0, .iconst 0, 1), (1, .istore_n 3, 1), (2, .iload_n 3, 1), (3, .getstatic 75, 3), (6, .arraylength, 1), (7, .if_icmp .ge 34, 3), (10, .lload_n 0, 1), (11, .lconst 0, 1), (12, .lcmp, 1), (13, .ifCond .eq 28, 3), (16, .getstatic 75, 3), (19, .iload_n 3, 1), (20, .aaload, 1), (21, .getfield 79, 3), (24, .lload_n 0, 1), (25, .lcmp, 1), (26, .ifCond .ne 9, 3), (29, .getstatic 75, 3), (32, .iload_n 3, 1), (33, .aaload, 1), (34, .areturn, 1), (35, .iinc 3 1, 3), (38, .goto (-36), 3), (41, .aload_n 2, 1), (42, .areturn, 1)]
set_option maxRecDepth 100000 in
theorem d_24_ok : x_dchk 24 d_24 = true := by decide +kernel
/-- ingHill.Tape.tokenSpelt -/
def c_5 : xC := (24, [(1, ([], 0)), (3, ([], 0))], [], [], 0, [], 0, [(some (3, ([], 0)), [], [])])
def n_5 : List xN := [(2, [(3, (0, ([(0, 1)], 0))), (0, (1, ([], 0))), (2, (3, ([], 0)))], [], [([(0, 1)], 0), ([(0, -1)], 40), ([(0, -1)], 61), ([(0, -1)], 255), ([(0, -1)], 1000), ([(0, -1)], 1001)], 1, [([], 1), ([(0, -1)], 2147483647), ([], 5000000000), ([], 5000000000), ([], 5000000000)])]
set_option maxRecDepth 100000 in
set_option maxHeartbeats 4000000 in
theorem h_5 (th : List Nat) (xs : Nat → Int32) (L J : Nat) : x_Holds x_tb th xs L J c_5 6 := x_ok (dm := 5) (cts := []) (D := d_24) (ns := n_5) (f := 28) d_24_ok (fun _ h => absurd h List.not_mem_nil) (by decide +kernel)
def d_12 : xD := [(0, .aload_n 0, 1), (1, .getfield 15, 3), (4, .iload_n 1, 1), (5, .iadd, 1), (6, .aload_n 0, 1), (7, .getfield 9, 3), (10, .arraylength, 1), (11, .if_icmp .gt 7, 3), (14, .iconst 1, 1), (15, .goto 4, 3), (18, .iconst 0, 1), (19, .ireturn, 1)]
set_option maxRecDepth 100000 in
theorem d_12_ok : x_dchk 12 d_12 = true := by decide +kernel
/-- ingHill.Tape.hasRoomFor -/
def c_6 : xC := (12, [(17, ([(0, 1)], 0)), (0, ([(1, 1)], 0))], [], [], 2, [], 1, [(some (0, ([(2, 1)], 0)), [([(2, 1)], 0), ([(2, -1)], 1)], [])])
def n_6 : List xN := []
set_option maxRecDepth 100000 in
set_option maxHeartbeats 4000000 in
theorem h_6 (th : List Nat) (xs : Nat → Int32) (L J : Nat) : x_Holds x_tb th xs L J c_6 7 := x_ok (dm := 6) (cts := []) (D := d_12) (ns := n_6) (f := 20) d_12_ok (fun _ h => absurd h List.not_mem_nil) (by decide +kernel)
def d_13 : xD := [(0, .bipush 24, 2), (2, .istore_n 2, 1), (3, .iload_n 2, 1), (4, .ifCond .lt 44, 3), (7, .aload_n 0, 1), (8, .getfield 15, 3), (11, .aload_n 0, 1), (12, .getfield 9, 3), (15, .arraylength, 1), (16, .if_icmp .ge 32, 3), (19, .aload_n 0, 1), (20, .getfield 9, 3), (23, .aload_n 0, 1), (24, .getfield 15, 3), (27, .iload_n 1, 1), (28, .iload_n 2, 1), (29, .iushr, 1), (30, .i2b, 1), (31, .bastore, 1), (32, .aload_n 0, 1), (33, .dup, 1), (34, .getfield 15, 3), (37, .iconst 1, 1), (38, .iadd, 1), (39, .putfield 15, 3), (42, .iinc 2 (-8), 3), (45, .goto (-42), 3), (48, .return_, 1)]
set_option maxRecDepth 100000 in
theorem d_13_ok : x_dchk 13 d_13 = true := by decide +kernel
/-- ingHill.Tape.addNumber -/
def c_7 : xC := (13, [(17, ([(0, 1)], 0)), (0, ([(1, 1)], 0))], [], [], 2, [(7, 1, 1), (28, 0, 939)], 0, [(none, [], [])])
def n_7 : List xN := [(3, [(2, (0, ([(2, 1)], 0))), (0, (17, ([(0, 1)], 0))), (1, (0, ([(1, 1)], 0)))], [], [([(2, -1)], 24), ([(2, -1)], 40), ([(2, -1)], 61), ([(2, -1)], 255), ([(2, -1)], 1000), ([(2, -1)], 1001)], 3, [([], 1), ([(2, 1)], 2147483648), ([], 5000000000), ([], 5000000000), ([], 5000000000)])]
set_option maxRecDepth 100000 in
set_option maxHeartbeats 4000000 in
theorem h_7 (th : List Nat) (xs : Nat → Int32) (L J : Nat) : x_Holds x_tb th xs L J c_7 8 := x_ok (dm := 7) (cts := []) (D := d_13) (ns := n_7) (f := 35) d_13_ok (fun _ h => absurd h List.not_mem_nil) (by decide +kernel)
def d_15 : xD := [(0, .iload_n 1, 1), (1, .ifCond .lt 11, 3), (4, .iload_n 1, 1), (5, .aload_n 0, 1), (6, .getfield 15, 3), (9, .if_icmp .le 5, 3), (12, .iconst 0, 1), (13, .ireturn, 1), (14, .aload_n 0, 1), (15, .iload_n 1, 1), (16, .putfield 15, 3), (19, .iconst 1, 1), (20, .ireturn, 1)]
set_option maxRecDepth 100000 in
theorem d_15_ok : x_dchk 15 d_15 = true := by decide +kernel
/-- ingHill.Tape.cutTo -/
def c_8 : xC := (15, [(17, ([(0, 1)], 0)), (0, ([(1, 1)], 0))], [], [], 2, [(7, 1, 1)], 1, [(some (0, ([(2, 1)], 0)), [([(2, 1)], 0), ([(2, -1)], 1)], [])])
def n_8 : List xN := []
set_option maxRecDepth 100000 in
set_option maxHeartbeats 4000000 in
theorem h_8 (th : List Nat) (xs : Nat → Int32) (L J : Nat) : x_Holds x_tb th xs L J c_8 9 := x_ok (dm := 8) (cts := []) (D := d_15) (ns := n_8) (f := 20) d_15_ok (fun _ h => absurd h List.not_mem_nil) (by decide +kernel)
def d_113 : xD := [(0, .iload_n 1, 1), (1, .ifCond .lt 25, 3), (4, .iload_n 1, 1), (5, .aload_n 0, 1), (6, .getfield 9, 3), (9, .arraylength, 1), (10, .if_icmp .ge 16, 3), (13, .aload_n 0, 1), (14, .getfield 9, 3), (17, .iload_n 1, 1), (18, .baload, 1), (19, .sipush 255, 3), (22, .iand, 1), (23, .goto 4, 3), (26, .iconst 0, 1), (27, .ireturn, 1)]
set_option maxRecDepth 100000 in
theorem d_113_ok : x_dchk 113 d_113 = true := by decide +kernel
/-- ingHill.Tape.byteAt -/
def c_9 : xC := (113, [(17, ([(0, 1)], 0)), (0, ([(1, 1)], 0))], [], [], 2, [], 1, [(some (0, ([(2, 1)], 0)), [([(2, 1)], 0), ([(2, -1)], 255)], [])])
def n_9 : List xN := []
set_option maxRecDepth 100000 in
set_option maxHeartbeats 4000000 in
theorem h_9 (th : List Nat) (xs : Nat → Int32) (L J : Nat) : x_Holds x_tb th xs L J c_9 10 := x_ok (dm := 9) (cts := []) (D := d_113) (ns := n_9) (f := 24) d_113_ok (fun _ h => absurd h List.not_mem_nil) (by decide +kernel)
def d_27 : xD := [(0, .aload_n 0, 1), (1, .iload_n 1, 1), (2, .putfield 44, 3), (5, .aload_n 0, 1), (6, .aload_n 0, 1), (7, .getfield 34, 3), (10, .putfield 47, 3), (13, .iconst 0, 1), (14, .ireturn, 1)]
set_option maxRecDepth 100000 in
theorem d_27_ok : x_dchk 27 d_27 = true := by decide +kernel
/-- ingHill.Tape.refuse -/
def c_10 : xC := (27, [(17, ([(0, 1)], 0)), (0, ([(1, 1)], 0))], [], [], 2, [(7, 8, 9)], 1, [(some (0, ([(2, 1)], 0)), [([(2, 1)], 0), ([(2, -1)], 1)], [])])
def n_10 : List xN := []
set_option maxRecDepth 100000 in
set_option maxHeartbeats 4000000 in
theorem h_10 (th : List Nat) (xs : Nat → Int32) (L J : Nat) : x_Holds x_tb th xs L J c_10 11 := x_ok (dm := 10) (cts := []) (D := d_27) (ns := n_10) (f := 18) d_27_ok (fun _ h => absurd h List.not_mem_nil) (by decide +kernel)
def d_21 : xD := [(0, .aload_n 0, 1), (1, .getfield 22, 3), (4, .aload_n 0, 1), (5, .getfield 15, 3), (8, .if_icmp .ge 31, 3), (11, .aload_n 0, 1), (12, .getfield 9, 3), (15, .aload_n 0, 1), (16, .getfield 22, 3), (19, .baload, 1), (20, .invokestatic 53, 3), (23, .ifCond .eq 16, 3), (26, .aload_n 0, 1), (27, .dup, 1), (28, .getfield 22, 3), (31, .iconst 1, 1), (32, .iadd, 1), (33, .putfield 22, 3), (36, .goto (-36), 3), (39, .aload_n 0, 1), (40, .aload_n 0, 1), (41, .getfield 22, 3), (44, .putfield 34, 3), (47, .aload_n 0, 1), (48, .getfield 15, 3), (51, .aload_n 0, 1), (52, .getfield 19, 3), (55, .if_icmp .le 30, 3), (58, .aload_n 0, 1), (59, .getfield 22, 3), (62, .aload_n 0, 1), (63, .getfield 19, 3), (66, .if_icmp .lt 19, 3), (69, .aload_n 0, 1), (70, .aload_n 0, 1), (71, .getfield 19, 3), (74, .putfield 34, 3), (77, .aload_n 0, 1), (78, .getstatic 57, 3), (81, .putfield 31, 3), (84, .return_, 1), (85, .aload_n 0, 1), (86, .getfield 22, 3), (89, .aload_n 0, 1), (90, .getfield 15, 3), (93, .if_icmp .lt 11, 3), (96, .aload_n 0, 1), (97, .getstatic 25, 3), (100, .putfield 31, 3), (103, .return_, 1), (104, .iconst 0, 1), (105, .istore_n 1, 1), (106, .aload_n 0, 1), (107, .iconst 0, 1), (108, .putfield 37, 3), (111, .aload_n 0, 1), (112, .lconst 0, 1), (113, .putfield 40, 3), (116, .aload_n 0, 1), (117, .getfield 22, 3), (120, .aload_n 0, 1), (121, .getfield 15, 3), (124, .if_icmp .ge 100, 3), (127, .aload_n 0, 1), (128, .getfield 9, 3), (131, .aload_n 0, 1), (132, .getfield 22, 3), (135, .baload, 1), (136, .invokestatic 60, 3), (139, .ifCond .eq 85, 3), (142, .iload_n 1, 1), (143, .aload_n 0, 1), (144, .getfield 9, 3), (147, .aload_n 0, 1), (148, .getfield 22, 3), (151, .baload, 1), (152, .bipush 57, 2), (154, .if_icmp .gt 7, 3), (157, .iconst 1, 1), (158, .goto 4, 3), (161, .iconst 0, 1), (162, .iadd, 1), (163, .istore_n 1, 1), (164, .aload_n 0, 1), (165, .aload_n 0, 1), (166, .getfield 37, 3), (169, .bipush 10, 2), (171, .imul, 1), (172, .aload_n 0, 1), (173, .getfield 9, 3), (176, .aload_n 0, 1), (177, .getfield 22, 3), (180, .baload, 1), (181, .iadd, 1), (182, .bipush 48, 2), (184, .isub, 1), (185, .putfield 37, 3), (188, .aload_n 0, 1), (189, .aload_n 0, 1), (190, .getfield 40, 3), (193, .ldc2_w 63, 3), (196, .lmul, 1), (197, .aload_n 0, 1), (198, .getfield 9, 3), (201, .aload_n 0, 1), (202, .getfield 22, 3), (205, .baload, 1), (206, .i2l, 1), (207, .ladd, 1), (208, .putfield 40, 3), (211, .aload_n 0, 1), (212, .dup, 1), (213, .getfield 22, 3), (216, .iconst 1, 1), (217, .iadd, 1), (218, .putfield 22, 3), (221, .goto (-105), 3), (224, .aload_n 0, 1), (225, .getfield 22, 3), (228, .aload_n 0, 1), (229, .getfield 34, 3), (232, .isub, 1), (233, .istore_n 2, 1), (234, .iload_n 2, 1), (235, .ifCond .ne 36, 3), (238, .aload_n 0, 1), (239, .aload_n 0, 1), (240, .getfield 9, 3), (243, .aload_n 0, 1), (244, .getfield 22, 3), (247, .baload, 1), (248, .i2l, 1), (249, .getstatic 57, 3), (252, .invokestatic 65, 3), (255, .putfield 31, 3), (258, .aload_n 0, 1), (259, .dup, 1), (260, .getfield 22, 3), (263, .iconst 1, 1), (264, .iadd, 1), (265, .putfield 22, 3), (268, .goto 53, 3), (271, .iload_n 1, 1), (272, .ifCond .ne 26, 3), (275, .iload_n 2, 1), (276, .bipush 7, 2), (278, .if_icmp .gt 20, 3), (281, .aload_n 0, 1), (282, .aload_n 0, 1), (283, .getfield 40, 3), (286, .getstatic 69, 3), (289, .invokestatic 65, 3), (292, .putfield 31, 3), (295, .goto 26, 3), (298, .aload_n 0, 1), (299, .iload_n 1, 1), (300, .iload_n 2, 1), (301, .if_icmp .ne 14, 3), (304, .iload_n 2, 1), (305, .iconst 3, 1), (306, .if_icmp .gt 9, 3), (309, .getstatic 72, 3), (312, .goto 6, 3), (315, .getstatic 57, 3), (318, .putfield 31, 3), (321, .return_, 1)]
set_option maxRecDepth 100000 in
theorem d_21_ok : x_dchk 21 d_21 = true := by decide +kernel
/-- ingHill.Tape.readToken -/
def c_11 : xC := (21, [(17, ([(0, 1)], 0))], [], [], 1, [(7, 3, 7)], 0, [(none, [], [])])
def n_11 : List xN := [(0, [(0, (17, ([(0, 1)], 0)))], [(7, ([(0, 1)], 0), 1, (0, ([(1, 1)], 0))), (7, ([(0, 1)], 0), 3, (0, ([(2, 1)], 0)))], [([(1, 1)], 0), ([(1, -1)], 940), ([(2, 1)], 0), ([(2, -1)], 940)], 3, [([], 2), ([(2, -1)], 2147483647), ([], 5000000000), ([], 5000000000), ([], 5000000000)]), (116, [(1, (0, ([(1, 1)], 0))), (0, (17, ([(0, 1)], 0)))], [(7, ([(0, 1)], 0), 6, (0, ([(2, 1)], 0))), (7, ([(0, 1)], 0), 2, (0, ([(3, 1)], 0))), (7, ([(0, 1)], 0), 5, (0, ([(4, 1)], 0))), (7, ([(0, 1)], 0), 0, (38, ([(5, 1)], 0))), (7, ([(0, 1)], 0), 1, (0, ([(6, 1)], 0))), (7, ([(0, 1)], 0), 3, (0, ([(7, 1)], 0)))], [([(4, -1), (6, 1)], -1), ([(3, 1)], 2147483648), ([(3, -1)], 2147483647), ([(6, 1)], 0), ([(6, -1)], 940), ([(4, 1)], 0), ([(4, -1)], 940), ([(1, 1)], 0), ([(2, 1)], 2147483648), ([(2, -1)], 2147483647), ([(4, -1), (7, 1)], 0), ([(7, 1)], 0), ([(7, -1)], 940), ([(1, -1), (6, 1)], 0), ([(1, -1), (7, 1)], 0), ([(3, 1), (4, -1)], -1), ([(3, 1), (4, -1)], 0), ([(4, -1), (6, 1)], 0), ([(6, 1), (7, -1)], 0), ([(1, -1)], 1000), ([(1, -1)], 1001)], 8, [([], 1), ([(7, -1)], 2147483647), ([], 5000000000), ([], 5000000000), ([], 5000000000)])]
set_option maxRecDepth 100000 in
set_option maxHeartbeats 4000000 in
theorem h_11 (th : List Nat) (xs : Nat → Int32) (L J : Nat) : x_Holds x_tb th xs L J c_11 12 := x_ok (dm := 11) (cts := [c_5, c_4, c_3]) (D := d_21) (ns := n_11) (f := 68) d_21_ok (List.forall_mem_cons.mpr ⟨(h_5 th xs L J).mono (by omega), List.forall_mem_cons.mpr ⟨(h_4 th xs L J).mono (by omega), List.forall_mem_cons.mpr ⟨(h_3 th xs L J).mono (by omega), fun _ h => absurd h List.not_mem_nil⟩⟩⟩) (by decide +kernel)
def d_20 : xD := [(0, .aload_n 0, 1), (1, .iload_n 1, 1), (2, .putfield 19, 3), (5, .aload_n 0, 1), (6, .iconst 0, 1), (7, .putfield 22, 3), (10, .aload_n 0, 1), (11, .iconst 0, 1), (12, .putfield 44, 3), (15, .aload_n 0, 1), (16, .iconst 0, 1), (17, .putfield 47, 3), (20, .aload_n 0, 1), (21, .invokevirtual 50, 3), (24, .return_, 1)]
set_option maxRecDepth 100000 in
theorem d_20_ok : x_dchk 20 d_20 = true := by decide +kernel
/-- ingHill.Tape.beginText -/
def c_12 : xC := (20, [(17, ([(0, 1)], 0)), (0, ([(1, 1)], 0))], [], [], 2, [(7, 2, 9)], 0, [(none, [], [])])
def n_12 : List xN := []
set_option maxRecDepth 100000 in
set_option maxHeartbeats 4000000 in
theorem h_12 (th : List Nat) (xs : Nat → Int32) (L J : Nat) : x_Holds x_tb th xs L J c_12 13 := x_ok (dm := 12) (cts := [c_11]) (D := d_20) (ns := n_12) (f := 24) d_20_ok (List.forall_mem_cons.mpr ⟨(h_11 th xs L J).mono (by omega), fun _ h => absurd h List.not_mem_nil⟩) (by decide +kernel)
def d_46 : xD := [(0, .aload_n 0, 1), (1, .getfield 31, 3), (4, .aload_n 1, 1), (5, .if_acmp .eq 9, 3), (8, .aload_n 0, 1), (9, .iconst 1, 1), (10, .invokevirtual 82, 3), (13, .ireturn, 1), (14, .aload_n 0, 1), (15, .invokevirtual 50, 3), (18, .iconst 1, 1), (19, .ireturn, 1)]
set_option maxRecDepth 100000 in
theorem d_46_ok : x_dchk 46 d_46 = true := by decide +kernel
/-- ingHill.Tape.take -/
def c_13 : xC := (46, [(17, ([(0, 1)], 0)), (3, ([], 0))], [], [], 1, [(7, 3, 9)], 1, [(some (0, ([(1, 1)], 0)), [([(1, 1)], 0), ([(1, -1)], 1)], [])])
def n_13 : List xN := []
set_option maxRecDepth 100000 in
set_option maxHeartbeats 4000000 in
theorem h_13 (th : List Nat) (xs : Nat → Int32) (L J : Nat) : x_Holds x_tb th xs L J c_13 14 := x_ok (dm := 13) (cts := [c_11, c_10]) (D := d_46) (ns := n_13) (f := 17) d_46_ok (List.forall_mem_cons.mpr ⟨(h_11 th xs L J).mono (by omega), List.forall_mem_cons.mpr ⟨(h_10 th xs L J).mono (by omega), fun _ h => absurd h List.not_mem_nil⟩⟩) (by decide +kernel)
def d_19 : xD := [(0, .aload_n 0, 1), (1, .getfield 9, 3), (4, .iconst 0, 1), (5, .bipush 10, 2), (7, .iastore, 1), (8, .aload_n 0, 1), (9, .getfield 9, 3), (12, .iconst 1, 1), (13, .bipush 10, 2), (15, .iastore, 1), (16, .aload_n 0, 1), (17, .getfield 15, 3), (20, .iconst 0, 1), (21, .iconst 5, 1), (22, .iastore, 1), (23, .aload_n 0, 1), (24, .getfield 15, 3), (27, .iconst 1, 1), (28, .iconst 1, 1), (29, .iastore, 1), (30, .aload_n 0, 1), (31, .getfield 15, 3), (34, .iconst 2, 1), (35, .iconst 5, 1), (36, .iastore, 1), (37, .aload_n 0, 1), (38, .getfield 15, 3), (41, .iconst 3, 1), (42, .iconst 1, 1), (43, .iastore, 1), (44, .aload_n 0, 1), (45, .iconst 4, 1), (46, .putfield 18, 3), (49, .aload_n 0, 1), (50, .bipush 20, 2), (52, .putfield 22, 3), (55, .aload_n 0, 1), (56, .iconst (-1), 1), (57, .putfield 25, 3), (60, .aload_n 0, 1), (61, .iconst 0, 1), (62, .putfield 28, 3), (65, .return_, 1)]
set_option maxRecDepth 100000 in
theorem d_19_ok : x_dchk 19 d_19 = true := by decide +kernel
/-- ingHill.Land.makeEmpty -/
def c_14 : xC := (19, [(11, ([(0, 1)], 0))], [], [], 1, [(1, 2, 5), (14, 0, 1), (15, 0, 3)], 0, [(none, [], [])])
def n_14 : List xN := []
set_option maxRecDepth 100000 in
set_option maxHeartbeats 4000000 in
theorem h_14 (th : List Nat) (xs : Nat → Int32) (L J : Nat) : x_Holds x_tb th xs L J c_14 15 := x_ok (dm := 14) (cts := []) (D := d_19) (ns := n_14) (f := 52) d_19_ok (fun _ h => absurd h List.not_mem_nil) (by decide +kernel)
def d_48 : xD := [(0, .aload_n 0, 1), (1, .getfield 9, 3), (4, .iconst 0, 1), (5, .aload_n 1, 1), (6, .getfield 9, 3), (9, .iconst 0, 1), (10, .iaload, 1), (11, .iastore, 1), (12, .aload_n 0, 1), (13, .getfield 9, 3), (16, .iconst 1, 1), (17, .aload_n 1, 1), (18, .getfield 9, 3), (21, .iconst 1, 1), (22, .iaload, 1), (23, .iastore, 1), (24, .iconst 0, 1), (25, .istore_n 2, 1), (26, .iload_n 2, 1), (27, .aload_n 0, 1), (28, .getfield 15, 3), (31, .arraylength, 1), (32, .if_icmp .ge 21, 3), (35, .aload_n 0, 1), (36, .getfield 15, 3), (39, .iload_n 2, 1), (40, .aload_n 1, 1), (41, .getfield 15, 3), (44, .iload_n 2, 1), (45, .iaload, 1), (46, .iastore, 1), (47, .iinc 2 1, 3), (50, .goto (-24), 3), (53, .aload_n 0, 1), (54, .aload_n 1, 1), (55, .getfield 18, 3), (58, .putfield 18, 3), (61, .aload_n 0, 1), (62, .aload_n 1, 1), (63, .getfield 22, 3), (66, .putfield 22, 3), (69, .aload_n 0, 1), (70, .aload_n 1, 1), (71, .getfield 25, 3), (74, .putfield 25, 3), (77, .aload_n 0, 1), (78, .aload_n 1, 1), (79, .getfield 28, 3), (82, .putfield 28, 3), (85, .iconst 0, 1), (86, .istore_n 2, 1), (87, .iload_n 2, 1), (88, .iconst 4, 1), (89, .if_icmp .ge 45, 3), (92, .aload_n 0, 1), (93, .getfield 31, 3), (96, .iload_n 2, 1), (97, .aload_n 1, 1), (98, .getfield 31, 3), (101, .iload_n 2, 1), (102, .iaload, 1), (103, .iastore, 1), (104, .aload_n 0, 1), (105, .getfield 34, 3), (108, .iload_n 2, 1), (109, .aload_n 1, 1), (110, .getfield 34, 3), (113, .iload_n 2, 1), (114, .iaload, 1), (115, .iastore, 1), (116, .aload_n 0, 1), (117, .getfield 37, 3), (120, .iload_n 2, 1), (121, .aload_n 1, 1), (122, .getfield 37, 3), (125, .iload_n 2, 1), (126, .iaload, 1), (127, .iastore, 1), (128, .iinc 2 1, 3), (131, .goto (-44), 3), (134, .return_, 1)]
set_option maxRecDepth 100000 in
theorem d_48_ok : x_dchk 48 d_48 = true := by decide +kernel
/-- ingHill.Land.copyFrom -/
def c_15 : xC := (48, [(11, ([(0, 1)], 0)), (11, ([(1, 1)], 0))], [], [], 2, [(1, 2, 5), (14, 0, 1), (15, 0, 3), (16, 0, 3), (17, 0, 3), (18, 0, 3)], 0, [(none, [], [])])
def n_15 : List xN := [(26, [(2, (0, ([(2, 1)], 0))), (0, (11, ([(0, 1)], 0))), (1, (11, ([(1, 1)], 0)))], [(1, ([(1, 1)], 0), 0, (24, ([(6, 1)], 0))), (1, ([(0, 1)], 0), 0, (24, ([(3, 1)], 0))), (14, ([(3, 1)], 0), 1, (0, ([(4, 1)], 0))), (14, ([(3, 1)], 0), 0, (0, ([(5, 1)], 0)))], [([(4, 1)], 2147483648), ([(4, -1)], 2147483647), ([(5, 1)], 2147483648), ([(5, -1)], 2147483647), ([(2, 1)], 0), ([(2, -1)], 7), ([(2, -1)], 8), ([(2, -1)], 20), ([(2, -1)], 40), ([(2, -1)], 61), ([(2, -1)], 255), ([(2, -1)], 1000), ([(2, -1)], 1001)], 7, [([], 2), ([(2, -1)], 2147483647), ([], 5000000000), ([], 5000000000), ([], 5000000000)]), (87, [(2, (0, ([(2, 1)], 0))), (0, (11, ([(0, 1)], 0))), (1, (11, ([(1, 1)], 0)))], [(1, ([(0, 1)], 0), 5, (0, ([(3, 1)], 0))), (1, ([(0, 1)], 0), 4, (0, ([(4, 1)], 0))), (1, ([(0, 1)], 0), 3, (0, ([(5, 1)], 0))), (1, ([(0, 1)], 0), 2, (0, ([(6, 1)], 0))), (1, ([(0, 1)], 0), 1, (25, ([(7, 1)], 0))), (1, ([(1, 1)], 0), 0, (24, ([(8, 1)], 0))), (1, ([(0, 1)], 0), 0, (24, ([(9, 1)], 0))), (14, ([(9, 1)], 0), 1, (0, ([(10, 1)], 0))), (14, ([(9, 1)], 0), 0, (0, ([(11, 1)], 0)))], [([(3, 1)], 0), ([(3, -1)], 4), ([(4, 1)], 2147483648), ([(4, -1)], 2147483647), ([(5, 1)], 2147483648), ([(5, -1)], 2147483647), ([(6, 1)], 2147483648), ([(6, -1)], 2147483647), ([(10, 1)], 2147483648), ([(10, -1)], 2147483647), ([(11, 1)], 2147483648), ([(11, -1)], 2147483647), ([(2, 1)], 0), ([(2, -1)], 7), ([(2, -1)], 8), ([(2, -1)], 20), ([(2, -1)], 40), ([(2, -1)], 61), ([(2, -1)], 255), ([(2, -1)], 1000), ([(2, -1)], 1001)], 12, [([], 1), ([(2, -1)], 2147483647), ([], 5000000000), ([], 5000000000), ([], 5000000000)])]
set_option maxRecDepth 100000 in
set_option maxHeartbeats 4000000 in
theorem h_15 (th : List Nat) (xs : Nat → Int32) (L J : Nat) : x_Holds x_tb th xs L J c_15 16 := x_ok (dm := 15) (cts := []) (D := d_48) (ns := n_15) (f := 39) d_48_ok (fun _ h => absurd h List.not_mem_nil) (by decide +kernel)
def d_34 : xD := [(0, .iload_n 1, 1), (1, .ifCond .ne 10, 3), (4, .aload_n 0, 1), (5, .getfield 9, 3), (8, .iconst 0, 1), (9, .iaload, 1), (10, .ireturn, 1), (11, .iload_n 1, 1), (12, .iconst 1, 1), (13, .if_icmp .ne 12, 3), (16, .aload_n 0, 1), (17, .getfield 9, 3), (20, .iconst 1, 1), (21, .iaload, 1), (22, .goto 4, 3), (25, .iconst 0, 1), (26, .ireturn, 1)]
set_option maxRecDepth 100000 in
theorem d_34_ok : x_dchk 34 d_34 = true := by decide +kernel
/-- ingHill.Land.cellsOf -/
def c_16 : xC := (34, [(11, ([(0, 1)], 0)), (0, ([(1, 1)], 0))], [], [], 2, [], 1, [(some (0, ([(2, 1)], 0)), [], [])])
def n_16 : List xN := []
set_option maxRecDepth 100000 in
set_option maxHeartbeats 4000000 in
theorem h_16 (th : List Nat) (xs : Nat → Int32) (L J : Nat) : x_Holds x_tb th xs L J c_16 17 := x_ok (dm := 16) (cts := []) (D := d_34) (ns := n_16) (f := 20) d_34_ok (fun _ h => absurd h List.not_mem_nil) (by decide +kernel)
def d_70 : xD := [(0, .iload_n 2, 1), (1, .ifCond .lt 16, 3), (4, .iload_n 2, 1), (5, .aload_n 0, 1), (6, .iload_n 1, 1), (7, .invokevirtual 40, 3), (10, .if_icmp .ge 7, 3), (13, .iconst 1, 1), (14, .goto 4, 3), (17, .iconst 0, 1), (18, .ireturn, 1)]
set_option maxRecDepth 100000 in
theorem d_70_ok : x_dchk 70 d_70 = true := by decide +kernel
/-- ingHill.Land.hasCell -/
def c_17 : xC := (70, [(11, ([(0, 1)], 0)), (0, ([(1, 1)], 0)), (0, ([(2, 1)], 0))], [], [], 3, [], 1, [(some (0, ([(3, 1)], 0)), [([(3, 1)], 0), ([(3, -1)], 1)], [])])
def n_17 : List xN := []
set_option maxRecDepth 100000 in
set_option maxHeartbeats 4000000 in
theorem h_17 (th : List Nat) (xs : Nat → Int32) (L J : Nat) : x_Holds x_tb th xs L J c_17 18 := x_ok (dm := 17) (cts := [c_16]) (D := d_70) (ns := n_17) (f := 19) d_70_ok (List.forall_mem_cons.mpr ⟨(h_16 th xs L J).mono (by omega), fun _ h => absurd h List.not_mem_nil⟩) (by decide +kernel)
def d_59 : xD := [(0, .iload_n 1, 1), (1, .ifCond .lt 15, 3), (4, .iload_n 1, 1), (5, .aload_n 0, 1), (6, .getfield 28, 3), (9, .if_icmp .ge 7, 3), (12, .iconst 1, 1), (13, .goto 4, 3), (16, .iconst 0, 1), (17, .ireturn, 1)]
set_option maxRecDepth 100000 in
theorem d_59_ok : x_dchk 59 d_59 = true := by decide +kernel
/-- ingHill.Land.hasPassage -/
def c_18 : xC := (59, [(11, ([(0, 1)], 0)), (0, ([(1, 1)], 0))], [], [], 2, [], 0, [(some (0, ([], 1)), [([(1, 1)], 0), ([(1, -1)], 3)], []), (some (0, ([], 0)), [], [])])
def n_18 : List xN := []
set_option maxRecDepth 100000 in
set_option maxHeartbeats 4000000 in
theorem h_18 (th : List Nat) (xs : Nat → Int32) (L J : Nat) : x_Holds x_tb th xs L J c_18 19 := x_ok (dm := 18) (cts := []) (D := d_59) (ns := n_18) (f := 18) d_59_ok (fun _ h => absurd h List.not_mem_nil) (by decide +kernel)
def d_63 : xD := [(0, .aload_n 0, 1), (1, .getfield 15, 3), (4, .iconst 0, 1), (5, .iaload, 1), (6, .aload_n 0, 1), (7, .getfield 15, 3), (10, .iconst 1, 1), (11, .iaload, 1), (12, .iadd, 1), (13, .aload_n 0, 1), (14, .getfield 15, 3), (17, .iconst 2, 1), (18, .iaload, 1), (19, .iadd, 1), (20, .aload_n 0, 1), (21, .getfield 15, 3), (24, .iconst 3, 1), (25, .iaload, 1), (26, .iadd, 1), (27, .ireturn, 1)]
set_option maxRecDepth 100000 in
theorem d_63_ok : x_dchk 63 d_63 = true := by decide +kernel
/-- ingHill.Land.breathHours -/
def c_19 : xC := (63, [(11, ([(0, 1)], 0))], [], [], 1, [], 1, [(some (0, ([(1, 1)], 0)), [], [])])
def n_19 : List xN := []
set_option maxRecDepth 100000 in
set_option maxHeartbeats 4000000 in
theorem h_19 (th : List Nat) (xs : Nat → Int32) (L J : Nat) : x_Holds x_tb th xs L J c_19 20 := x_ok (dm := 19) (cts := []) (D := d_63) (ns := n_19) (f := 29) d_63_ok (fun _ h => absurd h List.not_mem_nil) (by decide +kernel)
def d_62 : xD := [(0, .aload_n 0, 1), (1, .invokevirtual 44, 3), (4, .istore_n 2, 1), (5, .iload_n 2, 1), (6, .iconst 1, 1), (7, .if_icmp .ge 7, 3), (10, .iconst 0, 1), (11, .goto 6, 3), (14, .iload_n 1, 1), (15, .iload_n 2, 1), (16, .idiv, 1), (17, .ireturn, 1)]
set_option maxRecDepth 100000 in
theorem d_62_ok : x_dchk 62 d_62 = true := by decide +kernel
/-- ingHill.Land.breathOf -/
def c_20 : xC := (62, [(11, ([(0, 1)], 0)), (0, ([(1, 1)], 0))], [], [], 2, [], 1, [(some (0, ([(2, 1)], 0)), [], [])])
def n_20 : List xN := []
set_option maxRecDepth 100000 in
set_option maxHeartbeats 4000000 in
theorem h_20 (th : List Nat) (xs : Nat → Int32) (L J : Nat) : x_Holds x_tb th xs L J c_20 21 := x_ok (dm := 20) (cts := [c_19]) (D := d_62) (ns := n_20) (f := 19) d_62_ok (List.forall_mem_cons.mpr ⟨(h_19 th xs L J).mono (by omega), fun _ h => absurd h List.not_mem_nil⟩) (by decide +kernel)
def d_64 : xD := [(0, .aload_n 0, 1), (1, .invokevirtual 44, 3), (4, .istore_n 3, 1), (5, .iload_n 2, 1), (6, .invokestatic 48, 3), (9, .ifCond .eq 18, 3), (12, .iload_n 3, 1), (13, .iconst 1, 1), (14, .if_icmp .lt 13, 3), (17, .iload_n 2, 1), (18, .iload_n 3, 1), (19, .idiv, 1), (20, .aload_n 0, 1), (21, .getfield 25, 3), (24, .if_icmp .ne 5, 3), (27, .iconst 0, 1), (28, .ireturn, 1), (29, .iload_n 2, 1), (30, .iload_n 3, 1), (31, .irem, 1), (32, .istore 4, 2), (34, .aload_n 0, 1), (35, .getfield 15, 3), (38, .iconst 0, 1), (39, .iaload, 1), (40, .aload_n 0, 1), (41, .getfield 15, 3), (44, .iconst 1, 1), (45, .iaload, 1), (46, .iadd, 1), (47, .istore 5, 2), (49, .iload 4, 2), (51, .aload_n 0, 1), (52, .getfield 15, 3), (55, .iconst 0, 1), (56, .iaload, 1), (57, .if_icmp .ge 13, 3), (60, .iload_n 1, 1), (61, .ifCond .ne 7, 3), (64, .iconst 1, 1), (65, .goto 4, 3), (68, .iconst 2, 1), (69, .ireturn, 1), (70, .iload 4, 2), (72, .iload 5, 2), (74, .if_icmp .lt 27, 3), (77, .iload 4, 2), (79, .iload 5, 2), (81, .aload_n 0, 1), (82, .getfield 15, 3), (85, .iconst 2, 1), (86, .iaload, 1), (87, .iadd, 1), (88, .if_icmp .ge 13, 3), (91, .iload_n 1, 1), (92, .ifCond .ne 7, 3), (95, .iconst 2, 1), (96, .goto 4, 3), (99, .iconst 1, 1), (100, .ireturn, 1), (101, .iconst 0, 1), (102, .ireturn, 1)]
set_option maxRecDepth 100000 in
theorem d_64_ok : x_dchk 64 d_64 = true := by decide +kernel
/-- ingHill.Land.airIn -/
def c_21 : xC := (64, [(11, ([(0, 1)], 0)), (0, ([(1, 1)], 0)), (0, ([(2, 1)], 0))], [], [], 3, [], 1, [(some (0, ([(3, 1)], 0)), [], [])])
def n_21 : List xN := []
set_option maxRecDepth 100000 in
set_option maxHeartbeats 4000000 in
theorem h_21 (th : List Nat) (xs : Nat → Int32) (L J : Nat) : x_Holds x_tb th xs L J c_21 22 := x_ok (dm := 21) (cts := [c_19, c_1]) (D := d_64) (ns := n_21) (f := 60) d_64_ok (List.forall_mem_cons.mpr ⟨(h_19 th xs L J).mono (by omega), List.forall_mem_cons.mpr ⟨(h_1 th xs L J).mono (by omega), fun _ h => absurd h List.not_mem_nil⟩⟩) (by decide +kernel)
def d_71 : xD := [(0, .aload_n 0, 1), (1, .getfield 22, 3), (4, .iconst 1, 1), (5, .if_icmp .ge 10, 3), (8, .aload_n 0, 1), (9, .getfield 18, 3), (12, .goto 14, 3), (15, .aload_n 0, 1), (16, .getfield 18, 3), (19, .iload_n 1, 1), (20, .aload_n 0, 1), (21, .getfield 22, 3), (24, .idiv, 1), (25, .isub, 1), (26, .istore_n 2, 1), (27, .iload_n 2, 1), (28, .ifCond .le 7, 3), (31, .iload_n 2, 1), (32, .goto 4, 3), (35, .iconst 0, 1), (36, .ireturn, 1)]
set_option maxRecDepth 100000 in
theorem d_71_ok : x_dchk 71 d_71 = true := by decide +kernel
/-- ingHill.Land.forceIn -/
def c_22 : xC := (71, [(11, ([(0, 1)], 0)), (0, ([(1, 1)], 0))], [], [], 2, [], 1, [(some (0, ([(2, 1)], 0)), [], [])])
def n_22 : List xN := []
set_option maxRecDepth 100000 in
set_option maxHeartbeats 4000000 in
theorem h_22 (th : List Nat) (xs : Nat → Int32) (L J : Nat) : x_Holds x_tb th xs L J c_22 23 := x_ok (dm := 22) (cts := []) (D := d_71) (ns := n_22) (f := 26) d_71_ok (fun _ h => absurd h List.not_mem_nil) (by decide +kernel)
def d_90 : xD := [(0, .iconst 0, 1), (1, .istore_n 2, 1), (2, .iload_n 2, 1), (3, .aload_n 0, 1), (4, .getfield 28, 3), (7, .if_icmp .ge 21, 3), (10, .aload_n 0, 1), (11, .getfield 34, 3), (14, .iload_n 2, 1), (15, .iaload, 1), (16, .iload_n 1, 1), (17, .if_icmp .lt 5, 3), (20, .iload_n 2, 1), (21, .ireturn, 1), (22, .iinc 2 1, 3), (25, .goto (-23), 3), (28, .iconst (-1), 1), (29, .ireturn, 1)]
set_option maxRecDepth 100000 in
theorem d_90_ok : x_dchk 90 d_90 = true := by decide +kernel
/-- ingHill.Land.passageFor -/
def c_23 : xC := (90, [(11, ([(0, 1)], 0)), (0, ([(1, 1)], 0))], [], [], 2, [], 1, [(some (0, ([(2, 1)], 0)), [], [])])
def n_23 : List xN := [(2, [(2, (0, ([(2, 1)], 0))), (0, (11, ([(0, 1)], 0))), (1, (0, ([(1, 1)], 0)))], [], [([(2, 1)], 0), ([(2, -1)], 7), ([(2, -1)], 8), ([(2, -1)], 20), ([(2, -1)], 40), ([(2, -1)], 61), ([(2, -1)], 255), ([(2, -1)], 1000), ([(2, -1)], 1001)], 3, [([], 1), ([(2, -1)], 2147483647), ([], 5000000000), ([], 5000000000), ([], 5000000000)])]
set_option maxRecDepth 100000 in
set_option maxHeartbeats 4000000 in
theorem h_23 (th : List Nat) (xs : Nat → Int32) (L J : Nat) : x_Holds x_tb th xs L J c_23 24 := x_ok (dm := 23) (cts := []) (D := d_90) (ns := n_23) (f := 22) d_90_ok (fun _ h => absurd h List.not_mem_nil) (by decide +kernel)
def d_36 : xD := [(0, .aload_n 0, 1), (1, .iload_n 1, 1), (2, .putfield 22, 3), (5, .aload_n 0, 1), (6, .iconst 0, 1), (7, .putfield 25, 3), (10, .aload_n 0, 1), (11, .iconst (-1), 1), (12, .putfield 28, 3), (15, .aload_n 0, 1), (16, .iconst (-1), 1), (17, .putfield 31, 3), (20, .return_, 1)]
set_option maxRecDepth 100000 in
theorem d_36_ok : x_dchk 36 d_36 = true := by decide +kernel
/-- ngHill.Thing.comeOut -/
def c_24 : xC := (36, [(18, ([(0, 1)], 0)), (0, ([(1, 1)], 0))], [], [], 2, [(8, 3, 6)], 0, [(none, [], [])])
def n_24 : List xN := []
set_option maxRecDepth 100000 in
set_option maxHeartbeats 4000000 in
theorem h_24 (th : List Nat) (xs : Nat → Int32) (L J : Nat) : x_Holds x_tb th xs L J c_24 25 := x_ok (dm := 24) (cts := []) (D := d_36) (ns := n_24) (f := 22) d_36_ok (fun _ h => absurd h List.not_mem_nil) (by decide +kernel)
def d_35 : xD := [(0, .aload_n 0, 1), (1, .iload_n 1, 1), (2, .putfield 15, 3), (5, .aload_n 0, 1), (6, .iload_n 3, 1), (7, .putfield 19, 3), (10, .aload_n 0, 1), (11, .iconst 0, 1), (12, .putfield 34, 3), (15, .aload_n 0, 1), (16, .iconst 0, 1), (17, .putfield 37, 3), (20, .aload_n 0, 1), (21, .iconst 0, 1), (22, .putfield 41, 3), (25, .aload_n 0, 1), (26, .iload_n 1, 1), (27, .invokevirtual 44, 3), (30, .aload_n 0, 1), (31, .iload_n 2, 1), (32, .putfield 25, 3), (35, .return_, 1)]
set_option maxRecDepth 100000 in
theorem d_35_ok : x_dchk 35 d_35 = true := by decide +kernel
/-- ngHill.Thing.put -/
def c_25 : xC := (35, [(18, ([(0, 1)], 0)), (0, ([(1, 1)], 0)), (0, ([(2, 1)], 0)), (0, ([(3, 1)], 0))], [], [], 4, [(8, 1, 9)], 0, [(none, [], [])])
def n_25 : List xN := []
set_option maxRecDepth 100000 in
set_option maxHeartbeats 4000000 in
theorem h_25 (th : List Nat) (xs : Nat → Int32) (L J : Nat) : x_Holds x_tb th xs L J c_25 26 := x_ok (dm := 25) (cts := [c_24]) (D := d_35) (ns := n_25) (f := 31) d_35_ok (List.forall_mem_cons.mpr ⟨(h_24 th xs L J).mono (by omega), fun _ h => absurd h List.not_mem_nil⟩) (by decide +kernel)
def d_49 : xD := [(0, .aload_n 0, 1), (1, .aload_n 1, 1), (2, .getfield 9, 3), (5, .putfield 9, 3), (8, .aload_n 0, 1), (9, .aload_n 1, 1), (10, .getfield 15, 3), (13, .putfield 15, 3), (16, .aload_n 0, 1), (17, .aload_n 1, 1), (18, .getfield 19, 3), (21, .putfield 19, 3), (24, .aload_n 0, 1), (25, .aload_n 1, 1), (26, .getfield 22, 3), (29, .putfield 22, 3), (32, .aload_n 0, 1), (33, .aload_n 1, 1), (34, .getfield 25, 3), (37, .putfield 25, 3), (40, .aload_n 0, 1), (41, .aload_n 1, 1), (42, .getfield 28, 3), (45, .putfield 28, 3), (48, .aload_n 0, 1), (49, .aload_n 1, 1), (50, .getfield 31, 3), (53, .putfield 31, 3), (56, .aload_n 0, 1), (57, .aload_n 1, 1), (58, .getfield 34, 3), (61, .putfield 34, 3), (64, .aload_n 0, 1), (65, .aload_n 1, 1), (66, .getfield 37, 3), (69, .putfield 37, 3), (72, .aload_n 0, 1), (73, .aload_n 1, 1), (74, .getfield 41, 3), (77, .putfield 41, 3), (80, .return_, 1)]
set_option maxRecDepth 100000 in
theorem d_49_ok : x_dchk 49 d_49 = true := by decide +kernel
/-- ngHill.Thing.copyFrom -/
def c_26 : xC := (49, [(18, ([(0, 1)], 0)), (18, ([(1, 1)], 0))], [], [], 2, [(8, 0, 9)], 0, [(none, [], [])])
def n_26 : List xN := []
set_option maxRecDepth 100000 in
set_option maxHeartbeats 4000000 in
theorem h_26 (th : List Nat) (xs : Nat → Int32) (L J : Nat) : x_Holds x_tb th xs L J c_26 27 := x_ok (dm := 26) (cts := []) (D := d_49) (ns := n_26) (f := 50) d_49_ok (fun _ h => absurd h List.not_mem_nil) (by decide +kernel)
def d_117 : xD := [(0, .aload_n 0, 1), (1, .getfield 22, 3), (4, .invokestatic 48, 3), (7, .ifCond .eq 14, 3), (10, .aload_n 0, 1), (11, .getfield 37, 3), (14, .ifCond .ne 7, 3), (17, .iconst 1, 1), (18, .goto 4, 3), (21, .iconst 0, 1), (22, .ireturn, 1)]
set_option maxRecDepth 100000 in
theorem d_117_ok : x_dchk 117 d_117 = true := by decide +kernel
/-- ngHill.Thing.isLoose -/
def c_27 : xC := (117, [(18, ([(0, 1)], 0))], [], [], 1, [], 1, [(some (0, ([(1, 1)], 0)), [([(1, 1)], 0), ([(1, -1)], 1)], [])])
def n_27 : List xN := []
set_option maxRecDepth 100000 in
set_option maxHeartbeats 4000000 in
theorem h_27 (th : List Nat) (xs : Nat → Int32) (L J : Nat) : x_Holds x_tb th xs L J c_27 28 := x_ok (dm := 27) (cts := [c_0]) (D := d_117) (ns := n_27) (f := 19) d_117_ok (List.forall_mem_cons.mpr ⟨(h_0 th xs L J).mono (by omega), fun _ h => absurd h List.not_mem_nil⟩) (by decide +kernel)
def d_128 : xD := [(0, .aload_n 0, 1), (1, .getfield 22, 3), (4, .invokestatic 48, 3), (7, .ifCond .eq 18, 3), (10, .aload_n 0, 1), (11, .getfield 22, 3), (14, .aload_n 0, 1), (15, .getfield 15, 3), (18, .if_icmp .eq 7, 3), (21, .iconst 1, 1), (22, .goto 4, 3), (25, .iconst 0, 1), (26, .ireturn, 1)]
set_option maxRecDepth 100000 in
theorem d_128_ok : x_dchk 128 d_128 = true := by decide +kernel
/-- ngHill.Thing.isBeyond -/
def c_28 : xC := (128, [(18, ([(0, 1)], 0))], [], [], 1, [], 1, [(some (0, ([(1, 1)], 0)), [([(1, 1)], 0), ([(1, -1)], 1)], [])])
def n_28 : List xN := []
set_option maxRecDepth 100000 in
set_option maxHeartbeats 4000000 in
theorem h_28 (th : List Nat) (xs : Nat → Int32) (L J : Nat) : x_Holds x_tb th xs L J c_28 29 := x_ok (dm := 28) (cts := [c_0]) (D := d_128) (ns := n_28) (f := 21) d_128_ok (List.forall_mem_cons.mpr ⟨(h_0 th xs L J).mono (by omega), fun _ h => absurd h List.not_mem_nil⟩) (by decide +kernel)
def d_126 : xD := [(0, .aload_n 0, 1), (1, .getfield 22, 3), (4, .invokestatic 48, 3), (7, .ifCond .eq 29, 3), (10, .aload_n 0, 1), (11, .getfield 22, 3), (14, .aload_n 1, 1), (15, .getfield 22, 3), (18, .if_icmp .ne 18, 3), (21, .aload_n 0, 1), (22, .getfield 25, 3), (25, .aload_n 1, 1), (26, .getfield 25, 3), (29, .if_icmp .ne 7, 3), (32, .iconst 1, 1), (33, .goto 4, 3), (36, .iconst 0, 1), (37, .ireturn, 1)]
set_option maxRecDepth 100000 in
theorem d_126_ok : x_dchk 126 d_126 = true := by decide +kernel
/-- ngHill.Thing.isWith -/
def c_29 : xC := (126, [(18, ([(0, 1)], 0)), (18, ([(1, 1)], 0))], [], [], 2, [], 1, [(some (0, ([(2, 1)], 0)), [([(2, 1)], 0), ([(2, -1)], 1)], [])])
def n_29 : List xN := []
set_option maxRecDepth 100000 in
set_option maxHeartbeats 4000000 in
theorem h_29 (th : List Nat) (xs : Nat → Int32) (L J : Nat) : x_Holds x_tb th xs L J c_29 30 := x_ok (dm := 29) (cts := [c_0]) (D := d_126) (ns := n_29) (f := 26) d_126_ok (List.forall_mem_cons.mpr ⟨(h_0 th xs L J).mono (by omega), fun _ h => absurd h List.not_mem_nil⟩) (by decide +kernel)
def d_75 : xD := [(0, .aload_n 0, 1), (1, .getfield 22, 3), (4, .iconst 3, 1), (5, .if_icmp .ne 5, 3), (8, .iconst 1, 1), (9, .ireturn, 1), (10, .aload_n 0, 1), (11, .getfield 22, 3), (14, .iconst 2, 1), (15, .if_icmp .ne 5, 3), (18, .iconst 2, 1), (19, .ireturn, 1), (20, .aload_n 0, 1), (21, .getfield 37, 3), (24, .ifCond .eq 5, 3), (27, .iconst 3, 1), (28, .ireturn, 1), (29, .aload_n 0, 1), (30, .iconst 1, 1), (31, .putfield 37, 3), (34, .iconst 0, 1), (35, .ireturn, 1)]
set_option maxRecDepth 100000 in
theorem d_75_ok : x_dchk 75 d_75 = true := by decide +kernel
/-- ngHill.Thing.beTied -/
def c_30 : xC := (75, [(18, ([(0, 1)], 0))], [], [], 1, [(8, 8, 8)], 1, [(some (0, ([(1, 1)], 0)), [], [])])
def n_30 : List xN := []
set_option maxRecDepth 100000 in
set_option maxHeartbeats 4000000 in
theorem h_30 (th : List Nat) (xs : Nat → Int32) (L J : Nat) : x_Holds x_tb th xs L J c_30 31 := x_ok (dm := 30) (cts := []) (D := d_75) (ns := n_30) (f := 25) d_75_ok (fun _ h => absurd h List.not_mem_nil) (by decide +kernel)
def d_76 : xD := [(0, .aload_n 0, 1), (1, .getfield 22, 3), (4, .iconst 3, 1), (5, .if_icmp .ne 5, 3), (8, .iconst 1, 1), (9, .ireturn, 1), (10, .aload_n 0, 1), (11, .getfield 37, 3), (14, .ifCond .ne 5, 3), (17, .iconst 2, 1), (18, .ireturn, 1), (19, .aload_n 0, 1), (20, .iconst 0, 1), (21, .putfield 37, 3), (24, .iconst 0, 1), (25, .ireturn, 1)]
set_option maxRecDepth 100000 in
theorem d_76_ok : x_dchk 76 d_76 = true := by decide +kernel
/-- ngHill.Thing.beLoosed -/
def c_31 : xC := (76, [(18, ([(0, 1)], 0))], [], [], 1, [(8, 8, 8)], 1, [(some (0, ([(1, 1)], 0)), [], [])])
def n_31 : List xN := []
set_option maxRecDepth 100000 in
set_option maxHeartbeats 4000000 in
theorem h_31 (th : List Nat) (xs : Nat → Int32) (L J : Nat) : x_Holds x_tb th xs L J c_31 32 := x_ok (dm := 31) (cts := []) (D := d_76) (ns := n_31) (f := 21) d_76_ok (fun _ h => absurd h List.not_mem_nil) (by decide +kernel)
def d_91 : xD := [(0, .aload_n 0, 1), (1, .aload_n 0, 1), (2, .getfield 22, 3), (5, .putfield 31, 3), (8, .aload_n 0, 1), (9, .iconst 2, 1), (10, .putfield 22, 3), (13, .aload_n 0, 1), (14, .iload_n 1, 1), (15, .putfield 28, 3), (18, .aload_n 0, 1), (19, .iconst 1, 1), (20, .putfield 25, 3), (23, .return_, 1)]
set_option maxRecDepth 100000 in
theorem d_91_ok : x_dchk 91 d_91 = true := by decide +kernel
/-- ngHill.Thing.goInto -/
def c_32 : xC := (91, [(18, ([(0, 1)], 0)), (0, ([(1, 1)], 0))], [], [], 2, [(8, 3, 6)], 0, [(none, [], [])])
def n_32 : List xN := []
set_option maxRecDepth 100000 in
set_option maxHeartbeats 4000000 in
theorem h_32 (th : List Nat) (xs : Nat → Int32) (L J : Nat) : x_Holds x_tb th xs L J c_32 33 := x_ok (dm := 32) (cts := []) (D := d_91) (ns := n_32) (f := 23) d_91_ok (fun _ h => absurd h List.not_mem_nil) (by decide +kernel)
def d_87 : xD := [(0, .aload_n 0, 1), (1, .dup, 1), (2, .getfield 25, 3), (5, .iload_n 2, 1), (6, .iconst 1, 1), (7, .if_icmp .ne 7, 3), (10, .iconst 1, 1), (11, .goto 4, 3), (14, .iconst (-1), 1), (15, .iadd, 1), (16, .putfield 25, 3), (19, .aload_n 0, 1), (20, .getfield 25, 3), (23, .ifCond .gt 14, 3), (26, .aload_n 0, 1), (27, .aload_n 0, 1), (28, .getfield 31, 3), (31, .invokevirtual 44, 3), (34, .goto 71, 3), (37, .aload_n 1, 1), (38, .aload_n 0, 1), (39, .getfield 28, 3), (42, .invokevirtual 69, 3), (45, .ifCond .eq 60, 3), (48, .aload_n 0, 1), (49, .getfield 25, 3), (52, .aload_n 1, 1), (53, .getfield 72, 3), (56, .aload_n 0, 1), (57, .getfield 28, 3), (60, .iaload, 1), (61, .if_icmp .lt 44, 3), (64, .aload_n 0, 1), (65, .aload_n 0, 1), (66, .getfield 34, 3), (69, .aload_n 1, 1), (70, .getfield 76, 3), (73, .aload_n 0, 1), (74, .getfield 28, 3), (77, .iaload, 1), (78, .iadd, 1), (79, .bipush 8, 2), (81, .irem, 1), (82, .putfield 34, 3), (85, .aload_n 0, 1), (86, .dup, 1), (87, .getfield 41, 3), (90, .iconst 1, 1), (91, .iadd, 1), (92, .putfield 41, 3), (95, .aload_n 0, 1), (96, .iconst 1, 1), (97, .aload_n 0, 1), (98, .getfield 31, 3), (101, .isub, 1), (102, .invokevirtual 44, 3), (105, .return_, 1)]
set_option maxRecDepth 100000 in
theorem d_87_ok : x_dchk 87 d_87 = true := by decide +kernel
/-- ngHill.Thing.goInside -/
def c_33 : xC := (87, [(18, ([(0, 1)], 0)), (11, ([(1, 1)], 0)), (0, ([(2, 1)], 0))], [], [], 3, [(8, 3, 7), (8, 9, 9)], 0, [(none, [], [])])
def n_33 : List xN := []
set_option maxRecDepth 100000 in
set_option maxHeartbeats 4000000 in
theorem h_33 (th : List Nat) (xs : Nat → Int32) (L J : Nat) : x_Holds x_tb th xs L J c_33 34 := x_ok (dm := 33) (cts := [c_24, c_18]) (D := d_87) (ns := n_33) (f := 60) d_87_ok (List.forall_mem_cons.mpr ⟨(h_24 th xs L J).mono (by omega), List.forall_mem_cons.mpr ⟨(h_18 th xs L J).mono (by omega), fun _ h => absurd h List.not_mem_nil⟩⟩) (by decide +kernel)
def d_88 : xD := [(0, .aload_n 0, 1), (1, .dup, 1), (2, .getfield 25, 3), (5, .aload_n 0, 1), (6, .getfield 19, 3), (9, .iconst 1, 1), (10, .if_icmp .ge 7, 3), (13, .iconst 0, 1), (14, .goto 16, 3), (17, .aload_n 1, 1), (18, .aload_n 0, 1), (19, .getfield 25, 3), (22, .invokevirtual 79, 3), (25, .aload_n 0, 1), (26, .getfield 19, 3), (29, .idiv, 1), (30, .iadd, 1), (31, .putfield 25, 3), (34, .aload_n 0, 1), (35, .getfield 25, 3), (38, .aload_n 1, 1), (39, .aload_n 0, 1), (40, .getfield 22, 3), (43, .invokevirtual 83, 3), (46, .if_icmp .lt 13, 3), (49, .aload_n 0, 1), (50, .iconst 3, 1), (51, .putfield 22, 3), (54, .aload_n 0, 1), (55, .iconst (-1), 1), (56, .putfield 25, 3), (59, .return_, 1)]
set_option maxRecDepth 100000 in
theorem d_88_ok : x_dchk 88 d_88 = true := by decide +kernel
/-- ngHill.Thing.beCarriedOut -/
def c_34 : xC := (88, [(18, ([(0, 1)], 0)), (11, ([(1, 1)], 0))], [], [], 2, [(8, 3, 4)], 0, [(none, [], [])])
def n_34 : List xN := []
set_option maxRecDepth 100000 in
set_option maxHeartbeats 4000000 in
theorem h_34 (th : List Nat) (xs : Nat → Int32) (L J : Nat) : x_Holds x_tb th xs L J c_34 35 := x_ok (dm := 34) (cts := [c_22, c_16]) (D := d_88) (ns := n_34) (f := 39) d_88_ok (List.forall_mem_cons.mpr ⟨(h_22 th xs L J).mono (by omega), List.forall_mem_cons.mpr ⟨(h_16 th xs L J).mono (by omega), fun _ h => absurd h List.not_mem_nil⟩⟩) (by decide +kernel)
def d_89 : xD := [(0, .aload_n 0, 1), (1, .getfield 19, 3), (4, .iconst 1, 1), (5, .if_icmp .ge 7, 3), (8, .iconst 0, 1), (9, .goto 16, 3), (12, .aload_n 1, 1), (13, .aload_n 0, 1), (14, .getfield 25, 3), (17, .invokevirtual 79, 3), (20, .aload_n 0, 1), (21, .getfield 19, 3), (24, .idiv, 1), (25, .istore_n 2, 1), (26, .aload_n 0, 1), (27, .getfield 25, 3), (30, .ifCond .le 18, 3), (33, .aload_n 0, 1), (34, .iconst 0, 1), (35, .aload_n 0, 1), (36, .getfield 25, 3), (39, .iload_n 2, 1), (40, .isub, 1), (41, .invokestatic 86, 3), (44, .putfield 25, 3), (47, .return_, 1), (48, .aload_n 1, 1), (49, .aload_n 0, 1), (50, .getfield 19, 3), (53, .invokevirtual 91, 3), (56, .istore_n 3, 1), (57, .iload_n 2, 1), (58, .iconst 1, 1), (59, .if_icmp .lt 13, 3), (62, .iload_n 3, 1), (63, .iconst (-1), 1), (64, .if_icmp .eq 8, 3), (67, .aload_n 0, 1), (68, .iload_n 3, 1), (69, .invokevirtual 94, 3), (72, .return_, 1)]
set_option maxRecDepth 100000 in
theorem d_89_ok : x_dchk 89 d_89 = true := by decide +kernel
/-- ngHill.Thing.beCarriedIn -/
def c_35 : xC := (89, [(18, ([(0, 1)], 0)), (11, ([(1, 1)], 0))], [], [], 2, [(8, 3, 6)], 0, [(none, [], [])])
def n_35 : List xN := []
set_option maxRecDepth 100000 in
set_option maxHeartbeats 4000000 in
theorem h_35 (th : List Nat) (xs : Nat → Int32) (L J : Nat) : x_Holds x_tb th xs L J c_35 36 := x_ok (dm := 35) (cts := [c_32, c_23, c_22]) (D := d_89) (ns := n_35) (f := 39) d_89_ok (List.forall_mem_cons.mpr ⟨(h_32 th xs L J).mono (by omega), List.forall_mem_cons.mpr ⟨(h_23 th xs L J).mono (by omega), List.forall_mem_cons.mpr ⟨(h_22 th xs L J).mono (by omega), fun _ h => absurd h List.not_mem_nil⟩⟩⟩) (by decide +kernel)
