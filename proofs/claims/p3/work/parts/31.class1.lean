def d_68 : xD := [(0, .iload_n 0, 1), (1, .ifCond .eq 8, 3), (4, .iload_n 0, 1), (5, .iconst 1, 1), (6, .if_icmp .ne 7, 3), (9, .iconst 1, 1), (10, .goto 4, 3), (13, .iconst 0, 1), (14, .ireturn, 1)]
set_option maxRecDepth 100000 in
theorem d_68_ok : x_dchk 68 d_68 = true := by decide +kernel
/-- reathingHill.isValley -/
def c_0 : xC := (68, [(0, ([(0, 1)], 0))], [], [], 1, [], 0, [(some (0, ([], 1)), [([(0, 1)], 0), ([(0, -1)], 1)], []), (some (0, ([], 0)), [], [])])
def n_0 : List xN := []
set_option maxRecDepth 100000 in
set_option maxHeartbeats 4000000 in
theorem h_0 (th : List Nat) (xs : Nat → Int32) (L J : Nat) : x_Holds x_tb th xs L J c_0 1 := x_ok (dm := 0) (cts := []) (D := d_68) (ns := n_0) (f := 17) d_68_ok (fun _ h => absurd h List.not_mem_nil) (by decide +kernel)
def d_65 : xD := [(0, .iload_n 0, 1), (1, .ifCond .lt 14, 3), (4, .iload_n 0, 1), (5, .sipush 1000, 3), (8, .if_icmp .ge 7, 3), (11, .iconst 1, 1), (12, .goto 4, 3), (15, .iconst 0, 1), (16, .ireturn, 1)]
set_option maxRecDepth 100000 in
theorem d_65_ok : x_dchk 65 d_65 = true := by decide +kernel
/-- reathingHill.isHour -/
def c_1 : xC := (65, [(0, ([(0, 1)], 0))], [], [], 1, [], 1, [(some (0, ([(1, 1)], 0)), [([(1, 1)], 0), ([(1, -1)], 1)], [])])
def n_1 : List xN := []
set_option maxRecDepth 100000 in
set_option maxHeartbeats 4000000 in
theorem h_1 (th : List Nat) (xs : Nat → Int32) (L J : Nat) : x_Holds x_tb th xs L J c_1 2 := x_ok (dm := 1) (cts := []) (D := d_65) (ns := n_1) (f := 17) d_65_ok (fun _ h => absurd h List.not_mem_nil) (by decide +kernel)
def d_122 : xD := [(0, .iload_n 0, 1), (1, .iload_n 0, 1), (2, .iconst 1, 1), (3, .iushr, 1), (4, .ldc_w 265, 3), (7, .iand, 1), (8, .isub, 1), (9, .istore_n 0, 1), (10, .iload_n 0, 1), (11, .ldc_w 266, 3), (14, .iand, 1), (15, .iload_n 0, 1), (16, .iconst 2, 1), (17, .iushr, 1), (18, .ldc_w 266, 3), (21, .iand, 1), (22, .iadd, 1), (23, .istore_n 0, 1), (24, .iload_n 0, 1), (25, .iload_n 0, 1), (26, .iconst 4, 1), (27, .iushr, 1), (28, .iadd, 1), (29, .ldc_w 267, 3), (32, .iand, 1), (33, .istore_n 0, 1), (34, .iload_n 0, 1), (35, .iload_n 0, 1), (36, .bipush 8, 2), (38, .iushr, 1), (39, .iadd, 1), (40, .istore_n 0, 1), (41, .iload_n 0, 1), (42, .iload_n 0, 1), (43, .bipush 16, 2), (45, .iushr, 1), (46, .iadd, 1), (47, .istore_n 0, 1), (48, .iload_n 0, 1), (49, .bipush 63, 2), (51, .iand, 1), (52, .ireturn, 1)]
set_option maxRecDepth 100000 in
theorem d_122_ok : x_dchk 122 d_122 = true := by decide +kernel
/-- lang/Integer.bitCount -/
def c_2 : xC := (122, [(0, ([(0, 1)], 0))], [], [], 1, [], 1, [(some (0, ([(1, 1)], 0)), [], [])])
def n_2 : List xN := []
set_option maxRecDepth 100000 in
set_option maxHeartbeats 4000000 in
theorem h_2 (th : List Nat) (xs : Nat → Int32) (L J : Nat) : x_Holds x_tb th xs L J c_2 3 := x_ok (dm := 2) (cts := []) (D := d_122) (ns := n_2) (f := 51) d_122_ok (fun _ h => absurd h List.not_mem_nil) (by decide +kernel)
def d_22 : xD := [(0, .iload_n 0, 1), (1, .bipush 32, 2), (3, .if_icmp .eq 9, 3), (6, .iload_n 0, 1), (7, .bipush 10, 2), (9, .if_icmp .ne 7, 3), (12, .iconst 1, 1), (13, .goto 4, 3), (16, .iconst 0, 1), (17, .ireturn, 1)]
set_option maxRecDepth 100000 in
theorem d_22_ok : x_dchk 22 d_22 = true := by decide +kernel
/-- ingHill.Tape.isBlank -/
def c_3 : xC := (22, [(0, ([(0, 1)], 0))], [], [], 1, [], 1, [(some (0, ([(1, 1)], 0)), [([(1, 1)], 0), ([(1, -1)], 1)], [])])
def n_3 : List xN := []
set_option maxRecDepth 100000 in
set_option maxHeartbeats 4000000 in
theorem h_3 (th : List Nat) (xs : Nat → Int32) (L J : Nat) : x_Holds x_tb th xs L J c_3 4 := x_ok (dm := 3) (cts := []) (D := d_22) (ns := n_3) (f := 18) d_22_ok (fun _ h => absurd h List.not_mem_nil) (by decide +kernel)
def d_23 : xD := [(0, .iload_n 0, 1), (1, .bipush 97, 2), (3, .if_icmp .lt 9, 3), (6, .iload_n 0, 1), (7, .bipush 122, 2), (9, .if_icmp .le 15, 3), (12, .iload_n 0, 1), (13, .bipush 48, 2), (15, .if_icmp .lt 13, 3), (18, .iload_n 0, 1), (19, .bipush 57, 2), (21, .if_icmp .gt 7, 3), (24, .iconst 1, 1), (25, .goto 4, 3), (28, .iconst 0, 1), (29, .ireturn, 1)]
set_option maxRecDepth 100000 in
theorem d_23_ok : x_dchk 23 d_23 = true := by decide +kernel
/-- ingHill.Tape.isLetterOrDigit -/
def c_4 : xC := (23, [(0, ([(0, 1)], 0))], [], [], 1, [], 1, [(some (0, ([(1, 1)], 0)), [([(1, 1)], 0), ([(1, -1)], 1)], [])])
def n_4 : List xN := []
set_option maxRecDepth 100000 in
set_option maxHeartbeats 4000000 in
theorem h_4 (th : List Nat) (xs : Nat → Int32) (L J : Nat) : x_Holds x_tb th xs L J c_4 5 := x_ok (dm := 4) (cts := []) (D := d_23) (ns := n_4) (f := 23) d_23_ok (fun _ h => absurd h List.not_mem_nil) (by decide +kernel)
def d_24 : xD := [(0, .iconst 0, 1), (1, .istore_n 3, 1), (2, .iload_n 3, 1), (3, .getstatic 75, 3), (6, .arraylength, 1), (7, .if_icmp .ge 34, 3), (10, .lload_n 0, 1), (11, .lconst 0, 1), (12, .lcmp, 1), (13, .ifCond .eq 28, 3), (16, .getstatic 75, 3), (19, .iload_n 3, 1), (20, .aaload, 1), (21, .getfield 79, 3), (24, .lload_n 0, 1), (25, .lcmp, 1), (26, .ifCond .ne 9, 3), (29, .getstatic 75, 3), (32, .iload_n 3, 1), (33, .aaload, 1), (34, .areturn, 1), (35, .iinc 3 1, 3), (38, .goto (-36), 3), (41, .aload_n 2, 1), (42, .areturn, 1)]
set_option maxRecDepth 100000 in
theorem d_24_ok : x_dchk 24 d_24 = true := by decide +kernel
/-- ingHill.Tape.tokenSpelt -/
def c_5 : xC := (24, [(1, ([], 0)), (3, ([], 0))], [], [], 0, [], 0, [(some (3, ([], 0)), [], [])])
def n_5 : List xN := [(2, [(3, (0, ([(0, 1)], 0))), (0, (1, ([], 0))), (2, (3, ([], 0)))], [], [([(0, 1)], 0), ([(0, -1)], 1000), ([(0, -1)], 1001)], 1, [([], 1), ([(0, -1)], 2147483647), ([], 5000000000), ([], 5000000000), ([], 5000000000)])]
set_option maxRecDepth 100000 in
set_option maxHeartbeats 4000000 in
theorem h_5 (th : List Nat) (xs : Nat → Int32) (L J : Nat) : x_Holds x_tb th xs L J c_5 6 := x_ok (dm := 5) (cts := []) (D := d_24) (ns := n_5) (f := 28) d_24_ok (fun _ h => absurd h List.not_mem_nil) (by decide +kernel)
def d_12 : xD := [(0, .aload_n 0, 1), (1, .getfield 15, 3), (4, .iload_n 1, 1), (5, .iadd, 1), (6, .aload_n 0, 1), (7, .getfield 9, 3), (10, .arraylength, 1), (11, .if_icmp .gt 7, 3), (14, .iconst 1, 1), (15, .goto 4, 3), (18, .iconst 0, 1), (19, .ireturn, 1)]
set_option maxRecDepth 100000 in
theorem d_12_ok : x_dchk 12 d_12 = true := by decide +kernel
/-- ingHill.Tape.hasRoomFor -/
def c_6 : xC := (12, [(17, ([(0, 1)], 0)), (0, ([(1, 1)], 0))], [], [], 2, [], 1, [(some (0, ([(2, 1)], 0)), [([(2, 1)], 0), ([(2, -1)], 1)], [])])
def n_6 : List xN := []
set_option maxRecDepth 100000 in
set_option maxHeartbeats 4000000 in
theorem h_6 (th : List Nat) (xs : Nat → Int32) (L J : Nat) : x_Holds x_tb th xs L J c_6 7 := x_ok (dm := 6) (cts := []) (D := d_12) (ns := n_6) (f := 20) d_12_ok (fun _ h => absurd h List.not_mem_nil) (by decide +kernel)
def d_13 : xD := [(0, .bipush 24, 2), (2, .istore_n 2, 1), (3, .iload_n 2, 1), (4, .ifCond .lt 44, 3), (7, .aload_n 0, 1), (8, .getfield 15, 3), (11, .aload_n 0, 1), (12, .getfield 9, 3), (15, .arraylength, 1), (16, .if_icmp .ge 32, 3), (19, .aload_n 0, 1), (20, .getfield 9, 3), (23, .aload_n 0, 1), (24, .getfield 15, 3), (27, .iload_n 1, 1), (28, .iload_n 2, 1), (29, .iushr, 1), (30, .i2b, 1), (31, .bastore, 1), (32, .aload_n 0, 1), (33, .dup, 1), (34, .getfield 15, 3), (37, .iconst 1, 1), (38, .iadd, 1), (39, .putfield 15, 3), (42, .iinc 2 (-8), 3), (45, .goto (-42), 3), (48, .return_, 1)]
set_option maxRecDepth 100000 in
theorem d_13_ok : x_dchk 13 d_13 = true := by decide +kernel
/-- ingHill.Tape.addNumber -/
def c_7 : xC := (13, [(17, ([(0, 1)], 0)), (0, ([(1, 1)], 0))], [], [], 2, [(7, 1, 1), (28, 0, 939)], 0, [(none, [], [])])
def n_7 : List xN := [(3, [(2, (0, ([(2, 1)], 0))), (0, (17, ([(0, 1)], 0))), (1, (0, ([(1, 1)], 0)))], [], [([(2, -1)], 24), ([(2, -1)], 1000), ([(2, -1)], 1001)], 3, [([], 1), ([(2, 1)], 2147483648), ([], 5000000000), ([], 5000000000), ([], 5000000000)])]
set_option maxRecDepth 100000 in
set_option maxHeartbeats 4000000 in
theorem h_7 (th : List Nat) (xs : Nat → Int32) (L J : Nat) : x_Holds x_tb th xs L J c_7 8 := x_ok (dm := 7) (cts := []) (D := d_13) (ns := n_7) (f := 35) d_13_ok (fun _ h => absurd h List.not_mem_nil) (by decide +kernel)
def d_15 : xD := [(0, .iload_n 1, 1), (1, .ifCond .lt 11, 3), (4, .iload_n 1, 1), (5, .aload_n 0, 1), (6, .getfield 15, 3), (9, .if_icmp .le 5, 3), (12, .iconst 0, 1), (13, .ireturn, 1), (14, .aload_n 0, 1), (15, .iload_n 1, 1), (16, .putfield 15, 3), (19, .iconst 1, 1), (20, .ireturn, 1)]
set_option maxRecDepth 100000 in
theorem d_15_ok : x_dchk 15 d_15 = true := by decide +kernel
/-- ingHill.Tape.cutTo -/
def c_8 : xC := (15, [(17, ([(0, 1)], 0)), (0, ([(1, 1)], 0))], [], [], 2, [(7, 1, 1)], 1, [(some (0, ([(2, 1)], 0)), [([(2, 1)], 0), ([(2, -1)], 1)], [])])
def n_8 : List xN := []
set_option maxRecDepth 100000 in
set_option maxHeartbeats 4000000 in
theorem h_8 (th : List Nat) (xs : Nat → Int32) (L J : Nat) : x_Holds x_tb th xs L J c_8 9 := x_ok (dm := 8) (cts := []) (D := d_15) (ns := n_8) (f := 20) d_15_ok (fun _ h => absurd h List.not_mem_nil) (by decide +kernel)
def d_113 : xD := [(0, .iload_n 1, 1), (1, .ifCond .lt 25, 3), (4, .iload_n 1, 1), (5, .aload_n 0, 1), (6, .getfield 9, 3), (9, .arraylength, 1), (10, .if_icmp .ge 16, 3), (13, .aload_n 0, 1), (14, .getfield 9, 3), (17, .iload_n 1, 1), (18, .baload, 1), (19, .sipush 255, 3), (22, .iand, 1), (23, .goto 4, 3), (26, .iconst 0, 1), (27, .ireturn, 1)]
set_option maxRecDepth 100000 in
theorem d_113_ok : x_dchk 113 d_113 = true := by decide +kernel
/-- ingHill.Tape.byteAt -/
def c_9 : xC := (113, [(17, ([(0, 1)], 0)), (0, ([(1, 1)], 0))], [], [], 2, [], 1, [(some (0, ([(2, 1)], 0)), [([(2, 1)], 0), ([(2, -1)], 255)], [])])
def n_9 : List xN := []
set_option maxRecDepth 100000 in
set_option maxHeartbeats 4000000 in
theorem h_9 (th : List Nat) (xs : Nat → Int32) (L J : Nat) : x_Holds x_tb th xs L J c_9 10 := x_ok (dm := 9) (cts := []) (D := d_113) (ns := n_9) (f := 24) d_113_ok (fun _ h => absurd h List.not_mem_nil) (by decide +kernel)
def d_27 : xD := [(0, .aload_n 0, 1), (1, .iload_n 1, 1), (2, .putfield 44, 3), (5, .aload_n 0, 1), (6, .aload_n 0, 1), (7, .getfield 34, 3), (10, .putfield 47, 3), (13, .iconst 0, 1), (14, .ireturn, 1)]
set_option maxRecDepth 100000 in
theorem d_27_ok : x_dchk 27 d_27 = true := by decide +kernel
/-- ingHill.Tape.refuse -/
def c_10 : xC := (27, [(17, ([(0, 1)], 0)), (0, ([(1, 1)], 0))], [], [], 2, [(7, 8, 9)], 1, [(some (0, ([(2, 1)], 0)), [([(2, 1)], 0), ([(2, -1)], 1)], [])])
def n_10 : List xN := []
set_option maxRecDepth 100000 in
set_option maxHeartbeats 4000000 in
theorem h_10 (th : List Nat) (xs : Nat → Int32) (L J : Nat) : x_Holds x_tb th xs L J c_10 11 := x_ok (dm := 10) (cts := []) (D := d_27) (ns := n_10) (f := 18) d_27_ok (fun _ h => absurd h List.not_mem_nil) (by decide +kernel)
def d_21 : xD := [(0, .aload_n 0, 1), (1, .getfield 22, 3), (4, .aload_n 0, 1), (5, .getfield 15, 3), (8, .if_icmp .ge 31, 3), (11, .aload_n 0, 1), (12, .getfield 9, 3), (15, .aload_n 0, 1), (16, .getfield 22, 3), (19, .baload, 1), (20, .invokestatic 53, 3), (23, .ifCond .eq 16, 3), (26, .aload_n 0, 1), (27, .dup, 1), (28, .getfield 22, 3), (31, .iconst 1, 1), (32, .iadd, 1), (33, .putfield 22, 3), (36, .goto (-36), 3), (39, .aload_n 0, 1), (40, .aload_n 0, 1), (41, .getfield 22, 3), (44, .putfield 34, 3), (47, .aload_n 0, 1), (48, .getfield 15, 3), (51, .aload_n 0, 1), (52, .getfield 19, 3), (55, .if_icmp .le 30, 3), (58, .aload_n 0, 1), (59, .getfield 22, 3), (62, .aload_n 0, 1), (63, .getfield 19, 3), (66, .if_icmp .lt 19, 3), (69, .aload_n 0, 1), (70, .aload_n 0, 1), (71, .getfield 19, 3), (74, .putfield 34, 3), (77, .aload_n 0, 1), (78, .getstatic 57, 3), (81, .putfield 31, 3), (84, .return_, 1), (85, .aload_n 0, 1), (86, .getfield 22, 3), (89, .aload_n 0, 1), (90, .getfield 15, 3), (93, .if_icmp .lt 11, 3), (96, .aload_n 0, 1), (97, .getstatic 25, 3), (100, .putfield 31, 3), (103, .return_, 1), (104, .iconst 0, 1), (105, .istore_n 1, 1), (106, .aload_n 0, 1), (107, .iconst 0, 1), (108, .putfield 37, 3), (111, .aload_n 0, 1), (112, .lconst 0, 1), (113, .putfield 40, 3), (116, .aload_n 0, 1), (117, .getfield 22, 3), (120, .aload_n 0, 1), (121, .getfield 15, 3), (124, .if_icmp .ge 100, 3), (127, .aload_n 0, 1), (128, .getfield 9, 3), (131, .aload_n 0, 1), (132, .getfield 22, 3), (135, .baload, 1), (136, .invokestatic 60, 3), (139, .ifCond .eq 85, 3), (142, .iload_n 1, 1), (143, .aload_n 0, 1), (144, .getfield 9, 3), (147, .aload_n 0, 1), (148, .getfield 22, 3), (151, .baload, 1), (152, .bipush 57, 2), (154, .if_icmp .gt 7, 3), (157, .iconst 1, 1), (158, .goto 4, 3), (161, .iconst 0, 1), (162, .iadd, 1), (163, .istore_n 1, 1), (164, .aload_n 0, 1), (165, .aload_n 0, 1), (166, .getfield 37, 3), (169, .bipush 10, 2), (171, .imul, 1), (172, .aload_n 0, 1), (173, .getfield 9, 3), (176, .aload_n 0, 1), (177, .getfield 22, 3), (180, .baload, 1), (181, .iadd, 1), (182, .bipush 48, 2), (184, .isub, 1), (185, .putfield 37, 3), (188, .aload_n 0, 1), (189, .aload_n 0, 1), (190, .getfield 40, 3), (193, .ldc2_w 63, 3), (196, .lmul, 1), (197, .aload_n 0, 1), (198, .getfield 9, 3), (201, .aload_n 0, 1), (202, .getfield 22, 3), (205, .baload, 1), (206, .i2l, 1), (207, .ladd, 1), (208, .putfield 40, 3), (211, .aload_n 0, 1), (212, .dup, 1), (213, .getfield 22, 3), (216, .iconst 1, 1), (217, .iadd, 1), (218, .putfield 22, 3), (221, .goto (-105), 3), (224, .aload_n 0, 1), (225, .getfield 22, 3), (228, .aload_n 0, 1), (229, .getfield 34, 3), (232, .isub, 1), (233, .istore_n 2, 1), (234, .iload_n 2, 1), (235, .ifCond .ne 36, 3), (238, .aload_n 0, 1), (239, .aload_n 0, 1), (240, .getfield 9, 3), (243, .aload_n 0, 1), (244, .getfield 22, 3), (247, .baload, 1), (248, .i2l, 1), (249, .getstatic 57, 3), (252, .invokestatic 65, 3), (255, .putfield 31, 3), (258, .aload_n 0, 1), (259, .dup, 1), (260, .getfield 22, 3), (263, .iconst 1, 1), (264, .iadd, 1), (265, .putfield 22, 3), (268, .goto 53, 3), (271, .iload_n 1, 1), (272, .ifCond .ne 26, 3), (275, .iload_n 2, 1), (276, .bipush 7, 2), (278, .if_icmp .gt 20, 3), (281, .aload_n 0, 1), (282, .aload_n 0, 1), (283, .getfield 40, 3), (286, .getstatic 69, 3), (289, .invokestatic 65, 3), (292, .putfield 31, 3), (295, .goto 26, 3), (298, .aload_n 0, 1), (299, .iload_n 1, 1), (300, .iload_n 2, 1), (301, .if_icmp .ne 14, 3), (304, .iload_n 2, 1), (305, .iconst 3, 1), (306, .if_icmp .gt 9, 3), (309, .getstatic 72, 3), (312, .goto 6, 3), (315, .getstatic 57, 3), (318, .putfield 31, 3), (321, .return_, 1)]
set_option maxRecDepth 100000 in
theorem d_21_ok : x_dchk 21 d_21 = true := by decide +kernel
/-- ingHill.Tape.readToken -/
def c_11 : xC := (21, [(17, ([(0, 1)], 0))], [], [], 1, [(7, 3, 7)], 0, [(none, [], [])])
def n_11 : List xN := [(0, [(0, (17, ([(0, 1)], 0)))], [(7, ([(0, 1)], 0), 1, (0, ([(1, 1)], 0))), (7, ([(0, 1)], 0), 3, (0, ([(2, 1)], 0)))], [([(1, 1)], 0), ([(1, -1)], 940), ([(2, 1)], 0), ([(2, -1)], 940)], 3, [([], 2), ([(2, -1)], 2147483647), ([], 5000000000), ([], 5000000000), ([], 5000000000)]), (116, [(1, (0, ([(1, 1)], 0))), (0, (17, ([(0, 1)], 0)))], [(7, ([(0, 1)], 0), 6, (0, ([(2, 1)], 0))), (7, ([(0, 1)], 0), 2, (0, ([(3, 1)], 0))), (7, ([(0, 1)], 0), 5, (0, ([(4, 1)], 0))), (7, ([(0, 1)], 0), 0, (38, ([(5, 1)], 0))), (7, ([(0, 1)], 0), 1, (0, ([(6, 1)], 0))), (7, ([(0, 1)], 0), 3, (0, ([(7, 1)], 0)))], [([(4, -1), (6, 1)], -1), ([(3, 1)], 2147483648), ([(3, -1)], 2147483647), ([(6, 1)], 0), ([(6, -1)], 940), ([(4, 1)], 0), ([(4, -1)], 940), ([(1, 1)], 0), ([(2, 1)], 2147483648), ([(2, -1)], 2147483647), ([(4, -1), (7, 1)], 0), ([(7, 1)], 0), ([(7, -1)], 940), ([(1, -1), (6, 1)], 0), ([(1, -1), (7, 1)], 0), ([(3, 1), (4, -1)], -1), ([(3, 1), (4, -1)], 0), ([(4, -1), (6, 1)], 0), ([(6, 1), (7, -1)], 0), ([(1, -1)], 1000), ([(1, -1)], 1001)], 8, [([], 1), ([(7, -1)], 2147483647), ([], 5000000000), ([], 5000000000), ([], 5000000000)])]
set_option maxRecDepth 100000 in
set_option maxHeartbeats 4000000 in
theorem h_11 (th : List Nat) (xs : Nat → Int32) (L J : Nat) : x_Holds x_tb th xs L J c_11 12 := x_ok (dm := 11) (cts := [c_5, c_4, c_3]) (D := d_21) (ns := n_11) (f := 68) d_21_ok (List.forall_mem_cons.mpr ⟨(h_5 th xs L J).mono (by omega), List.forall_mem_cons.mpr ⟨(h_4 th xs L J).mono (by omega), List.forall_mem_cons.mpr ⟨(h_3 th xs L J).mono (by omega), fun _ h => absurd h List.not_mem_nil⟩⟩⟩) (by decide +kernel)
