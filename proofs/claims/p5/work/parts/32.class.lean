def d_86 : xD := [(0, .aload_n 0, 1), (1, .getfield 22, 3), (4, .iconst 3, 1), (5, .if_icmp .eq 10, 3), (8, .aload_n 0, 1), (9, .getfield 37, 3), (12, .ifCond .eq 4, 3), (15, .return_, 1), (16, .aload_n 1, 1), (17, .aload_n 0, 1), (18, .getfield 22, 3), (21, .iconst 2, 1), (22, .if_icmp .ne 10, 3), (25, .aload_n 0, 1), (26, .getfield 31, 3), (29, .goto 7, 3), (32, .aload_n 0, 1), (33, .getfield 22, 3), (36, .iload_n 2, 1), (37, .invokevirtual 52, 3), (40, .istore_n 3, 1), (41, .iload_n 3, 1), (42, .ifCond .ne 4, 3), (45, .return_, 1), (46, .aload_n 0, 1), (47, .getfield 22, 3), (50, .iconst 2, 1), (51, .if_icmp .ne 12, 3), (54, .aload_n 0, 1), (55, .aload_n 1, 1), (56, .iload_n 3, 1), (57, .invokevirtual 58, 3), (60, .goto 21, 3), (63, .iload_n 3, 1), (64, .iconst 2, 1), (65, .if_icmp .ne 11, 3), (68, .aload_n 0, 1), (69, .aload_n 1, 1), (70, .invokevirtual 62, 3), (73, .goto 8, 3), (76, .aload_n 0, 1), (77, .aload_n 1, 1), (78, .invokevirtual 66, 3), (81, .return_, 1)]
set_option maxRecDepth 100000 in
theorem d_86_ok : x_dchk 86 d_86 = true := by decide +kernel
/-- ngHill.Thing.passHour -/
def c_36 : xC := (86, [(18, ([(0, 1)], 0)), (11, ([(1, 1)], 0)), (0, ([(2, 1)], 0))], [], [], 3, [(8, 3, 7), (8, 9, 9)], 0, [(none, [], [])])
def n_36 : List xN := []
set_option maxRecDepth 100000 in
set_option maxHeartbeats 4000000 in
theorem h_36 (th : List Nat) (xs : Nat → Int32) (L J : Nat) : x_Holds x_tb th xs L J c_36 37 := x_ok (dm := 36) (cts := [c_35, c_34, c_33, c_21]) (D := d_86) (ns := n_36) (f := 40) d_86_ok (List.forall_mem_cons.mpr ⟨(h_35 th xs L J).mono (by omega), List.forall_mem_cons.mpr ⟨(h_34 th xs L J).mono (by omega), List.forall_mem_cons.mpr ⟨(h_33 th xs L J).mono (by omega), List.forall_mem_cons.mpr ⟨(h_21 th xs L J).mono (by omega), fun _ h => absurd h List.not_mem_nil⟩⟩⟩⟩) (by decide +kernel)
def d_50 : xD := [(0, .aload_n 0, 1), (1, .aload_n 1, 1), (2, .getfield 9, 3), (5, .putfield 9, 3), (8, .aload_n 0, 1), (9, .aload_n 1, 1), (10, .getfield 15, 3), (13, .putfield 15, 3), (16, .aload_n 0, 1), (17, .aload_n 1, 1), (18, .getfield 19, 3), (21, .putfield 19, 3), (24, .aload_n 0, 1), (25, .aload_n 1, 1), (26, .getfield 22, 3), (29, .putfield 22, 3), (32, .return_, 1)]
set_option maxRecDepth 100000 in
theorem d_50_ok : x_dchk 50 d_50 = true := by decide +kernel
/-- ingHill.Mill.copyFrom -/
def c_37 : xC := (50, [(15, ([(0, 1)], 0)), (15, ([(1, 1)], 0))], [], [], 2, [(5, 0, 3)], 0, [(none, [], [])])
def n_37 : List xN := []
set_option maxRecDepth 100000 in
set_option maxHeartbeats 4000000 in
theorem h_37 (th : List Nat) (xs : Nat → Int32) (L J : Nat) : x_Holds x_tb th xs L J c_37 38 := x_ok (dm := 37) (cts := []) (D := d_50) (ns := n_37) (f := 26) d_50_ok (fun _ h => absurd h List.not_mem_nil) (by decide +kernel)
def d_92 : xD := [(0, .aload_n 1, 1), (1, .aload_n 0, 1), (2, .getfield 15, 3), (5, .iload_n 2, 1), (6, .invokevirtual 25, 3), (9, .ifCond .eq 25, 3), (12, .aload_n 1, 1), (13, .aload_n 0, 1), (14, .getfield 19, 3), (17, .invokevirtual 31, 3), (20, .iconst 1, 1), (21, .if_icmp .lt 13, 3), (24, .aload_n 0, 1), (25, .dup, 1), (26, .getfield 22, 3), (29, .iconst 1, 1), (30, .iadd, 1), (31, .putfield 22, 3), (34, .return_, 1)]
set_option maxRecDepth 100000 in
theorem d_92_ok : x_dchk 92 d_92 = true := by decide +kernel
/-- ingHill.Mill.passHour -/
def c_38 : xC := (92, [(15, ([(0, 1)], 0)), (11, ([(1, 1)], 0)), (0, ([(2, 1)], 0))], [], [], 3, [(5, 3, 3)], 0, [(none, [], [])])
def n_38 : List xN := []
set_option maxRecDepth 100000 in
set_option maxHeartbeats 4000000 in
theorem h_38 (th : List Nat) (xs : Nat → Int32) (L J : Nat) : x_Holds x_tb th xs L J c_38 39 := x_ok (dm := 38) (cts := [c_22, c_21]) (D := d_92) (ns := n_38) (f := 28) d_92_ok (List.forall_mem_cons.mpr ⟨(h_22 th xs L J).mono (by omega), List.forall_mem_cons.mpr ⟨(h_21 th xs L J).mono (by omega), fun _ h => absurd h List.not_mem_nil⟩⟩) (by decide +kernel)
def d_51 : xD := [(0, .aload_n 0, 1), (1, .aload_n 1, 1), (2, .getfield 9, 3), (5, .putfield 9, 3), (8, .aload_n 0, 1), (9, .aload_n 1, 1), (10, .getfield 15, 3), (13, .putfield 15, 3), (16, .aload_n 0, 1), (17, .aload_n 1, 1), (18, .getfield 19, 3), (21, .putfield 19, 3), (24, .aload_n 0, 1), (25, .aload_n 1, 1), (26, .getfield 22, 3), (29, .putfield 22, 3), (32, .return_, 1)]
set_option maxRecDepth 100000 in
theorem d_51_ok : x_dchk 51 d_51 = true := by decide +kernel
/-- hingHill.Man.copyFrom -/
def c_39 : xC := (51, [(14, ([(0, 1)], 0)), (14, ([(1, 1)], 0))], [], [], 2, [(4, 0, 3)], 0, [(none, [], [])])
def n_39 : List xN := []
set_option maxRecDepth 100000 in
set_option maxHeartbeats 4000000 in
theorem h_39 (th : List Nat) (xs : Nat → Int32) (L J : Nat) : x_Holds x_tb th xs L J c_39 40 := x_ok (dm := 39) (cts := []) (D := d_51) (ns := n_39) (f := 26) d_51_ok (fun _ h => absurd h List.not_mem_nil) (by decide +kernel)
def d_83 : xD := [(0, .aload_n 1, 1), (1, .aload_n 0, 1), (2, .getfield 15, 3), (5, .iload 4, 2), (7, .invokevirtual 29, 3), (10, .istore 5, 2), (12, .iload_n 3, 1), (13, .iload_n 2, 1), (14, .if_icmp .le 7, 3), (17, .iconst 2, 1), (18, .goto 4, 3), (21, .iconst 1, 1), (22, .istore 6, 2), (24, .iconst 1, 1), (25, .istore 7, 2), (27, .iload 5, 2), (29, .iload 6, 2), (31, .if_icmp .ne 18, 3), (34, .iconst 2, 1), (35, .iload_n 3, 1), (36, .iload_n 2, 1), (37, .isub, 1), (38, .invokestatic 35, 3), (41, .invokestatic 41, 3), (44, .istore 7, 2), (46, .goto 20, 3), (49, .iload 5, 2), (51, .ifCond .eq 15, 3), (54, .aload_n 1, 1), (55, .iload_n 2, 1), (56, .invokevirtual 44, 3), (59, .iconst 4, 1), (60, .if_icmp .lt 6, 3), (63, .iconst 0, 1), (64, .istore 7, 2), (66, .iload 6, 2), (68, .iconst 2, 1), (69, .if_icmp .ne 10, 3), (72, .iload_n 2, 1), (73, .iload 7, 2), (75, .iadd, 1), (76, .goto 7, 3), (79, .iload_n 2, 1), (80, .iload 7, 2), (82, .isub, 1), (83, .ireturn, 1)]
set_option maxRecDepth 100000 in
theorem d_83_ok : x_dchk 83 d_83 = true := by decide +kernel
/-- hingHill.Man.cellAfter -/
def c_40 : xC := (83, [(14, ([(0, 1)], 0)), (11, ([(1, 1)], 0)), (0, ([(2, 1)], 0)), (0, ([(3, 1)], 0)), (0, ([(4, 1)], 0))], [], [], 5, [], 1, [(some (0, ([(5, 1)], 0)), [], [])])
def n_40 : List xN := []
set_option maxRecDepth 100000 in
set_option maxHeartbeats 4000000 in
theorem h_40 (th : List Nat) (xs : Nat → Int32) (L J : Nat) : x_Holds x_tb th xs L J c_40 41 := x_ok (dm := 40) (cts := [c_22, c_21]) (D := d_83) (ns := n_40) (f := 43) d_83_ok (List.forall_mem_cons.mpr ⟨(h_22 th xs L J).mono (by omega), List.forall_mem_cons.mpr ⟨(h_21 th xs L J).mono (by omega), fun _ h => absurd h List.not_mem_nil⟩⟩) (by decide +kernel)
def d_84 : xD := [(0, .aload_n 0, 1), (1, .aload_n 0, 1), (2, .aload_n 1, 1), (3, .aload_n 0, 1), (4, .getfield 19, 3), (7, .iload_n 2, 1), (8, .iload_n 3, 1), (9, .invokevirtual 25, 3), (12, .putfield 19, 3), (15, .aload_n 0, 1), (16, .dup, 1), (17, .getfield 22, 3), (20, .iconst 1, 1), (21, .iadd, 1), (22, .putfield 22, 3), (25, .return_, 1)]
set_option maxRecDepth 100000 in
theorem d_84_ok : x_dchk 84 d_84 = true := by decide +kernel
/-- hingHill.Man.walkOneHour -/
def c_41 : xC := (84, [(14, ([(0, 1)], 0)), (11, ([(1, 1)], 0)), (0, ([(2, 1)], 0)), (0, ([(3, 1)], 0))], [], [], 4, [(4, 2, 3)], 0, [(none, [], [])])
def n_41 : List xN := []
set_option maxRecDepth 100000 in
set_option maxHeartbeats 4000000 in
theorem h_41 (th : List Nat) (xs : Nat → Int32) (L J : Nat) : x_Holds x_tb th xs L J c_41 42 := x_ok (dm := 41) (cts := [c_40]) (D := d_84) (ns := n_41) (f := 25) d_84_ok (List.forall_mem_cons.mpr ⟨(h_40 th xs L J).mono (by omega), fun _ h => absurd h List.not_mem_nil⟩) (by decide +kernel)
def d_82 : xD := [(0, .aload_n 0, 1), (1, .getfield 19, 3), (4, .istore 4, 2), (6, .iload_n 3, 1), (7, .istore 5, 2), (9, .iload 5, 2), (11, .sipush 1000, 3), (14, .if_icmp .gt 32, 3), (17, .iload 4, 2), (19, .iload_n 2, 1), (20, .if_icmp .ne 8, 3), (23, .iload 5, 2), (25, .iload_n 3, 1), (26, .isub, 1), (27, .ireturn, 1), (28, .aload_n 0, 1), (29, .aload_n 1, 1), (30, .iload 4, 2), (32, .iload_n 2, 1), (33, .iload 5, 2), (35, .invokevirtual 25, 3), (38, .istore 4, 2), (40, .iinc 5 1, 3), (43, .goto (-34), 3), (46, .iconst (-1), 1), (47, .ireturn, 1)]
set_option maxRecDepth 100000 in
theorem d_82_ok : x_dchk 82 d_82 = true := by decide +kernel
/-- hingHill.Man.hoursTo -/
def c_42 : xC := (82, [(14, ([(0, 1)], 0)), (11, ([(1, 1)], 0)), (0, ([(2, 1)], 0)), (0, ([(3, 1)], 0))], [], [], 4, [], 1, [(some (0, ([(4, 1)], 0)), [], [])])
def n_42 : List xN := [(9, [(5, (0, ([(4, 1)], 0))), (4, (0, ([(5, 1)], 0))), (0, (14, ([(0, 1)], 0))), (1, (11, ([(1, 1)], 0))), (2, (0, ([(2, 1)], 0))), (3, (0, ([(3, 1)], 0)))], [(4, ([(0, 1)], 0), 2, (0, ([(6, 1)], 0)))], [([(6, 1)], 2147483648), ([(6, -1)], 2147483647), ([(3, -1), (4, 1)], 0)], 7, [([], 1), ([(4, -1)], 2147483647), ([], 5000000000), ([], 5000000000), ([], 5000000000)])]
set_option maxRecDepth 100000 in
set_option maxHeartbeats 4000000 in
theorem h_42 (th : List Nat) (xs : Nat → Int32) (L J : Nat) : x_Holds x_tb th xs L J c_42 43 := x_ok (dm := 42) (cts := [c_40]) (D := d_82) (ns := n_42) (f := 25) d_82_ok (List.forall_mem_cons.mpr ⟨(h_40 th xs L J).mono (by omega), fun _ h => absurd h List.not_mem_nil⟩) (by decide +kernel)
def d_18 : xD := [(0, .aload_n 0, 1), (1, .getfield 12, 3), (4, .invokevirtual 52, 3), (7, .aload_n 0, 1), (8, .iconst 0, 1), (9, .putfield 36, 3), (12, .aload_n 0, 1), (13, .iconst 0, 1), (14, .putfield 40, 3), (17, .aload_n 0, 1), (18, .iconst 0, 1), (19, .putfield 43, 3), (22, .aload_n 0, 1), (23, .iconst 0, 1), (24, .putfield 46, 3), (27, .return_, 1)]
set_option maxRecDepth 100000 in
theorem d_18_ok : x_dchk 18 d_18 = true := by decide +kernel
/-- ingHill.Hill.makeEmpty -/
def c_43 : xC := (18, [(10, ([(0, 1)], 0))], [], [], 1, [(0, 4, 7), (1, 2, 5), (14, 0, 1), (15, 0, 3)], 0, [(none, [], [])])
def n_43 : List xN := []
set_option maxRecDepth 100000 in
set_option maxHeartbeats 4000000 in
theorem h_43 (th : List Nat) (xs : Nat → Int32) (L J : Nat) : x_Holds x_tb th xs L J c_43 44 := x_ok (dm := 43) (cts := [c_14]) (D := d_18) (ns := n_43) (f := 25) d_18_ok (List.forall_mem_cons.mpr ⟨(h_14 th xs L J).mono (by omega), fun _ h => absurd h List.not_mem_nil⟩) (by decide +kernel)
def d_47 : xD := [(0, .aload_n 0, 1), (1, .getfield 12, 3), (4, .aload_n 1, 1), (5, .getfield 12, 3), (8, .invokevirtual 55, 3), (11, .aload_n 0, 1), (12, .aload_n 1, 1), (13, .getfield 36, 3), (16, .putfield 36, 3), (19, .aload_n 0, 1), (20, .aload_n 1, 1), (21, .getfield 40, 3), (24, .putfield 40, 3), (27, .aload_n 0, 1), (28, .aload_n 1, 1), (29, .getfield 43, 3), (32, .putfield 43, 3), (35, .aload_n 0, 1), (36, .aload_n 1, 1), (37, .getfield 46, 3), (40, .putfield 46, 3), (43, .iconst 0, 1), (44, .istore_n 2, 1), (45, .iload_n 2, 1), (46, .aload_n 0, 1), (47, .getfield 36, 3), (50, .if_icmp .ge 24, 3), (53, .aload_n 0, 1), (54, .getfield 20, 3), (57, .iload_n 2, 1), (58, .aaload, 1), (59, .aload_n 1, 1), (60, .getfield 20, 3), (63, .iload_n 2, 1), (64, .aaload, 1), (65, .invokevirtual 59, 3), (68, .iinc 2 1, 3), (71, .goto (-26), 3), (74, .iconst 0, 1), (75, .istore_n 2, 1), (76, .iload_n 2, 1), (77, .aload_n 0, 1), (78, .getfield 40, 3), (81, .if_icmp .ge 24, 3), (84, .aload_n 0, 1), (85, .getfield 26, 3), (88, .iload_n 2, 1), (89, .aaload, 1), (90, .aload_n 1, 1), (91, .getfield 26, 3), (94, .iload_n 2, 1), (95, .aaload, 1), (96, .invokevirtual 62, 3), (99, .iinc 2 1, 3), (102, .goto (-26), 3), (105, .iconst 0, 1), (106, .istore_n 2, 1), (107, .iload_n 2, 1), (108, .aload_n 0, 1), (109, .getfield 43, 3), (112, .if_icmp .ge 24, 3), (115, .aload_n 0, 1), (116, .getfield 32, 3), (119, .iload_n 2, 1), (120, .aaload, 1), (121, .aload_n 1, 1), (122, .getfield 32, 3), (125, .iload_n 2, 1), (126, .aaload, 1), (127, .invokevirtual 65, 3), (130, .iinc 2 1, 3), (133, .goto (-26), 3), (136, .return_, 1)]
set_option maxRecDepth 100000 in
theorem d_47_ok : x_dchk 47 d_47 = true := by decide +kernel
/-- ingHill.Hill.copyFrom -/
def c_44 : xC := (47, [(10, ([(0, 1)], 0)), (10, ([(1, 1)], 0))], [], [], 2, [(0, 4, 7), (1, 2, 5), (4, 0, 3), (5, 0, 3), (8, 0, 9), (14, 0, 1), (15, 0, 3), (16, 0, 3), (17, 0, 3), (18, 0, 3)], 0, [(none, [], [])])
def n_44 : List xN := [(45, [(2, (0, ([(2, 1)], 0))), (0, (10, ([(0, 1)], 0))), (1, (10, ([(1, 1)], 0)))], [(0, ([(0, 1)], 0), 7, (0, ([(3, 1)], 0))), (0, ([(0, 1)], 0), 6, (0, ([(4, 1)], 0))), (0, ([(0, 1)], 0), 5, (0, ([(5, 1)], 0))), (0, ([(0, 1)], 0), 4, (0, ([(6, 1)], 0))), (0, ([(1, 1)], 0), 0, (11, ([(7, 1)], 0))), (0, ([(0, 1)], 0), 0, (11, ([(8, 1)], 0)))], [([(3, 1)], 2147483648), ([(3, -1)], 2147483647), ([(4, 1)], 0), ([(4, -1)], 4), ([(5, 1)], 0), ([(5, -1)], 4), ([(6, 1)], 0), ([(6, -1)], 8), ([(2, 1)], 0), ([(2, -1), (6, 1)], 0), ([(2, -1)], 8), ([(2, -1)], 20), ([(2, -1)], 40), ([(2, -1)], 61), ([(2, -1)], 255), ([(2, -1)], 1000), ([(2, -1)], 1001)], 9, [([], 3), ([(2, -1)], 2147483647), ([], 5000000000), ([], 5000000000), ([], 5000000000)]), (76, [(2, (0, ([(2, 1)], 0))), (0, (10, ([(0, 1)], 0))), (1, (10, ([(1, 1)], 0)))], [(0, ([(0, 1)], 0), 7, (0, ([(3, 1)], 0))), (0, ([(0, 1)], 0), 6, (0, ([(4, 1)], 0))), (0, ([(0, 1)], 0), 5, (0, ([(5, 1)], 0))), (0, ([(0, 1)], 0), 4, (0, ([(6, 1)], 0))), (0, ([(1, 1)], 0), 0, (11, ([(7, 1)], 0))), (0, ([(0, 1)], 0), 0, (11, ([(8, 1)], 0)))], [([(3, 1)], 2147483648), ([(3, -1)], 2147483647), ([(4, 1)], 0), ([(4, -1)], 4), ([(5, 1)], 0), ([(5, -1)], 4), ([(6, 1)], 0), ([(6, -1)], 8), ([(2, 1)], 0), ([(2, -1), (5, 1)], 0), ([(2, -1)], 7), ([(2, -1)], 8), ([(2, -1)], 20), ([(2, -1)], 40), ([(2, -1)], 61), ([(2, -1)], 255), ([(2, -1)], 1000), ([(2, -1)], 1001)], 9, [([], 2), ([(2, -1)], 2147483647), ([], 5000000000), ([], 5000000000), ([], 5000000000)]), (107, [(2, (0, ([(2, 1)], 0))), (0, (10, ([(0, 1)], 0))), (1, (10, ([(1, 1)], 0)))], [(0, ([(0, 1)], 0), 7, (0, ([(3, 1)], 0))), (0, ([(0, 1)], 0), 6, (0, ([(4, 1)], 0))), (0, ([(0, 1)], 0), 5, (0, ([(5, 1)], 0))), (0, ([(0, 1)], 0), 4, (0, ([(6, 1)], 0))), (0, ([(1, 1)], 0), 0, (11, ([(7, 1)], 0))), (0, ([(0, 1)], 0), 0, (11, ([(8, 1)], 0)))], [([(3, 1)], 2147483648), ([(3, -1)], 2147483647), ([(4, 1)], 0), ([(4, -1)], 4), ([(5, 1)], 0), ([(5, -1)], 4), ([(6, 1)], 0), ([(6, -1)], 8), ([(2, 1)], 0), ([(2, -1), (4, 1)], 0), ([(2, -1)], 7), ([(2, -1)], 8), ([(2, -1)], 20), ([(2, -1)], 40), ([(2, -1)], 61), ([(2, -1)], 255), ([(2, -1)], 1000), ([(2, -1)], 1001)], 9, [([], 1), ([(2, -1)], 2147483647), ([], 5000000000), ([], 5000000000), ([], 5000000000)])]
set_option maxRecDepth 100000 in
set_option maxHeartbeats 4000000 in
theorem h_44 (th : List Nat) (xs : Nat → Int32) (L J : Nat) : x_Holds x_tb th xs L J c_44 45 := x_ok (dm := 44) (cts := [c_39, c_37, c_26, c_15]) (D := d_47) (ns := n_44) (f := 33) d_47_ok (List.forall_mem_cons.mpr ⟨(h_39 th xs L J).mono (by omega), List.forall_mem_cons.mpr ⟨(h_37 th xs L J).mono (by omega), List.forall_mem_cons.mpr ⟨(h_26 th xs L J).mono (by omega), List.forall_mem_cons.mpr ⟨(h_15 th xs L J).mono (by omega), fun _ h => absurd h List.not_mem_nil⟩⟩⟩⟩) (by decide +kernel)
def d_74 : xD := [(0, .iload_n 1, 1), (1, .ifCond .lt 15, 3), (4, .iload_n 1, 1), (5, .aload_n 0, 1), (6, .getfield 36, 3), (9, .if_icmp .ge 7, 3), (12, .iconst 1, 1), (13, .goto 4, 3), (16, .iconst 0, 1), (17, .ireturn, 1)]
set_option maxRecDepth 100000 in
theorem d_74_ok : x_dchk 74 d_74 = true := by decide +kernel
/-- ingHill.Hill.hasThing -/
def c_45 : xC := (74, [(10, ([(0, 1)], 0)), (0, ([(1, 1)], 0))], [], [], 2, [], 0, [(some (0, ([], 1)), [([(1, 1)], 0), ([(1, -1)], 7)], []), (some (0, ([], 0)), [], [])])
def n_45 : List xN := []
set_option maxRecDepth 100000 in
set_option maxHeartbeats 4000000 in
theorem h_45 (th : List Nat) (xs : Nat → Int32) (L J : Nat) : x_Holds x_tb th xs L J c_45 46 := x_ok (dm := 45) (cts := []) (D := d_74) (ns := n_45) (f := 18) d_74_ok (fun _ h => absurd h List.not_mem_nil) (by decide +kernel)
def d_55 : xD := [(0, .iload_n 1, 1), (1, .ifCond .lt 15, 3), (4, .iload_n 1, 1), (5, .aload_n 0, 1), (6, .getfield 40, 3), (9, .if_icmp .ge 7, 3), (12, .iconst 1, 1), (13, .goto 4, 3), (16, .iconst 0, 1), (17, .ireturn, 1)]
set_option maxRecDepth 100000 in
theorem d_55_ok : x_dchk 55 d_55 = true := by decide +kernel
/-- ingHill.Hill.hasMill -/
def c_46 : xC := (55, [(10, ([(0, 1)], 0)), (0, ([(1, 1)], 0))], [], [], 2, [], 0, [(some (0, ([], 1)), [([(1, 1)], 0), ([(1, -1)], 3)], []), (some (0, ([], 0)), [], [])])
def n_46 : List xN := []
set_option maxRecDepth 100000 in
set_option maxHeartbeats 4000000 in
theorem h_46 (th : List Nat) (xs : Nat → Int32) (L J : Nat) : x_Holds x_tb th xs L J c_46 47 := x_ok (dm := 46) (cts := []) (D := d_55) (ns := n_46) (f := 18) d_55_ok (fun _ h => absurd h List.not_mem_nil) (by decide +kernel)
def d_57 : xD := [(0, .iload_n 1, 1), (1, .ifCond .lt 15, 3), (4, .iload_n 1, 1), (5, .aload_n 0, 1), (6, .getfield 43, 3), (9, .if_icmp .ge 7, 3), (12, .iconst 1, 1), (13, .goto 4, 3), (16, .iconst 0, 1), (17, .ireturn, 1)]
set_option maxRecDepth 100000 in
theorem d_57_ok : x_dchk 57 d_57 = true := by decide +kernel
/-- ingHill.Hill.hasMan -/
def c_47 : xC := (57, [(10, ([(0, 1)], 0)), (0, ([(1, 1)], 0))], [], [], 2, [], 0, [(some (0, ([], 1)), [([(1, 1)], 0), ([(1, -1)], 3)], []), (some (0, ([], 0)), [], [])])
def n_47 : List xN := []
set_option maxRecDepth 100000 in
set_option maxHeartbeats 4000000 in
theorem h_47 (th : List Nat) (xs : Nat → Int32) (L J : Nat) : x_Holds x_tb th xs L J c_47 48 := x_ok (dm := 47) (cts := []) (D := d_57) (ns := n_47) (f := 18) d_57_ok (fun _ h => absurd h List.not_mem_nil) (by decide +kernel)
def d_80 : xD := [(0, .aload_n 0, 1), (1, .iload_n 1, 1), (2, .invokevirtual 68, 3), (5, .ifCond .eq 27, 3), (8, .aload_n 0, 1), (9, .getfield 12, 3), (12, .aload_n 0, 1), (13, .getfield 32, 3), (16, .iload_n 1, 1), (17, .aaload, 1), (18, .getfield 72, 3), (21, .iload_n 2, 1), (22, .invokevirtual 75, 3), (25, .ifCond .eq 7, 3), (28, .iconst 1, 1), (29, .goto 4, 3), (32, .iconst 0, 1), (33, .ireturn, 1)]
set_option maxRecDepth 100000 in
theorem d_80_ok : x_dchk 80 d_80 = true := by decide +kernel
/-- ingHill.Hill.canName -/
def c_48 : xC := (80, [(10, ([(0, 1)], 0)), (0, ([(1, 1)], 0)), (0, ([(2, 1)], 0))], [], [], 3, [], 0, [(some (0, ([], 1)), [([(1, 1)], 0), ([(1, -1)], 3)], []), (some (0, ([], 0)), [], [])])
def n_48 : List xN := []
set_option maxRecDepth 100000 in
set_option maxHeartbeats 4000000 in
theorem h_48 (th : List Nat) (xs : Nat → Int32) (L J : Nat) : x_Holds x_tb th xs L J c_48 49 := x_ok (dm := 48) (cts := [c_47, c_17]) (D := d_80) (ns := n_48) (f := 26) d_80_ok (List.forall_mem_cons.mpr ⟨(h_47 th xs L J).mono (by omega), List.forall_mem_cons.mpr ⟨(h_17 th xs L J).mono (by omega), fun _ h => absurd h List.not_mem_nil⟩⟩) (by decide +kernel)
def d_32 : xD := [(0, .iconst 0, 1), (1, .istore_n 3, 1), (2, .iload_n 3, 1), (3, .aload_n 0, 1), (4, .getfield 36, 3), (7, .if_icmp .ge 25, 3), (10, .aload_n 0, 1), (11, .getfield 20, 3), (14, .iload_n 3, 1), (15, .aaload, 1), (16, .getfield 79, 3), (19, .lload_n 1, 1), (20, .lcmp, 1), (21, .ifCond .ne 5, 3), (24, .iload_n 3, 1), (25, .ireturn, 1), (26, .iinc 3 1, 3), (29, .goto (-27), 3), (32, .iconst (-1), 1), (33, .ireturn, 1)]
set_option maxRecDepth 100000 in
theorem d_32_ok : x_dchk 32 d_32 = true := by decide +kernel
/-- ingHill.Hill.thingNamed -/
def c_49 : xC := (32, [(10, ([(0, 1)], 0)), (1, ([], 0))], [], [], 1, [], 1, [(some (0, ([(1, 1)], 0)), [], [])])
def n_49 : List xN := [(2, [(3, (0, ([(1, 1)], 0))), (0, (10, ([(0, 1)], 0))), (1, (1, ([], 0)))], [], [([(1, 1)], 0), ([(1, -1)], 8), ([(1, -1)], 20), ([(1, -1)], 40), ([(1, -1)], 61), ([(1, -1)], 255), ([(1, -1)], 1000), ([(1, -1)], 1001)], 2, [([], 1), ([(1, -1)], 2147483647), ([], 5000000000), ([], 5000000000), ([], 5000000000)])]
set_option maxRecDepth 100000 in
set_option maxHeartbeats 4000000 in
theorem h_49 (th : List Nat) (xs : Nat → Int32) (L J : Nat) : x_Holds x_tb th xs L J c_49 50 := x_ok (dm := 49) (cts := []) (D := d_32) (ns := n_49) (f := 24) d_32_ok (fun _ h => absurd h List.not_mem_nil) (by decide +kernel)
def d_33 : xD := [(0, .iconst 0, 1), (1, .istore_n 3, 1), (2, .iload_n 3, 1), (3, .aload_n 0, 1), (4, .getfield 43, 3), (7, .if_icmp .ge 25, 3), (10, .aload_n 0, 1), (11, .getfield 32, 3), (14, .iload_n 3, 1), (15, .aaload, 1), (16, .getfield 83, 3), (19, .lload_n 1, 1), (20, .lcmp, 1), (21, .ifCond .ne 5, 3), (24, .iload_n 3, 1), (25, .ireturn, 1), (26, .iinc 3 1, 3), (29, .goto (-27), 3), (32, .iconst (-1), 1), (33, .ireturn, 1)]
set_option maxRecDepth 100000 in
theorem d_33_ok : x_dchk 33 d_33 = true := by decide +kernel
/-- ingHill.Hill.manNamed -/
def c_50 : xC := (33, [(10, ([(0, 1)], 0)), (1, ([], 0))], [], [], 1, [], 1, [(some (0, ([(1, 1)], 0)), [], [])])
def n_50 : List xN := [(2, [(3, (0, ([(1, 1)], 0))), (0, (10, ([(0, 1)], 0))), (1, (1, ([], 0)))], [], [([(1, 1)], 0), ([(1, -1)], 7), ([(1, -1)], 8), ([(1, -1)], 20), ([(1, -1)], 40), ([(1, -1)], 61), ([(1, -1)], 255), ([(1, -1)], 1000), ([(1, -1)], 1001)], 2, [([], 1), ([(1, -1)], 2147483647), ([], 5000000000), ([], 5000000000), ([], 5000000000)])]
set_option maxRecDepth 100000 in
set_option maxHeartbeats 4000000 in
theorem h_50 (th : List Nat) (xs : Nat → Int32) (L J : Nat) : x_Holds x_tb th xs L J c_50 51 := x_ok (dm := 50) (cts := []) (D := d_33) (ns := n_50) (f := 24) d_33_ok (fun _ h => absurd h List.not_mem_nil) (by decide +kernel)
def d_31 : xD := [(0, .iconst 0, 1), (1, .istore_n 3, 1), (2, .iload_n 3, 1), (3, .aload_n 0, 1), (4, .getfield 40, 3), (7, .if_icmp .ge 25, 3), (10, .aload_n 0, 1), (11, .getfield 26, 3), (14, .iload_n 3, 1), (15, .aaload, 1), (16, .getfield 84, 3), (19, .lload_n 1, 1), (20, .lcmp, 1), (21, .ifCond .ne 5, 3), (24, .iconst 1, 1), (25, .ireturn, 1), (26, .iinc 3 1, 3), (29, .goto (-27), 3), (32, .aload_n 0, 1), (33, .lload_n 1, 1), (34, .invokevirtual 85, 3), (37, .iconst (-1), 1), (38, .if_icmp .ne 12, 3), (41, .aload_n 0, 1), (42, .lload_n 1, 1), (43, .invokevirtual 89, 3), (46, .iconst (-1), 1), (47, .if_icmp .eq 7, 3), (50, .iconst 1, 1), (51, .goto 4, 3), (54, .iconst 0, 1), (55, .ireturn, 1)]
set_option maxRecDepth 100000 in
theorem d_31_ok : x_dchk 31 d_31 = true := by decide +kernel
/-- ingHill.Hill.isTold -/
def c_51 : xC := (31, [(10, ([(0, 1)], 0)), (1, ([], 0))], [], [], 1, [], 1, [(some (0, ([(1, 1)], 0)), [([(1, 1)], 0), ([(1, -1)], 1)], [])])
def n_51 : List xN := [(2, [(3, (0, ([(1, 1)], 0))), (0, (10, ([(0, 1)], 0))), (1, (1, ([], 0)))], [], [([(1, 1)], 0), ([(1, -1)], 7), ([(1, -1)], 8), ([(1, -1)], 20), ([(1, -1)], 40), ([(1, -1)], 61), ([(1, -1)], 255), ([(1, -1)], 1000), ([(1, -1)], 1001)], 2, [([], 1), ([(1, -1)], 2147483647), ([], 5000000000), ([], 5000000000), ([], 5000000000)])]
set_option maxRecDepth 100000 in
set_option maxHeartbeats 4000000 in
theorem h_51 (th : List Nat) (xs : Nat → Int32) (L J : Nat) : x_Holds x_tb th xs L J c_51 52 := x_ok (dm := 51) (cts := [c_50, c_49]) (D := d_31) (ns := n_51) (f := 26) d_31_ok (List.forall_mem_cons.mpr ⟨(h_50 th xs L J).mono (by omega), List.forall_mem_cons.mpr ⟨(h_49 th xs L J).mono (by omega), fun _ h => absurd h List.not_mem_nil⟩⟩) (by decide +kernel)
def d_66 : xD := [(0, .iconst 0, 1), (1, .istore_n 2, 1), (2, .iconst 0, 1), (3, .istore_n 3, 1), (4, .iload_n 3, 1), (5, .aload_n 0, 1), (6, .getfield 36, 3), (9, .if_icmp .ge 28, 3), (12, .aload_n 0, 1), (13, .getfield 20, 3), (16, .iload_n 3, 1), (17, .aaload, 1), (18, .getfield 92, 3), (21, .iload_n 1, 1), (22, .if_icmp .ne 9, 3), (25, .iload_n 2, 1), (26, .iconst 1, 1), (27, .iload_n 3, 1), (28, .ishl, 1), (29, .ior, 1), (30, .istore_n 2, 1), (31, .iinc 3 1, 3), (34, .goto (-30), 3), (37, .iload_n 2, 1), (38, .ireturn, 1)]
set_option maxRecDepth 100000 in
theorem d_66_ok : x_dchk 66 d_66 = true := by decide +kernel
/-- ingHill.Hill.thingsAt -/
def c_52 : xC := (66, [(10, ([(0, 1)], 0)), (0, ([(1, 1)], 0))], [], [], 2, [], 1, [(some (0, ([(2, 1)], 0)), [], [])])
def n_52 : List xN := [(4, [(3, (0, ([(2, 1)], 0))), (2, (0, ([(3, 1)], 0))), (0, (10, ([(0, 1)], 0))), (1, (0, ([(1, 1)], 0)))], [], [([(2, 1)], 0), ([(3, 1)], 0), ([(2, -1)], 8), ([(2, -1)], 20), ([(2, -1)], 40), ([(2, -1)], 61), ([(2, -1)], 255), ([(2, -1)], 1000), ([(2, -1)], 1001), ([(3, -1)], 255), ([(3, -1)], 1000), ([(3, -1)], 1001)], 4, [([], 1), ([(2, -1)], 2147483647), ([], 5000000000), ([], 5000000000), ([], 5000000000)])]
set_option maxRecDepth 100000 in
set_option maxHeartbeats 4000000 in
theorem h_52 (th : List Nat) (xs : Nat → Int32) (L J : Nat) : x_Holds x_tb th xs L J c_52 53 := x_ok (dm := 52) (cts := []) (D := d_66) (ns := n_52) (f := 29) d_66_ok (fun _ h => absurd h List.not_mem_nil) (by decide +kernel)
def d_60 : xD := [(0, .iconst 0, 1), (1, .istore_n 2, 1), (2, .iconst 0, 1), (3, .istore_n 3, 1), (4, .iload_n 3, 1), (5, .aload_n 0, 1), (6, .getfield 36, 3), (9, .if_icmp .ge 28, 3), (12, .aload_n 0, 1), (13, .getfield 20, 3), (16, .iload_n 3, 1), (17, .aaload, 1), (18, .getfield 95, 3), (21, .iload_n 1, 1), (22, .if_icmp .ne 9, 3), (25, .iload_n 2, 1), (26, .iconst 1, 1), (27, .iload_n 3, 1), (28, .ishl, 1), (29, .ior, 1), (30, .istore_n 2, 1), (31, .iinc 3 1, 3), (34, .goto (-30), 3), (37, .iload_n 2, 1), (38, .ireturn, 1)]
set_option maxRecDepth 100000 in
theorem d_60_ok : x_dchk 60 d_60 = true := by decide +kernel
/-- ingHill.Hill.thingsInPassage -/
def c_53 : xC := (60, [(10, ([(0, 1)], 0)), (0, ([(1, 1)], 0))], [], [], 2, [], 1, [(some (0, ([(2, 1)], 0)), [], [])])
def n_53 : List xN := [(4, [(3, (0, ([(2, 1)], 0))), (2, (0, ([(3, 1)], 0))), (0, (10, ([(0, 1)], 0))), (1, (0, ([(1, 1)], 0)))], [], [([(2, 1)], 0), ([(3, 1)], 0), ([(2, -1)], 8), ([(2, -1)], 20), ([(2, -1)], 40), ([(2, -1)], 61), ([(2, -1)], 255), ([(2, -1)], 1000), ([(2, -1)], 1001), ([(3, -1)], 255), ([(3, -1)], 1000), ([(3, -1)], 1001)], 4, [([], 1), ([(2, -1)], 2147483647), ([], 5000000000), ([], 5000000000), ([], 5000000000)])]
set_option maxRecDepth 100000 in
set_option maxHeartbeats 4000000 in
theorem h_53 (th : List Nat) (xs : Nat → Int32) (L J : Nat) : x_Holds x_tb th xs L J c_53 54 := x_ok (dm := 53) (cts := []) (D := d_60) (ns := n_53) (f := 29) d_60_ok (fun _ h => absurd h List.not_mem_nil) (by decide +kernel)
def d_116 : xD := [(0, .iconst 0, 1), (1, .istore_n 1, 1), (2, .iconst 0, 1), (3, .istore_n 2, 1), (4, .iload_n 2, 1), (5, .aload_n 0, 1), (6, .getfield 36, 3), (9, .if_icmp .ge 27, 3), (12, .aload_n 0, 1), (13, .getfield 20, 3), (16, .iload_n 2, 1), (17, .aaload, 1), (18, .invokevirtual 98, 3), (21, .ifCond .eq 9, 3), (24, .iload_n 1, 1), (25, .iconst 1, 1), (26, .iload_n 2, 1), (27, .ishl, 1), (28, .ior, 1), (29, .istore_n 1, 1), (30, .iinc 2 1, 3), (33, .goto (-29), 3), (36, .iload_n 1, 1), (37, .ireturn, 1)]
set_option maxRecDepth 100000 in
theorem d_116_ok : x_dchk 116 d_116 = true := by decide +kernel
/-- ingHill.Hill.thingsLoose -/
def c_54 : xC := (116, [(10, ([(0, 1)], 0))], [], [], 1, [], 1, [(some (0, ([(1, 1)], 0)), [], [])])
def n_54 : List xN := [(4, [(2, (0, ([(1, 1)], 0))), (1, (0, ([(2, 1)], 0))), (0, (10, ([(0, 1)], 0)))], [], [([(1, 1)], 0), ([(2, 1)], 0), ([(1, -1)], 8), ([(1, -1)], 20), ([(1, -1)], 40), ([(1, -1)], 61), ([(1, -1)], 255), ([(1, -1)], 1000), ([(1, -1)], 1001), ([(2, -1)], 255), ([(2, -1)], 1000), ([(2, -1)], 1001)], 3, [([], 1), ([(1, -1)], 2147483647), ([], 5000000000), ([], 5000000000), ([], 5000000000)])]
set_option maxRecDepth 100000 in
set_option maxHeartbeats 4000000 in
theorem h_54 (th : List Nat) (xs : Nat → Int32) (L J : Nat) : x_Holds x_tb th xs L J c_54 55 := x_ok (dm := 54) (cts := [c_27]) (D := d_116) (ns := n_54) (f := 28) d_116_ok (List.forall_mem_cons.mpr ⟨(h_27 th xs L J).mono (by omega), fun _ h => absurd h List.not_mem_nil⟩) (by decide +kernel)
def d_120 : xD := [(0, .iconst 0, 1), (1, .istore 4, 2), (3, .iconst 0, 1), (4, .istore 5, 2), (6, .iload 5, 2), (8, .aload_n 0, 1), (9, .getfield 36, 3), (12, .if_icmp .ge 52, 3), (15, .aload_n 0, 1), (16, .getfield 20, 3), (19, .iload 5, 2), (21, .aaload, 1), (22, .astore 6, 2), (24, .aload 6, 2), (26, .getfield 92, 3), (29, .iload_n 1, 1), (30, .if_icmp .ne 28, 3), (33, .aload 6, 2), (35, .invokevirtual 98, 3), (38, .ifCond .eq 20, 3), (41, .aload 6, 2), (43, .getfield 102, 3), (46, .iload_n 2, 1), (47, .isub, 1), (48, .invokestatic 105, 3), (51, .iload_n 3, 1), (52, .if_icmp .gt 6, 3), (55, .iinc 4 1, 3), (58, .iinc 5 1, 3), (61, .goto (-55), 3), (64, .iload 4, 2), (66, .ireturn, 1)]
set_option maxRecDepth 100000 in
theorem d_120_ok : x_dchk 120 d_120 = true := by decide +kernel
/-- ingHill.Hill.countLooseNear -/
def c_55 : xC := (120, [(10, ([(0, 1)], 0)), (0, ([(1, 1)], 0)), (0, ([(2, 1)], 0)), (0, ([(3, 1)], 0))], [], [], 4, [], 1, [(some (0, ([(4, 1)], 0)), [], [])])
def n_55 : List xN := [(6, [(5, (0, ([(4, 1)], 0))), (4, (0, ([(5, 1)], 0))), (0, (10, ([(0, 1)], 0))), (1, (0, ([(1, 1)], 0))), (2, (0, ([(2, 1)], 0))), (3, (0, ([(3, 1)], 0)))], [], [([(4, 1)], 0), ([(5, 1)], 0), ([(4, 1), (5, -1)], 0), ([(4, -1)], 8), ([(4, -1)], 20), ([(4, -1)], 40), ([(4, -1)], 61), ([(4, -1)], 255), ([(4, -1)], 1000), ([(4, -1)], 1001), ([(5, -1)], 8), ([(5, -1)], 20), ([(5, -1)], 40), ([(5, -1)], 61), ([(5, -1)], 255), ([(5, -1)], 1000), ([(5, -1)], 1001)], 6, [([], 1), ([(4, -1)], 2147483647), ([], 5000000000), ([], 5000000000), ([], 5000000000)])]
set_option maxRecDepth 100000 in
set_option maxHeartbeats 4000000 in
theorem h_55 (th : List Nat) (xs : Nat → Int32) (L J : Nat) : x_Holds x_tb th xs L J c_55 56 := x_ok (dm := 55) (cts := [c_27]) (D := d_120) (ns := n_55) (f := 36) d_120_ok (List.forall_mem_cons.mpr ⟨(h_27 th xs L J).mono (by omega), fun _ h => absurd h List.not_mem_nil⟩) (by decide +kernel)
def d_85 : xD := [(0, .iconst 0, 1), (1, .istore_n 1, 1), (2, .iload_n 1, 1), (3, .aload_n 0, 1), (4, .getfield 36, 3), (7, .if_icmp .ge 26, 3), (10, .aload_n 0, 1), (11, .getfield 20, 3), (14, .iload_n 1, 1), (15, .aaload, 1), (16, .aload_n 0, 1), (17, .getfield 12, 3), (20, .aload_n 0, 1), (21, .getfield 46, 3), (24, .invokevirtual 114, 3), (27, .iinc 1 1, 3), (30, .goto (-28), 3), (33, .iconst 0, 1), (34, .istore_n 1, 1), (35, .iload_n 1, 1), (36, .aload_n 0, 1), (37, .getfield 40, 3), (40, .if_icmp .ge 26, 3), (43, .aload_n 0, 1), (44, .getfield 26, 3), (47, .iload_n 1, 1), (48, .aaload, 1), (49, .aload_n 0, 1), (50, .getfield 12, 3), (53, .aload_n 0, 1), (54, .getfield 46, 3), (57, .invokevirtual 118, 3), (60, .iinc 1 1, 3), (63, .goto (-28), 3), (66, .aload_n 0, 1), (67, .dup, 1), (68, .getfield 46, 3), (71, .iconst 1, 1), (72, .iadd, 1), (73, .putfield 46, 3), (76, .return_, 1)]
set_option maxRecDepth 100000 in
theorem d_85_ok : x_dchk 85 d_85 = true := by decide +kernel
/-- ingHill.Hill.passOneHour -/
def c_56 : xC := (85, [(10, ([(0, 1)], 0))], [], [], 1, [(0, 7, 7), (5, 3, 3), (8, 3, 7), (8, 9, 9)], 0, [(none, [], [])])
def n_56 : List xN := [(2, [(1, (0, ([(1, 1)], 0))), (0, (10, ([(0, 1)], 0)))], [], [([(1, 1)], 0), ([(1, -1)], 8), ([(1, -1)], 20), ([(1, -1)], 40), ([(1, -1)], 61), ([(1, -1)], 255), ([(1, -1)], 1000), ([(1, -1)], 1001)], 2, [([], 2), ([(1, -1)], 2147483647), ([], 5000000000), ([], 5000000000), ([], 5000000000)]), (35, [(1, (0, ([(1, 1)], 0))), (0, (10, ([(0, 1)], 0)))], [(0, ([(0, 1)], 0), 4, (0, ([(2, 1)], 0)))], [([(2, 1)], 0), ([(2, -1)], 8), ([(1, 1)], 0), ([(1, -1)], 7), ([(1, -1)], 8), ([(1, -1)], 20), ([(1, -1)], 40), ([(1, -1)], 61), ([(1, -1)], 255), ([(1, -1)], 1000), ([(1, -1)], 1001)], 3, [([], 1), ([(1, -1)], 2147483647), ([], 5000000000), ([], 5000000000), ([], 5000000000)])]
set_option maxRecDepth 100000 in
set_option maxHeartbeats 4000000 in
theorem h_56 (th : List Nat) (xs : Nat → Int32) (L J : Nat) : x_Holds x_tb th xs L J c_56 57 := x_ok (dm := 56) (cts := [c_38, c_36]) (D := d_85) (ns := n_56) (f := 25) d_85_ok (List.forall_mem_cons.mpr ⟨(h_38 th xs L J).mono (by omega), List.forall_mem_cons.mpr ⟨(h_36 th xs L J).mono (by omega), fun _ h => absurd h List.not_mem_nil⟩⟩) (by decide +kernel)
def d_96 : xD := [(0, .iconst 0, 1), (1, .istore_n 2, 1), (2, .iload_n 2, 1), (3, .iload_n 1, 1), (4, .if_icmp .ge 23, 3), (7, .aload_n 0, 1), (8, .getfield 46, 3), (11, .sipush 1000, 3), (14, .if_icmp .ge 13, 3), (17, .aload_n 0, 1), (18, .invokevirtual 111, 3), (21, .iinc 2 1, 3), (24, .goto (-22), 3), (27, .iload_n 2, 1), (28, .ireturn, 1)]
set_option maxRecDepth 100000 in
theorem d_96_ok : x_dchk 96 d_96 = true := by decide +kernel
/-- ingHill.Hill.passHours -/
def c_57 : xC := (96, [(10, ([(0, 1)], 0)), (0, ([(1, 1)], 0))], [], [], 2, [(0, 7, 7), (5, 3, 3), (8, 3, 7), (8, 9, 9)], 1, [(some (0, ([(2, 1)], 0)), [], [])])
def n_57 : List xN := [(2, [(2, (0, ([(2, 1)], 0))), (0, (10, ([(0, 1)], 0))), (1, (0, ([(1, 1)], 0)))], [], [([(2, 1)], 0)], 3, [([], 1), ([(2, -1)], 2147483647), ([], 5000000000), ([], 5000000000), ([], 5000000000)])]
set_option maxRecDepth 100000 in
set_option maxHeartbeats 4000000 in
theorem h_57 (th : List Nat) (xs : Nat → Int32) (L J : Nat) : x_Holds x_tb th xs L J c_57 58 := x_ok (dm := 57) (cts := [c_56]) (D := d_96) (ns := n_57) (f := 21) d_96_ok (List.forall_mem_cons.mpr ⟨(h_56 th xs L J).mono (by omega), fun _ h => absurd h List.not_mem_nil⟩) (by decide +kernel)
def d_81 : xD := [(0, .aload_n 0, 1), (1, .iload_n 1, 1), (2, .iload_n 2, 1), (3, .invokevirtual 119, 3), (6, .ifCond .ne 5, 3), (9, .iconst (-1), 1), (10, .ireturn, 1), (11, .aload_n 0, 1), (12, .getfield 32, 3), (15, .iload_n 1, 1), (16, .aaload, 1), (17, .astore_n 3, 1), (18, .aload_n 3, 1), (19, .getfield 122, 3), (22, .iload_n 2, 1), (23, .if_icmp .ne 5, 3), (26, .iconst 1, 1), (27, .ireturn, 1), (28, .aload_n 3, 1), (29, .aload_n 0, 1), (30, .getfield 12, 3), (33, .iload_n 2, 1), (34, .aload_n 0, 1), (35, .getfield 46, 3), (38, .invokevirtual 123, 3), (41, .istore 4, 2), (43, .iload 4, 2), (45, .iconst (-1), 1), (46, .if_icmp .ne 5, 3), (49, .iconst 2, 1), (50, .ireturn, 1), (51, .iconst 0, 1), (52, .istore 5, 2), (54, .iload 5, 2), (56, .iload 4, 2), (58, .if_icmp .ge 26, 3), (61, .aload_n 3, 1), (62, .aload_n 0, 1), (63, .getfield 12, 3), (66, .iload_n 2, 1), (67, .aload_n 0, 1), (68, .getfield 46, 3), (71, .invokevirtual 127, 3), (74, .aload_n 0, 1), (75, .invokevirtual 111, 3), (78, .iinc 5 1, 3), (81, .goto (-27), 3), (84, .iconst 0, 1), (85, .ireturn, 1)]
set_option maxRecDepth 100000 in
theorem d_81_ok : x_dchk 81 d_81 = true := by decide +kernel
/-- ingHill.Hill.walkMan -/
def c_58 : xC := (81, [(10, ([(0, 1)], 0)), (0, ([(1, 1)], 0)), (0, ([(2, 1)], 0))], [], [], 3, [(0, 7, 7), (4, 2, 3), (5, 3, 3), (8, 3, 7), (8, 9, 9)], 1, [(some (0, ([(3, 1)], 0)), [], [])])
def n_58 : List xN := [(54, [(5, (0, ([(3, 1)], 0))), (4, (0, ([(4, 1)], 0))), (3, (14, ([(5, 1)], 0))), (0, (10, ([(0, 1)], 0))), (1, (0, ([(1, 1)], 0))), (2, (0, ([(2, 1)], 0)))], [(0, ([(0, 1)], 0), 7, (0, ([(6, 1)], 0))), (0, ([(0, 1)], 0), 0, (11, ([(7, 1)], 0))), (4, ([(5, 1)], 0), 2, (0, ([(8, 1)], 0))), (0, ([(0, 1)], 0), 3, (23, ([(9, 1)], 0)))], [([(6, 1)], 2147483648), ([(6, -1)], 2147483647), ([(8, 1)], 2147483648), ([(8, -1)], 2147483647), ([(1, 1)], 0), ([(1, -1)], 3), ([(3, 1)], 0), ([(1, -1)], 7), ([(1, -1)], 8), ([(1, -1)], 20), ([(1, -1)], 40), ([(1, -1)], 61), ([(1, -1)], 255), ([(1, -1)], 1000), ([(1, -1)], 1001)], 10, [([], 1), ([(3, -1)], 2147483647), ([], 5000000000), ([], 5000000000), ([], 5000000000)])]
set_option maxRecDepth 100000 in
set_option maxHeartbeats 4000000 in
theorem h_58 (th : List Nat) (xs : Nat → Int32) (L J : Nat) : x_Holds x_tb th xs L J c_58 59 := x_ok (dm := 58) (cts := [c_56, c_48, c_42, c_41]) (D := d_81) (ns := n_58) (f := 37) d_81_ok (List.forall_mem_cons.mpr ⟨(h_56 th xs L J).mono (by omega), List.forall_mem_cons.mpr ⟨(h_48 th xs L J).mono (by omega), List.forall_mem_cons.mpr ⟨(h_42 th xs L J).mono (by omega), List.forall_mem_cons.mpr ⟨(h_41 th xs L J).mono (by omega), fun _ h => absurd h List.not_mem_nil⟩⟩⟩⟩) (by decide +kernel)
def d_94 : xD := [(0, .aload_n 0, 1), (1, .iconst 2, 1), (2, .invokevirtual 131, 3), (5, .istore_n 1, 1), (6, .iconst 0, 1), (7, .istore_n 2, 1), (8, .iload_n 2, 1), (9, .aload_n 0, 1), (10, .getfield 36, 3), (13, .if_icmp .ge 32, 3), (16, .aload_n 0, 1), (17, .getfield 20, 3), (20, .iload_n 2, 1), (21, .aaload, 1), (22, .getfield 92, 3), (25, .iconst 2, 1), (26, .if_icmp .ne 13, 3), (29, .aload_n 0, 1), (30, .getfield 20, 3), (33, .iload_n 2, 1), (34, .aaload, 1), (35, .iconst 0, 1), (36, .invokevirtual 134, 3), (39, .iinc 2 1, 3), (42, .goto (-34), 3), (45, .iload_n 1, 1), (46, .ifCond .ne 7, 3), (49, .iconst 1, 1), (50, .goto 4, 3), (53, .iconst 0, 1), (54, .ireturn, 1)]
set_option maxRecDepth 100000 in
theorem d_94_ok : x_dchk 94 d_94 = true := by decide +kernel
/-- ingHill.Hill.coughOut -/
def c_59 : xC := (94, [(10, ([(0, 1)], 0))], [], [], 1, [(8, 3, 6)], 1, [(some (0, ([(1, 1)], 0)), [], [])])
def n_59 : List xN := [(8, [(2, (0, ([(1, 1)], 0))), (1, (0, ([(2, 1)], 0))), (0, (10, ([(0, 1)], 0)))], [], [([(1, 1)], 0), ([(1, -1)], 8), ([(1, -1)], 20), ([(1, -1)], 40), ([(1, -1)], 61), ([(1, -1)], 255), ([(1, -1)], 1000), ([(1, -1)], 1001)], 3, [([], 1), ([(1, -1)], 2147483647), ([], 5000000000), ([], 5000000000), ([], 5000000000)])]
set_option maxRecDepth 100000 in
set_option maxHeartbeats 4000000 in
theorem h_59 (th : List Nat) (xs : Nat → Int32) (L J : Nat) : x_Holds x_tb th xs L J c_59 60 := x_ok (dm := 59) (cts := [c_52, c_24]) (D := d_94) (ns := n_59) (f := 29) d_94_ok (List.forall_mem_cons.mpr ⟨(h_52 th xs L J).mono (by omega), List.forall_mem_cons.mpr ⟨(h_24 th xs L J).mono (by omega), fun _ h => absurd h List.not_mem_nil⟩⟩) (by decide +kernel)
def d_101 : xD := [(0, .iload_n 0, 1), (1, .iconst 1, 1), (2, .if_icmp .ge 7, 3), (5, .iconst 0, 1), (6, .goto 9, 3), (9, .iload_n 1, 1), (10, .bipush 8, 2), (12, .iushr, 1), (13, .iload_n 0, 1), (14, .irem, 1), (15, .ireturn, 1)]
set_option maxRecDepth 100000 in
theorem d_101_ok : x_dchk 101 d_101 = true := by decide +kernel
/-- ingHill.Hill.drawOf -/
def c_60 : xC := (101, [(0, ([(0, 1)], 0)), (0, ([(1, 1)], 0))], [], [], 2, [], 1, [(some (0, ([(2, 1)], 0)), [], [])])
def n_60 : List xN := []
set_option maxRecDepth 100000 in
set_option maxHeartbeats 4000000 in
theorem h_60 (th : List Nat) (xs : Nat → Int32) (L J : Nat) : x_Holds x_tb th xs L J c_60 61 := x_ok (dm := 60) (cts := []) (D := d_101) (ns := n_60) (f := 18) d_101_ok (fun _ h => absurd h List.not_mem_nil) (by decide +kernel)
def d_100 : xD := [(0, .iload_n 0, 1), (1, .ldc 161, 2), (3, .imul, 1), (4, .sipush 12345, 3), (7, .iadd, 1), (8, .ireturn, 1)]
set_option maxRecDepth 100000 in
theorem d_100_ok : x_dchk 100 d_100 = true := by decide +kernel
/-- ingHill.Hill.nextDraw -/
def c_61 : xC := (100, [(0, ([(0, 1)], 0))], [], [], 1, [], 1, [(some (0, ([(1, 1)], 0)), [], [])])
def n_61 : List xN := []
set_option maxRecDepth 100000 in
set_option maxHeartbeats 4000000 in
theorem h_61 (th : List Nat) (xs : Nat → Int32) (L J : Nat) : x_Holds x_tb th xs L J c_61 62 := x_ok (dm := 61) (cts := []) (D := d_100) (ns := n_61) (f := 15) d_100_ok (fun _ h => absurd h List.not_mem_nil) (by decide +kernel)
def d_102 : xD := [(0, .aload_n 0, 1), (1, .iload_n 1, 1), (2, .invokevirtual 152, 3), (5, .ifCond .eq 25, 3), (8, .aload_n 0, 1), (9, .getfield 20, 3), (12, .iload_n 1, 1), (13, .aaload, 1), (14, .invokevirtual 155, 3), (17, .ifCond .eq 13, 3), (20, .aload_n 0, 1), (21, .getfield 20, 3), (24, .iload_n 1, 1), (25, .aaload, 1), (26, .invokevirtual 158, 3), (29, .pop, 1), (30, .return_, 1)]
set_option maxRecDepth 100000 in
theorem d_102_ok : x_dchk 102 d_102 = true := by decide +kernel
/-- ingHill.Hill.looseOrTie -/
def c_62 : xC := (102, [(10, ([(0, 1)], 0)), (0, ([(1, 1)], 0))], [], [], 2, [(8, 8, 8)], 0, [(none, [], [])])
def n_62 : List xN := []
set_option maxRecDepth 100000 in
set_option maxHeartbeats 4000000 in
theorem h_62 (th : List Nat) (xs : Nat → Int32) (L J : Nat) : x_Holds x_tb th xs L J c_62 63 := x_ok (dm := 62) (cts := [c_45, c_31, c_30]) (D := d_102) (ns := n_62) (f := 26) d_102_ok (List.forall_mem_cons.mpr ⟨(h_45 th xs L J).mono (by omega), List.forall_mem_cons.mpr ⟨(h_31 th xs L J).mono (by omega), List.forall_mem_cons.mpr ⟨(h_30 th xs L J).mono (by omega), fun _ h => absurd h List.not_mem_nil⟩⟩⟩) (by decide +kernel)
def d_99 : xD := [(0, .iload_n 2, 1), (1, .istore_n 3, 1), (2, .iconst 0, 1), (3, .istore 4, 2), (5, .iload 4, 2), (7, .iload_n 1, 1), (8, .if_icmp .ge 73, 3), (11, .aload_n 0, 1), (12, .getfield 46, 3), (15, .sipush 1000, 3), (18, .if_icmp .ge 63, 3), (21, .iload_n 3, 1), (22, .invokestatic 138, 3), (25, .istore_n 3, 1), (26, .bipush 20, 2), (28, .iload_n 3, 1), (29, .invokestatic 141, 3), (32, .ifCond .ne 20, 3), (35, .iload_n 3, 1), (36, .invokestatic 138, 3), (39, .istore_n 3, 1), (40, .aload_n 0, 1), (41, .aload_n 0, 1), (42, .getfield 36, 3), (45, .iload_n 3, 1), (46, .invokestatic 141, 3), (49, .invokevirtual 145, 3), (52, .iload_n 3, 1), (53, .invokestatic 138, 3), (56, .istore_n 3, 1), (57, .bipush 30, 2), (59, .iload_n 3, 1), (60, .invokestatic 141, 3), (63, .ifCond .ne 8, 3), (66, .aload_n 0, 1), (67, .invokevirtual 148, 3), (70, .pop, 1), (71, .aload_n 0, 1), (72, .invokevirtual 111, 3), (75, .iinc 4 1, 3), (78, .goto (-73), 3), (81, .iload 4, 2), (83, .ireturn, 1)]
set_option maxRecDepth 100000 in
theorem d_99_ok : x_dchk 99 d_99 = true := by decide +kernel
/-- ingHill.Hill.passDrawnHours -/
def c_63 : xC := (99, [(10, ([(0, 1)], 0)), (0, ([(1, 1)], 0)), (0, ([(2, 1)], 0))], [], [], 3, [(0, 7, 7), (5, 3, 3), (8, 3, 9)], 1, [(some (0, ([(3, 1)], 0)), [], [])])
def n_63 : List xN := [(5, [(4, (0, ([(3, 1)], 0))), (3, (0, ([(4, 1)], 0))), (0, (10, ([(0, 1)], 0))), (1, (0, ([(1, 1)], 0))), (2, (0, ([(2, 1)], 0)))], [], [([(3, 1)], 0)], 5, [([], 1), ([(3, -1)], 2147483647), ([], 5000000000), ([], 5000000000), ([], 5000000000)])]
set_option maxRecDepth 100000 in
set_option maxHeartbeats 4000000 in
theorem h_63 (th : List Nat) (xs : Nat → Int32) (L J : Nat) : x_Holds x_tb th xs L J c_63 64 := x_ok (dm := 63) (cts := [c_62, c_61, c_60, c_59, c_56]) (D := d_99) (ns := n_63) (f := 47) d_99_ok (List.forall_mem_cons.mpr ⟨(h_62 th xs L J).mono (by omega), List.forall_mem_cons.mpr ⟨(h_61 th xs L J).mono (by omega), List.forall_mem_cons.mpr ⟨(h_60 th xs L J).mono (by omega), List.forall_mem_cons.mpr ⟨(h_59 th xs L J).mono (by omega), List.forall_mem_cons.mpr ⟨(h_56 th xs L J).mono (by omega), fun _ h => absurd h List.not_mem_nil⟩⟩⟩⟩⟩) (by decide +kernel)
def d_28 : xD := [(0, .aload_n 0, 1), (1, .getfield 31, 3), (4, .getstatic 72, 3), (7, .if_acmp .eq 9, 3), (10, .aload_n 0, 1), (11, .iconst 1, 1), (12, .invokevirtual 82, 3), (15, .ireturn, 1), (16, .aload_n 0, 1), (17, .getfield 37, 3), (20, .iload_n 1, 1), (21, .if_icmp .lt 11, 3), (24, .aload_n 0, 1), (25, .getfield 37, 3), (28, .iload_n 2, 1), (29, .if_icmp .le 9, 3), (32, .aload_n 0, 1), (33, .iconst 2, 1), (34, .invokevirtual 82, 3), (37, .ireturn, 1), (38, .iload 4, 2), (40, .ifCond .lt 18, 3), (43, .iload 4, 2), (45, .aload_n 3, 1), (46, .arraylength, 1), (47, .if_icmp .ge 11, 3), (50, .aload_n 3, 1), (51, .iload 4, 2), (53, .aload_n 0, 1), (54, .getfield 37, 3), (57, .iastore, 1), (58, .aload_n 0, 1), (59, .invokevirtual 50, 3), (62, .iconst 1, 1), (63, .ireturn, 1)]
set_option maxRecDepth 100000 in
theorem d_28_ok : x_dchk 28 d_28 = true := by decide +kernel
/-- ingHill.Tape.takeNumber@BreathingHill.Land.cells -/
def c_64 : xC := (28, [(17, ([(0, 1)], 0)), (0, ([(1, 1)], 0)), (0, ([(2, 1)], 0)), (24, ([(3, 1)], 0)), (0, ([(4, 1)], 0))], [], [], 5, [(7, 3, 9), (14, 0, 1)], 1, [(some (0, ([(5, 1)], 0)), [([(5, 1)], 0), ([(5, -1)], 1)], [])])
def n_64 : List xN := []
set_option maxRecDepth 100000 in
set_option maxHeartbeats 4000000 in
theorem h_64 (th : List Nat) (xs : Nat → Int32) (L J : Nat) : x_Holds x_tb th xs L J c_64 65 := x_ok (dm := 64) (cts := [c_11, c_10]) (D := d_28) (ns := n_64) (f := 36) d_28_ok (List.forall_mem_cons.mpr ⟨(h_11 th xs L J).mono (by omega), List.forall_mem_cons.mpr ⟨(h_10 th xs L J).mono (by omega), fun _ h => absurd h List.not_mem_nil⟩⟩) (by decide +kernel)
/-- ingHill.Tape.takeNumber@BreathingHill.Land.breath -/
def c_65 : xC := (28, [(17, ([(0, 1)], 0)), (0, ([(1, 1)], 0)), (0, ([(2, 1)], 0)), (25, ([(3, 1)], 0)), (0, ([(4, 1)], 0))], [], [], 5, [(7, 3, 9), (15, 0, 3)], 1, [(some (0, ([(5, 1)], 0)), [([(5, 1)], 0), ([(5, -1)], 1)], [])])
def n_65 : List xN := []
set_option maxRecDepth 100000 in
set_option maxHeartbeats 4000000 in
theorem h_65 (th : List Nat) (xs : Nat → Int32) (L J : Nat) : x_Holds x_tb th xs L J c_65 66 := x_ok (dm := 65) (cts := [c_11, c_10]) (D := d_28) (ns := n_65) (f := 36) d_28_ok (List.forall_mem_cons.mpr ⟨(h_11 th xs L J).mono (by omega), List.forall_mem_cons.mpr ⟨(h_10 th xs L J).mono (by omega), fun _ h => absurd h List.not_mem_nil⟩⟩) (by decide +kernel)
/-- ingHill.Tape.takeNumber@BreathingHill.Land.lengths -/
def c_66 : xC := (28, [(17, ([(0, 1)], 0)), (0, ([(1, 1)], 0)), (0, ([(2, 1)], 0)), (26, ([(3, 1)], 0)), (0, ([(4, 1)], 0))], [], [], 5, [(7, 3, 9), (16, 0, 3)], 1, [(some (0, ([(5, 1)], 0)), [([(5, 1)], 0), ([(5, -1)], 1)], [])])
def n_66 : List xN := []
set_option maxRecDepth 100000 in
set_option maxHeartbeats 4000000 in
theorem h_66 (th : List Nat) (xs : Nat → Int32) (L J : Nat) : x_Holds x_tb th xs L J c_66 67 := x_ok (dm := 66) (cts := [c_11, c_10]) (D := d_28) (ns := n_66) (f := 36) d_28_ok (List.forall_mem_cons.mpr ⟨(h_11 th xs L J).mono (by omega), List.forall_mem_cons.mpr ⟨(h_10 th xs L J).mono (by omega), fun _ h => absurd h List.not_mem_nil⟩⟩) (by decide +kernel)
/-- ingHill.Tape.takeNumber@BreathingHill.Land.wides -/
def c_67 : xC := (28, [(17, ([(0, 1)], 0)), (0, ([(1, 1)], 0)), (0, ([(2, 1)], 0)), (27, ([(3, 1)], 0)), (0, ([(4, 1)], 0))], [], [], 5, [(7, 3, 9), (17, 0, 3)], 1, [(some (0, ([(5, 1)], 0)), [([(5, 1)], 0), ([(5, -1)], 1)], [])])
def n_67 : List xN := []
set_option maxRecDepth 100000 in
set_option maxHeartbeats 4000000 in
theorem h_67 (th : List Nat) (xs : Nat → Int32) (L J : Nat) : x_Holds x_tb th xs L J c_67 68 := x_ok (dm := 67) (cts := [c_11, c_10]) (D := d_28) (ns := n_67) (f := 36) d_28_ok (List.forall_mem_cons.mpr ⟨(h_11 th xs L J).mono (by omega), List.forall_mem_cons.mpr ⟨(h_10 th xs L J).mono (by omega), fun _ h => absurd h List.not_mem_nil⟩⟩) (by decide +kernel)
/-- ingHill.Tape.takeNumber@BreathingHill.Land.alters -/
def c_68 : xC := (28, [(17, ([(0, 1)], 0)), (0, ([(1, 1)], 0)), (0, ([(2, 1)], 0)), (28, ([(3, 1)], 0)), (0, ([(4, 1)], 0))], [], [], 5, [(7, 3, 9), (18, 0, 3)], 1, [(some (0, ([(5, 1)], 0)), [([(5, 1)], 0), ([(5, -1)], 1)], [])])
def n_68 : List xN := []
set_option maxRecDepth 100000 in
set_option maxHeartbeats 4000000 in
theorem h_68 (th : List Nat) (xs : Nat → Int32) (L J : Nat) : x_Holds x_tb th xs L J c_68 69 := x_ok (dm := 68) (cts := [c_11, c_10]) (D := d_28) (ns := n_68) (f := 36) d_28_ok (List.forall_mem_cons.mpr ⟨(h_11 th xs L J).mono (by omega), List.forall_mem_cons.mpr ⟨(h_10 th xs L J).mono (by omega), fun _ h => absurd h List.not_mem_nil⟩⟩) (by decide +kernel)
/-- ingHill.Tape.takeNumber@BreathingHill.LandReader.row -/
def c_69 : xC := (28, [(17, ([(0, 1)], 0)), (0, ([(1, 1)], 0)), (0, ([(2, 1)], 0)), (29, ([(3, 1)], 0)), (0, ([(4, 1)], 0))], [], [], 5, [(7, 3, 9), (19, 0, 3)], 1, [(some (0, ([(5, 1)], 0)), [([(5, 1)], 0), ([(5, -1)], 1)], [])])
def n_69 : List xN := []
set_option maxRecDepth 100000 in
set_option maxHeartbeats 4000000 in
theorem h_69 (th : List Nat) (xs : Nat → Int32) (L J : Nat) : x_Holds x_tb th xs L J c_69 70 := x_ok (dm := 69) (cts := [c_11, c_10]) (D := d_28) (ns := n_69) (f := 36) d_28_ok (List.forall_mem_cons.mpr ⟨(h_11 th xs L J).mono (by omega), List.forall_mem_cons.mpr ⟨(h_10 th xs L J).mono (by omega), fun _ h => absurd h List.not_mem_nil⟩⟩) (by decide +kernel)
