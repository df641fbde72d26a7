/-- ingHill.Tape.takeNumber@BreathingHill.Log.numbers -/
def c_70 : xC := (28, [(17, ([(0, 1)], 0)), (0, ([(1, 1)], 0)), (0, ([(2, 1)], 0)), (33, ([(3, 1)], 0)), (0, ([(4, 1)], 0))], [], [], 5, [(7, 3, 9), (23, 0, 39)], 1, [(some (0, ([(5, 1)], 0)), [([(5, 1)], 0), ([(5, -1)], 1)], [])])
def n_70 : List xN := []
set_option maxRecDepth 100000 in
set_option maxHeartbeats 4000000 in
theorem h_70 (th : List Nat) (xs : Nat → Int32) (L J : Nat) : x_Holds x_tb th xs L J c_70 71 := x_ok (dm := 70) (cts := [c_11, c_10]) (D := d_28) (ns := n_70) (f := 36) d_28_ok (List.forall_mem_cons.mpr ⟨(h_11 th xs L J).mono (by omega), List.forall_mem_cons.mpr ⟨(h_10 th xs L J).mono (by omega), fun _ h => absurd h List.not_mem_nil⟩⟩) (by decide +kernel)
/-- ingHill.Tape.takeNumber@BreathingHill.Sentence.numbers -/
def c_71 : xC := (28, [(17, ([(0, 1)], 0)), (0, ([(1, 1)], 0)), (0, ([(2, 1)], 0)), (36, ([(3, 1)], 0)), (0, ([(4, 1)], 0))], [], [], 5, [(7, 3, 9), (26, 0, 39)], 1, [(some (0, ([(5, 1)], 0)), [([(5, 1)], 0), ([(5, -1)], 1)], [])])
def n_71 : List xN := []
set_option maxRecDepth 100000 in
set_option maxHeartbeats 4000000 in
theorem h_71 (th : List Nat) (xs : Nat → Int32) (L J : Nat) : x_Holds x_tb th xs L J c_71 72 := x_ok (dm := 71) (cts := [c_11, c_10]) (D := d_28) (ns := n_71) (f := 36) d_28_ok (List.forall_mem_cons.mpr ⟨(h_11 th xs L J).mono (by omega), List.forall_mem_cons.mpr ⟨(h_10 th xs L J).mono (by omega), fun _ h => absurd h List.not_mem_nil⟩⟩) (by decide +kernel)
def d_40 : xD := [(0, .iconst 0, 1), (1, .istore_n 2, 1), (2, .iload_n 2, 1), (3, .aload_n 0, 1), (4, .getfield 21, 3), (7, .if_icmp .ge 28, 3), (10, .aload_n 0, 1), (11, .getfield 17, 3), (14, .iload_n 2, 1), (15, .aaload, 1), (16, .aload_n 1, 1), (17, .getfield 36, 3), (20, .if_acmp .ne 9, 3), (23, .aload_n 1, 1), (24, .iconst 3, 1), (25, .invokevirtual 116, 3), (28, .ireturn, 1), (29, .iinc 2 1, 3), (32, .goto (-30), 3), (35, .aload_n 0, 1), (36, .getfield 21, 3), (39, .aload_n 0, 1), (40, .getfield 17, 3), (43, .arraylength, 1), (44, .if_icmp .ge 26, 3), (47, .aload_n 0, 1), (48, .getfield 17, 3), (51, .aload_n 0, 1), (52, .getfield 21, 3), (55, .aload_n 1, 1), (56, .getfield 36, 3), (59, .aastore, 1), (60, .aload_n 0, 1), (61, .dup, 1), (62, .getfield 21, 3), (65, .iconst 1, 1), (66, .iadd, 1), (67, .putfield 21, 3), (70, .aload_n 1, 1), (71, .invokevirtual 120, 3), (74, .iconst 1, 1), (75, .ireturn, 1)]
set_option maxRecDepth 100000 in
theorem d_40_ok : x_dchk 40 d_40 = true := by decide +kernel
/-- l.LandReader.beginOnce -/
def c_72 : xC := (40, [(12, ([(0, 1)], 0)), (17, ([(1, 1)], 0))], [], [], 2, [(2, 2, 2), (7, 3, 9), (20, 0, 4)], 1, [(some (0, ([(2, 1)], 0)), [([(2, 1)], 0), ([(2, -1)], 1)], [])])
def n_72 : List xN := [(2, [(2, (0, ([(2, 1)], 0))), (0, (12, ([(0, 1)], 0))), (1, (17, ([(1, 1)], 0)))], [], [([(2, 1)], 0), ([(2, -1)], 1000), ([(2, -1)], 1001)], 3, [([], 1), ([(2, -1)], 2147483647), ([], 5000000000), ([], 5000000000), ([], 5000000000)])]
set_option maxRecDepth 100000 in
set_option maxHeartbeats 4000000 in
theorem h_72 (th : List Nat) (xs : Nat → Int32) (L J : Nat) : x_Holds x_tb th xs L J c_72 73 := x_ok (dm := 72) (cts := [c_11, c_10]) (D := d_40) (ns := n_72) (f := 36) d_40_ok (List.forall_mem_cons.mpr ⟨(h_11 th xs L J).mono (by omega), List.forall_mem_cons.mpr ⟨(h_10 th xs L J).mono (by omega), fun _ h => absurd h List.not_mem_nil⟩⟩) (by decide +kernel)
def d_39 : xD := [(0, .aload_n 2, 1), (1, .getfield 123, 3), (4, .aload_n 2, 1), (5, .getfield 126, 3), (8, .iadd, 1), (9, .aload_n 2, 1), (10, .getfield 129, 3), (13, .iadd, 1), (14, .ifCond .le 9, 3), (17, .aload_n 1, 1), (18, .iconst 3, 1), (19, .invokevirtual 116, 3), (22, .ireturn, 1), (23, .aload_n 2, 1), (24, .getfield 57, 3), (27, .getfield 132, 3), (30, .astore_n 3, 1), (31, .aload_n 0, 1), (32, .aload_n 1, 1), (33, .invokevirtual 137, 3), (36, .ifCond .eq 31, 3), (39, .aload_n 1, 1), (40, .iconst 1, 1), (41, .bipush 20, 2), (43, .aload_n 3, 1), (44, .iconst 0, 1), (45, .invokevirtual 141, 3), (48, .ifCond .eq 19, 3), (51, .aload_n 1, 1), (52, .iconst 1, 1), (53, .bipush 20, 2), (55, .aload_n 3, 1), (56, .iconst 1, 1), (57, .invokevirtual 141, 3), (60, .ifCond .eq 7, 3), (63, .iconst 1, 1), (64, .goto 4, 3), (67, .iconst 0, 1), (68, .ireturn, 1)]
set_option maxRecDepth 100000 in
theorem d_39_ok : x_dchk 39 d_39 = true := by decide +kernel
/-- l.LandReader.readLong -/
def c_73 : xC := (39, [(12, ([(0, 1)], 0)), (17, ([(1, 1)], 0)), (10, ([(2, 1)], 0))], [], [], 3, [(2, 2, 2), (7, 3, 9), (14, 0, 1), (20, 0, 4)], 1, [(some (0, ([(3, 1)], 0)), [([(3, 1)], 0), ([(3, -1)], 1)], [])])
def n_73 : List xN := []
set_option maxRecDepth 100000 in
set_option maxHeartbeats 4000000 in
theorem h_73 (th : List Nat) (xs : Nat → Int32) (L J : Nat) : x_Holds x_tb th xs L J c_73 74 := x_ok (dm := 73) (cts := [c_72, c_64, c_10]) (D := d_39) (ns := n_73) (f := 43) d_39_ok (List.forall_mem_cons.mpr ⟨(h_72 th xs L J).mono (by omega), List.forall_mem_cons.mpr ⟨(h_64 th xs L J).mono (by omega), List.forall_mem_cons.mpr ⟨(h_10 th xs L J).mono (by omega), fun _ h => absurd h List.not_mem_nil⟩⟩⟩) (by decide +kernel)
def d_41 : xD := [(0, .aload_n 0, 1), (1, .aload_n 1, 1), (2, .invokevirtual 137, 3), (5, .ifCond .eq 67, 3), (8, .aload_n 1, 1), (9, .iconst 1, 1), (10, .bipush 12, 2), (12, .aload_n 2, 1), (13, .getfield 145, 3), (16, .iconst 0, 1), (17, .invokevirtual 141, 3), (20, .ifCond .eq 52, 3), (23, .aload_n 1, 1), (24, .iconst 0, 1), (25, .bipush 12, 2), (27, .aload_n 2, 1), (28, .getfield 145, 3), (31, .iconst 1, 1), (32, .invokevirtual 141, 3), (35, .ifCond .eq 37, 3), (38, .aload_n 1, 1), (39, .iconst 1, 1), (40, .bipush 12, 2), (42, .aload_n 2, 1), (43, .getfield 145, 3), (46, .iconst 2, 1), (47, .invokevirtual 141, 3), (50, .ifCond .eq 22, 3), (53, .aload_n 1, 1), (54, .iconst 0, 1), (55, .bipush 12, 2), (57, .aload_n 2, 1), (58, .getfield 145, 3), (61, .iconst 3, 1), (62, .invokevirtual 141, 3), (65, .ifCond .eq 7, 3), (68, .iconst 1, 1), (69, .goto 4, 3), (72, .iconst 0, 1), (73, .ireturn, 1)]
set_option maxRecDepth 100000 in
theorem d_41_ok : x_dchk 41 d_41 = true := by decide +kernel
/-- l.LandReader.readBreath -/
def c_74 : xC := (41, [(12, ([(0, 1)], 0)), (17, ([(1, 1)], 0)), (11, ([(2, 1)], 0))], [], [], 3, [(2, 2, 2), (7, 3, 9), (15, 0, 3), (20, 0, 4)], 1, [(some (0, ([(3, 1)], 0)), [([(3, 1)], 0), ([(3, -1)], 1)], [])])
def n_74 : List xN := []
set_option maxRecDepth 100000 in
set_option maxHeartbeats 4000000 in
theorem h_74 (th : List Nat) (xs : Nat → Int32) (L J : Nat) : x_Holds x_tb th xs L J c_74 75 := x_ok (dm := 74) (cts := [c_72, c_65]) (D := d_41) (ns := n_74) (f := 48) d_41_ok (List.forall_mem_cons.mpr ⟨(h_72 th xs L J).mono (by omega), List.forall_mem_cons.mpr ⟨(h_65 th xs L J).mono (by omega), fun _ h => absurd h List.not_mem_nil⟩⟩) (by decide +kernel)
def d_43 : xD := [(0, .aload_n 0, 1), (1, .aload_n 1, 1), (2, .invokevirtual 137, 3), (5, .ifCond .eq 18, 3), (8, .aload_n 1, 1), (9, .iconst 1, 1), (10, .bipush 9, 2), (12, .aload_n 0, 1), (13, .getfield 9, 3), (16, .iconst 0, 1), (17, .invokevirtual 141, 3), (20, .ifCond .ne 5, 3), (23, .iconst 0, 1), (24, .ireturn, 1), (25, .aload_n 2, 1), (26, .aload_n 0, 1), (27, .getfield 9, 3), (30, .iconst 0, 1), (31, .iaload, 1), (32, .putfield 148, 3), (35, .iconst 1, 1), (36, .ireturn, 1)]
set_option maxRecDepth 100000 in
theorem d_43_ok : x_dchk 43 d_43 = true := by decide +kernel
/-- l.LandReader.readForce -/
def c_75 : xC := (43, [(12, ([(0, 1)], 0)), (17, ([(1, 1)], 0)), (11, ([(2, 1)], 0))], [], [], 3, [(1, 2, 2), (2, 2, 2), (7, 3, 9), (19, 0, 3), (20, 0, 4)], 1, [(some (0, ([(3, 1)], 0)), [([(3, 1)], 0), ([(3, -1)], 1)], [])])
def n_75 : List xN := []
set_option maxRecDepth 100000 in
set_option maxHeartbeats 4000000 in
theorem h_75 (th : List Nat) (xs : Nat → Int32) (L J : Nat) : x_Holds x_tb th xs L J c_75 76 := x_ok (dm := 75) (cts := [c_72, c_69]) (D := d_43) (ns := n_75) (f := 29) d_43_ok (List.forall_mem_cons.mpr ⟨(h_72 th xs L J).mono (by omega), List.forall_mem_cons.mpr ⟨(h_69 th xs L J).mono (by omega), fun _ h => absurd h List.not_mem_nil⟩⟩) (by decide +kernel)
def d_44 : xD := [(0, .aload_n 0, 1), (1, .aload_n 1, 1), (2, .invokevirtual 137, 3), (5, .ifCond .eq 18, 3), (8, .aload_n 1, 1), (9, .iconst 1, 1), (10, .bipush 20, 2), (12, .aload_n 0, 1), (13, .getfield 9, 3), (16, .iconst 0, 1), (17, .invokevirtual 141, 3), (20, .ifCond .ne 5, 3), (23, .iconst 0, 1), (24, .ireturn, 1), (25, .aload_n 2, 1), (26, .aload_n 0, 1), (27, .getfield 9, 3), (30, .iconst 0, 1), (31, .iaload, 1), (32, .putfield 151, 3), (35, .iconst 1, 1), (36, .ireturn, 1)]
set_option maxRecDepth 100000 in
theorem d_44_ok : x_dchk 44 d_44 = true := by decide +kernel
/-- l.LandReader.readFade -/
def c_76 : xC := (44, [(12, ([(0, 1)], 0)), (17, ([(1, 1)], 0)), (11, ([(2, 1)], 0))], [], [], 3, [(1, 3, 3), (2, 2, 2), (7, 3, 9), (19, 0, 3), (20, 0, 4)], 1, [(some (0, ([(3, 1)], 0)), [([(3, 1)], 0), ([(3, -1)], 1)], [])])
def n_76 : List xN := []
set_option maxRecDepth 100000 in
set_option maxHeartbeats 4000000 in
theorem h_76 (th : List Nat) (xs : Nat → Int32) (L J : Nat) : x_Holds x_tb th xs L J c_76 77 := x_ok (dm := 76) (cts := [c_72, c_69]) (D := d_44) (ns := n_76) (f := 29) d_44_ok (List.forall_mem_cons.mpr ⟨(h_72 th xs L J).mono (by omega), List.forall_mem_cons.mpr ⟨(h_69 th xs L J).mono (by omega), fun _ h => absurd h List.not_mem_nil⟩⟩) (by decide +kernel)
def d_45 : xD := [(0, .aload_n 0, 1), (1, .aload_n 1, 1), (2, .invokevirtual 137, 3), (5, .ifCond .eq 18, 3), (8, .aload_n 1, 1), (9, .iconst 0, 1), (10, .bipush 99, 2), (12, .aload_n 0, 1), (13, .getfield 9, 3), (16, .iconst 0, 1), (17, .invokevirtual 141, 3), (20, .ifCond .ne 5, 3), (23, .iconst 0, 1), (24, .ireturn, 1), (25, .aload_n 2, 1), (26, .aload_n 0, 1), (27, .getfield 9, 3), (30, .iconst 0, 1), (31, .iaload, 1), (32, .putfield 154, 3), (35, .iconst 1, 1), (36, .ireturn, 1)]
set_option maxRecDepth 100000 in
theorem d_45_ok : x_dchk 45 d_45 = true := by decide +kernel
/-- l.LandReader.readHeld -/
def c_77 : xC := (45, [(12, ([(0, 1)], 0)), (17, ([(1, 1)], 0)), (11, ([(2, 1)], 0))], [], [], 3, [(1, 4, 4), (2, 2, 2), (7, 3, 9), (19, 0, 3), (20, 0, 4)], 1, [(some (0, ([(3, 1)], 0)), [([(3, 1)], 0), ([(3, -1)], 1)], [])])
def n_77 : List xN := []
set_option maxRecDepth 100000 in
set_option maxHeartbeats 4000000 in
theorem h_77 (th : List Nat) (xs : Nat → Int32) (L J : Nat) : x_Holds x_tb th xs L J c_77 78 := x_ok (dm := 77) (cts := [c_72, c_69]) (D := d_45) (ns := n_77) (f := 29) d_45_ok (List.forall_mem_cons.mpr ⟨(h_72 th xs L J).mono (by omega), List.forall_mem_cons.mpr ⟨(h_69 th xs L J).mono (by omega), fun _ h => absurd h List.not_mem_nil⟩⟩) (by decide +kernel)
def d_42 : xD := [(0, .aload_n 1, 1), (1, .getfield 36, 3), (4, .astore_n 3, 1), (5, .aload_n 3, 1), (6, .getstatic 98, 3), (9, .if_acmp .ne 10, 3), (12, .aload_n 0, 1), (13, .aload_n 1, 1), (14, .aload_n 2, 1), (15, .invokevirtual 101, 3), (18, .ireturn, 1), (19, .aload_n 3, 1), (20, .getstatic 104, 3), (23, .if_acmp .ne 10, 3), (26, .aload_n 0, 1), (27, .aload_n 1, 1), (28, .aload_n 2, 1), (29, .invokevirtual 107, 3), (32, .ireturn, 1), (33, .aload_n 3, 1), (34, .getstatic 110, 3), (37, .if_acmp .ne 10, 3), (40, .aload_n 0, 1), (41, .aload_n 1, 1), (42, .aload_n 2, 1), (43, .invokevirtual 113, 3), (46, .ireturn, 1), (47, .aload_n 1, 1), (48, .iconst 1, 1), (49, .invokevirtual 116, 3), (52, .ireturn, 1)]
set_option maxRecDepth 100000 in
theorem d_42_ok : x_dchk 42 d_42 = true := by decide +kernel
/-- l.LandReader.readSetting -/
def c_78 : xC := (42, [(12, ([(0, 1)], 0)), (17, ([(1, 1)], 0)), (11, ([(2, 1)], 0))], [], [], 3, [(1, 2, 4), (2, 2, 2), (7, 3, 9), (19, 0, 3), (20, 0, 4)], 1, [(some (0, ([(3, 1)], 0)), [([(3, 1)], 0), ([(3, -1)], 1)], [])])
def n_78 : List xN := []
set_option maxRecDepth 100000 in
set_option maxHeartbeats 4000000 in
theorem h_78 (th : List Nat) (xs : Nat → Int32) (L J : Nat) : x_Holds x_tb th xs L J c_78 79 := x_ok (dm := 78) (cts := [c_77, c_76, c_75, c_10]) (D := d_42) (ns := n_78) (f := 26) d_42_ok (List.forall_mem_cons.mpr ⟨(h_77 th xs L J).mono (by omega), List.forall_mem_cons.mpr ⟨(h_76 th xs L J).mono (by omega), List.forall_mem_cons.mpr ⟨(h_75 th xs L J).mono (by omega), List.forall_mem_cons.mpr ⟨(h_10 th xs L J).mono (by omega), fun _ h => absurd h List.not_mem_nil⟩⟩⟩⟩) (by decide +kernel)
def d_26 : xD := [(0, .aload_n 2, 1), (1, .getfield 157, 3), (4, .istore_n 3, 1), (5, .iload_n 3, 1), (6, .iconst 4, 1), (7, .if_icmp .lt 9, 3), (10, .aload_n 1, 1), (11, .iconst 4, 1), (12, .invokevirtual 116, 3), (15, .ireturn, 1), (16, .aload_n 1, 1), (17, .invokevirtual 120, 3), (20, .aload_n 2, 1), (21, .iload_n 3, 1), (22, .iconst 1, 1), (23, .iadd, 1), (24, .putfield 157, 3), (27, .aload_n 1, 1), (28, .iconst 2, 1), (29, .bipush 9, 2), (31, .aload_n 2, 1), (32, .getfield 160, 3), (35, .iload_n 3, 1), (36, .invokevirtual 141, 3), (39, .ifCond .eq 37, 3), (42, .aload_n 1, 1), (43, .iconst 1, 1), (44, .bipush 9, 2), (46, .aload_n 2, 1), (47, .getfield 163, 3), (50, .iload_n 3, 1), (51, .invokevirtual 141, 3), (54, .ifCond .eq 22, 3), (57, .aload_n 1, 1), (58, .iconst 0, 1), (59, .bipush 7, 2), (61, .aload_n 2, 1), (62, .getfield 166, 3), (65, .iload_n 3, 1), (66, .invokevirtual 141, 3), (69, .ifCond .eq 7, 3), (72, .iconst 1, 1), (73, .goto 4, 3), (76, .iconst 0, 1), (77, .ireturn, 1)]
set_option maxRecDepth 100000 in
theorem d_26_ok : x_dchk 26 d_26 = true := by decide +kernel
/-- l.LandReader.readPassage -/
def c_79 : xC := (26, [(12, ([(0, 1)], 0)), (17, ([(1, 1)], 0)), (11, ([(2, 1)], 0))], [], [], 3, [(1, 5, 5), (7, 3, 9), (16, 0, 3), (17, 0, 3), (18, 0, 3)], 1, [(some (0, ([(3, 1)], 0)), [([(3, 1)], 0), ([(3, -1)], 1)], [])])
def n_79 : List xN := []
set_option maxRecDepth 100000 in
set_option maxHeartbeats 4000000 in
theorem h_79 (th : List Nat) (xs : Nat → Int32) (L J : Nat) : x_Holds x_tb th xs L J c_79 80 := x_ok (dm := 79) (cts := [c_68, c_67, c_66, c_11, c_10]) (D := d_26) (ns := n_79) (f := 49) d_26_ok (List.forall_mem_cons.mpr ⟨(h_68 th xs L J).mono (by omega), List.forall_mem_cons.mpr ⟨(h_67 th xs L J).mono (by omega), List.forall_mem_cons.mpr ⟨(h_66 th xs L J).mono (by omega), List.forall_mem_cons.mpr ⟨(h_11 th xs L J).mono (by omega), List.forall_mem_cons.mpr ⟨(h_10 th xs L J).mono (by omega), fun _ h => absurd h List.not_mem_nil⟩⟩⟩⟩⟩) (by decide +kernel)
def d_30 : xD := [(0, .aload_n 1, 1), (1, .getfield 36, 3), (4, .getstatic 225, 3), (7, .if_acmp .eq 9, 3), (10, .aload_n 1, 1), (11, .iconst 1, 1), (12, .invokevirtual 116, 3), (15, .ireturn, 1), (16, .aload_n 2, 1), (17, .aload_n 1, 1), (18, .getfield 173, 3), (21, .invokevirtual 228, 3), (24, .ifCond .eq 9, 3), (27, .aload_n 1, 1), (28, .iconst 3, 1), (29, .invokevirtual 116, 3), (32, .ireturn, 1), (33, .aload_n 1, 1), (34, .invokevirtual 120, 3), (37, .aload_n 1, 1), (38, .iconst 0, 1), (39, .iconst 1, 1), (40, .aload_n 0, 1), (41, .getfield 9, 3), (44, .iconst 0, 1), (45, .invokevirtual 141, 3), (48, .ifCond .ne 5, 3), (51, .iconst 0, 1), (52, .ireturn, 1), (53, .aload_n 1, 1), (54, .iconst 0, 1), (55, .aload_n 2, 1), (56, .getfield 57, 3), (59, .aload_n 0, 1), (60, .getfield 9, 3), (63, .iconst 0, 1), (64, .iaload, 1), (65, .invokevirtual 232, 3), (68, .iconst 1, 1), (69, .isub, 1), (70, .aload_n 0, 1), (71, .getfield 9, 3), (74, .iconst 1, 1), (75, .invokevirtual 141, 3), (78, .ireturn, 1)]
set_option maxRecDepth 100000 in
theorem d_30_ok : x_dchk 30 d_30 = true := by decide +kernel
/-- l.LandReader.readNameAndCell -/
def c_80 : xC := (30, [(12, ([(0, 1)], 0)), (17, ([(1, 1)], 0)), (10, ([(2, 1)], 0))], [], [], 3, [(7, 3, 9), (19, 0, 3)], 1, [(some (0, ([(3, 1)], 0)), [([(3, 1)], 0), ([(3, -1)], 1)], [])])
def n_80 : List xN := []
set_option maxRecDepth 100000 in
set_option maxHeartbeats 4000000 in
theorem h_80 (th : List Nat) (xs : Nat → Int32) (L J : Nat) : x_Holds x_tb th xs L J c_80 81 := x_ok (dm := 80) (cts := [c_69, c_51, c_16, c_11, c_10]) (D := d_30) (ns := n_80) (f := 44) d_30_ok (List.forall_mem_cons.mpr ⟨(h_69 th xs L J).mono (by omega), List.forall_mem_cons.mpr ⟨(h_51 th xs L J).mono (by omega), List.forall_mem_cons.mpr ⟨(h_16 th xs L J).mono (by omega), List.forall_mem_cons.mpr ⟨(h_11 th xs L J).mono (by omega), List.forall_mem_cons.mpr ⟨(h_10 th xs L J).mono (by omega), fun _ h => absurd h List.not_mem_nil⟩⟩⟩⟩⟩) (by decide +kernel)
def d_29 : xD := [(0, .aload_n 2, 1), (1, .getfield 123, 3), (4, .bipush 8, 2), (6, .if_icmp .lt 9, 3), (9, .aload_n 1, 1), (10, .iconst 4, 1), (11, .invokevirtual 116, 3), (14, .ireturn, 1), (15, .aload_n 2, 1), (16, .getfield 169, 3), (19, .aload_n 2, 1), (20, .getfield 123, 3), (23, .aaload, 1), (24, .astore_n 3, 1), (25, .aload_n 1, 1), (26, .invokevirtual 120, 3), (29, .aload_n 3, 1), (30, .aload_n 1, 1), (31, .getfield 173, 3), (34, .putfield 177, 3), (37, .aload_n 0, 1), (38, .aload_n 1, 1), (39, .aload_n 2, 1), (40, .invokevirtual 180, 3), (43, .ifCond .eq 33, 3), (46, .aload_n 1, 1), (47, .iconst 1, 1), (48, .bipush 9, 2), (50, .aload_n 0, 1), (51, .getfield 9, 3), (54, .iconst 2, 1), (55, .invokevirtual 141, 3), (58, .ifCond .eq 18, 3), (61, .aload_n 1, 1), (62, .iconst 0, 1), (63, .bipush 7, 2), (65, .aload_n 0, 1), (66, .getfield 9, 3), (69, .iconst 3, 1), (70, .invokevirtual 141, 3), (73, .ifCond .ne 5, 3), (76, .iconst 0, 1), (77, .ireturn, 1), (78, .aload_n 3, 1), (79, .aload_n 0, 1), (80, .getfield 9, 3), (83, .iconst 0, 1), (84, .iaload, 1), (85, .aload_n 0, 1), (86, .getfield 9, 3), (89, .iconst 1, 1), (90, .iaload, 1), (91, .aload_n 0, 1), (92, .getfield 9, 3), (95, .iconst 2, 1), (96, .iaload, 1), (97, .invokevirtual 183, 3), (100, .aload_n 3, 1), (101, .aload_n 0, 1), (102, .getfield 9, 3), (105, .iconst 3, 1), (106, .iaload, 1), (107, .putfield 187, 3), (110, .aload_n 3, 1), (111, .aload_n 1, 1), (112, .getfield 36, 3), (115, .getstatic 190, 3), (118, .if_acmp .ne 7, 3), (121, .iconst 1, 1), (122, .goto 4, 3), (125, .iconst 0, 1), (126, .putfield 193, 3), (129, .aload_n 3, 1), (130, .getfield 193, 3), (133, .ifCond .eq 7, 3), (136, .aload_n 1, 1), (137, .invokevirtual 120, 3), (140, .aload_n 2, 1), (141, .dup, 1), (142, .getfield 123, 3), (145, .iconst 1, 1), (146, .iadd, 1), (147, .putfield 123, 3), (150, .iconst 1, 1), (151, .ireturn, 1)]
set_option maxRecDepth 100000 in
theorem d_29_ok : x_dchk 29 d_29 = true := by decide +kernel
/-- l.LandReader.readThing -/
def c_81 : xC := (29, [(12, ([(0, 1)], 0)), (17, ([(1, 1)], 0)), (10, ([(2, 1)], 0))], [], [], 3, [(0, 4, 4), (7, 3, 9), (8, 0, 9), (19, 0, 3)], 1, [(some (0, ([(3, 1)], 0)), [([(3, 1)], 0), ([(3, -1)], 1)], [])])
def n_81 : List xN := []
set_option maxRecDepth 100000 in
set_option maxHeartbeats 4000000 in
theorem h_81 (th : List Nat) (xs : Nat → Int32) (L J : Nat) : x_Holds x_tb th xs L J c_81 82 := x_ok (dm := 81) (cts := [c_80, c_69, c_25, c_11, c_10]) (D := d_29) (ns := n_81) (f := 87) d_29_ok (List.forall_mem_cons.mpr ⟨(h_80 th xs L J).mono (by omega), List.forall_mem_cons.mpr ⟨(h_69 th xs L J).mono (by omega), List.forall_mem_cons.mpr ⟨(h_25 th xs L J).mono (by omega), List.forall_mem_cons.mpr ⟨(h_11 th xs L J).mono (by omega), List.forall_mem_cons.mpr ⟨(h_10 th xs L J).mono (by omega), fun _ h => absurd h List.not_mem_nil⟩⟩⟩⟩⟩) (by decide +kernel)
def d_37 : xD := [(0, .aload_n 2, 1), (1, .getfield 126, 3), (4, .iconst 4, 1), (5, .if_icmp .lt 9, 3), (8, .aload_n 1, 1), (9, .iconst 4, 1), (10, .invokevirtual 116, 3), (13, .ireturn, 1), (14, .aload_n 2, 1), (15, .getfield 197, 3), (18, .aload_n 2, 1), (19, .getfield 126, 3), (22, .aaload, 1), (23, .astore_n 3, 1), (24, .aload_n 1, 1), (25, .invokevirtual 120, 3), (28, .aload_n 3, 1), (29, .aload_n 1, 1), (30, .getfield 173, 3), (33, .putfield 201, 3), (36, .aload_n 0, 1), (37, .aload_n 1, 1), (38, .aload_n 2, 1), (39, .invokevirtual 180, 3), (42, .ifCond .ne 5, 3), (45, .iconst 0, 1), (46, .ireturn, 1), (47, .aload_n 3, 1), (48, .aload_n 0, 1), (49, .getfield 9, 3), (52, .iconst 0, 1), (53, .iaload, 1), (54, .putfield 204, 3), (57, .aload_n 3, 1), (58, .aload_n 0, 1), (59, .getfield 9, 3), (62, .iconst 1, 1), (63, .iaload, 1), (64, .putfield 207, 3), (67, .aload_n 3, 1), (68, .iconst 0, 1), (69, .putfield 210, 3), (72, .aload_n 2, 1), (73, .dup, 1), (74, .getfield 126, 3), (77, .iconst 1, 1), (78, .iadd, 1), (79, .putfield 126, 3), (82, .iconst 1, 1), (83, .ireturn, 1)]
set_option maxRecDepth 100000 in
theorem d_37_ok : x_dchk 37 d_37 = true := by decide +kernel
/-- l.LandReader.readMill -/
def c_82 : xC := (37, [(12, ([(0, 1)], 0)), (17, ([(1, 1)], 0)), (10, ([(2, 1)], 0))], [], [], 3, [(0, 5, 5), (5, 0, 3), (7, 3, 9), (19, 0, 3)], 1, [(some (0, ([(3, 1)], 0)), [([(3, 1)], 0), ([(3, -1)], 1)], [])])
def n_82 : List xN := []
set_option maxRecDepth 100000 in
set_option maxHeartbeats 4000000 in
theorem h_82 (th : List Nat) (xs : Nat → Int32) (L J : Nat) : x_Holds x_tb th xs L J c_82 83 := x_ok (dm := 82) (cts := [c_80, c_11, c_10]) (D := d_37) (ns := n_82) (f := 53) d_37_ok (List.forall_mem_cons.mpr ⟨(h_80 th xs L J).mono (by omega), List.forall_mem_cons.mpr ⟨(h_11 th xs L J).mono (by omega), List.forall_mem_cons.mpr ⟨(h_10 th xs L J).mono (by omega), fun _ h => absurd h List.not_mem_nil⟩⟩⟩) (by decide +kernel)
def d_38 : xD := [(0, .aload_n 2, 1), (1, .getfield 129, 3), (4, .iconst 4, 1), (5, .if_icmp .lt 9, 3), (8, .aload_n 1, 1), (9, .iconst 4, 1), (10, .invokevirtual 116, 3), (13, .ireturn, 1), (14, .aload_n 2, 1), (15, .getfield 213, 3), (18, .aload_n 2, 1), (19, .getfield 129, 3), (22, .aaload, 1), (23, .astore_n 3, 1), (24, .aload_n 1, 1), (25, .invokevirtual 120, 3), (28, .aload_n 3, 1), (29, .aload_n 1, 1), (30, .getfield 173, 3), (33, .putfield 217, 3), (36, .aload_n 0, 1), (37, .aload_n 1, 1), (38, .aload_n 2, 1), (39, .invokevirtual 180, 3), (42, .ifCond .ne 5, 3), (45, .iconst 0, 1), (46, .ireturn, 1), (47, .aload_n 3, 1), (48, .aload_n 0, 1), (49, .getfield 9, 3), (52, .iconst 0, 1), (53, .iaload, 1), (54, .putfield 220, 3), (57, .aload_n 3, 1), (58, .aload_n 0, 1), (59, .getfield 9, 3), (62, .iconst 1, 1), (63, .iaload, 1), (64, .putfield 221, 3), (67, .aload_n 3, 1), (68, .iconst 0, 1), (69, .putfield 222, 3), (72, .aload_n 2, 1), (73, .dup, 1), (74, .getfield 129, 3), (77, .iconst 1, 1), (78, .iadd, 1), (79, .putfield 129, 3), (82, .iconst 1, 1), (83, .ireturn, 1)]
set_option maxRecDepth 100000 in
theorem d_38_ok : x_dchk 38 d_38 = true := by decide +kernel
/-- l.LandReader.readMan -/
def c_83 : xC := (38, [(12, ([(0, 1)], 0)), (17, ([(1, 1)], 0)), (10, ([(2, 1)], 0))], [], [], 3, [(0, 6, 6), (4, 0, 3), (7, 3, 9), (19, 0, 3)], 1, [(some (0, ([(3, 1)], 0)), [([(3, 1)], 0), ([(3, -1)], 1)], [])])
def n_83 : List xN := []
set_option maxRecDepth 100000 in
set_option maxHeartbeats 4000000 in
theorem h_83 (th : List Nat) (xs : Nat → Int32) (L J : Nat) : x_Holds x_tb th xs L J c_83 84 := x_ok (dm := 83) (cts := [c_80, c_11, c_10]) (D := d_38) (ns := n_83) (f := 53) d_38_ok (List.forall_mem_cons.mpr ⟨(h_80 th xs L J).mono (by omega), List.forall_mem_cons.mpr ⟨(h_11 th xs L J).mono (by omega), List.forall_mem_cons.mpr ⟨(h_10 th xs L J).mono (by omega), fun _ h => absurd h List.not_mem_nil⟩⟩⟩) (by decide +kernel)
def d_25 : xD := [(0, .aload_n 1, 1), (1, .getfield 36, 3), (4, .astore_n 3, 1), (5, .aload_n 3, 1), (6, .getstatic 54, 3), (9, .if_acmp .ne 13, 3), (12, .aload_n 0, 1), (13, .aload_n 1, 1), (14, .aload_n 2, 1), (15, .getfield 57, 3), (18, .invokevirtual 61, 3), (21, .ireturn, 1), (22, .aload_n 3, 1), (23, .getstatic 65, 3), (26, .if_acmp .ne 10, 3), (29, .aload_n 0, 1), (30, .aload_n 1, 1), (31, .aload_n 2, 1), (32, .invokevirtual 68, 3), (35, .ireturn, 1), (36, .aload_n 3, 1), (37, .getstatic 71, 3), (40, .if_acmp .ne 10, 3), (43, .aload_n 0, 1), (44, .aload_n 1, 1), (45, .aload_n 2, 1), (46, .invokevirtual 74, 3), (49, .ireturn, 1), (50, .aload_n 3, 1), (51, .getstatic 77, 3), (54, .if_acmp .ne 10, 3), (57, .aload_n 0, 1), (58, .aload_n 1, 1), (59, .aload_n 2, 1), (60, .invokevirtual 80, 3), (63, .ireturn, 1), (64, .aload_n 3, 1), (65, .getstatic 83, 3), (68, .if_acmp .ne 10, 3), (71, .aload_n 0, 1), (72, .aload_n 1, 1), (73, .aload_n 2, 1), (74, .invokevirtual 86, 3), (77, .ireturn, 1), (78, .aload_n 3, 1), (79, .getstatic 89, 3), (82, .if_acmp .ne 13, 3), (85, .aload_n 0, 1), (86, .aload_n 1, 1), (87, .aload_n 2, 1), (88, .getfield 57, 3), (91, .invokevirtual 92, 3), (94, .ireturn, 1), (95, .aload_n 0, 1), (96, .aload_n 1, 1), (97, .aload_n 2, 1), (98, .getfield 57, 3), (101, .invokevirtual 95, 3), (104, .ireturn, 1)]
set_option maxRecDepth 100000 in
theorem d_25_ok : x_dchk 25 d_25 = true := by decide +kernel
/-- l.LandReader.readLine -/
def c_84 : xC := (25, [(12, ([(0, 1)], 0)), (17, ([(1, 1)], 0)), (10, ([(2, 1)], 0))], [], [], 3, [(0, 4, 6), (1, 2, 5), (2, 2, 2), (4, 0, 3), (5, 0, 3), (7, 3, 9), (8, 0, 9), (14, 0, 1), (15, 0, 3), (16, 0, 3), (17, 0, 3), (18, 0, 3), (19, 0, 3), (20, 0, 4)], 1, [(some (0, ([(3, 1)], 0)), [([(3, 1)], 0), ([(3, -1)], 1)], [])])
def n_84 : List xN := []
set_option maxRecDepth 100000 in
set_option maxHeartbeats 4000000 in
theorem h_84 (th : List Nat) (xs : Nat → Int32) (L J : Nat) : x_Holds x_tb th xs L J c_84 85 := x_ok (dm := 84) (cts := [c_83, c_82, c_81, c_79, c_78, c_74, c_73]) (D := d_25) (ns := n_84) (f := 36) d_25_ok (List.forall_mem_cons.mpr ⟨(h_83 th xs L J).mono (by omega), List.forall_mem_cons.mpr ⟨(h_82 th xs L J).mono (by omega), List.forall_mem_cons.mpr ⟨(h_81 th xs L J).mono (by omega), List.forall_mem_cons.mpr ⟨(h_79 th xs L J).mono (by omega), List.forall_mem_cons.mpr ⟨(h_78 th xs L J).mono (by omega), List.forall_mem_cons.mpr ⟨(h_74 th xs L J).mono (by omega), List.forall_mem_cons.mpr ⟨(h_73 th xs L J).mono (by omega), fun _ h => absurd h List.not_mem_nil⟩⟩⟩⟩⟩⟩⟩) (by decide +kernel)
def d_17 : xD := [(0, .aload_n 2, 1), (1, .invokevirtual 25, 3), (4, .aload_n 0, 1), (5, .iconst 0, 1), (6, .putfield 21, 3), (9, .aload_n 1, 1), (10, .sipush 900, 3), (13, .invokevirtual 30, 3), (16, .iconst 0, 1), (17, .istore_n 3, 1), (18, .iload_n 3, 1), (19, .sipush 900, 3), (22, .if_icmp .ge 42, 3), (25, .aload_n 1, 1), (26, .getfield 36, 3), (29, .getstatic 40, 3), (32, .if_acmp .ne 5, 3), (35, .iload_n 3, 1), (36, .ireturn, 1), (37, .aload_n 0, 1), (38, .aload_n 1, 1), (39, .aload_n 2, 1), (40, .invokevirtual 43, 3), (43, .ifCond .eq 13, 3), (46, .aload_n 1, 1), (47, .getstatic 47, 3), (50, .invokevirtual 50, 3), (53, .ifCond .ne 5, 3), (56, .iconst (-1), 1), (57, .ireturn, 1), (58, .iinc 3 1, 3), (61, .goto (-43), 3), (64, .iconst (-1), 1), (65, .ireturn, 1)]
set_option maxRecDepth 100000 in
theorem d_17_ok : x_dchk 17 d_17 = true := by decide +kernel
/-- l.LandReader.readLand -/
def c_85 : xC := (17, [(12, ([(0, 1)], 0)), (17, ([(1, 1)], 0)), (10, ([(2, 1)], 0))], [], [], 3, [(0, 4, 7), (1, 2, 5), (2, 2, 2), (4, 0, 3), (5, 0, 3), (7, 2, 9), (8, 0, 9), (14, 0, 1), (15, 0, 3), (16, 0, 3), (17, 0, 3), (18, 0, 3), (19, 0, 3), (20, 0, 4)], 1, [(some (0, ([(3, 1)], 0)), [], [])])
def n_85 : List xN := [(18, [(3, (0, ([(3, 1)], 0))), (0, (12, ([(0, 1)], 0))), (1, (17, ([(1, 1)], 0))), (2, (10, ([(2, 1)], 0)))], [(2, ([(0, 1)], 0), 2, (0, ([(4, 1)], 0)))], [([(3, 1)], 0), ([(4, 1)], 0), ([(4, -1)], 5), ([(3, -1)], 1000), ([(3, -1)], 1001)], 5, [([], 1), ([(3, -1)], 2147483647), ([], 5000000000), ([], 5000000000), ([], 5000000000)])]
set_option maxRecDepth 100000 in
set_option maxHeartbeats 4000000 in
theorem h_85 (th : List Nat) (xs : Nat → Int32) (L J : Nat) : x_Holds x_tb th xs L J c_85 86 := x_ok (dm := 85) (cts := [c_84, c_43, c_13, c_12]) (D := d_17) (ns := n_85) (f := 28) d_17_ok (List.forall_mem_cons.mpr ⟨(h_84 th xs L J).mono (by omega), List.forall_mem_cons.mpr ⟨(h_43 th xs L J).mono (by omega), List.forall_mem_cons.mpr ⟨(h_13 th xs L J).mono (by omega), List.forall_mem_cons.mpr ⟨(h_12 th xs L J).mono (by omega), fun _ h => absurd h List.not_mem_nil⟩⟩⟩⟩) (by decide +kernel)
def d_134 : xD := [(0, .iload_n 1, 1), (1, .ifCond .ne 7, 3), (4, .iconst 0, 1), (5, .goto 6, 3), (8, .iload_n 0, 1), (9, .iload_n 1, 1), (10, .iadd, 1), (11, .ireturn, 1)]
set_option maxRecDepth 100000 in
theorem d_134_ok : x_dchk 134 d_134 = true := by decide +kernel
/-- hingHill.Log.reason -/
def c_86 : xC := (134, [(0, ([(0, 1)], 0)), (0, ([(1, 1)], 0))], [], [], 2, [], 1, [(some (0, ([(2, 1)], 0)), [], [])])
def n_86 : List xN := []
set_option maxRecDepth 100000 in
set_option maxHeartbeats 4000000 in
theorem h_86 (th : List Nat) (xs : Nat → Int32) (L J : Nat) : x_Holds x_tb th xs L J c_86 87 := x_ok (dm := 86) (cts := []) (D := d_134) (ns := n_86) (f := 15) d_134_ok (fun _ h => absurd h List.not_mem_nil) (by decide +kernel)
def d_131 : xD := [(0, .aload_n 1, 1), (1, .getfield 40, 3), (4, .astore_n 3, 1), (5, .aload_n 3, 1), (6, .getstatic 58, 3), (9, .if_acmp .eq 23, 3), (12, .aload_n 3, 1), (13, .getstatic 61, 3), (16, .if_acmp .eq 16, 3), (19, .aload_n 3, 1), (20, .getstatic 64, 3), (23, .if_acmp .eq 9, 3), (26, .aload_n 1, 1), (27, .iconst 1, 1), (28, .invokevirtual 67, 3), (31, .ireturn, 1), (32, .aload_n 3, 1), (33, .getstatic 58, 3), (36, .if_acmp .ne 14, 3), (39, .aload_n 2, 1), (40, .aload_n 1, 1), (41, .getfield 71, 3), (44, .invokevirtual 75, 3), (47, .goto 4, 3), (50, .iconst (-1), 1), (51, .istore 4, 2), (53, .aload_n 3, 1), (54, .getstatic 58, 3), (57, .if_acmp .ne 14, 3), (60, .aload_n 2, 1), (61, .aload_n 1, 1), (62, .getfield 71, 3), (65, .invokevirtual 81, 3), (68, .goto 4, 3), (71, .iconst (-1), 1), (72, .istore 5, 2), (74, .aload_n 3, 1), (75, .getstatic 58, 3), (78, .if_acmp .ne 21, 3), (81, .iload 4, 2), (83, .iconst (-1), 1), (84, .if_icmp .ne 15, 3), (87, .iload 5, 2), (89, .iconst (-1), 1), (90, .if_icmp .ne 9, 3), (93, .aload_n 1, 1), (94, .iconst 3, 1), (95, .invokevirtual 67, 3), (98, .ireturn, 1), (99, .aload_n 0, 1), (100, .getfield 24, 3), (103, .bipush 40, 2), (105, .if_icmp .lt 9, 3), (108, .aload_n 1, 1), (109, .iconst 4, 1), (110, .invokevirtual 67, 3), (113, .ireturn, 1), (114, .aload_n 1, 1), (115, .invokevirtual 84, 3), (118, .aload_n 0, 1), (119, .getfield 11, 3), (122, .aload_n 0, 1), (123, .getfield 24, 3), (126, .aload_n 3, 1), (127, .getstatic 58, 3), (130, .if_acmp .ne 10, 3), (133, .aload_n 1, 1), (134, .getfield 40, 3), (137, .goto 4, 3), (140, .aload_n 3, 1), (141, .aastore, 1), (142, .aload_n 0, 1), (143, .getfield 17, 3), (146, .aload_n 0, 1), (147, .getfield 24, 3), (150, .iload 4, 2), (152, .iload 5, 2), (154, .invokestatic 87, 3), (157, .iastore, 1), (158, .aload_n 0, 1), (159, .dup, 1), (160, .getfield 24, 3), (163, .iconst 1, 1), (164, .iadd, 1), (165, .putfield 24, 3), (168, .iload 4, 2), (170, .iconst (-1), 1), (171, .if_icmp .eq 31, 3), (174, .aload_n 1, 1), (175, .getfield 40, 3), (178, .getstatic 93, 3), (181, .if_acmp .ne 13, 3), (184, .aload_n 1, 1), (185, .getstatic 93, 3), (188, .invokevirtual 54, 3), (191, .goto 10, 3), (194, .aload_n 1, 1), (195, .getstatic 96, 3), (198, .invokevirtual 54, 3), (201, .ireturn, 1), (202, .iload 5, 2), (204, .iconst (-1), 1), (205, .if_icmp .eq 39, 3), (208, .aload_n 1, 1), (209, .getstatic 99, 3), (212, .invokevirtual 54, 3), (215, .ifCond .eq 27, 3), (218, .aload_n 1, 1), (219, .iconst 0, 1), (220, .bipush 19, 2), (222, .aload_n 0, 1), (223, .getfield 21, 3), (226, .aload_n 0, 1), (227, .getfield 24, 3), (230, .iconst 1, 1), (231, .isub, 1), (232, .invokevirtual 102, 3), (235, .ifCond .eq 7, 3), (238, .iconst 1, 1), (239, .goto 4, 3), (242, .iconst 0, 1), (243, .ireturn, 1), (244, .aload_n 3, 1), (245, .getstatic 64, 3), (248, .if_acmp .eq 23, 3), (251, .aload_n 1, 1), (252, .iconst 1, 1), (253, .bipush 60, 2), (255, .aload_n 0, 1), (256, .getfield 21, 3), (259, .aload_n 0, 1), (260, .getfield 24, 3), (263, .iconst 1, 1), (264, .isub, 1), (265, .invokevirtual 102, 3), (268, .ifCond .eq 7, 3), (271, .iconst 1, 1), (272, .goto 4, 3), (275, .iconst 0, 1), (276, .ireturn, 1)]
set_option maxRecDepth 100000 in
theorem d_131_ok : x_dchk 131 d_131 = true := by decide +kernel
/-- hingHill.Log.readLine -/
def c_87 : xC := (131, [(13, ([(0, 1)], 0)), (17, ([(1, 1)], 0)), (10, ([(2, 1)], 0))], [], [], 3, [(3, 3, 3), (7, 3, 9), (21, 0, 39), (22, 0, 39), (23, 0, 39)], 1, [(some (0, ([(3, 1)], 0)), [([(3, 1)], 0), ([(3, -1)], 1)], [])])
def n_87 : List xN := [(32, [(3, (3, ([], 0))), (0, (13, ([(0, 1)], 0))), (1, (17, ([(1, 1)], 0))), (2, (10, ([(2, 1)], 0)))], [], [], 3, [([], 2), ([], 5000000000), ([], 5000000000), ([], 5000000000), ([], 5000000000)]), (99, [(5, (0, ([(3, 1)], 0))), (4, (0, ([(4, 1)], 0))), (3, (3, ([], 0))), (0, (13, ([(0, 1)], 0))), (1, (17, ([(1, 1)], 0))), (2, (10, ([(2, 1)], 0)))], [], [], 5, [([], 1), ([], 5000000000), ([], 5000000000), ([], 5000000000), ([], 5000000000)])]
set_option maxRecDepth 100000 in
set_option maxHeartbeats 4000000 in
theorem h_87 (th : List Nat) (xs : Nat → Int32) (L J : Nat) : x_Holds x_tb th xs L J c_87 88 := x_ok (dm := 87) (cts := [c_70, c_50, c_49, c_13, c_11, c_10]) (D := d_131) (ns := n_87) (f := 64) d_131_ok (List.forall_mem_cons.mpr ⟨(h_70 th xs L J).mono (by omega), List.forall_mem_cons.mpr ⟨(h_50 th xs L J).mono (by omega), List.forall_mem_cons.mpr ⟨(h_49 th xs L J).mono (by omega), List.forall_mem_cons.mpr ⟨(h_13 th xs L J).mono (by omega), List.forall_mem_cons.mpr ⟨(h_11 th xs L J).mono (by omega), List.forall_mem_cons.mpr ⟨(h_10 th xs L J).mono (by omega), fun _ h => absurd h List.not_mem_nil⟩⟩⟩⟩⟩⟩) (by decide +kernel)
def d_130 : xD := [(0, .aload_n 0, 1), (1, .iconst 0, 1), (2, .putfield 24, 3), (5, .aload_n 1, 1), (6, .sipush 400, 3), (9, .invokevirtual 34, 3), (12, .iconst 0, 1), (13, .istore_n 3, 1), (14, .iload_n 3, 1), (15, .bipush 40, 2), (17, .if_icmp .gt 42, 3), (20, .aload_n 1, 1), (21, .getfield 40, 3), (24, .getstatic 44, 3), (27, .if_acmp .ne 5, 3), (30, .iconst 1, 1), (31, .ireturn, 1), (32, .aload_n 0, 1), (33, .aload_n 1, 1), (34, .aload_n 2, 1), (35, .invokevirtual 47, 3), (38, .ifCond .eq 13, 3), (41, .aload_n 1, 1), (42, .getstatic 51, 3), (45, .invokevirtual 54, 3), (48, .ifCond .ne 5, 3), (51, .iconst 0, 1), (52, .ireturn, 1), (53, .iinc 3 1, 3), (56, .goto (-42), 3), (59, .iconst 0, 1), (60, .ireturn, 1)]
set_option maxRecDepth 100000 in
theorem d_130_ok : x_dchk 130 d_130 = true := by decide +kernel
/-- hingHill.Log.readLog -/
def c_88 : xC := (130, [(13, ([(0, 1)], 0)), (17, ([(1, 1)], 0)), (10, ([(2, 1)], 0))], [], [], 3, [(3, 3, 3), (7, 2, 9), (21, 0, 39), (22, 0, 39), (23, 0, 39)], 1, [(some (0, ([(3, 1)], 0)), [([(3, 1)], 0), ([(3, -1)], 1)], [])])
def n_88 : List xN := [(14, [(3, (0, ([(3, 1)], 0))), (0, (13, ([(0, 1)], 0))), (1, (17, ([(1, 1)], 0))), (2, (10, ([(2, 1)], 0)))], [(3, ([(0, 1)], 0), 3, (0, ([(4, 1)], 0)))], [([(3, 1)], 0), ([(4, 1)], 0), ([(4, -1)], 40), ([(3, -1)], 1000), ([(3, -1)], 1001)], 5, [([], 1), ([(3, -1)], 2147483647), ([], 5000000000), ([], 5000000000), ([], 5000000000)])]
set_option maxRecDepth 100000 in
set_option maxHeartbeats 4000000 in
theorem h_88 (th : List Nat) (xs : Nat → Int32) (L J : Nat) : x_Holds x_tb th xs L J c_88 89 := x_ok (dm := 88) (cts := [c_87, c_13, c_12]) (D := d_130) (ns := n_88) (f := 28) d_130_ok (List.forall_mem_cons.mpr ⟨(h_87 th xs L J).mono (by omega), List.forall_mem_cons.mpr ⟨(h_13 th xs L J).mono (by omega), List.forall_mem_cons.mpr ⟨(h_12 th xs L J).mono (by omega), fun _ h => absurd h List.not_mem_nil⟩⟩⟩) (by decide +kernel)
def d_133 : xD := [(0, .aload_n 1, 1), (1, .getstatic 99, 3), (4, .if_acmp .ne 29, 3), (7, .aload_n 0, 1), (8, .iload_n 2, 1), (9, .iload_n 3, 1), (10, .invokevirtual 110, 3), (13, .ifCond .eq 17, 3), (16, .bipush 20, 2), (18, .aload_n 0, 1), (19, .iload_n 2, 1), (20, .iload_n 3, 1), (21, .invokevirtual 114, 3), (24, .invokestatic 117, 3), (27, .goto 5, 3), (30, .bipush 29, 2), (32, .ireturn, 1), (33, .aload_n 1, 1), (34, .getstatic 64, 3), (37, .if_acmp .ne 13, 3), (40, .bipush 30, 2), (42, .aload_n 0, 1), (43, .invokevirtual 120, 3), (46, .invokestatic 117, 3), (49, .ireturn, 1), (50, .aload_n 1, 1), (51, .getstatic 61, 3), (54, .if_acmp .ne 26, 3), (57, .aload_n 0, 1), (58, .getfield 124, 3), (61, .iload_n 3, 1), (62, .iadd, 1), (63, .sipush 1000, 3), (66, .if_icmp .le 6, 3), (69, .bipush 41, 2), (71, .ireturn, 1), (72, .aload_n 0, 1), (73, .iload_n 3, 1), (74, .invokevirtual 127, 3), (77, .pop, 1), (78, .iconst 0, 1), (79, .ireturn, 1), (80, .aload_n 0, 1), (81, .iload_n 2, 1), (82, .invokevirtual 131, 3), (85, .ifCond .ne 5, 3), (88, .iconst 0, 1), (89, .ireturn, 1), (90, .aload_n 1, 1), (91, .getstatic 96, 3), (94, .if_acmp .ne 15, 3), (97, .aload_n 0, 1), (98, .getfield 134, 3), (101, .iload_n 2, 1), (102, .aaload, 1), (103, .invokevirtual 138, 3), (106, .goto 17, 3), (109, .bipush 10, 2), (111, .aload_n 0, 1), (112, .getfield 134, 3), (115, .iload_n 2, 1), (116, .aaload, 1), (117, .invokevirtual 143, 3), (120, .invokestatic 117, 3), (123, .ireturn, 1)]
set_option maxRecDepth 100000 in
theorem d_133_ok : x_dchk 133 d_133 = true := by decide +kernel
/-- hingHill.Log.liveLine -/
def c_89 : xC := (133, [(10, ([(0, 1)], 0)), (4, ([], 0)), (0, ([(1, 1)], 0)), (0, ([(2, 1)], 0))], [], [], 3, [(0, 7, 7), (4, 2, 3), (5, 3, 3), (8, 3, 9)], 1, [(some (0, ([(3, 1)], 0)), [], [])])
def n_89 : List xN := []
set_option maxRecDepth 100000 in
set_option maxHeartbeats 4000000 in
theorem h_89 (th : List Nat) (xs : Nat → Int32) (L J : Nat) : x_Holds x_tb th xs L J c_89 90 := x_ok (dm := 89) (cts := [c_86, c_59, c_58, c_57, c_48, c_45, c_31, c_30]) (D := d_133) (ns := n_89) (f := 33) d_133_ok (List.forall_mem_cons.mpr ⟨(h_86 th xs L J).mono (by omega), List.forall_mem_cons.mpr ⟨(h_59 th xs L J).mono (by omega), List.forall_mem_cons.mpr ⟨(h_58 th xs L J).mono (by omega), List.forall_mem_cons.mpr ⟨(h_57 th xs L J).mono (by omega), List.forall_mem_cons.mpr ⟨(h_48 th xs L J).mono (by omega), List.forall_mem_cons.mpr ⟨(h_45 th xs L J).mono (by omega), List.forall_mem_cons.mpr ⟨(h_31 th xs L J).mono (by omega), List.forall_mem_cons.mpr ⟨(h_30 th xs L J).mono (by omega), fun _ h => absurd h List.not_mem_nil⟩⟩⟩⟩⟩⟩⟩⟩) (by decide +kernel)
def d_132 : xD := [(0, .aload_n 0, 1), (1, .iconst 0, 1), (2, .putfield 31, 3), (5, .aload_n 0, 1), (6, .iconst 0, 1), (7, .putfield 28, 3), (10, .aload_n 0, 1), (11, .getfield 31, 3), (14, .aload_n 0, 1), (15, .getfield 24, 3), (18, .if_icmp .ge 65, 3), (21, .aload_n 0, 1), (22, .getfield 28, 3), (25, .ifCond .ne 58, 3), (28, .aload_n 0, 1), (29, .aload_n 1, 1), (30, .aload_n 0, 1), (31, .getfield 11, 3), (34, .aload_n 0, 1), (35, .getfield 31, 3), (38, .aaload, 1), (39, .aload_n 0, 1), (40, .getfield 17, 3), (43, .aload_n 0, 1), (44, .getfield 31, 3), (47, .iaload, 1), (48, .aload_n 0, 1), (49, .getfield 21, 3), (52, .aload_n 0, 1), (53, .getfield 31, 3), (56, .iaload, 1), (57, .invokestatic 106, 3), (60, .putfield 28, 3), (63, .aload_n 0, 1), (64, .getfield 28, 3), (67, .ifCond .ne (-57), 3), (70, .aload_n 0, 1), (71, .dup, 1), (72, .getfield 31, 3), (75, .iconst 1, 1), (76, .iadd, 1), (77, .putfield 31, 3), (80, .goto (-70), 3), (83, .return_, 1)]
set_option maxRecDepth 100000 in
theorem d_132_ok : x_dchk 132 d_132 = true := by decide +kernel
/-- hingHill.Log.liveOn -/
def c_90 : xC := (132, [(13, ([(0, 1)], 0)), (10, ([(1, 1)], 0))], [], [], 2, [(0, 7, 7), (3, 4, 5), (4, 2, 3), (5, 3, 3), (8, 3, 9)], 0, [(none, [], [])])
def n_90 : List xN := [(28, [(0, (13, ([(0, 1)], 0))), (1, (10, ([(1, 1)], 0)))], [(3, ([(0, 1)], 0), 3, (0, ([(2, 1)], 0))), (3, ([(0, 1)], 0), 4, (0, ([(3, 1)], 0))), (3, ([(0, 1)], 0), 5, (0, ([(4, 1)], 0)))], [([(2, 1)], -1), ([(2, 1)], 0), ([(2, -1)], 40), ([(3, 1)], 0), ([(3, -1)], 0), ([(3, 1)], 2147483648), ([(3, -1)], 2147483647), ([(4, 1)], 0), ([(4, -1)], 40), ([(2, 1), (3, -1)], -1), ([(2, 1), (3, -1)], 0), ([(3, -1), (4, 1)], 0), ([(2, 1), (4, -1)], -1), ([(2, 1), (4, -1)], 0)], 5, [([], 2), ([(4, -1)], 2147483647), ([], 5000000000), ([], 5000000000), ([], 5000000000)])]
set_option maxRecDepth 100000 in
set_option maxHeartbeats 4000000 in
theorem h_90 (th : List Nat) (xs : Nat → Int32) (L J : Nat) : x_Holds x_tb th xs L J c_90 91 := x_ok (dm := 90) (cts := [c_89]) (D := d_132) (ns := n_90) (f := 47) d_132_ok (List.forall_mem_cons.mpr ⟨(h_89 th xs L J).mono (by omega), fun _ h => absurd h List.not_mem_nil⟩) (by decide +kernel)
def d_52 : xD := [(0, .aload_n 0, 1), (1, .iconst 0, 1), (2, .putfield 27, 3), (5, .aload_n 0, 1), (6, .iconst 0, 1), (7, .putfield 31, 3), (10, .return_, 1)]
set_option maxRecDepth 100000 in
theorem d_52_ok : x_dchk 52 d_52 = true := by decide +kernel
/-- ill.Sentence.forget -/
def c_91 : xC := (52, [(16, ([(0, 1)], 0))], [], [], 1, [(6, 4, 5)], 0, [(none, [], [])])
def n_91 : List xN := []
set_option maxRecDepth 100000 in
set_option maxHeartbeats 4000000 in
theorem h_91 (th : List Nat) (xs : Nat → Int32) (L J : Nat) : x_Holds x_tb th xs L J c_91 92 := x_ok (dm := 91) (cts := []) (D := d_52) (ns := n_91) (f := 16) d_52_ok (fun _ h => absurd h List.not_mem_nil) (by decide +kernel)
def d_147 : xD := [(0, .aload_n 0, 1), (1, .getfield 27, 3), (4, .ifCond .le 7, 3), (7, .iconst 1, 1), (8, .goto 4, 3), (11, .iconst 0, 1), (12, .ireturn, 1)]
set_option maxRecDepth 100000 in
theorem d_147_ok : x_dchk 147 d_147 = true := by decide +kernel
/-- ill.Sentence.isTold -/
def c_92 : xC := (147, [(16, ([(0, 1)], 0))], [], [], 1, [], 1, [(some (0, ([(1, 1)], 0)), [([(1, 1)], 0), ([(1, -1)], 1)], [])])
def n_92 : List xN := []
set_option maxRecDepth 100000 in
set_option maxHeartbeats 4000000 in
theorem h_92 (th : List Nat) (xs : Nat → Int32) (L J : Nat) : x_Holds x_tb th xs L J c_92 93 := x_ok (dm := 92) (cts := []) (D := d_147) (ns := n_92) (f := 15) d_147_ok (fun _ h => absurd h List.not_mem_nil) (by decide +kernel)
def d_145 : xD := [(0, .aload_n 0, 1), (1, .aload_n 1, 1), (2, .getfield 27, 3), (5, .putfield 27, 3), (8, .aload_n 0, 1), (9, .aload_n 1, 1), (10, .getfield 31, 3), (13, .putfield 31, 3), (16, .iconst 0, 1), (17, .istore_n 2, 1), (18, .iload_n 2, 1), (19, .bipush 40, 2), (21, .if_icmp .ge 45, 3), (24, .aload_n 0, 1), (25, .getfield 13, 3), (28, .iload_n 2, 1), (29, .aload_n 1, 1), (30, .getfield 13, 3), (33, .iload_n 2, 1), (34, .aaload, 1), (35, .aastore, 1), (36, .aload_n 0, 1), (37, .getfield 17, 3), (40, .iload_n 2, 1), (41, .aload_n 1, 1), (42, .getfield 17, 3), (45, .iload_n 2, 1), (46, .aaload, 1), (47, .aastore, 1), (48, .aload_n 0, 1), (49, .getfield 20, 3), (52, .iload_n 2, 1), (53, .aload_n 1, 1), (54, .getfield 20, 3), (57, .iload_n 2, 1), (58, .iaload, 1), (59, .iastore, 1), (60, .iinc 2 1, 3), (63, .goto (-45), 3), (66, .return_, 1)]
set_option maxRecDepth 100000 in
theorem d_145_ok : x_dchk 145 d_145 = true := by decide +kernel
/-- ill.Sentence.copyFrom -/
def c_93 : xC := (145, [(16, ([(0, 1)], 0)), (16, ([(1, 1)], 0))], [], [], 2, [(6, 4, 5), (24, 0, 39), (25, 0, 39), (26, 0, 39)], 0, [(none, [], [])])
def n_93 : List xN := [(18, [(2, (0, ([(2, 1)], 0))), (0, (16, ([(0, 1)], 0))), (1, (16, ([(1, 1)], 0)))], [(6, ([(0, 1)], 0), 5, (0, ([(3, 1)], 0))), (6, ([(0, 1)], 0), 4, (0, ([(4, 1)], 0)))], [([(3, 1)], 2147483648), ([(3, -1)], 2147483647), ([(4, 1)], 0), ([(4, -1)], 40), ([(2, 1)], 0), ([(2, -1)], 1000), ([(2, -1)], 1001)], 5, [([], 1), ([(2, -1)], 2147483647), ([], 5000000000), ([], 5000000000), ([], 5000000000)])]
set_option maxRecDepth 100000 in
set_option maxHeartbeats 4000000 in
theorem h_93 (th : List Nat) (xs : Nat → Int32) (L J : Nat) : x_Holds x_tb th xs L J c_93 94 := x_ok (dm := 93) (cts := []) (D := d_145) (ns := n_93) (f := 39) d_145_ok (fun _ h => absurd h List.not_mem_nil) (by decide +kernel)
def d_143 : xD := [(0, .aload_n 0, 1), (1, .getfield 27, 3), (4, .bipush 40, 2), (6, .if_icmp .lt 5, 3), (9, .iconst 0, 1), (10, .ireturn, 1), (11, .aload_n 0, 1), (12, .getfield 13, 3), (15, .aload_n 0, 1), (16, .getfield 27, 3), (19, .aload_n 1, 1), (20, .aastore, 1), (21, .aload_n 0, 1), (22, .getfield 17, 3), (25, .aload_n 0, 1), (26, .getfield 27, 3), (29, .aload_n 2, 1), (30, .aastore, 1), (31, .aload_n 0, 1), (32, .dup, 1), (33, .getfield 27, 3), (36, .iconst 1, 1), (37, .iadd, 1), (38, .putfield 27, 3), (41, .iconst 1, 1), (42, .ireturn, 1)]
set_option maxRecDepth 100000 in
theorem d_143_ok : x_dchk 143 d_143 = true := by decide +kernel
/-- ill.Sentence.addStep -/
def c_94 : xC := (143, [(16, ([(0, 1)], 0)), (4, ([], 0)), (4, ([], 0))], [], [], 1, [(6, 4, 4), (24, 0, 39), (25, 0, 39)], 1, [(some (0, ([(1, 1)], 0)), [([(1, 1)], 0), ([(1, -1)], 1)], [])])
def n_94 : List xN := []
set_option maxRecDepth 100000 in
set_option maxHeartbeats 4000000 in
theorem h_94 (th : List Nat) (xs : Nat → Int32) (L J : Nat) : x_Holds x_tb th xs L J c_94 95 := x_ok (dm := 94) (cts := []) (D := d_143) (ns := n_94) (f := 33) d_143_ok (fun _ h => absurd h List.not_mem_nil) (by decide +kernel)
def d_141 : xD := [(0, .aload_n 0, 1), (1, .getstatic 113, 3), (4, .if_acmp .eq 24, 3), (7, .aload_n 0, 1), (8, .getstatic 116, 3), (11, .if_acmp .eq 17, 3), (14, .aload_n 0, 1), (15, .getstatic 119, 3), (18, .if_acmp .eq 10, 3), (21, .aload_n 0, 1), (22, .getstatic 122, 3), (25, .if_acmp .ne 7, 3), (28, .iconst 1, 1), (29, .goto 4, 3), (32, .iconst 0, 1), (33, .ireturn, 1)]
set_option maxRecDepth 100000 in
theorem d_141_ok : x_dchk 141 d_141 = true := by decide +kernel
/-- ill.Sentence.isPlain -/
def c_95 : xC := (141, [(4, ([], 0))], [], [], 0, [], 1, [(some (0, ([(0, 1)], 0)), [([(0, 1)], 0), ([(0, -1)], 1)], [])])
def n_95 : List xN := []
set_option maxRecDepth 100000 in
set_option maxHeartbeats 4000000 in
theorem h_95 (th : List Nat) (xs : Nat → Int32) (L J : Nat) : x_Holds x_tb th xs L J c_95 96 := x_ok (dm := 95) (cts := []) (D := d_141) (ns := n_95) (f := 24) d_141_ok (fun _ h => absurd h List.not_mem_nil) (by decide +kernel)
