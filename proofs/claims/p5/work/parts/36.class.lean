/-- ill.Sentence.readOne@2 -/
def c_124 : xC := (140, [(16, ([(0, 1)], 0)), (17, ([(1, 1)], 0)), (0, ([(2, 1)], 0))], [([(2, 1)], -2), ([(2, -1)], 2)], [], 3, [(6, 4, 5), (7, 3, 9), (24, 0, 39), (25, 0, 39), (26, 0, 39)], 1, [(some (0, ([(3, 1)], 0)), [([(3, 1)], 0), ([(3, -1)], 1)], [])])
def n_124 : List xN := []
set_option maxRecDepth 100000 in
set_option maxHeartbeats 4000000 in
theorem h_124 (th : List Nat) (xs : Nat → Int32) (L J : Nat) : x_Holds x_tb th xs L J c_124 125 := x_ok (dm := 124) (cts := [c_123, c_121, c_102, c_96, c_95, c_94, c_13, c_11, c_10]) (D := d_140) (ns := n_124) (f := 60) d_140_ok (List.forall_mem_cons.mpr ⟨(h_123 th xs L J).mono (by omega), List.forall_mem_cons.mpr ⟨(h_121 th xs L J).mono (by omega), List.forall_mem_cons.mpr ⟨(h_102 th xs L J).mono (by omega), List.forall_mem_cons.mpr ⟨(h_96 th xs L J).mono (by omega), List.forall_mem_cons.mpr ⟨(h_95 th xs L J).mono (by omega), List.forall_mem_cons.mpr ⟨(h_94 th xs L J).mono (by omega), List.forall_mem_cons.mpr ⟨(h_13 th xs L J).mono (by omega), List.forall_mem_cons.mpr ⟨(h_11 th xs L J).mono (by omega), List.forall_mem_cons.mpr ⟨(h_10 th xs L J).mono (by omega), fun _ h => absurd h List.not_mem_nil⟩⟩⟩⟩⟩⟩⟩⟩⟩) (by decide +kernel)
/-- ill.Sentence.readAll@2 -/
def c_125 : xC := (139, [(16, ([(0, 1)], 0)), (17, ([(1, 1)], 0)), (0, ([(2, 1)], 0))], [([(2, 1)], -2), ([(2, -1)], 2)], [], 3, [(6, 4, 5), (7, 3, 9), (24, 0, 39), (25, 0, 39), (26, 0, 39)], 1, [(some (0, ([(3, 1)], 0)), [([(3, 1)], 0), ([(3, -1)], 1)], [])])
def n_125 : List xN := [(13, [(3, (0, ([(3, 1)], 0))), (0, (16, ([(0, 1)], 0))), (1, (17, ([(1, 1)], 0))), (2, (0, ([(2, 1)], 0)))], [], [([(2, 1)], -2), ([(2, -1)], 2), ([(3, 1)], 0), ([(3, -1)], 20), ([(3, -1)], 40), ([(3, -1)], 61), ([(3, -1)], 255), ([(3, -1)], 1000), ([(3, -1)], 1001), ([(2, 1)], -1), ([(2, 1)], 0), ([(2, -1)], 3), ([(2, -1)], 7), ([(2, -1)], 8), ([(2, -1)], 20), ([(2, -1)], 40), ([(2, -1)], 61), ([(2, -1)], 255), ([(2, -1)], 1000), ([(2, -1)], 1001)], 4, [([], 1), ([(3, -1)], 2147483647), ([], 5000000000), ([], 5000000000), ([], 5000000000)])]
set_option maxRecDepth 100000 in
set_option maxHeartbeats 4000000 in
theorem h_125 (th : List Nat) (xs : Nat → Int32) (L J : Nat) : x_Holds x_tb th xs L J c_125 126 := x_ok (dm := 125) (cts := [c_124, c_94, c_11]) (D := d_139) (ns := n_125) (f := 31) d_139_ok (List.forall_mem_cons.mpr ⟨(h_124 th xs L J).mono (by omega), List.forall_mem_cons.mpr ⟨(h_94 th xs L J).mono (by omega), List.forall_mem_cons.mpr ⟨(h_11 th xs L J).mono (by omega), fun _ h => absurd h List.not_mem_nil⟩⟩⟩) (by decide +kernel)
/-- ill.Sentence.readCond@2 -/
def c_126 : xC := (138, [(16, ([(0, 1)], 0)), (17, ([(1, 1)], 0)), (0, ([(2, 1)], 0))], [([(2, 1)], -2), ([(2, -1)], 2)], [], 3, [(6, 4, 5), (7, 3, 9), (24, 0, 39), (25, 0, 39), (26, 0, 39)], 1, [(some (0, ([(3, 1)], 0)), [([(3, 1)], 0), ([(3, -1)], 1)], [])])
def n_126 : List xN := [(13, [(3, (0, ([(3, 1)], 0))), (0, (16, ([(0, 1)], 0))), (1, (17, ([(1, 1)], 0))), (2, (0, ([(2, 1)], 0)))], [], [([(2, 1)], -2), ([(2, -1)], 2), ([(3, 1)], 0), ([(3, -1)], 20), ([(3, -1)], 40), ([(3, -1)], 61), ([(3, -1)], 255), ([(3, -1)], 1000), ([(3, -1)], 1001), ([(2, 1)], -1), ([(2, 1)], 0), ([(2, -1)], 3), ([(2, -1)], 7), ([(2, -1)], 8), ([(2, -1)], 20), ([(2, -1)], 40), ([(2, -1)], 61), ([(2, -1)], 255), ([(2, -1)], 1000), ([(2, -1)], 1001)], 4, [([], 1), ([(3, -1)], 2147483647), ([], 5000000000), ([], 5000000000), ([], 5000000000)])]
set_option maxRecDepth 100000 in
set_option maxHeartbeats 4000000 in
theorem h_126 (th : List Nat) (xs : Nat → Int32) (L J : Nat) : x_Holds x_tb th xs L J c_126 127 := x_ok (dm := 126) (cts := [c_125, c_94, c_11]) (D := d_138) (ns := n_126) (f := 31) d_138_ok (List.forall_mem_cons.mpr ⟨(h_125 th xs L J).mono (by omega), List.forall_mem_cons.mpr ⟨(h_94 th xs L J).mono (by omega), List.forall_mem_cons.mpr ⟨(h_11 th xs L J).mono (by omega), fun _ h => absurd h List.not_mem_nil⟩⟩⟩) (by decide +kernel)
/-- ill.Sentence.readOne@1 -/
def c_127 : xC := (140, [(16, ([(0, 1)], 0)), (17, ([(1, 1)], 0)), (0, ([(2, 1)], 0))], [([(2, 1)], -1), ([(2, -1)], 1)], [], 3, [(6, 4, 5), (7, 3, 9), (24, 0, 39), (25, 0, 39), (26, 0, 39)], 1, [(some (0, ([(3, 1)], 0)), [([(3, 1)], 0), ([(3, -1)], 1)], [])])
def n_127 : List xN := []
set_option maxRecDepth 100000 in
set_option maxHeartbeats 4000000 in
theorem h_127 (th : List Nat) (xs : Nat → Int32) (L J : Nat) : x_Holds x_tb th xs L J c_127 128 := x_ok (dm := 127) (cts := [c_126, c_124, c_102, c_96, c_95, c_94, c_13, c_11, c_10]) (D := d_140) (ns := n_127) (f := 60) d_140_ok (List.forall_mem_cons.mpr ⟨(h_126 th xs L J).mono (by omega), List.forall_mem_cons.mpr ⟨(h_124 th xs L J).mono (by omega), List.forall_mem_cons.mpr ⟨(h_102 th xs L J).mono (by omega), List.forall_mem_cons.mpr ⟨(h_96 th xs L J).mono (by omega), List.forall_mem_cons.mpr ⟨(h_95 th xs L J).mono (by omega), List.forall_mem_cons.mpr ⟨(h_94 th xs L J).mono (by omega), List.forall_mem_cons.mpr ⟨(h_13 th xs L J).mono (by omega), List.forall_mem_cons.mpr ⟨(h_11 th xs L J).mono (by omega), List.forall_mem_cons.mpr ⟨(h_10 th xs L J).mono (by omega), fun _ h => absurd h List.not_mem_nil⟩⟩⟩⟩⟩⟩⟩⟩⟩) (by decide +kernel)
/-- ill.Sentence.readAll@1 -/
def c_128 : xC := (139, [(16, ([(0, 1)], 0)), (17, ([(1, 1)], 0)), (0, ([(2, 1)], 0))], [([(2, 1)], -1), ([(2, -1)], 1)], [], 3, [(6, 4, 5), (7, 3, 9), (24, 0, 39), (25, 0, 39), (26, 0, 39)], 1, [(some (0, ([(3, 1)], 0)), [([(3, 1)], 0), ([(3, -1)], 1)], [])])
def n_128 : List xN := [(13, [(3, (0, ([(3, 1)], 0))), (0, (16, ([(0, 1)], 0))), (1, (17, ([(1, 1)], 0))), (2, (0, ([(2, 1)], 0)))], [], [([(2, 1)], -1), ([(2, -1)], 1), ([(3, 1)], 0), ([(3, -1)], 20), ([(3, -1)], 40), ([(3, -1)], 61), ([(3, -1)], 255), ([(3, -1)], 1000), ([(3, -1)], 1001), ([(2, 1)], 0), ([(2, -1)], 3), ([(2, -1)], 7), ([(2, -1)], 8), ([(2, -1)], 20), ([(2, -1)], 40), ([(2, -1)], 61), ([(2, -1)], 255), ([(2, -1)], 1000), ([(2, -1)], 1001)], 4, [([], 1), ([(3, -1)], 2147483647), ([], 5000000000), ([], 5000000000), ([], 5000000000)])]
set_option maxRecDepth 100000 in
set_option maxHeartbeats 4000000 in
theorem h_128 (th : List Nat) (xs : Nat → Int32) (L J : Nat) : x_Holds x_tb th xs L J c_128 129 := x_ok (dm := 128) (cts := [c_127, c_94, c_11]) (D := d_139) (ns := n_128) (f := 31) d_139_ok (List.forall_mem_cons.mpr ⟨(h_127 th xs L J).mono (by omega), List.forall_mem_cons.mpr ⟨(h_94 th xs L J).mono (by omega), List.forall_mem_cons.mpr ⟨(h_11 th xs L J).mono (by omega), fun _ h => absurd h List.not_mem_nil⟩⟩⟩) (by decide +kernel)
/-- ill.Sentence.readCond@1 -/
def c_129 : xC := (138, [(16, ([(0, 1)], 0)), (17, ([(1, 1)], 0)), (0, ([(2, 1)], 0))], [([(2, 1)], -1), ([(2, -1)], 1)], [], 3, [(6, 4, 5), (7, 3, 9), (24, 0, 39), (25, 0, 39), (26, 0, 39)], 1, [(some (0, ([(3, 1)], 0)), [([(3, 1)], 0), ([(3, -1)], 1)], [])])
def n_129 : List xN := [(13, [(3, (0, ([(3, 1)], 0))), (0, (16, ([(0, 1)], 0))), (1, (17, ([(1, 1)], 0))), (2, (0, ([(2, 1)], 0)))], [], [([(2, 1)], -1), ([(2, -1)], 1), ([(3, 1)], 0), ([(3, -1)], 20), ([(3, -1)], 40), ([(3, -1)], 61), ([(3, -1)], 255), ([(3, -1)], 1000), ([(3, -1)], 1001), ([(2, 1)], 0), ([(2, -1)], 3), ([(2, -1)], 7), ([(2, -1)], 8), ([(2, -1)], 20), ([(2, -1)], 40), ([(2, -1)], 61), ([(2, -1)], 255), ([(2, -1)], 1000), ([(2, -1)], 1001)], 4, [([], 1), ([(3, -1)], 2147483647), ([], 5000000000), ([], 5000000000), ([], 5000000000)])]
set_option maxRecDepth 100000 in
set_option maxHeartbeats 4000000 in
theorem h_129 (th : List Nat) (xs : Nat → Int32) (L J : Nat) : x_Holds x_tb th xs L J c_129 130 := x_ok (dm := 129) (cts := [c_128, c_94, c_11]) (D := d_138) (ns := n_129) (f := 31) d_138_ok (List.forall_mem_cons.mpr ⟨(h_128 th xs L J).mono (by omega), List.forall_mem_cons.mpr ⟨(h_94 th xs L J).mono (by omega), List.forall_mem_cons.mpr ⟨(h_11 th xs L J).mono (by omega), fun _ h => absurd h List.not_mem_nil⟩⟩⟩) (by decide +kernel)
def d_137 : xD := [(0, .aload_n 0, 1), (1, .invokevirtual 34, 3), (4, .aload_n 1, 1), (5, .sipush 200, 3), (8, .invokevirtual 37, 3), (11, .aload_n 0, 1), (12, .aload_n 1, 1), (13, .iconst 1, 1), (14, .invokevirtual 43, 3), (17, .ifCond .eq 25, 3), (20, .aload_n 1, 1), (21, .getfield 47, 3), (24, .getstatic 51, 3), (27, .if_acmp .eq 11, 3), (30, .aload_n 1, 1), (31, .iconst 1, 1), (32, .invokevirtual 54, 3), (35, .ifCond .eq 7, 3), (38, .iconst 1, 1), (39, .goto 4, 3), (42, .iconst 0, 1), (43, .ireturn, 1)]
set_option maxRecDepth 100000 in
theorem d_137_ok : x_dchk 137 d_137 = true := by decide +kernel
/-- ill.Sentence.readSentence -/
def c_130 : xC := (137, [(16, ([(0, 1)], 0)), (17, ([(1, 1)], 0))], [], [], 2, [(6, 4, 5), (7, 2, 9), (24, 0, 39), (25, 0, 39), (26, 0, 39)], 1, [(some (0, ([(2, 1)], 0)), [([(2, 1)], 0), ([(2, -1)], 1)], [])])
def n_130 : List xN := []
set_option maxRecDepth 100000 in
set_option maxHeartbeats 4000000 in
theorem h_130 (th : List Nat) (xs : Nat → Int32) (L J : Nat) : x_Holds x_tb th xs L J c_130 131 := x_ok (dm := 130) (cts := [c_129, c_91, c_12, c_10]) (D := d_137) (ns := n_130) (f := 30) d_137_ok (List.forall_mem_cons.mpr ⟨(h_129 th xs L J).mono (by omega), List.forall_mem_cons.mpr ⟨(h_91 th xs L J).mono (by omega), List.forall_mem_cons.mpr ⟨(h_12 th xs L J).mono (by omega), List.forall_mem_cons.mpr ⟨(h_10 th xs L J).mono (by omega), fun _ h => absurd h List.not_mem_nil⟩⟩⟩⟩) (by decide +kernel)
def d_11 : xD := [(0, .aload_n 0, 1), (1, .getfield 10, 3), (4, .bipush 20, 2), (6, .invokevirtual 93, 3), (9, .ifCond .ne 5, 3), (12, .iconst (-1), 1), (13, .ireturn, 1), (14, .aload_n 0, 1), (15, .getfield 10, 3), (18, .iload_n 1, 1), (19, .invokevirtual 97, 3), (22, .aload_n 0, 1), (23, .getfield 10, 3), (26, .iload_n 2, 1), (27, .invokevirtual 97, 3), (30, .aload_n 0, 1), (31, .getfield 10, 3), (34, .iload_n 3, 1), (35, .invokevirtual 97, 3), (38, .aload_n 0, 1), (39, .getfield 10, 3), (42, .iload 4, 2), (44, .invokevirtual 97, 3), (47, .aload_n 0, 1), (48, .getfield 10, 3), (51, .iload 5, 2), (53, .invokevirtual 97, 3), (56, .aload_n 0, 1), (57, .getfield 10, 3), (60, .getfield 101, 3), (63, .ireturn, 1)]
set_option maxRecDepth 100000 in
theorem d_11_ok : x_dchk 11 d_11 = true := by decide +kernel
/-- reathingHill.feed -/
def c_131 : xC := (11, [(19, ([(0, 1)], 0)), (0, ([(1, 1)], 0)), (0, ([(2, 1)], 0)), (0, ([(3, 1)], 0)), (0, ([(4, 1)], 0)), (0, ([(5, 1)], 0))], [], [], 6, [(7, 1, 1), (28, 0, 939)], 1, [(some (0, ([(6, 1)], 0)), [], [])])
def n_131 : List xN := []
set_option maxRecDepth 100000 in
set_option maxHeartbeats 4000000 in
theorem h_131 (th : List Nat) (xs : Nat → Int32) (L J : Nat) : x_Holds x_tb th xs L J c_131 132 := x_ok (dm := 131) (cts := [c_7, c_6]) (D := d_11) (ns := n_131) (f := 38) d_11_ok (List.forall_mem_cons.mpr ⟨(h_7 th xs L J).mono (by omega), List.forall_mem_cons.mpr ⟨(h_6 th xs L J).mono (by omega), fun _ h => absurd h List.not_mem_nil⟩⟩) (by decide +kernel)
def d_14 : xD := [(0, .aload_n 0, 1), (1, .getfield 10, 3), (4, .iload_n 1, 1), (5, .invokevirtual 104, 3), (8, .ireturn, 1)]
set_option maxRecDepth 100000 in
theorem d_14_ok : x_dchk 14 d_14 = true := by decide +kernel
/-- reathingHill.end -/
def c_132 : xC := (14, [(19, ([(0, 1)], 0)), (0, ([(1, 1)], 0))], [], [], 2, [(7, 1, 1)], 1, [(some (0, ([(2, 1)], 0)), [([(2, 1)], 0), ([(2, -1)], 1)], [])])
def n_132 : List xN := []
set_option maxRecDepth 100000 in
set_option maxHeartbeats 4000000 in
theorem h_132 (th : List Nat) (xs : Nat → Int32) (L J : Nat) : x_Holds x_tb th xs L J c_132 133 := x_ok (dm := 132) (cts := [c_8]) (D := d_14) (ns := n_132) (f := 14) d_14_ok (List.forall_mem_cons.mpr ⟨(h_8 th xs L J).mono (by omega), fun _ h => absurd h List.not_mem_nil⟩) (by decide +kernel)
def d_16 : xD := [(0, .aload_n 0, 1), (1, .getfield 19, 3), (4, .aload_n 0, 1), (5, .getfield 10, 3), (8, .aload_n 0, 1), (9, .getfield 30, 3), (12, .invokevirtual 107, 3), (15, .istore_n 1, 1), (16, .aload_n 0, 1), (17, .getfield 10, 3), (20, .iconst 0, 1), (21, .invokevirtual 104, 3), (24, .pop, 1), (25, .aload_n 0, 1), (26, .aload_n 0, 1), (27, .getfield 10, 3), (30, .getfield 111, 3), (33, .putfield 90, 3), (36, .iload_n 1, 1), (37, .iconst (-1), 1), (38, .if_icmp .ne 13, 3), (41, .iconst (-1), 1), (42, .aload_n 0, 1), (43, .getfield 10, 3), (46, .getfield 114, 3), (49, .isub, 1), (50, .ireturn, 1), (51, .aload_n 0, 1), (52, .getfield 26, 3), (55, .aload_n 0, 1), (56, .getfield 30, 3), (59, .invokevirtual 117, 3), (62, .aload_n 0, 1), (63, .getfield 44, 3), (66, .invokevirtual 121, 3), (69, .aload_n 0, 1), (70, .iconst 0, 1), (71, .putfield 37, 3), (74, .iload_n 1, 1), (75, .ireturn, 1)]
set_option maxRecDepth 100000 in
theorem d_16_ok : x_dchk 16 d_16 = true := by decide +kernel
/-- reathingHill.land -/
def c_133 : xC := (16, [(19, ([(0, 1)], 0))], [], [], 1, [(0, 4, 7), (1, 2, 5), (2, 2, 2), (4, 0, 3), (5, 0, 3), (6, 4, 5), (7, 1, 9), (8, 0, 9), (9, 5, 5), (9, 17, 17), (14, 0, 1), (15, 0, 3), (16, 0, 3), (17, 0, 3), (18, 0, 3), (19, 0, 3), (20, 0, 4)], 1, [(some (0, ([(1, 1)], 0)), [], [])])
def n_133 : List xN := []
set_option maxRecDepth 100000 in
set_option maxHeartbeats 4000000 in
theorem h_133 (th : List Nat) (xs : Nat → Int32) (L J : Nat) : x_Holds x_tb th xs L J c_133 134 := x_ok (dm := 133) (cts := [c_91, c_85, c_44, c_8]) (D := d_16) (ns := n_133) (f := 43) d_16_ok (List.forall_mem_cons.mpr ⟨(h_91 th xs L J).mono (by omega), List.forall_mem_cons.mpr ⟨(h_85 th xs L J).mono (by omega), List.forall_mem_cons.mpr ⟨(h_44 th xs L J).mono (by omega), List.forall_mem_cons.mpr ⟨(h_8 th xs L J).mono (by omega), fun _ h => absurd h List.not_mem_nil⟩⟩⟩⟩) (by decide +kernel)
def d_53 : xD := [(0, .aload_n 0, 1), (1, .getfield 90, 3), (4, .ireturn, 1)]
set_option maxRecDepth 100000 in
theorem d_53_ok : x_dchk 53 d_53 = true := by decide +kernel
/-- reathingHill.fault -/
def c_134 : xC := (53, [(19, ([(0, 1)], 0))], [], [], 1, [], 1, [(some (0, ([(1, 1)], 0)), [], [])])
def n_134 : List xN := []
set_option maxRecDepth 100000 in
set_option maxHeartbeats 4000000 in
theorem h_134 (th : List Nat) (xs : Nat → Int32) (L J : Nat) : x_Holds x_tb th xs L J c_134 135 := x_ok (dm := 134) (cts := []) (D := d_53) (ns := n_134) (f := 12) d_53_ok (fun _ h => absurd h List.not_mem_nil) (by decide +kernel)
def d_54 : xD := [(0, .aload_n 0, 1), (1, .getfield 26, 3), (4, .iload_n 1, 1), (5, .invokevirtual 162, 3), (8, .ifCond .ne 5, 3), (11, .iconst (-1), 1), (12, .ireturn, 1), (13, .aload_n 0, 1), (14, .getfield 26, 3), (17, .getfield 165, 3), (20, .iload_n 1, 1), (21, .aaload, 1), (22, .astore_n 3, 1), (23, .iload_n 2, 1), (24, .tableswitch 43 0 2 #[28, 33, 38], 28), (52, .aload_n 3, 1), (53, .getfield 169, 3), (56, .ireturn, 1), (57, .aload_n 3, 1), (58, .getfield 174, 3), (61, .ireturn, 1), (62, .aload_n 3, 1), (63, .getfield 175, 3), (66, .ireturn, 1), (67, .iconst (-1), 1), (68, .ireturn, 1)]
set_option maxRecDepth 100000 in
theorem d_54_ok : x_dchk 54 d_54 = true := by decide +kernel
/-- reathingHill.mill -/
def c_135 : xC := (54, [(19, ([(0, 1)], 0)), (0, ([(1, 1)], 0)), (0, ([(2, 1)], 0))], [], [], 3, [], 1, [(some (0, ([(3, 1)], 0)), [], [])])
def n_135 : List xN := []
set_option maxRecDepth 100000 in
set_option maxHeartbeats 4000000 in
theorem h_135 (th : List Nat) (xs : Nat → Int32) (L J : Nat) : x_Holds x_tb th xs L J c_135 136 := x_ok (dm := 135) (cts := [c_46]) (D := d_54) (ns := n_135) (f := 25) d_54_ok (List.forall_mem_cons.mpr ⟨(h_46 th xs L J).mono (by omega), fun _ h => absurd h List.not_mem_nil⟩) (by decide +kernel)
def d_56 : xD := [(0, .aload_n 0, 1), (1, .getfield 26, 3), (4, .iload_n 1, 1), (5, .invokevirtual 178, 3), (8, .ifCond .ne 5, 3), (11, .iconst (-1), 1), (12, .ireturn, 1), (13, .aload_n 0, 1), (14, .getfield 26, 3), (17, .getfield 181, 3), (20, .iload_n 1, 1), (21, .aaload, 1), (22, .astore_n 3, 1), (23, .iload_n 2, 1), (24, .tableswitch 43 0 2 #[28, 33, 38], 28), (52, .aload_n 3, 1), (53, .getfield 185, 3), (56, .ireturn, 1), (57, .aload_n 3, 1), (58, .getfield 188, 3), (61, .ireturn, 1), (62, .aload_n 3, 1), (63, .getfield 189, 3), (66, .ireturn, 1), (67, .iconst (-1), 1), (68, .ireturn, 1)]
set_option maxRecDepth 100000 in
theorem d_56_ok : x_dchk 56 d_56 = true := by decide +kernel
/-- reathingHill.man -/
def c_136 : xC := (56, [(19, ([(0, 1)], 0)), (0, ([(1, 1)], 0)), (0, ([(2, 1)], 0))], [], [], 3, [], 1, [(some (0, ([(3, 1)], 0)), [], [])])
def n_136 : List xN := []
set_option maxRecDepth 100000 in
set_option maxHeartbeats 4000000 in
theorem h_136 (th : List Nat) (xs : Nat → Int32) (L J : Nat) : x_Holds x_tb th xs L J c_136 137 := x_ok (dm := 136) (cts := [c_47]) (D := d_56) (ns := n_136) (f := 25) d_56_ok (List.forall_mem_cons.mpr ⟨(h_47 th xs L J).mono (by omega), fun _ h => absurd h List.not_mem_nil⟩) (by decide +kernel)
def d_58 : xD := [(0, .aload_n 0, 1), (1, .getfield 26, 3), (4, .getfield 192, 3), (7, .astore_n 3, 1), (8, .aload_n 3, 1), (9, .iload_n 1, 1), (10, .invokevirtual 196, 3), (13, .ifCond .ne 5, 3), (16, .iconst (-1), 1), (17, .ireturn, 1), (18, .iload_n 2, 1), (19, .tableswitch 59 0 3 #[29, 36, 43, 50], 29), (48, .aload_n 3, 1), (49, .getfield 201, 3), (52, .iload_n 1, 1), (53, .iaload, 1), (54, .ireturn, 1), (55, .aload_n 3, 1), (56, .getfield 204, 3), (59, .iload_n 1, 1), (60, .iaload, 1), (61, .ireturn, 1), (62, .aload_n 3, 1), (63, .getfield 207, 3), (66, .iload_n 1, 1), (67, .iaload, 1), (68, .ireturn, 1), (69, .aload_n 0, 1), (70, .getfield 26, 3), (73, .iload_n 1, 1), (74, .invokevirtual 210, 3), (77, .ireturn, 1), (78, .iconst (-1), 1), (79, .ireturn, 1)]
set_option maxRecDepth 100000 in
theorem d_58_ok : x_dchk 58 d_58 = true := by decide +kernel
/-- reathingHill.passage -/
def c_137 : xC := (58, [(19, ([(0, 1)], 0)), (0, ([(1, 1)], 0)), (0, ([(2, 1)], 0))], [], [], 3, [], 1, [(some (0, ([(3, 1)], 0)), [], [])])
def n_137 : List xN := []
set_option maxRecDepth 100000 in
set_option maxHeartbeats 4000000 in
theorem h_137 (th : List Nat) (xs : Nat → Int32) (L J : Nat) : x_Holds x_tb th xs L J c_137 138 := x_ok (dm := 137) (cts := [c_53, c_18]) (D := d_58) (ns := n_137) (f := 24) d_58_ok (List.forall_mem_cons.mpr ⟨(h_53 th xs L J).mono (by omega), List.forall_mem_cons.mpr ⟨(h_18 th xs L J).mono (by omega), fun _ h => absurd h List.not_mem_nil⟩⟩) (by decide +kernel)
def d_61 : xD := [(0, .iload_n 1, 1), (1, .tableswitch 124 0 6 #[43, 51, 69, 88, 97, 106, 115], 43), (44, .aload_n 0, 1), (45, .getfield 26, 3), (48, .getfield 214, 3), (51, .ireturn, 1), (52, .aload_n 0, 1), (53, .getfield 26, 3), (56, .getfield 192, 3), (59, .aload_n 0, 1), (60, .getfield 26, 3), (63, .getfield 214, 3), (66, .invokevirtual 217, 3), (69, .ireturn, 1), (70, .aload_n 0, 1), (71, .getfield 26, 3), (74, .getfield 192, 3), (77, .iconst 0, 1), (78, .aload_n 0, 1), (79, .getfield 26, 3), (82, .getfield 214, 3), (85, .invokevirtual 220, 3), (88, .ireturn, 1), (89, .aload_n 0, 1), (90, .getfield 26, 3), (93, .iconst 2, 1), (94, .invokevirtual 224, 3), (97, .ireturn, 1), (98, .aload_n 0, 1), (99, .getfield 26, 3), (102, .iconst 3, 1), (103, .invokevirtual 224, 3), (106, .ireturn, 1), (107, .aload_n 0, 1), (108, .getfield 26, 3), (111, .iconst 0, 1), (112, .invokevirtual 224, 3), (115, .ireturn, 1), (116, .aload_n 0, 1), (117, .getfield 26, 3), (120, .iconst 1, 1), (121, .invokevirtual 224, 3), (124, .ireturn, 1), (125, .iconst (-1), 1), (126, .ireturn, 1)]
set_option maxRecDepth 100000 in
theorem d_61_ok : x_dchk 61 d_61 = true := by decide +kernel
/-- reathingHill.now -/
def c_138 : xC := (61, [(19, ([(0, 1)], 0)), (0, ([(1, 1)], 0))], [], [], 2, [], 1, [(some (0, ([(2, 1)], 0)), [], [])])
def n_138 : List xN := []
set_option maxRecDepth 100000 in
set_option maxHeartbeats 4000000 in
theorem h_138 (th : List Nat) (xs : Nat → Int32) (L J : Nat) : x_Holds x_tb th xs L J c_138 139 := x_ok (dm := 138) (cts := [c_52, c_21, c_20]) (D := d_61) (ns := n_138) (f := 20) d_61_ok (List.forall_mem_cons.mpr ⟨(h_52 th xs L J).mono (by omega), List.forall_mem_cons.mpr ⟨(h_21 th xs L J).mono (by omega), List.forall_mem_cons.mpr ⟨(h_20 th xs L J).mono (by omega), fun _ h => absurd h List.not_mem_nil⟩⟩⟩) (by decide +kernel)
def d_67 : xD := [(0, .iload_n 1, 1), (1, .invokestatic 227, 3), (4, .ifCond .eq 25, 3), (7, .iload_n 2, 1), (8, .invokestatic 230, 3), (11, .ifCond .eq 18, 3), (14, .aload_n 0, 1), (15, .getfield 26, 3), (18, .getfield 192, 3), (21, .iload_n 1, 1), (22, .iload_n 2, 1), (23, .invokevirtual 220, 3), (26, .goto 4, 3), (29, .iconst (-1), 1), (30, .ireturn, 1)]
set_option maxRecDepth 100000 in
theorem d_67_ok : x_dchk 67 d_67 = true := by decide +kernel
/-- reathingHill.air -/
def c_139 : xC := (67, [(19, ([(0, 1)], 0)), (0, ([(1, 1)], 0)), (0, ([(2, 1)], 0))], [], [], 3, [], 1, [(some (0, ([(3, 1)], 0)), [], [])])
def n_139 : List xN := []
set_option maxRecDepth 100000 in
set_option maxHeartbeats 4000000 in
theorem h_139 (th : List Nat) (xs : Nat → Int32) (L J : Nat) : x_Holds x_tb th xs L J c_139 140 := x_ok (dm := 139) (cts := [c_21, c_1, c_0]) (D := d_67) (ns := n_139) (f := 23) d_67_ok (List.forall_mem_cons.mpr ⟨(h_21 th xs L J).mono (by omega), List.forall_mem_cons.mpr ⟨(h_1 th xs L J).mono (by omega), List.forall_mem_cons.mpr ⟨(h_0 th xs L J).mono (by omega), fun _ h => absurd h List.not_mem_nil⟩⟩⟩) (by decide +kernel)
def d_69 : xD := [(0, .aload_n 0, 1), (1, .getfield 26, 3), (4, .getfield 192, 3), (7, .iload_n 1, 1), (8, .iload_n 2, 1), (9, .invokevirtual 233, 3), (12, .ifCond .eq 17, 3), (15, .aload_n 0, 1), (16, .getfield 26, 3), (19, .getfield 192, 3), (22, .iload_n 2, 1), (23, .invokevirtual 237, 3), (26, .goto 4, 3), (29, .iconst (-1), 1), (30, .ireturn, 1)]
set_option maxRecDepth 100000 in
theorem d_69_ok : x_dchk 69 d_69 = true := by decide +kernel
/-- reathingHill.force -/
def c_140 : xC := (69, [(19, ([(0, 1)], 0)), (0, ([(1, 1)], 0)), (0, ([(2, 1)], 0))], [], [], 3, [], 1, [(some (0, ([(3, 1)], 0)), [], [])])
def n_140 : List xN := []
set_option maxRecDepth 100000 in
set_option maxHeartbeats 4000000 in
theorem h_140 (th : List Nat) (xs : Nat → Int32) (L J : Nat) : x_Holds x_tb th xs L J c_140 141 := x_ok (dm := 140) (cts := [c_22, c_17]) (D := d_69) (ns := n_140) (f := 23) d_69_ok (List.forall_mem_cons.mpr ⟨(h_22 th xs L J).mono (by omega), List.forall_mem_cons.mpr ⟨(h_17 th xs L J).mono (by omega), fun _ h => absurd h List.not_mem_nil⟩⟩) (by decide +kernel)
def d_72 : xD := [(0, .iload_n 1, 1), (1, .tableswitch 127 0 7 #[47, 60, 73, 84, 92, 100, 108, 119], 47), (48, .aload_n 0, 1), (49, .getfield 26, 3), (52, .getfield 192, 3), (55, .getfield 240, 3), (58, .iconst 0, 1), (59, .iaload, 1), (60, .ireturn, 1), (61, .aload_n 0, 1), (62, .getfield 26, 3), (65, .getfield 192, 3), (68, .getfield 240, 3), (71, .iconst 1, 1), (72, .iaload, 1), (73, .ireturn, 1), (74, .aload_n 0, 1), (75, .getfield 26, 3), (78, .getfield 192, 3), (81, .getfield 243, 3), (84, .ireturn, 1), (85, .aload_n 0, 1), (86, .getfield 26, 3), (89, .getfield 246, 3), (92, .ireturn, 1), (93, .aload_n 0, 1), (94, .getfield 26, 3), (97, .getfield 249, 3), (100, .ireturn, 1), (101, .aload_n 0, 1), (102, .getfield 26, 3), (105, .getfield 252, 3), (108, .ireturn, 1), (109, .aload_n 0, 1), (110, .getfield 26, 3), (113, .getfield 192, 3), (116, .invokevirtual 255, 3), (119, .ireturn, 1), (120, .aload_n 0, 1), (121, .getfield 10, 3), (124, .getfield 101, 3), (127, .ireturn, 1), (128, .iconst (-1), 1), (129, .ireturn, 1)]
set_option maxRecDepth 100000 in
theorem d_72_ok : x_dchk 72 d_72 = true := by decide +kernel
/-- reathingHill.count -/
def c_141 : xC := (72, [(19, ([(0, 1)], 0)), (0, ([(1, 1)], 0))], [], [], 2, [], 1, [(some (0, ([(2, 1)], 0)), [], [])])
def n_141 : List xN := []
set_option maxRecDepth 100000 in
set_option maxHeartbeats 4000000 in
theorem h_141 (th : List Nat) (xs : Nat → Int32) (L J : Nat) : x_Holds x_tb th xs L J c_141 142 := x_ok (dm := 141) (cts := [c_19]) (D := d_72) (ns := n_141) (f := 18) d_72_ok (List.forall_mem_cons.mpr ⟨(h_19 th xs L J).mono (by omega), fun _ h => absurd h List.not_mem_nil⟩) (by decide +kernel)
def d_78 : xD := [(0, .aload_n 0, 1), (1, .getfield 37, 3), (4, .bipush 8, 2), (6, .if_icmp .lt 52, 3), (9, .aload_n 0, 1), (10, .getfield 33, 3), (13, .iconst 0, 1), (14, .aaload, 1), (15, .astore_n 2, 1), (16, .iconst 1, 1), (17, .istore_n 3, 1), (18, .iload_n 3, 1), (19, .bipush 8, 2), (21, .if_icmp .ge 23, 3), (24, .aload_n 0, 1), (25, .getfield 33, 3), (28, .iload_n 3, 1), (29, .iconst 1, 1), (30, .isub, 1), (31, .aload_n 0, 1), (32, .getfield 33, 3), (35, .iload_n 3, 1), (36, .aaload, 1), (37, .aastore, 1), (38, .iinc 3 1, 3), (41, .goto (-23), 3), (44, .aload_n 0, 1), (45, .getfield 33, 3), (48, .bipush 7, 2), (50, .aload_n 2, 1), (51, .aastore, 1), (52, .aload_n 0, 1), (53, .bipush 7, 2), (55, .putfield 37, 3), (58, .aload_n 0, 1), (59, .getfield 33, 3), (62, .aload_n 0, 1), (63, .getfield 37, 3), (66, .aaload, 1), (67, .aload_n 1, 1), (68, .invokevirtual 117, 3), (71, .aload_n 0, 1), (72, .dup, 1), (73, .getfield 37, 3), (76, .iconst 1, 1), (77, .iadd, 1), (78, .putfield 37, 3), (81, .return_, 1)]
set_option maxRecDepth 100000 in
theorem d_78_ok : x_dchk 78 d_78 = true := by decide +kernel
/-- reathingHill.keepPast -/
def c_142 : xC := (78, [(19, ([(0, 1)], 0)), (10, ([(1, 1)], 0))], [], [], 2, [(0, 4, 7), (1, 2, 5), (4, 0, 3), (5, 0, 3), (8, 0, 9), (9, 5, 5), (14, 0, 1), (15, 0, 3), (16, 0, 3), (17, 0, 3), (18, 0, 3), (29, 0, 7)], 0, [(none, [], [])])
def n_142 : List xN := [(18, [(3, (0, ([(2, 1)], 0))), (2, (10, ([(3, 1)], 0))), (0, (19, ([(0, 1)], 0))), (1, (10, ([(1, 1)], 0)))], [(9, ([(0, 1)], 0), 4, (39, ([(4, 1)], 0))), (9, ([(0, 1)], 0), 5, (0, ([(5, 1)], 0)))], [([(5, 1)], -8), ([(5, 1)], 0), ([(5, -1)], 8), ([(2, 1)], -1), ([(2, -1), (5, 1)], 0), ([(2, 1)], 0), ([(2, -1)], 8), ([(2, -1)], 20), ([(2, -1)], 40), ([(2, -1)], 61), ([(2, -1)], 255), ([(2, -1)], 1000), ([(2, -1)], 1001)], 6, [([], 1), ([(2, -1)], 2147483647), ([], 5000000000), ([], 5000000000), ([], 5000000000)])]
set_option maxRecDepth 100000 in
set_option maxHeartbeats 4000000 in
theorem h_142 (th : List Nat) (xs : Nat → Int32) (L J : Nat) : x_Holds x_tb th xs L J c_142 143 := x_ok (dm := 142) (cts := [c_44]) (D := d_78) (ns := n_142) (f := 34) d_78_ok (List.forall_mem_cons.mpr ⟨(h_44 th xs L J).mono (by omega), fun _ h => absurd h List.not_mem_nil⟩) (by decide +kernel)
def d_77 : xD := [(0, .iload_n 1, 1), (1, .ifCond .ne 11, 3), (4, .aload_n 0, 1), (5, .aload_n 0, 1), (6, .getfield 30, 3), (9, .invokevirtual 286, 3), (12, .iload_n 1, 1), (13, .ireturn, 1)]
set_option maxRecDepth 100000 in
theorem d_77_ok : x_dchk 77 d_77 = true := by decide +kernel
/-- reathingHill.keptIfDone -/
def c_143 : xC := (77, [(19, ([(0, 1)], 0)), (0, ([(1, 1)], 0))], [], [], 2, [(0, 4, 7), (1, 2, 5), (4, 0, 3), (5, 0, 3), (8, 0, 9), (9, 5, 5), (14, 0, 1), (15, 0, 3), (16, 0, 3), (17, 0, 3), (18, 0, 3), (29, 0, 7)], 1, [(some (0, ([(2, 1)], 0)), [], [])])
def n_143 : List xN := []
set_option maxRecDepth 100000 in
set_option maxHeartbeats 4000000 in
theorem h_143 (th : List Nat) (xs : Nat → Int32) (L J : Nat) : x_Holds x_tb th xs L J c_143 144 := x_ok (dm := 143) (cts := [c_142]) (D := d_77) (ns := n_143) (f := 17) d_77_ok (List.forall_mem_cons.mpr ⟨(h_142 th xs L J).mono (by omega), fun _ h => absurd h List.not_mem_nil⟩) (by decide +kernel)
def d_97 : xD := [(0, .iload_n 1, 1), (1, .ifCond .le 11, 3), (4, .aload_n 0, 1), (5, .aload_n 0, 1), (6, .getfield 30, 3), (9, .invokevirtual 286, 3), (12, .iload_n 1, 1), (13, .ireturn, 1)]
set_option maxRecDepth 100000 in
theorem d_97_ok : x_dchk 97 d_97 = true := by decide +kernel
/-- reathingHill.keptIfGone -/
def c_144 : xC := (97, [(19, ([(0, 1)], 0)), (0, ([(1, 1)], 0))], [], [], 2, [(0, 4, 7), (1, 2, 5), (4, 0, 3), (5, 0, 3), (8, 0, 9), (9, 5, 5), (14, 0, 1), (15, 0, 3), (16, 0, 3), (17, 0, 3), (18, 0, 3), (29, 0, 7)], 1, [(some (0, ([(2, 1)], 0)), [], [])])
def n_144 : List xN := []
set_option maxRecDepth 100000 in
set_option maxHeartbeats 4000000 in
theorem h_144 (th : List Nat) (xs : Nat → Int32) (L J : Nat) : x_Holds x_tb th xs L J c_144 145 := x_ok (dm := 144) (cts := [c_142]) (D := d_97) (ns := n_144) (f := 17) d_97_ok (List.forall_mem_cons.mpr ⟨(h_142 th xs L J).mono (by omega), fun _ h => absurd h List.not_mem_nil⟩) (by decide +kernel)
def d_73 : xD := [(0, .aload_n 0, 1), (1, .getfield 26, 3), (4, .iload_n 1, 1), (5, .invokevirtual 124, 3), (8, .ifCond .eq 12, 3), (11, .iload_n 2, 1), (12, .ifCond .lt 8, 3), (15, .iload_n 2, 1), (16, .iconst 1, 1), (17, .if_icmp .le 5, 3), (20, .iconst (-1), 1), (21, .ireturn, 1), (22, .aload_n 0, 1), (23, .getfield 30, 3), (26, .aload_n 0, 1), (27, .getfield 26, 3), (30, .invokevirtual 117, 3), (33, .aload_n 0, 1), (34, .iload_n 2, 1), (35, .iconst 1, 1), (36, .if_icmp .ne 18, 3), (39, .aload_n 0, 1), (40, .getfield 26, 3), (43, .getfield 134, 3), (46, .iload_n 1, 1), (47, .aaload, 1), (48, .invokevirtual 259, 3), (51, .goto 15, 3), (54, .aload_n 0, 1), (55, .getfield 26, 3), (58, .getfield 134, 3), (61, .iload_n 1, 1), (62, .aaload, 1), (63, .invokevirtual 262, 3), (66, .invokevirtual 265, 3), (69, .ireturn, 1)]
set_option maxRecDepth 100000 in
theorem d_73_ok : x_dchk 73 d_73 = true := by decide +kernel
/-- reathingHill.tie -/
def c_145 : xC := (73, [(19, ([(0, 1)], 0)), (0, ([(1, 1)], 0)), (0, ([(2, 1)], 0))], [], [], 3, [(0, 4, 7), (1, 2, 5), (4, 0, 3), (5, 0, 3), (8, 0, 9), (9, 5, 5), (14, 0, 1), (15, 0, 3), (16, 0, 3), (17, 0, 3), (18, 0, 3), (29, 0, 7)], 1, [(some (0, ([(3, 1)], 0)), [], [])])
def n_145 : List xN := []
set_option maxRecDepth 100000 in
set_option maxHeartbeats 4000000 in
theorem h_145 (th : List Nat) (xs : Nat → Int32) (L J : Nat) : x_Holds x_tb th xs L J c_145 146 := x_ok (dm := 145) (cts := [c_143, c_45, c_44, c_31, c_30]) (D := d_73) (ns := n_145) (f := 37) d_73_ok (List.forall_mem_cons.mpr ⟨(h_143 th xs L J).mono (by omega), List.forall_mem_cons.mpr ⟨(h_45 th xs L J).mono (by omega), List.forall_mem_cons.mpr ⟨(h_44 th xs L J).mono (by omega), List.forall_mem_cons.mpr ⟨(h_31 th xs L J).mono (by omega), List.forall_mem_cons.mpr ⟨(h_30 th xs L J).mono (by omega), fun _ h => absurd h List.not_mem_nil⟩⟩⟩⟩⟩) (by decide +kernel)
def d_79 : xD := [(0, .aload_n 0, 1), (1, .getfield 26, 3), (4, .iload_n 1, 1), (5, .iload_n 2, 1), (6, .invokevirtual 268, 3), (9, .ifCond .ne 5, 3), (12, .iconst (-1), 1), (13, .ireturn, 1), (14, .aload_n 0, 1), (15, .getfield 30, 3), (18, .aload_n 0, 1), (19, .getfield 26, 3), (22, .invokevirtual 117, 3), (25, .aload_n 0, 1), (26, .aload_n 0, 1), (27, .getfield 26, 3), (30, .iload_n 1, 1), (31, .iload_n 2, 1), (32, .invokevirtual 271, 3), (35, .invokevirtual 265, 3), (38, .ireturn, 1)]
set_option maxRecDepth 100000 in
theorem d_79_ok : x_dchk 79 d_79 = true := by decide +kernel
/-- reathingHill.walk -/
def c_146 : xC := (79, [(19, ([(0, 1)], 0)), (0, ([(1, 1)], 0)), (0, ([(2, 1)], 0))], [], [], 3, [(0, 4, 7), (1, 2, 5), (4, 0, 3), (5, 0, 3), (8, 0, 9), (9, 5, 5), (14, 0, 1), (15, 0, 3), (16, 0, 3), (17, 0, 3), (18, 0, 3), (29, 0, 7)], 1, [(some (0, ([(3, 1)], 0)), [], [])])
def n_146 : List xN := []
set_option maxRecDepth 100000 in
set_option maxHeartbeats 4000000 in
theorem h_146 (th : List Nat) (xs : Nat → Int32) (L J : Nat) : x_Holds x_tb th xs L J c_146 147 := x_ok (dm := 146) (cts := [c_143, c_58, c_48, c_44]) (D := d_79) (ns := n_146) (f := 28) d_79_ok (List.forall_mem_cons.mpr ⟨(h_143 th xs L J).mono (by omega), List.forall_mem_cons.mpr ⟨(h_58 th xs L J).mono (by omega), List.forall_mem_cons.mpr ⟨(h_48 th xs L J).mono (by omega), List.forall_mem_cons.mpr ⟨(h_44 th xs L J).mono (by omega), fun _ h => absurd h List.not_mem_nil⟩⟩⟩⟩) (by decide +kernel)
def d_93 : xD := [(0, .aload_n 0, 1), (1, .getfield 30, 3), (4, .aload_n 0, 1), (5, .getfield 26, 3), (8, .invokevirtual 117, 3), (11, .aload_n 0, 1), (12, .aload_n 0, 1), (13, .getfield 26, 3), (16, .invokevirtual 274, 3), (19, .invokevirtual 265, 3), (22, .ireturn, 1)]
set_option maxRecDepth 100000 in
theorem d_93_ok : x_dchk 93 d_93 = true := by decide +kernel
/-- reathingHill.cough -/
def c_147 : xC := (93, [(19, ([(0, 1)], 0))], [], [], 1, [(0, 4, 7), (1, 2, 5), (4, 0, 3), (5, 0, 3), (8, 0, 9), (9, 5, 5), (14, 0, 1), (15, 0, 3), (16, 0, 3), (17, 0, 3), (18, 0, 3), (29, 0, 7)], 1, [(some (0, ([(1, 1)], 0)), [], [])])
def n_147 : List xN := []
set_option maxRecDepth 100000 in
set_option maxHeartbeats 4000000 in
theorem h_147 (th : List Nat) (xs : Nat → Int32) (L J : Nat) : x_Holds x_tb th xs L J c_147 148 := x_ok (dm := 147) (cts := [c_143, c_59, c_44]) (D := d_93) (ns := n_147) (f := 20) d_93_ok (List.forall_mem_cons.mpr ⟨(h_143 th xs L J).mono (by omega), List.forall_mem_cons.mpr ⟨(h_59 th xs L J).mono (by omega), List.forall_mem_cons.mpr ⟨(h_44 th xs L J).mono (by omega), fun _ h => absurd h List.not_mem_nil⟩⟩⟩) (by decide +kernel)
def d_95 : xD := [(0, .iload_n 1, 1), (1, .iconst 1, 1), (2, .if_icmp .lt 9, 3), (5, .iload_n 1, 1), (6, .bipush 60, 2), (8, .if_icmp .le 5, 3), (11, .iconst (-1), 1), (12, .ireturn, 1), (13, .aload_n 0, 1), (14, .getfield 30, 3), (17, .aload_n 0, 1), (18, .getfield 26, 3), (21, .invokevirtual 117, 3), (24, .aload_n 0, 1), (25, .aload_n 0, 1), (26, .getfield 26, 3), (29, .iload_n 1, 1), (30, .invokevirtual 277, 3), (33, .invokevirtual 280, 3), (36, .ireturn, 1)]
set_option maxRecDepth 100000 in
theorem d_95_ok : x_dchk 95 d_95 = true := by decide +kernel
/-- reathingHill.hours -/
def c_148 : xC := (95, [(19, ([(0, 1)], 0)), (0, ([(1, 1)], 0))], [], [], 2, [(0, 4, 7), (1, 2, 5), (4, 0, 3), (5, 0, 3), (8, 0, 9), (9, 5, 5), (14, 0, 1), (15, 0, 3), (16, 0, 3), (17, 0, 3), (18, 0, 3), (29, 0, 7)], 1, [(some (0, ([(2, 1)], 0)), [], [])])
def n_148 : List xN := []
set_option maxRecDepth 100000 in
set_option maxHeartbeats 4000000 in
theorem h_148 (th : List Nat) (xs : Nat → Int32) (L J : Nat) : x_Holds x_tb th xs L J c_148 149 := x_ok (dm := 148) (cts := [c_144, c_57, c_44]) (D := d_95) (ns := n_148) (f := 27) d_95_ok (List.forall_mem_cons.mpr ⟨(h_144 th xs L J).mono (by omega), List.forall_mem_cons.mpr ⟨(h_57 th xs L J).mono (by omega), List.forall_mem_cons.mpr ⟨(h_44 th xs L J).mono (by omega), fun _ h => absurd h List.not_mem_nil⟩⟩⟩) (by decide +kernel)
def d_98 : xD := [(0, .iload_n 1, 1), (1, .iconst 1, 1), (2, .if_icmp .lt 19, 3), (5, .iload_n 1, 1), (6, .bipush 60, 2), (8, .if_icmp .gt 13, 3), (11, .aload_n 0, 1), (12, .getfield 26, 3), (15, .getfield 246, 3), (18, .ifCond .ne 5, 3), (21, .iconst (-1), 1), (22, .ireturn, 1), (23, .aload_n 0, 1), (24, .getfield 30, 3), (27, .aload_n 0, 1), (28, .getfield 26, 3), (31, .invokevirtual 117, 3), (34, .aload_n 0, 1), (35, .aload_n 0, 1), (36, .getfield 26, 3), (39, .iload_n 1, 1), (40, .iload_n 2, 1), (41, .invokevirtual 283, 3), (44, .invokevirtual 280, 3), (47, .ireturn, 1)]
set_option maxRecDepth 100000 in
theorem d_98_ok : x_dchk 98 d_98 = true := by decide +kernel
/-- reathingHill.drawn -/
def c_149 : xC := (98, [(19, ([(0, 1)], 0)), (0, ([(1, 1)], 0)), (0, ([(2, 1)], 0))], [], [], 3, [(0, 4, 7), (1, 2, 5), (4, 0, 3), (5, 0, 3), (8, 0, 9), (9, 5, 5), (14, 0, 1), (15, 0, 3), (16, 0, 3), (17, 0, 3), (18, 0, 3), (29, 0, 7)], 1, [(some (0, ([(3, 1)], 0)), [], [])])
def n_149 : List xN := []
set_option maxRecDepth 100000 in
set_option maxHeartbeats 4000000 in
theorem h_149 (th : List Nat) (xs : Nat → Int32) (L J : Nat) : x_Holds x_tb th xs L J c_149 150 := x_ok (dm := 149) (cts := [c_144, c_63, c_44]) (D := d_98) (ns := n_149) (f := 32) d_98_ok (List.forall_mem_cons.mpr ⟨(h_144 th xs L J).mono (by omega), List.forall_mem_cons.mpr ⟨(h_63 th xs L J).mono (by omega), List.forall_mem_cons.mpr ⟨(h_44 th xs L J).mono (by omega), fun _ h => absurd h List.not_mem_nil⟩⟩⟩) (by decide +kernel)
def d_103 : xD := [(0, .aload_n 0, 1), (1, .getfield 37, 3), (4, .iconst 1, 1), (5, .if_icmp .ge 5, 3), (8, .iconst (-1), 1), (9, .ireturn, 1), (10, .aload_n 0, 1), (11, .dup, 1), (12, .getfield 37, 3), (15, .iconst 1, 1), (16, .isub, 1), (17, .putfield 37, 3), (20, .aload_n 0, 1), (21, .getfield 26, 3), (24, .aload_n 0, 1), (25, .getfield 33, 3), (28, .aload_n 0, 1), (29, .getfield 37, 3), (32, .aaload, 1), (33, .invokevirtual 117, 3), (36, .aload_n 0, 1), (37, .getfield 37, 3), (40, .ireturn, 1)]
set_option maxRecDepth 100000 in
theorem d_103_ok : x_dchk 103 d_103 = true := by decide +kernel
/-- reathingHill.undo -/
def c_150 : xC := (103, [(19, ([(0, 1)], 0))], [], [], 1, [(0, 4, 7), (1, 2, 5), (4, 0, 3), (5, 0, 3), (8, 0, 9), (9, 5, 5), (14, 0, 1), (15, 0, 3), (16, 0, 3), (17, 0, 3), (18, 0, 3)], 1, [(some (0, ([(1, 1)], 0)), [], [])])
def n_150 : List xN := []
set_option maxRecDepth 100000 in
set_option maxHeartbeats 4000000 in
theorem h_150 (th : List Nat) (xs : Nat → Int32) (L J : Nat) : x_Holds x_tb th xs L J c_150 151 := x_ok (dm := 150) (cts := [c_44]) (D := d_103) (ns := n_150) (f := 30) d_103_ok (List.forall_mem_cons.mpr ⟨(h_44 th xs L J).mono (by omega), fun _ h => absurd h List.not_mem_nil⟩) (by decide +kernel)
def d_105 : xD := [(0, .aload_n 0, 1), (1, .getfield 26, 3), (4, .getfield 192, 3), (7, .iload_n 1, 1), (8, .iload_n 2, 1), (9, .invokevirtual 233, 3), (12, .ifCond .eq 18, 3), (15, .iload_n 3, 1), (16, .iconst 1, 1), (17, .if_icmp .lt 13, 3), (20, .iload_n 3, 1), (21, .bipush 9, 2), (23, .if_icmp .gt 7, 3), (26, .iconst 1, 1), (27, .goto 4, 3), (30, .iconst 0, 1), (31, .ireturn, 1)]
set_option maxRecDepth 100000 in
theorem d_105_ok : x_dchk 105 d_105 = true := by decide +kernel
/-- reathingHill.canLetGo -/
def c_151 : xC := (105, [(19, ([(0, 1)], 0)), (0, ([(1, 1)], 0)), (0, ([(2, 1)], 0)), (0, ([(3, 1)], 0))], [], [], 4, [], 1, [(some (0, ([(4, 1)], 0)), [([(4, 1)], 0), ([(4, -1)], 1)], [])])
def n_151 : List xN := []
set_option maxRecDepth 100000 in
set_option maxHeartbeats 4000000 in
theorem h_151 (th : List Nat) (xs : Nat → Int32) (L J : Nat) : x_Holds x_tb th xs L J c_151 152 := x_ok (dm := 151) (cts := [c_17]) (D := d_105) (ns := n_151) (f := 25) d_105_ok (List.forall_mem_cons.mpr ⟨(h_17 th xs L J).mono (by omega), fun _ h => absurd h List.not_mem_nil⟩) (by decide +kernel)
def d_106 : xD := [(0, .aload_n 0, 1), (1, .getfield 80, 3), (4, .iload_n 1, 1), (5, .iload_n 2, 1), (6, .iload_n 3, 1), (7, .invokevirtual 297, 3), (10, .iconst 0, 1), (11, .istore 5, 2), (13, .iload 5, 2), (15, .sipush 400, 3), (18, .if_icmp .ge 54, 3), (21, .iload 4, 2), (23, .iload 5, 2), (25, .iadd, 1), (26, .sipush 1000, 3), (29, .if_icmp .ge 43, 3), (32, .aload_n 0, 1), (33, .getfield 80, 3), (36, .aload_n 0, 1), (37, .getfield 26, 3), (40, .getfield 192, 3), (43, .iload 4, 2), (45, .iload 5, 2), (47, .iadd, 1), (48, .invokevirtual 301, 3), (51, .aload_n 0, 1), (52, .getfield 80, 3), (55, .getfield 159, 3), (58, .ifCond .le 8, 3), (61, .iload 5, 2), (63, .iconst 1, 1), (64, .iadd, 1), (65, .ireturn, 1), (66, .iinc 5 1, 3), (69, .goto (-56), 3), (72, .iconst (-1), 1), (73, .ireturn, 1)]
set_option maxRecDepth 100000 in
theorem d_106_ok : x_dchk 106 d_106 = true := by decide +kernel
/-- reathingHill.hoursOfLetter -/
def c_152 : xC := (106, [(19, ([(0, 1)], 0)), (0, ([(1, 1)], 0)), (0, ([(2, 1)], 0)), (0, ([(3, 1)], 0)), (0, ([(4, 1)], 0))], [], [], 5, [(8, 1, 9)], 1, [(some (0, ([(5, 1)], 0)), [], [])])
def n_152 : List xN := [(13, [(5, (0, ([(5, 1)], 0))), (0, (19, ([(0, 1)], 0))), (1, (0, ([(1, 1)], 0))), (2, (0, ([(2, 1)], 0))), (3, (0, ([(3, 1)], 0))), (4, (0, ([(4, 1)], 0)))], [(9, ([(0, 1)], 0), 14, (18, ([(6, 1)], 0)))], [([(5, 1)], 0), ([(5, -1)], 1000), ([(5, -1)], 1001)], 7, [([], 1), ([(5, -1)], 2147483647), ([], 5000000000), ([], 5000000000), ([], 5000000000)])]
set_option maxRecDepth 100000 in
set_option maxHeartbeats 4000000 in
theorem h_152 (th : List Nat) (xs : Nat → Int32) (L J : Nat) : x_Holds x_tb th xs L J c_152 153 := x_ok (dm := 152) (cts := [c_36, c_25]) (D := d_106) (ns := n_152) (f := 34) d_106_ok (List.forall_mem_cons.mpr ⟨(h_36 th xs L J).mono (by omega), List.forall_mem_cons.mpr ⟨(h_25 th xs L J).mono (by omega), fun _ h => absurd h List.not_mem_nil⟩⟩) (by decide +kernel)
def d_104 : xD := [(0, .aload_n 0, 1), (1, .iload_n 1, 1), (2, .iload_n 2, 1), (3, .iload_n 3, 1), (4, .invokevirtual 289, 3), (7, .ifCond .eq 23, 3), (10, .iload 4, 2), (12, .invokestatic 230, 3), (15, .ifCond .eq 15, 3), (18, .aload_n 0, 1), (19, .iload_n 1, 1), (20, .iload_n 2, 1), (21, .iload_n 3, 1), (22, .iload 4, 2), (24, .invokevirtual 293, 3), (27, .goto 4, 3), (30, .iconst (-1), 1), (31, .ireturn, 1)]
set_option maxRecDepth 100000 in
theorem d_104_ok : x_dchk 104 d_104 = true := by decide +kernel
/-- reathingHill.letter -/
def c_153 : xC := (104, [(19, ([(0, 1)], 0)), (0, ([(1, 1)], 0)), (0, ([(2, 1)], 0)), (0, ([(3, 1)], 0)), (0, ([(4, 1)], 0))], [], [], 5, [(8, 1, 9)], 1, [(some (0, ([(5, 1)], 0)), [], [])])
def n_153 : List xN := []
set_option maxRecDepth 100000 in
set_option maxHeartbeats 4000000 in
theorem h_153 (th : List Nat) (xs : Nat → Int32) (L J : Nat) : x_Holds x_tb th xs L J c_153 154 := x_ok (dm := 153) (cts := [c_152, c_151, c_1]) (D := d_104) (ns := n_153) (f := 26) d_104_ok (List.forall_mem_cons.mpr ⟨(h_152 th xs L J).mono (by omega), List.forall_mem_cons.mpr ⟨(h_151 th xs L J).mono (by omega), List.forall_mem_cons.mpr ⟨(h_1 th xs L J).mono (by omega), fun _ h => absurd h List.not_mem_nil⟩⟩⟩) (by decide +kernel)
