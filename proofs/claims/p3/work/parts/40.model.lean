def d_185 : xD := [(0, .aload_n 0, 1), (1, .iload_n 1, 1), (2, .ifCond .eq 7, 3), (5, .iconst 1, 1), (6, .goto 4, 3), (9, .iconst 0, 1), (10, .putfield 1, 3), (13, .iload_n 1, 1), (14, .ireturn, 1)]
set_option maxRecDepth 100000 in
theorem d_185_ok : x_dchk 185 d_185 = true := by decide +kernel
/-- ingHillModel.throwsIf -/
def c_175 : xC := (185, [(20, ([(0, 1)], 0)), (0, ([(1, 1)], 0))], [([(1, 1)], 0), ([(1, -1)], 1)], [], 2, [(10, 0, 0)], 0, [(some (0, ([(1, 1)], 0)), [([(1, 1)], 0), ([(1, -1)], 1)], [])])
def n_175 : List xN := []
set_option maxRecDepth 100000 in
set_option maxHeartbeats 4000000 in
theorem h_175 (th : List Nat) (xs : Nat → Int32) (L J : Nat) : x_Holds x_tb th xs L J c_175 176 := x_ok (dm := 175) (cts := []) (D := d_185) (ns := n_175) (f := 17) d_185_ok (fun _ h => absurd h List.not_mem_nil) (by decide +kernel)
def d_157 : xD := [(0, .bipush 24, 2), (2, .istore_n 2, 1), (3, .iload_n 2, 1), (4, .ifCond .lt 32, 3), (7, .aload_n 0, 1), (8, .getfield 14, 3), (11, .aload_n 0, 1), (12, .getfield 7, 3), (15, .iload_n 1, 1), (16, .iload_n 2, 1), (17, .ishr, 1), (18, .i2b, 1), (19, .bastore, 1), (20, .aload_n 0, 1), (21, .dup, 1), (22, .getfield 7, 3), (25, .iconst 1, 1), (26, .iadd, 1), (27, .putfield 7, 3), (30, .iinc 2 (-8), 3), (33, .goto (-30), 3), (36, .return_, 1)]
set_option maxRecDepth 100000 in
theorem d_157_ok : x_dchk 157 d_157 = true := by decide +kernel
/-- ingHillModel.four -/
def c_176 : xC := (157, [(20, ([(0, 1)], 0)), (0, ([(1, 1)], 0))], [([(2, 1)], 0), ([(2, -1)], 936)], [(10, ([(0, 1)], 0), 2, (0, ([(2, 1)], 0)))], 3, [(10, 2, 2), (35, 0, 939)], 0, [(none, [], [(10, ([(0, 1)], 0), 2, (0, ([(2, 1)], 4)))])])
def n_176 : List xN := []
set_option maxRecDepth 100000 in
set_option maxHeartbeats 4000000 in
theorem h_176 (th : List Nat) (xs : Nat → Int32) (L J : Nat) : x_Holds x_tb th xs L J c_176 177 := x_ok (dm := 176) (cts := []) (D := d_157) (ns := n_176) (f := 90) d_157_ok (fun _ h => absurd h List.not_mem_nil) (by decide +kernel)
def d_156 : xD := [(0, .aload_n 0, 1), (1, .iconst 0, 1), (2, .putfield 1, 3), (5, .aload_n 0, 1), (6, .getfield 7, 3), (9, .bipush 20, 2), (11, .iadd, 1), (12, .sipush 940, 3), (15, .if_icmp .le 5, 3), (18, .iconst (-1), 1), (19, .ireturn, 1), (20, .aload_n 0, 1), (21, .iload_n 1, 1), (22, .invokevirtual 10, 3), (25, .aload_n 0, 1), (26, .iload_n 2, 1), (27, .invokevirtual 10, 3), (30, .aload_n 0, 1), (31, .iload_n 3, 1), (32, .invokevirtual 10, 3), (35, .aload_n 0, 1), (36, .iload 4, 2), (38, .invokevirtual 10, 3), (41, .aload_n 0, 1), (42, .iload 5, 2), (44, .invokevirtual 10, 3), (47, .aload_n 0, 1), (48, .getfield 7, 3), (51, .ireturn, 1)]
set_option maxRecDepth 100000 in
theorem d_156_ok : x_dchk 156 d_156 = true := by decide +kernel
/-- ingHillModel.feed -/
def c_177 : xC := (156, [(20, ([(0, 1)], 0)), (0, ([(1, 1)], 0)), (0, ([(2, 1)], 0)), (0, ([(3, 1)], 0)), (0, ([(4, 1)], 0)), (0, ([(5, 1)], 0))], [([(6, 1)], 0), ([(6, -1)], 940)], [(10, ([(0, 1)], 0), 2, (0, ([(6, 1)], 0)))], 7, [(10, 0, 0), (10, 2, 2), (35, 0, 939)], 0, [(some (0, ([(6, 1)], 20)), [([(6, -1)], 920)], [(10, ([(0, 1)], 0), 2, (0, ([(6, 1)], 20)))]), (some (0, ([], -1)), [([(6, 1)], -921)], [(10, ([(0, 1)], 0), 2, (0, ([(6, 1)], 0)))])])
def n_177 : List xN := []
set_option maxRecDepth 100000 in
set_option maxHeartbeats 4000000 in
theorem h_177 (th : List Nat) (xs : Nat → Int32) (L J : Nat) : x_Holds x_tb th xs L J c_177 178 := x_ok (dm := 177) (cts := [c_176]) (D := d_156) (ns := n_177) (f := 36) d_156_ok (List.forall_mem_cons.mpr ⟨(h_176 th xs L J).mono (by omega), fun _ h => absurd h List.not_mem_nil⟩) (by decide +kernel)
def d_158 : xD := [(0, .aload_n 0, 1), (1, .iconst 0, 1), (2, .putfield 1, 3), (5, .iload_n 1, 1), (6, .ifCond .lt 11, 3), (9, .iload_n 1, 1), (10, .aload_n 0, 1), (11, .getfield 7, 3), (14, .if_icmp .le 5, 3), (17, .iconst 0, 1), (18, .ireturn, 1), (19, .aload_n 0, 1), (20, .iload_n 1, 1), (21, .putfield 7, 3), (24, .iconst 1, 1), (25, .ireturn, 1)]
set_option maxRecDepth 100000 in
theorem d_158_ok : x_dchk 158 d_158 = true := by decide +kernel
/-- ingHillModel.end -/
def c_178 : xC := (158, [(20, ([(0, 1)], 0)), (0, ([(1, 1)], 0))], [([(2, 1)], 0), ([(2, -1)], 940)], [(10, ([(0, 1)], 0), 2, (0, ([(2, 1)], 0)))], 3, [(10, 0, 0), (10, 2, 2)], 0, [(some (0, ([], 1)), [([(1, 1)], 0), ([(1, -1), (2, 1)], 0)], [(10, ([(0, 1)], 0), 2, (0, ([(1, 1)], 0)))]), (some (0, ([], 0)), [([(1, -1)], -1)], [(10, ([(0, 1)], 0), 2, (0, ([(2, 1)], 0)))]), (some (0, ([], 0)), [([(1, 1), (2, -1)], -1)], [(10, ([(0, 1)], 0), 2, (0, ([(2, 1)], 0)))])])
def n_178 : List xN := []
set_option maxRecDepth 100000 in
set_option maxHeartbeats 4000000 in
theorem h_178 (th : List Nat) (xs : Nat → Int32) (L J : Nat) : x_Holds x_tb th xs L J c_178 179 := x_ok (dm := 178) (cts := []) (D := d_158) (ns := n_178) (f := 23) d_158_ok (fun _ h => absurd h List.not_mem_nil) (by decide +kernel)
def d_162 : xD := [(0, .aload_n 0, 1), (1, .aload_n 0, 1), (2, .getfield 7, 3), (5, .putfield 18, 3), (8, .aload_n 0, 1), (9, .iconst 0, 1), (10, .putfield 7, 3), (13, .aload_n 0, 1), (14, .iconst 0, 1), (15, .putfield 21, 3), (18, .aload_n 0, 1), (19, .iload_n 1, 1), (20, .putfield 24, 3), (23, .return_, 1)]
set_option maxRecDepth 100000 in
theorem d_162_ok : x_dchk 162 d_162 = true := by decide +kernel
/-- ingHillModel.taken -/
def c_179 : xC := (162, [(20, ([(0, 1)], 0)), (0, ([(1, 1)], 0))], [([(2, 1)], 0), ([(2, -1)], 940)], [(10, ([(0, 1)], 0), 2, (0, ([(2, 1)], 0)))], 3, [(10, 2, 5)], 0, [(none, [], [(10, ([(0, 1)], 0), 2, (0, ([], 0))), (10, ([(0, 1)], 0), 3, (0, ([(2, 1)], 0))), (10, ([(0, 1)], 0), 4, (0, ([], 0)))])])
def n_179 : List xN := []
set_option maxRecDepth 100000 in
set_option maxHeartbeats 4000000 in
theorem h_179 (th : List Nat) (xs : Nat → Int32) (L J : Nat) : x_Holds x_tb th xs L J c_179 180 := x_ok (dm := 179) (cts := []) (D := d_162) (ns := n_179) (f := 23) d_162_ok (fun _ h => absurd h List.not_mem_nil) (by decide +kernel)
def d_174 : xD := [(0, .iload_n 0, 1), (1, .iload_n 1, 1), (2, .if_icmp .lt 12, 3), (5, .iload_n 0, 1), (6, .iload_n 2, 1), (7, .if_icmp .gt 7, 3), (10, .iconst 1, 1), (11, .goto 4, 3), (14, .iconst 0, 1), (15, .ireturn, 1)]
set_option maxRecDepth 100000 in
theorem d_174_ok : x_dchk 174 d_174 = true := by decide +kernel
/-- ingHillModel.isIn -/
def c_180 : xC := (174, [(0, ([(0, 1)], 0)), (0, ([(1, 1)], 0)), (0, ([(2, 1)], 0))], [], [], 3, [], 0, [(some (0, ([], 1)), [([(0, 1), (1, -1)], 0), ([(0, -1), (2, 1)], 0)], []), (some (0, ([], 0)), [], [])])
def n_180 : List xN := []
set_option maxRecDepth 100000 in
set_option maxHeartbeats 4000000 in
theorem h_180 (th : List Nat) (xs : Nat → Int32) (L J : Nat) : x_Holds x_tb th xs L J c_180 181 := x_ok (dm := 180) (cts := []) (D := d_174) (ns := n_180) (f := 18) d_174_ok (fun _ h => absurd h List.not_mem_nil) (by decide +kernel)
def d_170 : xD := [(0, .iload_n 0, 1), (1, .iload_n 1, 1), (2, .ishr, 1), (3, .iconst 1, 1), (4, .iand, 1), (5, .iconst 1, 1), (6, .if_icmp .ne 7, 3), (9, .iconst 1, 1), (10, .goto 4, 3), (13, .iconst 0, 1), (14, .ireturn, 1)]
set_option maxRecDepth 100000 in
theorem d_170_ok : x_dchk 170 d_170 = true := by decide +kernel
/-- ingHillModel.bitOf -/
def c_181 : xC := (170, [(0, ([(0, 1)], 0)), (0, ([(1, 1)], 0))], [], [], 2, [], 1, [(some (0, ([(2, 1)], 0)), [([(2, 1)], 0), ([(2, -1)], 1)], [])])
def n_181 : List xN := []
set_option maxRecDepth 100000 in
set_option maxHeartbeats 4000000 in
theorem h_181 (th : List Nat) (xs : Nat → Int32) (L J : Nat) : x_Holds x_tb th xs L J c_181 182 := x_ok (dm := 181) (cts := []) (D := d_170) (ns := n_181) (f := 19) d_170_ok (fun _ h => absurd h List.not_mem_nil) (by decide +kernel)
def d_206 : xD := [(0, .iload_n 0, 1), (1, .iload_n 1, 1), (2, .if_icmp .ge 9, 3), (5, .iload_n 1, 1), (6, .iload_n 0, 1), (7, .isub, 1), (8, .goto 6, 3), (11, .iload_n 0, 1), (12, .iload_n 1, 1), (13, .isub, 1), (14, .ireturn, 1)]
set_option maxRecDepth 100000 in
theorem d_206_ok : x_dchk 206 d_206 = true := by decide +kernel
/-- ingHillModel.off -/
def c_182 : xC := (206, [(0, ([(0, 1)], 0)), (0, ([(1, 1)], 0))], [], [], 2, [], 1, [(some (0, ([(2, 1)], 0)), [], [])])
def n_182 : List xN := []
set_option maxRecDepth 100000 in
set_option maxHeartbeats 4000000 in
theorem h_182 (th : List Nat) (xs : Nat → Int32) (L J : Nat) : x_Holds x_tb th xs L J c_182 183 := x_ok (dm := 182) (cts := []) (D := d_206) (ns := n_182) (f := 17) d_206_ok (fun _ h => absurd h List.not_mem_nil) (by decide +kernel)
def d_233 : xD := [(0, .iconst 0, 1), (1, .istore_n 1, 1), (2, .iload_n 0, 1), (3, .istore_n 2, 1), (4, .iload_n 2, 1), (5, .ifCond .eq 15, 3), (8, .iinc 1 1, 3), (11, .iload_n 2, 1), (12, .iload_n 2, 1), (13, .iconst 1, 1), (14, .isub, 1), (15, .iand, 1), (16, .istore_n 2, 1), (17, .goto (-13), 3), (20, .iload_n 1, 1), (21, .ireturn, 1)]
set_option maxRecDepth 100000 in
theorem d_233_ok : x_dchk 233 d_233 = true := by decide +kernel
/-- ingHillModel.bits -/
def c_183 : xC := (233, [(0, ([(0, 1)], 0))], [([(0, 1)], 0), ([(0, -1)], 255)], [], 1, [], 1, [(some (0, ([(1, 1)], 0)), [], [])])
def n_183 : List xN := [(4, [(2, (0, ([(1, 1)], 0))), (1, (0, ([(2, 1)], 0))), (0, (0, ([(0, 1)], 0)))], [], [([(0, 1)], 0), ([(0, -1)], 255), ([(0, 1), (1, -1)], 0), ([(1, 1)], 0), ([(1, -1)], 255), ([(1, -1)], 1000), ([(1, -1)], 1001), ([(0, -1)], 1000), ([(0, -1)], 1001)], 3, [([], 1), ([(1, 1)], 0), ([], 5000000000), ([], 5000000000), ([], 5000000000)])]
set_option maxRecDepth 100000 in
set_option maxHeartbeats 4000000 in
theorem h_183 (th : List Nat) (xs : Nat → Int32) (L J : Nat) : x_Holds x_tb th xs L J c_183 184 := x_ok (dm := 183) (cts := []) (D := d_233) (ns := n_183) (f := 20) d_233_ok (fun _ h => absurd h List.not_mem_nil) (by decide +kernel)
def d_225 : xD := [(0, .aload_n 0, 1), (1, .getfield 14, 3), (4, .iload_n 1, 1), (5, .baload, 1), (6, .sipush 255, 3), (9, .iand, 1), (10, .ireturn, 1)]
set_option maxRecDepth 100000 in
theorem d_225_ok : x_dchk 225 d_225 = true := by decide +kernel
/-- ingHillModel.octet -/
def c_184 : xC := (225, [(20, ([(0, 1)], 0)), (0, ([(1, 1)], 0))], [([(1, 1)], 0), ([(1, -1)], 939)], [], 2, [], 1, [(some (0, ([(2, 1)], 0)), [([(2, 1)], 0), ([(2, -1)], 255)], [])])
def n_184 : List xN := []
set_option maxRecDepth 100000 in
set_option maxHeartbeats 4000000 in
theorem h_184 (th : List Nat) (xs : Nat → Int32) (L J : Nat) : x_Holds x_tb th xs L J c_184 185 := x_ok (dm := 184) (cts := []) (D := d_225) (ns := n_184) (f := 16) d_225_ok (fun _ h => absurd h List.not_mem_nil) (by decide +kernel)
def d_165 : xD := [(0, .iload_n 0, 1), (1, .bipush 97, 2), (3, .if_icmp .lt 13, 3), (6, .iload_n 0, 1), (7, .bipush 122, 2), (9, .if_icmp .gt 7, 3), (12, .iconst 1, 1), (13, .goto 4, 3), (16, .iconst 0, 1), (17, .ireturn, 1)]
set_option maxRecDepth 100000 in
theorem d_165_ok : x_dchk 165 d_165 = true := by decide +kernel
/-- ingHillModel.isSmall -/
def c_185 : xC := (165, [(0, ([(0, 1)], 0))], [], [], 1, [], 0, [(some (0, ([], 1)), [([(0, 1)], -97), ([(0, -1)], 122)], []), (some (0, ([], 0)), [], [])])
def n_185 : List xN := []
set_option maxRecDepth 100000 in
set_option maxHeartbeats 4000000 in
theorem h_185 (th : List Nat) (xs : Nat → Int32) (L J : Nat) : x_Holds x_tb th xs L J c_185 186 := x_ok (dm := 185) (cts := []) (D := d_165) (ns := n_185) (f := 18) d_165_ok (fun _ h => absurd h List.not_mem_nil) (by decide +kernel)
def d_166 : xD := [(0, .iload_n 0, 1), (1, .bipush 48, 2), (3, .if_icmp .lt 13, 3), (6, .iload_n 0, 1), (7, .bipush 57, 2), (9, .if_icmp .gt 7, 3), (12, .iconst 1, 1), (13, .goto 4, 3), (16, .iconst 0, 1), (17, .ireturn, 1)]
set_option maxRecDepth 100000 in
theorem d_166_ok : x_dchk 166 d_166 = true := by decide +kernel
/-- ingHillModel.isDigit -/
def c_186 : xC := (166, [(0, ([(0, 1)], 0))], [], [], 1, [], 0, [(some (0, ([], 1)), [([(0, 1)], -48), ([(0, -1)], 57)], []), (some (0, ([], 0)), [], [])])
def n_186 : List xN := []
set_option maxRecDepth 100000 in
set_option maxHeartbeats 4000000 in
theorem h_186 (th : List Nat) (xs : Nat → Int32) (L J : Nat) : x_Holds x_tb th xs L J c_186 187 := x_ok (dm := 186) (cts := []) (D := d_166) (ns := n_186) (f := 18) d_166_ok (fun _ h => absurd h List.not_mem_nil) (by decide +kernel)
def d_164 : xD := [(0, .aload_n 0, 1), (1, .getfield 21, 3), (4, .aload_n 0, 1), (5, .getfield 18, 3), (8, .if_icmp .ge 19, 3), (11, .aload_n 0, 1), (12, .getfield 14, 3), (15, .aload_n 0, 1), (16, .getfield 21, 3), (19, .baload, 1), (20, .sipush 255, 3), (23, .iand, 1), (24, .goto 4, 3), (27, .iconst (-1), 1), (28, .ireturn, 1)]
set_option maxRecDepth 100000 in
theorem d_164_ok : x_dchk 164 d_164 = true := by decide +kernel
/-- ingHillModel.peek -/
def c_187 : xC := (164, [(20, ([(0, 1)], 0))], [([(1, 1)], 0), ([(1, -1)], 940), ([(2, 1)], 0), ([(2, -1)], 940)], [(10, ([(0, 1)], 0), 4, (0, ([(1, 1)], 0))), (10, ([(0, 1)], 0), 3, (0, ([(2, 1)], 0)))], 3, [], 1, [(some (0, ([(3, 1)], 0)), [([(3, 1)], 0), ([(3, -1)], 255), ([(1, -1), (2, 1)], -1)], []), (some (0, ([], -1)), [([(1, 1), (2, -1)], 0)], [])])
def n_187 : List xN := []
set_option maxRecDepth 100000 in
set_option maxHeartbeats 4000000 in
theorem h_187 (th : List Nat) (xs : Nat → Int32) (L J : Nat) : x_Holds x_tb th xs L J c_187 188 := x_ok (dm := 187) (cts := []) (D := d_164) (ns := n_187) (f := 23) d_164_ok (fun _ h => absurd h List.not_mem_nil) (by decide +kernel)
def d_163 : xD := [(0, .aload_n 0, 1), (1, .invokevirtual 131, 3), (4, .bipush 32, 2), (6, .if_icmp .eq 12, 3), (9, .aload_n 0, 1), (10, .invokevirtual 131, 3), (13, .bipush 10, 2), (15, .if_icmp .ne 16, 3), (18, .aload_n 0, 1), (19, .dup, 1), (20, .getfield 21, 3), (23, .iconst 1, 1), (24, .iadd, 1), (25, .putfield 21, 3), (28, .goto (-28), 3), (31, .aload_n 0, 1), (32, .aload_n 0, 1), (33, .getfield 21, 3), (36, .putfield 135, 3), (39, .aload_n 0, 1), (40, .iconst 0, 1), (41, .putfield 138, 3), (44, .aload_n 0, 1), (45, .getfield 18, 3), (48, .aload_n 0, 1), (49, .getfield 24, 3), (52, .if_icmp .le 28, 3), (55, .aload_n 0, 1), (56, .getfield 21, 3), (59, .aload_n 0, 1), (60, .getfield 24, 3), (63, .if_icmp .lt 17, 3), (66, .aload_n 0, 1), (67, .aload_n 0, 1), (68, .getfield 24, 3), (71, .putfield 135, 3), (74, .aload_n 0, 1), (75, .iconst 4, 1), (76, .putfield 141, 3), (79, .return_, 1), (80, .aload_n 0, 1), (81, .invokevirtual 131, 3), (84, .istore_n 1, 1), (85, .iload_n 1, 1), (86, .ifCond .ge 9, 3), (89, .aload_n 0, 1), (90, .iconst 0, 1), (91, .putfield 141, 3), (94, .return_, 1), (95, .iload_n 1, 1), (96, .invokestatic 144, 3), (99, .ifCond .ne 65, 3), (102, .iload_n 1, 1), (103, .invokestatic 148, 3), (106, .ifCond .ne 58, 3), (109, .aload_n 0, 1), (110, .iload_n 1, 1), (111, .bipush 59, 2), (113, .if_icmp .eq 27, 3), (116, .iload_n 1, 1), (117, .bipush 40, 2), (119, .if_icmp .eq 21, 3), (122, .iload_n 1, 1), (123, .bipush 41, 2), (125, .if_icmp .eq 15, 3), (128, .iload_n 1, 1), (129, .bipush 60, 2), (131, .if_icmp .lt 13, 3), (134, .iload_n 1, 1), (135, .bipush 62, 2), (137, .if_icmp .gt 7, 3), (140, .iconst 3, 1), (141, .goto 4, 3), (144, .iconst 4, 1), (145, .putfield 141, 3), (148, .aload_n 0, 1), (149, .iload_n 1, 1), (150, .putfield 151, 3), (153, .aload_n 0, 1), (154, .dup, 1), (155, .getfield 21, 3), (158, .iconst 1, 1), (159, .iadd, 1), (160, .putfield 21, 3), (163, .return_, 1), (164, .iload_n 1, 1), (165, .invokestatic 144, 3), (168, .istore_n 2, 1), (169, .iconst 1, 1), (170, .istore_n 3, 1), (171, .aload_n 0, 1), (172, .lconst 0, 1), (173, .putfield 154, 3), (176, .aload_n 0, 1), (177, .iconst 0, 1), (178, .putfield 151, 3), (181, .aload_n 0, 1), (182, .invokevirtual 131, 3), (185, .invokestatic 144, 3), (188, .ifCond .ne 13, 3), (191, .aload_n 0, 1), (192, .invokevirtual 131, 3), (195, .invokestatic 148, 3), (198, .ifCond .eq 100, 3), (201, .iload_n 3, 1), (202, .ifCond .eq 18, 3), (205, .aload_n 0, 1), (206, .invokevirtual 131, 3), (209, .invokestatic 144, 3), (212, .iload_n 2, 1), (213, .if_icmp .ne 7, 3), (216, .iconst 1, 1), (217, .goto 4, 3), (220, .iconst 0, 1), (221, .istore_n 3, 1), (222, .aload_n 0, 1), (223, .getfield 138, 3), (226, .bipush 7, 2), (228, .if_icmp .ge 20, 3), (231, .aload_n 0, 1), (232, .aload_n 0, 1), (233, .getfield 154, 3), (236, .bipush 8, 2), (238, .lshl, 1), (239, .aload_n 0, 1), (240, .invokevirtual 131, 3), (243, .i2l, 1), (244, .lor, 1), (245, .putfield 154, 3), (248, .aload_n 0, 1), (249, .getfield 138, 3), (252, .iconst 3, 1), (253, .if_icmp .ge 22, 3), (256, .aload_n 0, 1), (257, .bipush 10, 2), (259, .aload_n 0, 1), (260, .getfield 151, 3), (263, .imul, 1), (264, .aload_n 0, 1), (265, .invokevirtual 131, 3), (268, .iadd, 1), (269, .bipush 48, 2), (271, .isub, 1), (272, .putfield 151, 3), (275, .aload_n 0, 1), (276, .dup, 1), (277, .getfield 138, 3), (280, .iconst 1, 1), (281, .iadd, 1), (282, .putfield 138, 3), (285, .aload_n 0, 1), (286, .dup, 1), (287, .getfield 21, 3), (290, .iconst 1, 1), (291, .iadd, 1), (292, .putfield 21, 3), (295, .goto (-114), 3), (298, .aload_n 0, 1), (299, .iload_n 3, 1), (300, .ifCond .eq 20, 3), (303, .aload_n 0, 1), (304, .getfield 138, 3), (307, .iload_n 2, 1), (308, .ifCond .eq 8, 3), (311, .bipush 7, 2), (313, .goto 4, 3), (316, .iconst 3, 1), (317, .if_icmp .le 7, 3), (320, .iconst 4, 1), (321, .goto 12, 3), (324, .iload_n 2, 1), (325, .ifCond .eq 7, 3), (328, .iconst 1, 1), (329, .goto 4, 3), (332, .iconst 2, 1), (333, .putfield 141, 3), (336, .return_, 1)]
set_option maxRecDepth 100000 in
theorem d_163_ok : x_dchk 163 d_163 = true := by decide +kernel
/-- ingHillModel.next -/
def c_188 : xC := (163, [(20, ([(0, 1)], 0))], [([(1, 1)], 0), ([(1, -1)], 940), ([(2, 1)], 0), ([(2, -1)], 940)], [(10, ([(0, 1)], 0), 4, (0, ([(1, 1)], 0))), (10, ([(0, 1)], 0), 3, (0, ([(2, 1)], 0)))], 3, [(10, 4, 4), (10, 11, 14), (10, 17, 17)], 2, [(none, [([(3, 1)], -3), ([(3, -1)], 3), ([(1, -1), (4, 1)], -1), ([(4, 1)], 0), ([(4, -1)], 940)], [(10, ([(0, 1)], 0), 11, (0, ([(3, 1)], 0))), (10, ([(0, 1)], 0), 4, (0, ([(4, 1)], 0)))]), (none, [([(3, 1)], 0), ([(3, -1)], 2), ([(1, -1), (4, 1)], 0), ([(4, 1)], 0), ([(4, -1)], 940)], [(10, ([(0, 1)], 0), 11, (0, ([(3, 1)], 0))), (10, ([(0, 1)], 0), 4, (0, ([(4, 1)], 0)))]), (none, [([(3, 1)], -4), ([(3, -1)], 4), ([(1, -1), (4, 1)], 0), ([(4, 1)], 0), ([(4, -1)], 940)], [(10, ([(0, 1)], 0), 11, (0, ([(3, 1)], 0))), (10, ([(0, 1)], 0), 4, (0, ([(4, 1)], 0)))])])
def n_188 : List xN := [(0, [(0, (20, ([(0, 1)], 0)))], [(10, ([(0, 1)], 0), 4, (0, ([(3, 1)], 0))), (10, ([(0, 1)], 0), 3, (0, ([(2, 1)], 0)))], [([(1, 1)], 0), ([(1, -1)], 940), ([(2, 1)], 0), ([(2, -1)], 940), ([(1, -1), (3, 1)], 0), ([(3, 1)], 0), ([(3, -1)], 940)], 4, [([], 2), ([(3, -1)], 2147483647), ([], 5000000000), ([], 5000000000), ([], 5000000000)]), (181, [(3, (0, ([(3, 1)], 0))), (2, (0, ([(4, 1)], 0))), (1, (0, ([(5, 1)], 0))), (0, (20, ([(0, 1)], 0)))], [(10, ([(0, 1)], 0), 14, (0, ([(6, 1)], 0))), (10, ([(0, 1)], 0), 5, (0, ([(7, 1)], 0))), (10, ([(0, 1)], 0), 13, (0, ([(8, 1)], 0))), (10, ([(0, 1)], 0), 12, (0, ([(9, 1)], 0))), (10, ([(0, 1)], 0), 4, (0, ([(10, 1)], 0))), (10, ([(0, 1)], 0), 3, (0, ([(2, 1)], 0)))], [([(5, -1)], 122), ([(5, 1)], 0), ([(5, -1)], 255), ([(2, 1), (9, -1)], -1), ([(7, 1)], 2147483648), ([(7, -1)], 2147483647), ([(1, 1)], 0), ([(1, -1)], 940), ([(2, 1)], 0), ([(2, -1)], 940), ([(1, -1), (9, 1)], 0), ([(9, 1)], 0), ([(9, -1)], 940), ([(3, -1)], 1), ([(4, -1)], 1), ([(6, 1)], 2147483648), ([(6, -1)], 2147483647), ([(8, 1)], 0), ([(8, 1)], 2147483648), ([(8, -1)], 2147483647), ([(9, -1), (10, 1)], 0), ([(10, 1)], 0), ([(10, -1)], 940), ([(3, -1), (5, 1)], -1), ([(3, -1), (5, 1)], 0), ([(3, -1), (7, 1)], 0), ([(2, 1), (3, -1)], 0), ([(4, -1), (5, 1)], -1), ([(4, -1), (5, 1)], 0), ([(4, -1), (7, 1)], 0), ([(2, 1), (4, -1)], 0), ([(8, -1), (10, 1)], 0), ([(2, 1), (8, -1)], 0), ([(7, 1), (9, -1)], -1), ([(7, 1), (9, -1)], 0), ([(2, 1), (9, -1)], 0), ([(2, 1), (10, -1)], 0), ([(3, 1)], 0), ([(3, -1)], 3), ([(3, -1)], 7), ([(3, -1)], 8), ([(3, -1)], 20), ([(3, -1)], 40), ([(3, -1)], 61), ([(3, -1)], 255), ([(3, -1)], 1000), ([(3, -1)], 1001), ([(4, 1)], 0), ([(4, -1)], 3), ([(4, -1)], 7), ([(4, -1)], 8), ([(4, -1)], 20), ([(4, -1)], 40), ([(4, -1)], 61), ([(4, -1)], 255), ([(4, -1)], 1000), ([(4, -1)], 1001), ([(5, 1)], -1), ([(5, -1)], 1000), ([(5, -1)], 1001)], 11, [([], 1), ([(10, -1)], 2147483647), ([], 5000000000), ([], 5000000000), ([], 5000000000)])]
set_option maxRecDepth 100000 in
set_option maxHeartbeats 4000000 in
theorem h_188 (th : List Nat) (xs : Nat → Int32) (L J : Nat) : x_Holds x_tb th xs L J c_188 189 := x_ok (dm := 188) (cts := [c_187, c_186, c_185]) (D := d_163) (ns := n_188) (f := 74) d_163_ok (List.forall_mem_cons.mpr ⟨(h_187 th xs L J).mono (by omega), List.forall_mem_cons.mpr ⟨(h_186 th xs L J).mono (by omega), List.forall_mem_cons.mpr ⟨(h_185 th xs L J).mono (by omega), fun _ h => absurd h List.not_mem_nil⟩⟩⟩) (by decide +kernel)
