/-- ingHill.Tape.hasRoomFor@x -/
def c_308 : xC := (12, [(17, ([(0, 1)], 0)), (0, ([(1, 1)], 0))], [([(2, 1)], 0), ([(2, -1)], 940), ([(1, 1)], 0), ([(1, -1)], 100)], [(7, ([(0, 1)], 0), 1, (0, ([(2, 1)], 0)))], 3, [], 0, [(some (0, ([], 1)), [([(1, -1), (2, -1)], 940)], []), (some (0, ([], 0)), [([(1, 1), (2, 1)], -941)], [])])
def n_308 : List xN := []
set_option maxRecDepth 100000 in
set_option maxHeartbeats 4000000 in
theorem h_308 (th : List Nat) (xs : Nat → Int32) (L J : Nat) : x_Holds x_tb th xs L J c_308 309 := x_ok (dm := 308) (cts := []) (D := d_12) (ns := n_308) (f := 20) d_12_ok (fun _ h => absurd h List.not_mem_nil) (by decide +kernel)
/-- ingHill.Tape.addNumber@x -/
def c_309 : xC := (13, [(17, ([(0, 1)], 0)), (0, ([(1, 1)], 0))], [([(2, 1)], 0), ([(2, -1)], 936)], [(7, ([(0, 1)], 0), 1, (0, ([(2, 1)], 0)))], 3, [(7, 1, 1), (28, 0, 939)], 0, [(none, [], [(7, ([(0, 1)], 0), 1, (0, ([(2, 1)], 4)))])])
def n_309 : List xN := []
set_option maxRecDepth 100000 in
set_option maxHeartbeats 4000000 in
theorem h_309 (th : List Nat) (xs : Nat → Int32) (L J : Nat) : x_Holds x_tb th xs L J c_309 310 := x_ok (dm := 309) (cts := []) (D := d_13) (ns := n_309) (f := 114) d_13_ok (fun _ h => absurd h List.not_mem_nil) (by decide +kernel)
/-- ingHill.Tape.cutTo@x -/
def c_310 : xC := (15, [(17, ([(0, 1)], 0)), (0, ([(1, 1)], 0))], [([(2, 1)], 0), ([(2, -1)], 940)], [(7, ([(0, 1)], 0), 1, (0, ([(2, 1)], 0)))], 3, [(7, 1, 1)], 0, [(some (0, ([], 1)), [([(1, 1)], 0), ([(1, -1), (2, 1)], 0)], [(7, ([(0, 1)], 0), 1, (0, ([(1, 1)], 0)))]), (some (0, ([], 0)), [([(1, -1)], -1)], [(7, ([(0, 1)], 0), 1, (0, ([(2, 1)], 0)))]), (some (0, ([], 0)), [([(1, 1), (2, -1)], -1)], [(7, ([(0, 1)], 0), 1, (0, ([(2, 1)], 0)))])])
def n_310 : List xN := []
set_option maxRecDepth 100000 in
set_option maxHeartbeats 4000000 in
theorem h_310 (th : List Nat) (xs : Nat → Int32) (L J : Nat) : x_Holds x_tb th xs L J c_310 311 := x_ok (dm := 310) (cts := []) (D := d_15) (ns := n_310) (f := 20) d_15_ok (fun _ h => absurd h List.not_mem_nil) (by decide +kernel)
/-- reathingHill.feed@x -/
def c_311 : xC := (11, [(19, ([(0, 1)], 0)), (0, ([(1, 1)], 0)), (0, ([(2, 1)], 0)), (0, ([(3, 1)], 0)), (0, ([(4, 1)], 0)), (0, ([(5, 1)], 0))], [([(7, 1)], 0), ([(7, -1)], 940)], [(9, ([(0, 1)], 0), 0, (17, ([(6, 1)], 0))), (7, ([(6, 1)], 0), 1, (0, ([(7, 1)], 0)))], 8, [(7, 1, 1), (28, 0, 939)], 0, [(some (0, ([(7, 1)], 20)), [([(7, -1)], 920)], [(7, ([(6, 1)], 0), 1, (0, ([(7, 1)], 20)))]), (some (0, ([], -1)), [([(7, 1)], -921)], [(7, ([(6, 1)], 0), 1, (0, ([(7, 1)], 0)))])])
def n_311 : List xN := []
set_option maxRecDepth 100000 in
set_option maxHeartbeats 4000000 in
theorem h_311 (th : List Nat) (xs : Nat → Int32) (L J : Nat) : x_Holds x_tb th xs L J c_311 312 := x_ok (dm := 311) (cts := [c_309, c_308]) (D := d_11) (ns := n_311) (f := 38) d_11_ok (List.forall_mem_cons.mpr ⟨(h_309 th xs L J).mono (by omega), List.forall_mem_cons.mpr ⟨(h_308 th xs L J).mono (by omega), fun _ h => absurd h List.not_mem_nil⟩⟩) (by decide +kernel)
/-- reathingHill.end@x -/
def c_312 : xC := (14, [(19, ([(0, 1)], 0)), (0, ([(1, 1)], 0))], [([(3, 1)], 0), ([(3, -1)], 940)], [(9, ([(0, 1)], 0), 0, (17, ([(2, 1)], 0))), (7, ([(2, 1)], 0), 1, (0, ([(3, 1)], 0)))], 4, [(7, 1, 1)], 0, [(some (0, ([], 1)), [([(1, 1)], 0), ([(1, -1), (3, 1)], 0)], [(7, ([(2, 1)], 0), 1, (0, ([(1, 1)], 0)))]), (some (0, ([], 0)), [([(1, -1)], -1)], [(7, ([(2, 1)], 0), 1, (0, ([(3, 1)], 0)))]), (some (0, ([], 0)), [([(1, 1), (3, -1)], -1)], [(7, ([(2, 1)], 0), 1, (0, ([(3, 1)], 0)))])])
def n_312 : List xN := []
set_option maxRecDepth 100000 in
set_option maxHeartbeats 4000000 in
theorem h_312 (th : List Nat) (xs : Nat → Int32) (L J : Nat) : x_Holds x_tb th xs L J c_312 313 := x_ok (dm := 312) (cts := [c_310]) (D := d_14) (ns := n_312) (f := 14) d_14_ok (List.forall_mem_cons.mpr ⟨(h_310 th xs L J).mono (by omega), fun _ h => absurd h List.not_mem_nil⟩) (by decide +kernel)
/-- reathingHill.land@x -/
def c_313 : xC := (16, [(19, ([(0, 1)], 0))], [], [(9, ([(0, 1)], 0), 0, (17, ([(1, 1)], 0)))], 2, [(0, 4, 7), (1, 2, 5), (2, 2, 2), (4, 0, 3), (5, 0, 3), (6, 4, 5), (7, 1, 9), (8, 0, 9), (9, 5, 5), (9, 17, 17), (14, 0, 1), (15, 0, 3), (16, 0, 3), (17, 0, 3), (18, 0, 3), (19, 0, 3), (20, 0, 4)], 1, [(some (0, ([(2, 1)], 0)), [], [(7, ([(1, 1)], 0), 1, (0, ([], 0)))])])
def n_313 : List xN := []
set_option maxRecDepth 100000 in
set_option maxHeartbeats 4000000 in
theorem h_313 (th : List Nat) (xs : Nat → Int32) (L J : Nat) : x_Holds x_tb th xs L J c_313 314 := x_ok (dm := 313) (cts := [c_310, c_91, c_85, c_44]) (D := d_16) (ns := n_313) (f := 43) d_16_ok (List.forall_mem_cons.mpr ⟨(h_310 th xs L J).mono (by omega), List.forall_mem_cons.mpr ⟨(h_91 th xs L J).mono (by omega), List.forall_mem_cons.mpr ⟨(h_85 th xs L J).mono (by omega), List.forall_mem_cons.mpr ⟨(h_44 th xs L J).mono (by omega), fun _ h => absurd h List.not_mem_nil⟩⟩⟩⟩) (by decide +kernel)
/-- reathingHill.which@x -/
def c_314 : xC := (112, [(19, ([(0, 1)], 0))], [], [(9, ([(0, 1)], 0), 0, (17, ([(1, 1)], 0)))], 2, [(7, 1, 1), (8, 1, 9)], 1, [(some (0, ([(2, 1)], 0)), [], [(7, ([(1, 1)], 0), 1, (0, ([], 0)))])])
def n_314 : List xN := [(43, [(3, (0, ([(2, 1)], 0))), (2, (0, ([(3, 1)], 0))), (1, (0, ([(4, 1)], 0))), (0, (19, ([(0, 1)], 0)))], [(7, ([(1, 1)], 0), 1, (0, ([(5, 1)], 0))), (9, ([(0, 1)], 0), 0, (17, ([(1, 1)], 0)))], [([(5, 1)], 0), ([(5, -1)], 940), ([(2, 1)], 0), ([(4, 1)], 0), ([(4, -1), (5, 1)], 0), ([(2, -1)], 7), ([(2, -1)], 8), ([(2, -1)], 20), ([(2, -1)], 40), ([(2, -1)], 61), ([(2, -1)], 255), ([(2, -1)], 1000), ([(2, -1)], 1001), ([(4, -1)], 1), ([(4, -1)], 3), ([(4, -1)], 7), ([(4, -1)], 8), ([(4, -1)], 20), ([(4, -1)], 40), ([(4, -1)], 61), ([(4, -1)], 255), ([(4, -1)], 1000), ([(4, -1)], 1001)], 6, [([], 1), ([(2, -1)], 2147483647), ([], 5000000000), ([], 5000000000), ([], 5000000000)])]
set_option maxRecDepth 100000 in
set_option maxHeartbeats 4000000 in
theorem h_314 (th : List Nat) (xs : Nat → Int32) (L J : Nat) : x_Holds x_tb th xs L J c_314 315 := x_ok (dm := 314) (cts := [c_310, c_159, c_9, c_0]) (D := d_112) (ns := n_314) (f := 54) d_112_ok (List.forall_mem_cons.mpr ⟨(h_310 th xs L J).mono (by omega), List.forall_mem_cons.mpr ⟨(h_159 th xs L J).mono (by omega), List.forall_mem_cons.mpr ⟨(h_9 th xs L J).mono (by omega), List.forall_mem_cons.mpr ⟨(h_0 th xs L J).mono (by omega), fun _ h => absurd h List.not_mem_nil⟩⟩⟩⟩) (by decide +kernel)
/-- reathingHill.sentence@x -/
def c_315 : xC := (136, [(19, ([(0, 1)], 0))], [], [(9, ([(0, 1)], 0), 0, (17, ([(1, 1)], 0)))], 2, [(6, 4, 5), (7, 1, 9), (9, 17, 17), (24, 0, 39), (25, 0, 39), (26, 0, 39)], 1, [(some (0, ([(2, 1)], 0)), [], [(7, ([(1, 1)], 0), 1, (0, ([], 0)))])])
def n_315 : List xN := []
set_option maxRecDepth 100000 in
set_option maxHeartbeats 4000000 in
theorem h_315 (th : List Nat) (xs : Nat → Int32) (L J : Nat) : x_Holds x_tb th xs L J c_315 316 := x_ok (dm := 315) (cts := [c_310, c_130, c_93]) (D := d_136) (ns := n_315) (f := 36) d_136_ok (List.forall_mem_cons.mpr ⟨(h_310 th xs L J).mono (by omega), List.forall_mem_cons.mpr ⟨(h_130 th xs L J).mono (by omega), List.forall_mem_cons.mpr ⟨(h_93 th xs L J).mono (by omega), fun _ h => absurd h List.not_mem_nil⟩⟩⟩) (by decide +kernel)
/-- reathingHill.log@x -/
def c_316 : xC := (129, [(19, ([(0, 1)], 0)), (0, ([(1, 1)], 0))], [([(3, 1)], 0), ([(3, -1)], 940)], [(9, ([(0, 1)], 0), 0, (17, ([(2, 1)], 0))), (7, ([(2, 1)], 0), 1, (0, ([(3, 1)], 0)))], 4, [(0, 4, 7), (1, 2, 5), (3, 3, 5), (4, 0, 3), (5, 0, 3), (7, 1, 9), (8, 0, 9), (9, 5, 5), (9, 13, 13), (9, 17, 17), (14, 0, 1), (15, 0, 3), (16, 0, 3), (17, 0, 3), (18, 0, 3), (21, 0, 39), (22, 0, 39), (23, 0, 39), (29, 0, 7), (33, 0, 3)], 1, [(some (0, ([(4, 1)], 0)), [([(1, 1)], 0), ([(1, -1)], 1)], [(7, ([(2, 1)], 0), 1, (0, ([], 0)))]), (some (0, ([(4, 1)], 0)), [([(1, -1)], -1)], [(7, ([(2, 1)], 0), 1, (0, ([(3, 1)], 0)))]), (some (0, ([(4, 1)], 0)), [([(1, 1)], -2)], [(7, ([(2, 1)], 0), 1, (0, ([(3, 1)], 0)))])])
def n_316 : List xN := []
set_option maxRecDepth 100000 in
set_option maxHeartbeats 4000000 in
theorem h_316 (th : List Nat) (xs : Nat → Int32) (L J : Nat) : x_Holds x_tb th xs L J c_316 317 := x_ok (dm := 316) (cts := [c_310, c_142, c_90, c_88, c_52, c_44]) (D := d_129) (ns := n_316) (f := 96) d_129_ok (List.forall_mem_cons.mpr ⟨(h_310 th xs L J).mono (by omega), List.forall_mem_cons.mpr ⟨(h_142 th xs L J).mono (by omega), List.forall_mem_cons.mpr ⟨(h_90 th xs L J).mono (by omega), List.forall_mem_cons.mpr ⟨(h_88 th xs L J).mono (by omega), List.forall_mem_cons.mpr ⟨(h_52 th xs L J).mono (by omega), List.forall_mem_cons.mpr ⟨(h_44 th xs L J).mono (by omega), fun _ h => absurd h List.not_mem_nil⟩⟩⟩⟩⟩⟩) (by decide +kernel)
/-- ingHillModel.which@x -/
def c_317 : xC := (224, [(20, ([(0, 1)], 0))], [], [], 1, [(10, 0, 0), (10, 2, 5), (10, 21, 25)], 1, [(some (0, ([(1, 1)], 0)), [], [(10, ([(0, 1)], 0), 2, (0, ([], 0)))])])
def n_317 : List xN := [(45, [(2, (0, ([(1, 1)], 0))), (1, (0, ([(2, 1)], 0))), (0, (20, ([(0, 1)], 0)))], [(10, ([(0, 1)], 0), 1, (45, ([(3, 1)], 0))), (10, ([(0, 1)], 0), 2, (0, ([], 0))), (10, ([(0, 1)], 0), 3, (0, ([(5, 1)], 0))), (10, ([(0, 1)], 0), 4, (0, ([], 0))), (10, ([(0, 1)], 0), 0, (0, ([], 0))), (35, ([(3, 1)], 0), 0, (0, ([(4, 1)], 0)))], [([(4, -1)], 1), ([(4, 1)], 0), ([(4, 1)], 128), ([(4, -1)], 127), ([(5, 1)], -4), ([(5, -1)], 4), ([(5, 1)], 0), ([(5, -1)], 940), ([(1, 1)], 0), ([(2, 1)], 0), ([(1, -1), (5, 1)], 0), ([(4, -1), (5, 1)], -1), ([(4, -1), (5, 1)], 0), ([(1, -1)], 7), ([(1, -1)], 8), ([(1, -1)], 20), ([(1, -1)], 40), ([(1, -1)], 61), ([(1, -1)], 255), ([(1, -1)], 1000), ([(1, -1)], 1001), ([(2, -1)], 255), ([(2, -1)], 1000), ([(2, -1)], 1001)], 6, [([], 1), ([(1, -1)], 2147483647), ([], 5000000000), ([], 5000000000), ([], 5000000000)])]
set_option maxRecDepth 100000 in
set_option maxHeartbeats 4000000 in
theorem h_317 (th : List Nat) (xs : Nat → Int32) (L J : Nat) : x_Holds x_tb th xs L J c_317 318 := x_ok (dm := 317) (cts := [c_293, c_292, c_275, c_184, c_179]) (D := d_224) (ns := n_317) (f := 52) d_224_ok (List.forall_mem_cons.mpr ⟨(h_293 th xs L J).mono (by omega), List.forall_mem_cons.mpr ⟨(h_292 th xs L J).mono (by omega), List.forall_mem_cons.mpr ⟨(h_275 th xs L J).mono (by omega), List.forall_mem_cons.mpr ⟨(h_184 th xs L J).mono (by omega), List.forall_mem_cons.mpr ⟨(h_179 th xs L J).mono (by omega), fun _ h => absurd h List.not_mem_nil⟩⟩⟩⟩⟩) (by decide +kernel)
