/-- ill.Sentence.readOne@6 -/
def c_112 : xC := (140, [(16, ([(0, 1)], 0)), (17, ([(1, 1)], 0)), (0, ([(2, 1)], 0))], [([(2, 1)], -6), ([(2, -1)], 6)], [], 3, [(6, 4, 5), (7, 3, 9), (24, 0, 39), (25, 0, 39), (26, 0, 39)], 1, [(some (0, ([(3, 1)], 0)), [([(3, 1)], 0), ([(3, -1)], 1)], [])])
def n_112 : List xN := []
set_option maxRecDepth 100000 in
set_option maxHeartbeats 4000000 in
theorem h_112 (th : List Nat) (xs : Nat → Int32) (L J : Nat) : x_Holds x_tb th xs L J c_112 113 := x_ok (dm := 112) (cts := [c_111, c_109, c_102, c_96, c_95, c_94, c_13, c_11, c_10]) (D := d_140) (ns := n_112) (f := 60) d_140_ok (List.forall_mem_cons.mpr ⟨(h_111 th xs L J).mono (by omega), List.forall_mem_cons.mpr ⟨(h_109 th xs L J).mono (by omega), List.forall_mem_cons.mpr ⟨(h_102 th xs L J).mono (by omega), List.forall_mem_cons.mpr ⟨(h_96 th xs L J).mono (by omega), List.forall_mem_cons.mpr ⟨(h_95 th xs L J).mono (by omega), List.forall_mem_cons.mpr ⟨(h_94 th xs L J).mono (by omega), List.forall_mem_cons.mpr ⟨(h_13 th xs L J).mono (by omega), List.forall_mem_cons.mpr ⟨(h_11 th xs L J).mono (by omega), List.forall_mem_cons.mpr ⟨(h_10 th xs L J).mono (by omega), fun _ h => absurd h List.not_mem_nil⟩⟩⟩⟩⟩⟩⟩⟩⟩) (by decide +kernel)
/-- ill.Sentence.readAll@6 -/
def c_113 : xC := (139, [(16, ([(0, 1)], 0)), (17, ([(1, 1)], 0)), (0, ([(2, 1)], 0))], [([(2, 1)], -6), ([(2, -1)], 6)], [], 3, [(6, 4, 5), (7, 3, 9), (24, 0, 39), (25, 0, 39), (26, 0, 39)], 1, [(some (0, ([(3, 1)], 0)), [([(3, 1)], 0), ([(3, -1)], 1)], [])])
def n_113 : List xN := [(13, [(3, (0, ([(3, 1)], 0))), (0, (16, ([(0, 1)], 0))), (1, (17, ([(1, 1)], 0))), (2, (0, ([(2, 1)], 0)))], [], [([(2, 1)], -6), ([(2, -1)], 6), ([(3, 1)], 0), ([(3, -1)], 1000), ([(3, -1)], 1001)], 4, [([], 1), ([(3, -1)], 2147483647), ([], 5000000000), ([], 5000000000), ([], 5000000000)])]
set_option maxRecDepth 100000 in
set_option maxHeartbeats 4000000 in
theorem h_113 (th : List Nat) (xs : Nat → Int32) (L J : Nat) : x_Holds x_tb th xs L J c_113 114 := x_ok (dm := 113) (cts := [c_112, c_94, c_11]) (D := d_139) (ns := n_113) (f := 31) d_139_ok (List.forall_mem_cons.mpr ⟨(h_112 th xs L J).mono (by omega), List.forall_mem_cons.mpr ⟨(h_94 th xs L J).mono (by omega), List.forall_mem_cons.mpr ⟨(h_11 th xs L J).mono (by omega), fun _ h => absurd h List.not_mem_nil⟩⟩⟩) (by decide +kernel)
/-- ill.Sentence.readCond@6 -/
def c_114 : xC := (138, [(16, ([(0, 1)], 0)), (17, ([(1, 1)], 0)), (0, ([(2, 1)], 0))], [([(2, 1)], -6), ([(2, -1)], 6)], [], 3, [(6, 4, 5), (7, 3, 9), (24, 0, 39), (25, 0, 39), (26, 0, 39)], 1, [(some (0, ([(3, 1)], 0)), [([(3, 1)], 0), ([(3, -1)], 1)], [])])
def n_114 : List xN := [(13, [(3, (0, ([(3, 1)], 0))), (0, (16, ([(0, 1)], 0))), (1, (17, ([(1, 1)], 0))), (2, (0, ([(2, 1)], 0)))], [], [([(2, 1)], -6), ([(2, -1)], 6), ([(3, 1)], 0), ([(3, -1)], 1000), ([(3, -1)], 1001)], 4, [([], 1), ([(3, -1)], 2147483647), ([], 5000000000), ([], 5000000000), ([], 5000000000)])]
set_option maxRecDepth 100000 in
set_option maxHeartbeats 4000000 in
theorem h_114 (th : List Nat) (xs : Nat → Int32) (L J : Nat) : x_Holds x_tb th xs L J c_114 115 := x_ok (dm := 114) (cts := [c_113, c_94, c_11]) (D := d_138) (ns := n_114) (f := 31) d_138_ok (List.forall_mem_cons.mpr ⟨(h_113 th xs L J).mono (by omega), List.forall_mem_cons.mpr ⟨(h_94 th xs L J).mono (by omega), List.forall_mem_cons.mpr ⟨(h_11 th xs L J).mono (by omega), fun _ h => absurd h List.not_mem_nil⟩⟩⟩) (by decide +kernel)
/-- ill.Sentence.readOne@5 -/
def c_115 : xC := (140, [(16, ([(0, 1)], 0)), (17, ([(1, 1)], 0)), (0, ([(2, 1)], 0))], [([(2, 1)], -5), ([(2, -1)], 5)], [], 3, [(6, 4, 5), (7, 3, 9), (24, 0, 39), (25, 0, 39), (26, 0, 39)], 1, [(some (0, ([(3, 1)], 0)), [([(3, 1)], 0), ([(3, -1)], 1)], [])])
def n_115 : List xN := []
set_option maxRecDepth 100000 in
set_option maxHeartbeats 4000000 in
theorem h_115 (th : List Nat) (xs : Nat → Int32) (L J : Nat) : x_Holds x_tb th xs L J c_115 116 := x_ok (dm := 115) (cts := [c_114, c_112, c_102, c_96, c_95, c_94, c_13, c_11, c_10]) (D := d_140) (ns := n_115) (f := 60) d_140_ok (List.forall_mem_cons.mpr ⟨(h_114 th xs L J).mono (by omega), List.forall_mem_cons.mpr ⟨(h_112 th xs L J).mono (by omega), List.forall_mem_cons.mpr ⟨(h_102 th xs L J).mono (by omega), List.forall_mem_cons.mpr ⟨(h_96 th xs L J).mono (by omega), List.forall_mem_cons.mpr ⟨(h_95 th xs L J).mono (by omega), List.forall_mem_cons.mpr ⟨(h_94 th xs L J).mono (by omega), List.forall_mem_cons.mpr ⟨(h_13 th xs L J).mono (by omega), List.forall_mem_cons.mpr ⟨(h_11 th xs L J).mono (by omega), List.forall_mem_cons.mpr ⟨(h_10 th xs L J).mono (by omega), fun _ h => absurd h List.not_mem_nil⟩⟩⟩⟩⟩⟩⟩⟩⟩) (by decide +kernel)
/-- ill.Sentence.readAll@5 -/
def c_116 : xC := (139, [(16, ([(0, 1)], 0)), (17, ([(1, 1)], 0)), (0, ([(2, 1)], 0))], [([(2, 1)], -5), ([(2, -1)], 5)], [], 3, [(6, 4, 5), (7, 3, 9), (24, 0, 39), (25, 0, 39), (26, 0, 39)], 1, [(some (0, ([(3, 1)], 0)), [([(3, 1)], 0), ([(3, -1)], 1)], [])])
def n_116 : List xN := [(13, [(3, (0, ([(3, 1)], 0))), (0, (16, ([(0, 1)], 0))), (1, (17, ([(1, 1)], 0))), (2, (0, ([(2, 1)], 0)))], [], [([(2, 1)], -5), ([(2, -1)], 5), ([(3, 1)], 0), ([(3, -1)], 1000), ([(3, -1)], 1001)], 4, [([], 1), ([(3, -1)], 2147483647), ([], 5000000000), ([], 5000000000), ([], 5000000000)])]
set_option maxRecDepth 100000 in
set_option maxHeartbeats 4000000 in
theorem h_116 (th : List Nat) (xs : Nat → Int32) (L J : Nat) : x_Holds x_tb th xs L J c_116 117 := x_ok (dm := 116) (cts := [c_115, c_94, c_11]) (D := d_139) (ns := n_116) (f := 31) d_139_ok (List.forall_mem_cons.mpr ⟨(h_115 th xs L J).mono (by omega), List.forall_mem_cons.mpr ⟨(h_94 th xs L J).mono (by omega), List.forall_mem_cons.mpr ⟨(h_11 th xs L J).mono (by omega), fun _ h => absurd h List.not_mem_nil⟩⟩⟩) (by decide +kernel)
/-- ill.Sentence.readCond@5 -/
def c_117 : xC := (138, [(16, ([(0, 1)], 0)), (17, ([(1, 1)], 0)), (0, ([(2, 1)], 0))], [([(2, 1)], -5), ([(2, -1)], 5)], [], 3, [(6, 4, 5), (7, 3, 9), (24, 0, 39), (25, 0, 39), (26, 0, 39)], 1, [(some (0, ([(3, 1)], 0)), [([(3, 1)], 0), ([(3, -1)], 1)], [])])
def n_117 : List xN := [(13, [(3, (0, ([(3, 1)], 0))), (0, (16, ([(0, 1)], 0))), (1, (17, ([(1, 1)], 0))), (2, (0, ([(2, 1)], 0)))], [], [([(2, 1)], -5), ([(2, -1)], 5), ([(3, 1)], 0), ([(3, -1)], 1000), ([(3, -1)], 1001)], 4, [([], 1), ([(3, -1)], 2147483647), ([], 5000000000), ([], 5000000000), ([], 5000000000)])]
set_option maxRecDepth 100000 in
set_option maxHeartbeats 4000000 in
theorem h_117 (th : List Nat) (xs : Nat → Int32) (L J : Nat) : x_Holds x_tb th xs L J c_117 118 := x_ok (dm := 117) (cts := [c_116, c_94, c_11]) (D := d_138) (ns := n_117) (f := 31) d_138_ok (List.forall_mem_cons.mpr ⟨(h_116 th xs L J).mono (by omega), List.forall_mem_cons.mpr ⟨(h_94 th xs L J).mono (by omega), List.forall_mem_cons.mpr ⟨(h_11 th xs L J).mono (by omega), fun _ h => absurd h List.not_mem_nil⟩⟩⟩) (by decide +kernel)
/-- ill.Sentence.readOne@4 -/
def c_118 : xC := (140, [(16, ([(0, 1)], 0)), (17, ([(1, 1)], 0)), (0, ([(2, 1)], 0))], [([(2, 1)], -4), ([(2, -1)], 4)], [], 3, [(6, 4, 5), (7, 3, 9), (24, 0, 39), (25, 0, 39), (26, 0, 39)], 1, [(some (0, ([(3, 1)], 0)), [([(3, 1)], 0), ([(3, -1)], 1)], [])])
def n_118 : List xN := []
set_option maxRecDepth 100000 in
set_option maxHeartbeats 4000000 in
theorem h_118 (th : List Nat) (xs : Nat → Int32) (L J : Nat) : x_Holds x_tb th xs L J c_118 119 := x_ok (dm := 118) (cts := [c_117, c_115, c_102, c_96, c_95, c_94, c_13, c_11, c_10]) (D := d_140) (ns := n_118) (f := 60) d_140_ok (List.forall_mem_cons.mpr ⟨(h_117 th xs L J).mono (by omega), List.forall_mem_cons.mpr ⟨(h_115 th xs L J).mono (by omega), List.forall_mem_cons.mpr ⟨(h_102 th xs L J).mono (by omega), List.forall_mem_cons.mpr ⟨(h_96 th xs L J).mono (by omega), List.forall_mem_cons.mpr ⟨(h_95 th xs L J).mono (by omega), List.forall_mem_cons.mpr ⟨(h_94 th xs L J).mono (by omega), List.forall_mem_cons.mpr ⟨(h_13 th xs L J).mono (by omega), List.forall_mem_cons.mpr ⟨(h_11 th xs L J).mono (by omega), List.forall_mem_cons.mpr ⟨(h_10 th xs L J).mono (by omega), fun _ h => absurd h List.not_mem_nil⟩⟩⟩⟩⟩⟩⟩⟩⟩) (by decide +kernel)
/-- ill.Sentence.readAll@4 -/
def c_119 : xC := (139, [(16, ([(0, 1)], 0)), (17, ([(1, 1)], 0)), (0, ([(2, 1)], 0))], [([(2, 1)], -4), ([(2, -1)], 4)], [], 3, [(6, 4, 5), (7, 3, 9), (24, 0, 39), (25, 0, 39), (26, 0, 39)], 1, [(some (0, ([(3, 1)], 0)), [([(3, 1)], 0), ([(3, -1)], 1)], [])])
def n_119 : List xN := [(13, [(3, (0, ([(3, 1)], 0))), (0, (16, ([(0, 1)], 0))), (1, (17, ([(1, 1)], 0))), (2, (0, ([(2, 1)], 0)))], [], [([(2, 1)], -4), ([(2, -1)], 4), ([(3, 1)], 0), ([(3, -1)], 1000), ([(3, -1)], 1001)], 4, [([], 1), ([(3, -1)], 2147483647), ([], 5000000000), ([], 5000000000), ([], 5000000000)])]
set_option maxRecDepth 100000 in
set_option maxHeartbeats 4000000 in
theorem h_119 (th : List Nat) (xs : Nat → Int32) (L J : Nat) : x_Holds x_tb th xs L J c_119 120 := x_ok (dm := 119) (cts := [c_118, c_94, c_11]) (D := d_139) (ns := n_119) (f := 31) d_139_ok (List.forall_mem_cons.mpr ⟨(h_118 th xs L J).mono (by omega), List.forall_mem_cons.mpr ⟨(h_94 th xs L J).mono (by omega), List.forall_mem_cons.mpr ⟨(h_11 th xs L J).mono (by omega), fun _ h => absurd h List.not_mem_nil⟩⟩⟩) (by decide +kernel)
/-- ill.Sentence.readCond@4 -/
def c_120 : xC := (138, [(16, ([(0, 1)], 0)), (17, ([(1, 1)], 0)), (0, ([(2, 1)], 0))], [([(2, 1)], -4), ([(2, -1)], 4)], [], 3, [(6, 4, 5), (7, 3, 9), (24, 0, 39), (25, 0, 39), (26, 0, 39)], 1, [(some (0, ([(3, 1)], 0)), [([(3, 1)], 0), ([(3, -1)], 1)], [])])
def n_120 : List xN := [(13, [(3, (0, ([(3, 1)], 0))), (0, (16, ([(0, 1)], 0))), (1, (17, ([(1, 1)], 0))), (2, (0, ([(2, 1)], 0)))], [], [([(2, 1)], -4), ([(2, -1)], 4), ([(3, 1)], 0), ([(3, -1)], 1000), ([(3, -1)], 1001)], 4, [([], 1), ([(3, -1)], 2147483647), ([], 5000000000), ([], 5000000000), ([], 5000000000)])]
set_option maxRecDepth 100000 in
set_option maxHeartbeats 4000000 in
theorem h_120 (th : List Nat) (xs : Nat → Int32) (L J : Nat) : x_Holds x_tb th xs L J c_120 121 := x_ok (dm := 120) (cts := [c_119, c_94, c_11]) (D := d_138) (ns := n_120) (f := 31) d_138_ok (List.forall_mem_cons.mpr ⟨(h_119 th xs L J).mono (by omega), List.forall_mem_cons.mpr ⟨(h_94 th xs L J).mono (by omega), List.forall_mem_cons.mpr ⟨(h_11 th xs L J).mono (by omega), fun _ h => absurd h List.not_mem_nil⟩⟩⟩) (by decide +kernel)
/-- ill.Sentence.readOne@3 -/
def c_121 : xC := (140, [(16, ([(0, 1)], 0)), (17, ([(1, 1)], 0)), (0, ([(2, 1)], 0))], [([(2, 1)], -3), ([(2, -1)], 3)], [], 3, [(6, 4, 5), (7, 3, 9), (24, 0, 39), (25, 0, 39), (26, 0, 39)], 1, [(some (0, ([(3, 1)], 0)), [([(3, 1)], 0), ([(3, -1)], 1)], [])])
def n_121 : List xN := []
set_option maxRecDepth 100000 in
set_option maxHeartbeats 4000000 in
theorem h_121 (th : List Nat) (xs : Nat → Int32) (L J : Nat) : x_Holds x_tb th xs L J c_121 122 := x_ok (dm := 121) (cts := [c_120, c_118, c_102, c_96, c_95, c_94, c_13, c_11, c_10]) (D := d_140) (ns := n_121) (f := 60) d_140_ok (List.forall_mem_cons.mpr ⟨(h_120 th xs L J).mono (by omega), List.forall_mem_cons.mpr ⟨(h_118 th xs L J).mono (by omega), List.forall_mem_cons.mpr ⟨(h_102 th xs L J).mono (by omega), List.forall_mem_cons.mpr ⟨(h_96 th xs L J).mono (by omega), List.forall_mem_cons.mpr ⟨(h_95 th xs L J).mono (by omega), List.forall_mem_cons.mpr ⟨(h_94 th xs L J).mono (by omega), List.forall_mem_cons.mpr ⟨(h_13 th xs L J).mono (by omega), List.forall_mem_cons.mpr ⟨(h_11 th xs L J).mono (by omega), List.forall_mem_cons.mpr ⟨(h_10 th xs L J).mono (by omega), fun _ h => absurd h List.not_mem_nil⟩⟩⟩⟩⟩⟩⟩⟩⟩) (by decide +kernel)
/-- ill.Sentence.readAll@3 -/
def c_122 : xC := (139, [(16, ([(0, 1)], 0)), (17, ([(1, 1)], 0)), (0, ([(2, 1)], 0))], [([(2, 1)], -3), ([(2, -1)], 3)], [], 3, [(6, 4, 5), (7, 3, 9), (24, 0, 39), (25, 0, 39), (26, 0, 39)], 1, [(some (0, ([(3, 1)], 0)), [([(3, 1)], 0), ([(3, -1)], 1)], [])])
def n_122 : List xN := [(13, [(3, (0, ([(3, 1)], 0))), (0, (16, ([(0, 1)], 0))), (1, (17, ([(1, 1)], 0))), (2, (0, ([(2, 1)], 0)))], [], [([(2, 1)], -3), ([(2, -1)], 3), ([(3, 1)], 0), ([(3, -1)], 1000), ([(3, -1)], 1001)], 4, [([], 1), ([(3, -1)], 2147483647), ([], 5000000000), ([], 5000000000), ([], 5000000000)])]
set_option maxRecDepth 100000 in
set_option maxHeartbeats 4000000 in
theorem h_122 (th : List Nat) (xs : Nat → Int32) (L J : Nat) : x_Holds x_tb th xs L J c_122 123 := x_ok (dm := 122) (cts := [c_121, c_94, c_11]) (D := d_139) (ns := n_122) (f := 31) d_139_ok (List.forall_mem_cons.mpr ⟨(h_121 th xs L J).mono (by omega), List.forall_mem_cons.mpr ⟨(h_94 th xs L J).mono (by omega), List.forall_mem_cons.mpr ⟨(h_11 th xs L J).mono (by omega), fun _ h => absurd h List.not_mem_nil⟩⟩⟩) (by decide +kernel)
/-- ill.Sentence.readCond@3 -/
def c_123 : xC := (138, [(16, ([(0, 1)], 0)), (17, ([(1, 1)], 0)), (0, ([(2, 1)], 0))], [([(2, 1)], -3), ([(2, -1)], 3)], [], 3, [(6, 4, 5), (7, 3, 9), (24, 0, 39), (25, 0, 39), (26, 0, 39)], 1, [(some (0, ([(3, 1)], 0)), [([(3, 1)], 0), ([(3, -1)], 1)], [])])
def n_123 : List xN := [(13, [(3, (0, ([(3, 1)], 0))), (0, (16, ([(0, 1)], 0))), (1, (17, ([(1, 1)], 0))), (2, (0, ([(2, 1)], 0)))], [], [([(2, 1)], -3), ([(2, -1)], 3), ([(3, 1)], 0), ([(3, -1)], 1000), ([(3, -1)], 1001)], 4, [([], 1), ([(3, -1)], 2147483647), ([], 5000000000), ([], 5000000000), ([], 5000000000)])]
set_option maxRecDepth 100000 in
set_option maxHeartbeats 4000000 in
theorem h_123 (th : List Nat) (xs : Nat → Int32) (L J : Nat) : x_Holds x_tb th xs L J c_123 124 := x_ok (dm := 123) (cts := [c_122, c_94, c_11]) (D := d_138) (ns := n_123) (f := 31) d_138_ok (List.forall_mem_cons.mpr ⟨(h_122 th xs L J).mono (by omega), List.forall_mem_cons.mpr ⟨(h_94 th xs L J).mono (by omega), List.forall_mem_cons.mpr ⟨(h_11 th xs L J).mono (by omega), fun _ h => absurd h List.not_mem_nil⟩⟩⟩) (by decide +kernel)
