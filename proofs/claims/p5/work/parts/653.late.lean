/-- ingHillModel.puts@41s -/
def c_304 : xC := (172, [(20, ([(0, 1)], 0)), (0, ([(1, 1)], 0)), (0, ([(2, 1)], 0)), (0, ([(3, 1)], 0))], [([(1, 1)], -41), ([(1, -1)], 48), ([(5, 1)], 0), ([(5, -1)], 940), ([(4, 1)], 0), ([(4, -1)], 4), ([(2, 1)], 0), ([(3, -1)], 9)], [(10, ([(0, 1)], 0), 11, (0, ([(4, 1)], 0))), (10, ([(0, 1)], 0), 4, (0, ([(5, 1)], 0)))], 6, [(10, 4, 4), (10, 11, 18), (37, 41, 48)], 1, [(some (0, ([(6, 1)], 0)), [([(6, 1)], 0), ([(6, -1)], 1)], [])])
def n_304 : List xN := []
set_option maxRecDepth 100000 in
set_option maxHeartbeats 4000000 in
theorem h_304 (th : List Nat) (xs : Nat → Int32) (L J : Nat) : x_Holds x_tb th xs L J c_304 305 := x_ok (dm := 304) (cts := [c_194]) (D := d_172) (ns := n_304) (f := 22) d_172_ok (List.forall_mem_cons.mpr ⟨(h_194 th xs L J).mono (by omega), fun _ h => absurd h List.not_mem_nil⟩) (by decide +kernel)
