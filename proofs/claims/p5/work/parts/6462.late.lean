/-- ingHillModel.leafOf@r -/
def c_301 : xC := (253, [(20, ([(0, 1)], 0))], [], [], 1, [], 1, [(some (0, ([(1, 1)], 0)), [([(1, 1)], 1), ([(1, -1)], 7)], [])])
def n_301 : List xN := []
set_option maxRecDepth 100000 in
set_option maxHeartbeats 4000000 in
theorem h_301 (th : List Nat) (xs : Nat → Int32) (L J : Nat) : x_Holds x_tb th xs L J c_301 302 := x_ok (dm := 301) (cts := [c_190]) (D := d_253) (ns := n_301) (f := 44) d_253_ok (List.forall_mem_cons.mpr ⟨(h_190 th xs L J).mono (by omega), fun _ h => absurd h List.not_mem_nil⟩) (by decide +kernel)
