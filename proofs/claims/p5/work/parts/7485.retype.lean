-- ===== the cells typed a second time =====
def x_tbl2 : List xT := [
  (0, 0, 8, [(1, (11, 0, 0)), (1, (21, 0, 0)), (1, (22, 0, 0)), (1, (23, 0, 0)), (1, (0, 0, 8)), (1, (0, 0, 4)), (1, (0, 0, 4)), (1, (0, -2147483648, 2147483647))]),
  (0, 1, 9, [(1, (24, 0, 0)), (1, (25, 0, 0)), (1, (0, -2147483648, 2147483647)), (1, (0, -2147483648, 2147483647)), (1, (0, -2147483648, 2147483647)), (1, (0, 0, 4)), (1, (26, 0, 0)), (1, (27, 0, 0)), (1, (28, 0, 0))]),
  (0, 2, 3, [(1, (29, 0, 0)), (1, (30, 0, 0)), (1, (0, 0, 5))]),
  (0, 3, 6, [(1, (31, 0, 0)), (1, (32, 0, 0)), (1, (33, 0, 0)), (1, (0, 0, 40)), (1, (0, -2147483648, 2147483647)), (1, (0, 0, 40))]),
  (0, 4, 4, [(1, (1, 0, 0)), (1, (0, -2147483648, 2147483647)), (1, (0, -2147483648, 2147483647)), (1, (0, -2147483648, 2147483647))]),
  (0, 5, 4, [(1, (1, 0, 0)), (1, (0, -2147483648, 2147483647)), (1, (0, -2147483648, 2147483647)), (1, (0, -2147483648, 2147483647))]),
  (0, 6, 6, [(1, (34, 0, 0)), (1, (35, 0, 0)), (1, (36, 0, 0)), (1, (37, 0, 0)), (1, (0, 0, 40)), (1, (0, -2147483648, 2147483647))]),
  (0, 7, 10, [(1, (38, 0, 0)), (1, (0, 0, 940)), (1, (0, -2147483648, 2147483647)), (1, (0, 0, 940)), (1, (3, 0, 0)), (1, (0, -2147483648, 2147483647)), (1, (0, -2147483648, 2147483647)), (1, (1, 0, 0)), (1, (0, -2147483648, 2147483647)), (1, (0, -2147483648, 2147483647))]),
  (0, 8, 10, [(1, (1, 0, 0)), (1, (0, -2147483648, 2147483647)), (1, (0, -2147483648, 2147483647)), (1, (0, -2147483648, 2147483647)), (1, (0, -2147483648, 2147483647)), (1, (0, -2147483648, 2147483647)), (1, (0, -2147483648, 2147483647)), (1, (0, -2147483648, 2147483647)), (1, (0, 0, 1)), (1, (0, -2147483648, 2147483647))]),
  (0, 9, 18, [(1, (17, 0, 0)), (1, (12, 0, 0)), (1, (61, 0, 0)), (1, (10, 0, 0)), (1, (39, 0, 0)), (1, (0, 0, 8)), (1, (16, 0, 0)), (1, (16, 0, 0)), (1, (40, 0, 0)), (1, (41, 0, 0)), (1, (42, 0, 0)), (1, (13, 0, 0)), (1, (43, 0, 0)), (1, (0, 0, 1)), (1, (18, 0, 0)), (1, (44, 0, 0)), (1, (0, 0, 1)), (1, (0, -2147483648, 2147483647))]),
  (0, 10, 45, [(1, (0, -2147483648, 2147483647)), (1, (45, 0, 0)), (1, (0, 0, 940)), (1, (0, 0, 940)), (1, (0, 0, 940)), (1, (0, -2147483648, 2147483647)), (1, (46, 0, 0)), (1, (47, 0, 0)), (1, (48, 0, 0)), (1, (49, 0, 0)), (1, (50, 0, 0)), (1, (0, 0, 4)), (1, (0, -2147483648, 2147483647)), (1, (0, -2147483648, 2147483647)), (1, (0, -2147483648, 2147483647)), (1, (0, -2147483648, 2147483647)), (1, (0, -2147483648, 2147483647)), (1, (1, 0, 0)), (1, (0, -2147483648, 2147483647)), (1, (0, -2147483648, 2147483647)), (1, (0, -2147483648, 2147483647)), (1, (0, 0, 3)), (1, (0, -2147483648, 2147483647)), (1, (0, 0, 3)), (1, (0, 0, 1)), (1, (0, 0, 1)), (1, (51, 0, 0)), (1, (52, 0, 0)), (1, (0, 0, 8)), (1, (53, 0, 0)), (1, (0, 0, 1)), (1, (0, -2147483648, 2147483647)), (1, (0, 0, 40)), (1, (54, 0, 0)), (1, (0, 0, 1)), (1, (55, 0, 0)), (1, (0, 0, 45)), (1, (0, -2147483648, 2147483647)), (1, (0, 0, 45)), (1, (0, -2147483648, 2147483647)), (1, (0, 0, 1)), (1, (56, 0, 0)), (1, (57, 0, 0)), (1, (58, 0, 0)), (1, (59, 0, 0))]),
  (1, 5, 8, [(8, (18, 0, 0))]),
  (1, 6, 4, [(4, (15, 0, 0))]),
  (1, 7, 4, [(4, (14, 0, 0))]),
  (1, 0, 2, [(2, (0, -2147483648, 2147483647))]),
  (1, 0, 4, [(4, (0, -2147483648, 2147483647))]),
  (1, 0, 4, [(4, (0, -2147483648, 2147483647))]),
  (1, 0, 4, [(4, (0, -2147483648, 2147483647))]),
  (1, 0, 4, [(4, (0, -2147483648, 2147483647))]),
  (1, 0, 4, [(4, (0, -2147483648, 2147483647))]),
  (1, 4, 5, [(5, (4, 0, 0))]),
  (1, 4, 40, [(40, (4, 0, 0))]),
  (1, 0, 40, [(40, (0, -2147483648, 2147483647))]),
  (1, 0, 40, [(40, (0, -2147483648, 2147483647))]),
  (1, 4, 40, [(40, (4, 0, 0))]),
  (1, 4, 40, [(40, (4, 0, 0))]),
  (1, 0, 40, [(40, (0, -2147483648, 2147483647))]),
  (1, 0, 40, [(40, (0, -2147483648, 2147483647))]),
  (1, 1, 940, [(940, (0, -128, 127))]),
  (1, 8, 8, [(8, (61, 0, 0))]),
  (1, 8, 2, [(2, (61, 0, 0))]),
  (1, 9, 2, [(2, (16, 0, 0))]),
  (1, 2, 2, [(2, (0, 0, 1))]),
  (1, 0, 4, [(4, (0, -2147483648, 2147483647))]),
  (1, 0, 2, [(2, (0, -2147483648, 2147483647))]),
  (1, 1, 940, [(940, (0, -128, 127))]),
  (1, 0, 324, [(2, (0, 0, 20)), (1, (0, 0, 4)), (1, (0, 0, 8)), (1, (0, 0, 4)), (1, (0, 0, 4)), (1, (0, 1, 12)), (3, (0, 0, 12)), (1, (0, -2147483648, 2147483647)), (1, (0, 1, 20)), (1, (0, -2147483648, 2147483647)), (12, (0, -2147483648, 2147483647)), (8, (0, 0, 1)), (8, (0, -2147483648, 2147483647)), (8, (0, 0, 9)), (8, (0, -2147483648, 2147483647)), (8, (0, 0, 1)), (4, (0, 0, 1)), (4, (0, -2147483648, 2147483647)), (4, (0, 0, 1)), (4, (0, -2147483648, 2147483647)), (1, (0, 0, 1000)), (8, (0, 0, 3)), (8, (0, -2147483648, 2147483647)), (8, (0, 0, 3)), (8, (0, 0, 1)), (8, (0, -2147483648, 2147483647)), (1, (0, -2147483648, 2147483647)), (8, (0, -2147483648, 2147483647)), (4, (0, -2147483648, 2147483647)), (4, (0, -2147483648, 2147483647)), (4, (0, -2147483648, 2147483647)), (1, (0, 0, 45)), (180, (0, -2147483648, 2147483647))]),
  (1, 0, 81, [(2, (0, 0, 20)), (1, (0, 0, 4)), (1, (0, 0, 8)), (1, (0, 0, 4)), (1, (0, 0, 4)), (1, (0, 1, 12)), (3, (0, 0, 12)), (1, (0, -2147483648, 2147483647)), (1, (0, 1, 20)), (1, (0, -2147483648, 2147483647)), (12, (0, -2147483648, 2147483647)), (8, (0, 0, 1)), (8, (0, -2147483648, 2147483647)), (8, (0, 0, 9)), (8, (0, -2147483648, 2147483647)), (8, (0, 0, 1)), (4, (0, 0, 1)), (4, (0, -2147483648, 2147483647)), (4, (0, 0, 1)), (4, (0, -2147483648, 2147483647))]),
  (1, 0, 135, [(135, (0, -2147483648, 2147483647))]),
  (1, 3, 32, [(32, (1, 0, 0))]),
  (1, 3, 25, [(25, (1, 0, 0))]),
  (1, 0, 496, [(1, (0, 0, 1000)), (8, (0, 0, 3)), (8, (0, -2147483648, 2147483647)), (8, (0, 0, 3)), (8, (0, 0, 1)), (8, (0, -2147483648, 2147483647)), (1, (0, -2147483648, 2147483647)), (8, (0, -2147483648, 2147483647)), (4, (0, -2147483648, 2147483647)), (4, (0, -2147483648, 2147483647)), (4, (0, -2147483648, 2147483647)), (1, (0, 0, 1000)), (8, (0, 0, 3)), (8, (0, -2147483648, 2147483647)), (8, (0, 0, 3)), (8, (0, 0, 1)), (8, (0, -2147483648, 2147483647)), (1, (0, -2147483648, 2147483647)), (8, (0, -2147483648, 2147483647)), (4, (0, -2147483648, 2147483647)), (4, (0, -2147483648, 2147483647)), (4, (0, -2147483648, 2147483647)), (1, (0, 0, 1000)), (8, (0, 0, 3)), (8, (0, -2147483648, 2147483647)), (8, (0, 0, 3)), (8, (0, 0, 1)), (8, (0, -2147483648, 2147483647)), (1, (0, -2147483648, 2147483647)), (8, (0, -2147483648, 2147483647)), (4, (0, -2147483648, 2147483647)), (4, (0, -2147483648, 2147483647)), (4, (0, -2147483648, 2147483647)), (1, (0, 0, 1000)), (8, (0, 0, 3)), (8, (0, -2147483648, 2147483647)), (8, (0, 0, 3)), (8, (0, 0, 1)), (8, (0, -2147483648, 2147483647)), (1, (0, -2147483648, 2147483647)), (8, (0, -2147483648, 2147483647)), (4, (0, -2147483648, 2147483647)), (4, (0, -2147483648, 2147483647)), (4, (0, -2147483648, 2147483647)), (1, (0, 0, 1000)), (8, (0, 0, 3)), (8, (0, -2147483648, 2147483647)), (8, (0, 0, 3)), (8, (0, 0, 1)), (8, (0, -2147483648, 2147483647)), (1, (0, -2147483648, 2147483647)), (8, (0, -2147483648, 2147483647)), (4, (0, -2147483648, 2147483647)), (4, (0, -2147483648, 2147483647)), (4, (0, -2147483648, 2147483647)), (1, (0, 0, 1000)), (8, (0, 0, 3)), (8, (0, -2147483648, 2147483647)), (8, (0, 0, 3)), (8, (0, 0, 1)), (8, (0, -2147483648, 2147483647)), (1, (0, -2147483648, 2147483647)), (8, (0, -2147483648, 2147483647)), (4, (0, -2147483648, 2147483647)), (4, (0, -2147483648, 2147483647)), (4, (0, -2147483648, 2147483647)), (1, (0, 0, 1000)), (8, (0, 0, 3)), (8, (0, -2147483648, 2147483647)), (8, (0, 0, 3)), (8, (0, 0, 1)), (8, (0, -2147483648, 2147483647)), (1, (0, -2147483648, 2147483647)), (8, (0, -2147483648, 2147483647)), (4, (0, -2147483648, 2147483647)), (4, (0, -2147483648, 2147483647)), (4, (0, -2147483648, 2147483647)), (1, (0, 0, 1000)), (8, (0, 0, 3)), (8, (0, -2147483648, 2147483647)), (8, (0, 0, 3)), (8, (0, 0, 1)), (8, (0, -2147483648, 2147483647)), (1, (0, -2147483648, 2147483647)), (8, (0, -2147483648, 2147483647)), (4, (0, -2147483648, 2147483647)), (4, (0, -2147483648, 2147483647)), (4, (0, -2147483648, 2147483647))]),
  (1, 0, 62, [(1, (0, 0, 1000)), (8, (0, 0, 3)), (8, (0, -2147483648, 2147483647)), (8, (0, 0, 3)), (8, (0, 0, 1)), (8, (0, -2147483648, 2147483647)), (1, (0, -2147483648, 2147483647)), (8, (0, -2147483648, 2147483647)), (4, (0, -2147483648, 2147483647)), (4, (0, -2147483648, 2147483647)), (4, (0, -2147483648, 2147483647))]),
  (1, 0, 2, [(2, (0, -2147483648, 2147483647))]),
  (1, 0, 4, [(4, (0, -2147483648, 2147483647))]),
  (1, 0, 45, [(45, (0, -2147483648, 2147483647))]),
  (1, 2, 45, [(45, (0, 0, 1))]),
  (1, 0, 648, [(2, (0, 0, 20)), (1, (0, 0, 4)), (1, (0, 0, 8)), (1, (0, 0, 4)), (1, (0, 0, 4)), (1, (0, 0, 12)), (3, (0, 0, 12)), (1, (0, -2147483648, 2147483647)), (1, (0, 0, 20)), (1, (0, -2147483648, 2147483647)), (12, (0, -2147483648, 2147483647)), (8, (0, 0, 1)), (8, (0, -2147483648, 2147483647)), (8, (0, 0, 9)), (8, (0, -2147483648, 2147483647)), (8, (0, 0, 1)), (4, (0, 0, 1)), (4, (0, -2147483648, 2147483647)), (4, (0, 0, 1)), (4, (0, -2147483648, 2147483647)), (1, (0, 0, 1000)), (8, (0, 0, 3)), (8, (0, -2147483648, 2147483647)), (8, (0, 0, 3)), (8, (0, 0, 1)), (8, (0, -2147483648, 2147483647)), (1, (0, -2147483648, 2147483647)), (8, (0, -2147483648, 2147483647)), (4, (0, -2147483648, 2147483647)), (4, (0, -2147483648, 2147483647)), (4, (0, -2147483648, 2147483647)), (1, (0, 0, 45)), (180, (0, -2147483648, 2147483647)), (2, (0, 0, 20)), (1, (0, 0, 4)), (1, (0, 0, 8)), (1, (0, 0, 4)), (1, (0, 0, 4)), (1, (0, 0, 12)), (3, (0, 0, 12)), (1, (0, -2147483648, 2147483647)), (1, (0, 0, 20)), (1, (0, -2147483648, 2147483647)), (12, (0, -2147483648, 2147483647)), (8, (0, 0, 1)), (8, (0, -2147483648, 2147483647)), (8, (0, 0, 9)), (8, (0, -2147483648, 2147483647)), (8, (0, 0, 1)), (4, (0, 0, 1)), (4, (0, -2147483648, 2147483647)), (4, (0, 0, 1)), (4, (0, -2147483648, 2147483647)), (1, (0, 0, 1000)), (8, (0, 0, 3)), (8, (0, -2147483648, 2147483647)), (8, (0, 0, 3)), (8, (0, 0, 1)), (8, (0, -2147483648, 2147483647)), (1, (0, -2147483648, 2147483647)), (8, (0, -2147483648, 2147483647)), (4, (0, -2147483648, 2147483647)), (4, (0, -2147483648, 2147483647)), (4, (0, -2147483648, 2147483647)), (1, (0, 0, 45)), (180, (0, -2147483648, 2147483647))]),
  (1, 3, 32, [(32, (1, 0, 0))]),
  (1, 2, 2, [(2, (0, 0, 1))]),
  (1, 3, 1, [(1, (1, 0, 0))]),
  (0, 0, 8, [(1, (62, 0, 0)), (1, (68, 0, 0)), (1, (22, 0, 0)), (1, (70, 0, 0)), (1, (0, 0, 8)), (1, (0, 0, 4)), (1, (0, 0, 4)), (1, (0, -2147483648, 2147483647))]),
  (0, 1, 9, [(1, (63, 0, 0)), (1, (64, 0, 0)), (1, (0, -2147483648, 2147483647)), (1, (0, -2147483648, 2147483647)), (1, (0, -2147483648, 2147483647)), (1, (0, 0, 4)), (1, (65, 0, 0)), (1, (66, 0, 0)), (1, (67, 0, 0))]),
  (1, 0, 2, [(2, (0, -2147483648, 2147483647))]),
  (1, 0, 4, [(4, (0, -2147483648, 2147483647))]),
  (1, 0, 4, [(4, (0, -2147483648, 2147483647))]),
  (1, 0, 4, [(4, (0, -2147483648, 2147483647))]),
  (1, 0, 4, [(4, (0, -2147483648, 2147483647))]),
  (1, 5, 8, [(8, (69, 0, 0))]),
  (0, 8, 10, [(1, (1, 0, 0)), (1, (0, -2147483648, 2147483647)), (1, (0, -2147483648, 2147483647)), (1, (0, -2147483648, 2147483647)), (1, (0, -2147483648, 2147483647)), (1, (0, -2147483648, 2147483647)), (1, (0, -2147483648, 2147483647)), (1, (0, -2147483648, 2147483647)), (1, (0, 0, 1)), (1, (0, -2147483648, 2147483647))]),
  (1, 7, 4, [(4, (71, 0, 0))]),
  (0, 4, 4, [(1, (1, 0, 0)), (1, (0, -2147483648, 2147483647)), (1, (0, -2147483648, 2147483647)), (1, (0, -2147483648, 2147483647))])]
def x_tbo (t : Nat) : xT := match x_tbl2[t]? with
  | some q => q
  | none => (0, 0, 0, [])
theorem x_tbl2_ok : x_tbl2.all (fun q => decide (q.2.2.1 ≤ (q.2.2.2.map (fun q => q.1)).sum)) = true := by decide +kernel
theorem x_tbo_wf : x_wf x_tbo := by
  intro t i h
  unfold x_tbo at h ⊢
  split
  · rename_i q hq
    rw [hq] at h
    have h1 := of_decide_eq_true (List.all_eq_true.mp x_tbl2_ok q (List.mem_of_getElem? hq))
    exact x_at_some _ i (Nat.lt_of_lt_of_le h h1)
  · rename_i hq
    rw [hq] at h
    simp at h
def x_chko (cts : List xC) (c : xC) (D : xD) (ns : List xN) (f : Nat) : Bool := match pm_tab[c.1]? with
  | some M => x_chk x_tbo cts c M D ns f
  | none => false
theorem x_oko {th : List Nat} {xs : Nat → Int32} {L J dm : Nat} {cts : List xC} {c : xC} {D : xD} {ns : List xN} {f : Nat} (hD : x_dchk c.1 D = true) (hc : ∀ c ∈ cts, x_Holds x_tbo th xs L J c dm) (h : x_chko cts c D ns f = true) : x_Holds x_tbo th xs L J c (dm + 1) := by
  unfold x_dchk at hD
  unfold x_chko at h
  split at hD
  · rename_i M hM
    rw [hM] at h
    exact x_chk_ok x_tbo_wf ⟨rfl, rfl, rfl⟩ (fun q hq => of_decide_eq_true (List.all_eq_true.mp hD q hq)) hM hc h
  · cases hD
set_option maxRecDepth 100000 in
set_option maxHeartbeats 4000000 in
theorem ho_3 (th : List Nat) (xs : Nat → Int32) (L J : Nat) : x_Holds x_tbo th xs L J c_3 4 := x_oko (dm := 3) (cts := []) (D := d_22) (ns := n_3) (f := 18) d_22_ok (fun _ h => absurd h List.not_mem_nil) (by decide +kernel)
set_option maxRecDepth 100000 in
set_option maxHeartbeats 4000000 in
theorem ho_4 (th : List Nat) (xs : Nat → Int32) (L J : Nat) : x_Holds x_tbo th xs L J c_4 5 := x_oko (dm := 4) (cts := []) (D := d_23) (ns := n_4) (f := 23) d_23_ok (fun _ h => absurd h List.not_mem_nil) (by decide +kernel)
set_option maxRecDepth 100000 in
set_option maxHeartbeats 4000000 in
theorem ho_5 (th : List Nat) (xs : Nat → Int32) (L J : Nat) : x_Holds x_tbo th xs L J c_5 6 := x_oko (dm := 5) (cts := []) (D := d_24) (ns := n_5) (f := 28) d_24_ok (fun _ h => absurd h List.not_mem_nil) (by decide +kernel)
set_option maxRecDepth 100000 in
set_option maxHeartbeats 4000000 in
theorem ho_10 (th : List Nat) (xs : Nat → Int32) (L J : Nat) : x_Holds x_tbo th xs L J c_10 11 := x_oko (dm := 10) (cts := []) (D := d_27) (ns := n_10) (f := 18) d_27_ok (fun _ h => absurd h List.not_mem_nil) (by decide +kernel)
set_option maxRecDepth 100000 in
set_option maxHeartbeats 4000000 in
theorem ho_11 (th : List Nat) (xs : Nat → Int32) (L J : Nat) : x_Holds x_tbo th xs L J c_11 12 := x_oko (dm := 11) (cts := [c_5, c_4, c_3]) (D := d_21) (ns := n_11) (f := 68) d_21_ok (List.forall_mem_cons.mpr ⟨(ho_5 th xs L J).mono (by omega), List.forall_mem_cons.mpr ⟨(ho_4 th xs L J).mono (by omega), List.forall_mem_cons.mpr ⟨(ho_3 th xs L J).mono (by omega), fun _ h => absurd h List.not_mem_nil⟩⟩⟩) (by decide +kernel)
set_option maxRecDepth 100000 in
set_option maxHeartbeats 4000000 in
theorem ho_12 (th : List Nat) (xs : Nat → Int32) (L J : Nat) : x_Holds x_tbo th xs L J c_12 13 := x_oko (dm := 12) (cts := [c_11]) (D := d_20) (ns := n_12) (f := 24) d_20_ok (List.forall_mem_cons.mpr ⟨(ho_11 th xs L J).mono (by omega), fun _ h => absurd h List.not_mem_nil⟩) (by decide +kernel)
set_option maxRecDepth 100000 in
set_option maxHeartbeats 4000000 in
theorem ho_13 (th : List Nat) (xs : Nat → Int32) (L J : Nat) : x_Holds x_tbo th xs L J c_13 14 := x_oko (dm := 13) (cts := [c_11, c_10]) (D := d_46) (ns := n_13) (f := 17) d_46_ok (List.forall_mem_cons.mpr ⟨(ho_11 th xs L J).mono (by omega), List.forall_mem_cons.mpr ⟨(ho_10 th xs L J).mono (by omega), fun _ h => absurd h List.not_mem_nil⟩⟩) (by decide +kernel)
set_option maxRecDepth 100000 in
set_option maxHeartbeats 4000000 in
theorem ho_14 (th : List Nat) (xs : Nat → Int32) (L J : Nat) : x_Holds x_tbo th xs L J c_14 15 := x_oko (dm := 14) (cts := []) (D := d_19) (ns := n_14) (f := 52) d_19_ok (fun _ h => absurd h List.not_mem_nil) (by decide +kernel)
set_option maxRecDepth 100000 in
set_option maxHeartbeats 4000000 in
theorem ho_16 (th : List Nat) (xs : Nat → Int32) (L J : Nat) : x_Holds x_tbo th xs L J c_16 17 := x_oko (dm := 16) (cts := []) (D := d_34) (ns := n_16) (f := 20) d_34_ok (fun _ h => absurd h List.not_mem_nil) (by decide +kernel)
set_option maxRecDepth 100000 in
set_option maxHeartbeats 4000000 in
theorem ho_24 (th : List Nat) (xs : Nat → Int32) (L J : Nat) : x_Holds x_tbo th xs L J c_24 25 := x_oko (dm := 24) (cts := []) (D := d_36) (ns := n_24) (f := 22) d_36_ok (fun _ h => absurd h List.not_mem_nil) (by decide +kernel)
set_option maxRecDepth 100000 in
set_option maxHeartbeats 4000000 in
theorem ho_25 (th : List Nat) (xs : Nat → Int32) (L J : Nat) : x_Holds x_tbo th xs L J c_25 26 := x_oko (dm := 25) (cts := [c_24]) (D := d_35) (ns := n_25) (f := 31) d_35_ok (List.forall_mem_cons.mpr ⟨(ho_24 th xs L J).mono (by omega), fun _ h => absurd h List.not_mem_nil⟩) (by decide +kernel)
set_option maxRecDepth 100000 in
set_option maxHeartbeats 4000000 in
theorem ho_43 (th : List Nat) (xs : Nat → Int32) (L J : Nat) : x_Holds x_tbo th xs L J c_43 44 := x_oko (dm := 43) (cts := [c_14]) (D := d_18) (ns := n_43) (f := 25) d_18_ok (List.forall_mem_cons.mpr ⟨(ho_14 th xs L J).mono (by omega), fun _ h => absurd h List.not_mem_nil⟩) (by decide +kernel)
set_option maxRecDepth 100000 in
set_option maxHeartbeats 4000000 in
theorem ho_49 (th : List Nat) (xs : Nat → Int32) (L J : Nat) : x_Holds x_tbo th xs L J c_49 50 := x_oko (dm := 49) (cts := []) (D := d_32) (ns := n_49) (f := 24) d_32_ok (fun _ h => absurd h List.not_mem_nil) (by decide +kernel)
set_option maxRecDepth 100000 in
set_option maxHeartbeats 4000000 in
theorem ho_50 (th : List Nat) (xs : Nat → Int32) (L J : Nat) : x_Holds x_tbo th xs L J c_50 51 := x_oko (dm := 50) (cts := []) (D := d_33) (ns := n_50) (f := 24) d_33_ok (fun _ h => absurd h List.not_mem_nil) (by decide +kernel)
set_option maxRecDepth 100000 in
set_option maxHeartbeats 4000000 in
theorem ho_51 (th : List Nat) (xs : Nat → Int32) (L J : Nat) : x_Holds x_tbo th xs L J c_51 52 := x_oko (dm := 51) (cts := [c_50, c_49]) (D := d_31) (ns := n_51) (f := 26) d_31_ok (List.forall_mem_cons.mpr ⟨(ho_50 th xs L J).mono (by omega), List.forall_mem_cons.mpr ⟨(ho_49 th xs L J).mono (by omega), fun _ h => absurd h List.not_mem_nil⟩⟩) (by decide +kernel)
set_option maxRecDepth 100000 in
set_option maxHeartbeats 4000000 in
theorem ho_64 (th : List Nat) (xs : Nat → Int32) (L J : Nat) : x_Holds x_tbo th xs L J c_64 65 := x_oko (dm := 64) (cts := [c_11, c_10]) (D := d_28) (ns := n_64) (f := 36) d_28_ok (List.forall_mem_cons.mpr ⟨(ho_11 th xs L J).mono (by omega), List.forall_mem_cons.mpr ⟨(ho_10 th xs L J).mono (by omega), fun _ h => absurd h List.not_mem_nil⟩⟩) (by decide +kernel)
set_option maxRecDepth 100000 in
set_option maxHeartbeats 4000000 in
theorem ho_65 (th : List Nat) (xs : Nat → Int32) (L J : Nat) : x_Holds x_tbo th xs L J c_65 66 := x_oko (dm := 65) (cts := [c_11, c_10]) (D := d_28) (ns := n_65) (f := 36) d_28_ok (List.forall_mem_cons.mpr ⟨(ho_11 th xs L J).mono (by omega), List.forall_mem_cons.mpr ⟨(ho_10 th xs L J).mono (by omega), fun _ h => absurd h List.not_mem_nil⟩⟩) (by decide +kernel)
set_option maxRecDepth 100000 in
set_option maxHeartbeats 4000000 in
theorem ho_66 (th : List Nat) (xs : Nat → Int32) (L J : Nat) : x_Holds x_tbo th xs L J c_66 67 := x_oko (dm := 66) (cts := [c_11, c_10]) (D := d_28) (ns := n_66) (f := 36) d_28_ok (List.forall_mem_cons.mpr ⟨(ho_11 th xs L J).mono (by omega), List.forall_mem_cons.mpr ⟨(ho_10 th xs L J).mono (by omega), fun _ h => absurd h List.not_mem_nil⟩⟩) (by decide +kernel)
set_option maxRecDepth 100000 in
set_option maxHeartbeats 4000000 in
theorem ho_67 (th : List Nat) (xs : Nat → Int32) (L J : Nat) : x_Holds x_tbo th xs L J c_67 68 := x_oko (dm := 67) (cts := [c_11, c_10]) (D := d_28) (ns := n_67) (f := 36) d_28_ok (List.forall_mem_cons.mpr ⟨(ho_11 th xs L J).mono (by omega), List.forall_mem_cons.mpr ⟨(ho_10 th xs L J).mono (by omega), fun _ h => absurd h List.not_mem_nil⟩⟩) (by decide +kernel)
set_option maxRecDepth 100000 in
set_option maxHeartbeats 4000000 in
theorem ho_68 (th : List Nat) (xs : Nat → Int32) (L J : Nat) : x_Holds x_tbo th xs L J c_68 69 := x_oko (dm := 68) (cts := [c_11, c_10]) (D := d_28) (ns := n_68) (f := 36) d_28_ok (List.forall_mem_cons.mpr ⟨(ho_11 th xs L J).mono (by omega), List.forall_mem_cons.mpr ⟨(ho_10 th xs L J).mono (by omega), fun _ h => absurd h List.not_mem_nil⟩⟩) (by decide +kernel)
set_option maxRecDepth 100000 in
set_option maxHeartbeats 4000000 in
theorem ho_69 (th : List Nat) (xs : Nat → Int32) (L J : Nat) : x_Holds x_tbo th xs L J c_69 70 := x_oko (dm := 69) (cts := [c_11, c_10]) (D := d_28) (ns := n_69) (f := 36) d_28_ok (List.forall_mem_cons.mpr ⟨(ho_11 th xs L J).mono (by omega), List.forall_mem_cons.mpr ⟨(ho_10 th xs L J).mono (by omega), fun _ h => absurd h List.not_mem_nil⟩⟩) (by decide +kernel)
set_option maxRecDepth 100000 in
set_option maxHeartbeats 4000000 in
theorem ho_72 (th : List Nat) (xs : Nat → Int32) (L J : Nat) : x_Holds x_tbo th xs L J c_72 73 := x_oko (dm := 72) (cts := [c_11, c_10]) (D := d_40) (ns := n_72) (f := 36) d_40_ok (List.forall_mem_cons.mpr ⟨(ho_11 th xs L J).mono (by omega), List.forall_mem_cons.mpr ⟨(ho_10 th xs L J).mono (by omega), fun _ h => absurd h List.not_mem_nil⟩⟩) (by decide +kernel)
set_option maxRecDepth 100000 in
set_option maxHeartbeats 4000000 in
theorem ho_73 (th : List Nat) (xs : Nat → Int32) (L J : Nat) : x_Holds x_tbo th xs L J c_73 74 := x_oko (dm := 73) (cts := [c_72, c_64, c_10]) (D := d_39) (ns := n_73) (f := 43) d_39_ok (List.forall_mem_cons.mpr ⟨(ho_72 th xs L J).mono (by omega), List.forall_mem_cons.mpr ⟨(ho_64 th xs L J).mono (by omega), List.forall_mem_cons.mpr ⟨(ho_10 th xs L J).mono (by omega), fun _ h => absurd h List.not_mem_nil⟩⟩⟩) (by decide +kernel)
set_option maxRecDepth 100000 in
set_option maxHeartbeats 4000000 in
theorem ho_74 (th : List Nat) (xs : Nat → Int32) (L J : Nat) : x_Holds x_tbo th xs L J c_74 75 := x_oko (dm := 74) (cts := [c_72, c_65]) (D := d_41) (ns := n_74) (f := 48) d_41_ok (List.forall_mem_cons.mpr ⟨(ho_72 th xs L J).mono (by omega), List.forall_mem_cons.mpr ⟨(ho_65 th xs L J).mono (by omega), fun _ h => absurd h List.not_mem_nil⟩⟩) (by decide +kernel)
set_option maxRecDepth 100000 in
set_option maxHeartbeats 4000000 in
theorem ho_75 (th : List Nat) (xs : Nat → Int32) (L J : Nat) : x_Holds x_tbo th xs L J c_75 76 := x_oko (dm := 75) (cts := [c_72, c_69]) (D := d_43) (ns := n_75) (f := 29) d_43_ok (List.forall_mem_cons.mpr ⟨(ho_72 th xs L J).mono (by omega), List.forall_mem_cons.mpr ⟨(ho_69 th xs L J).mono (by omega), fun _ h => absurd h List.not_mem_nil⟩⟩) (by decide +kernel)
set_option maxRecDepth 100000 in
set_option maxHeartbeats 4000000 in
theorem ho_76 (th : List Nat) (xs : Nat → Int32) (L J : Nat) : x_Holds x_tbo th xs L J c_76 77 := x_oko (dm := 76) (cts := [c_72, c_69]) (D := d_44) (ns := n_76) (f := 29) d_44_ok (List.forall_mem_cons.mpr ⟨(ho_72 th xs L J).mono (by omega), List.forall_mem_cons.mpr ⟨(ho_69 th xs L J).mono (by omega), fun _ h => absurd h List.not_mem_nil⟩⟩) (by decide +kernel)
set_option maxRecDepth 100000 in
set_option maxHeartbeats 4000000 in
theorem ho_77 (th : List Nat) (xs : Nat → Int32) (L J : Nat) : x_Holds x_tbo th xs L J c_77 78 := x_oko (dm := 77) (cts := [c_72, c_69]) (D := d_45) (ns := n_77) (f := 29) d_45_ok (List.forall_mem_cons.mpr ⟨(ho_72 th xs L J).mono (by omega), List.forall_mem_cons.mpr ⟨(ho_69 th xs L J).mono (by omega), fun _ h => absurd h List.not_mem_nil⟩⟩) (by decide +kernel)
set_option maxRecDepth 100000 in
set_option maxHeartbeats 4000000 in
theorem ho_78 (th : List Nat) (xs : Nat → Int32) (L J : Nat) : x_Holds x_tbo th xs L J c_78 79 := x_oko (dm := 78) (cts := [c_77, c_76, c_75, c_10]) (D := d_42) (ns := n_78) (f := 26) d_42_ok (List.forall_mem_cons.mpr ⟨(ho_77 th xs L J).mono (by omega), List.forall_mem_cons.mpr ⟨(ho_76 th xs L J).mono (by omega), List.forall_mem_cons.mpr ⟨(ho_75 th xs L J).mono (by omega), List.forall_mem_cons.mpr ⟨(ho_10 th xs L J).mono (by omega), fun _ h => absurd h List.not_mem_nil⟩⟩⟩⟩) (by decide +kernel)
set_option maxRecDepth 100000 in
set_option maxHeartbeats 4000000 in
theorem ho_79 (th : List Nat) (xs : Nat → Int32) (L J : Nat) : x_Holds x_tbo th xs L J c_79 80 := x_oko (dm := 79) (cts := [c_68, c_67, c_66, c_11, c_10]) (D := d_26) (ns := n_79) (f := 49) d_26_ok (List.forall_mem_cons.mpr ⟨(ho_68 th xs L J).mono (by omega), List.forall_mem_cons.mpr ⟨(ho_67 th xs L J).mono (by omega), List.forall_mem_cons.mpr ⟨(ho_66 th xs L J).mono (by omega), List.forall_mem_cons.mpr ⟨(ho_11 th xs L J).mono (by omega), List.forall_mem_cons.mpr ⟨(ho_10 th xs L J).mono (by omega), fun _ h => absurd h List.not_mem_nil⟩⟩⟩⟩⟩) (by decide +kernel)
set_option maxRecDepth 100000 in
set_option maxHeartbeats 4000000 in
theorem ho_80 (th : List Nat) (xs : Nat → Int32) (L J : Nat) : x_Holds x_tbo th xs L J c_80 81 := x_oko (dm := 80) (cts := [c_69, c_51, c_16, c_11, c_10]) (D := d_30) (ns := n_80) (f := 44) d_30_ok (List.forall_mem_cons.mpr ⟨(ho_69 th xs L J).mono (by omega), List.forall_mem_cons.mpr ⟨(ho_51 th xs L J).mono (by omega), List.forall_mem_cons.mpr ⟨(ho_16 th xs L J).mono (by omega), List.forall_mem_cons.mpr ⟨(ho_11 th xs L J).mono (by omega), List.forall_mem_cons.mpr ⟨(ho_10 th xs L J).mono (by omega), fun _ h => absurd h List.not_mem_nil⟩⟩⟩⟩⟩) (by decide +kernel)
set_option maxRecDepth 100000 in
set_option maxHeartbeats 4000000 in
theorem ho_81 (th : List Nat) (xs : Nat → Int32) (L J : Nat) : x_Holds x_tbo th xs L J c_81 82 := x_oko (dm := 81) (cts := [c_80, c_69, c_25, c_11, c_10]) (D := d_29) (ns := n_81) (f := 87) d_29_ok (List.forall_mem_cons.mpr ⟨(ho_80 th xs L J).mono (by omega), List.forall_mem_cons.mpr ⟨(ho_69 th xs L J).mono (by omega), List.forall_mem_cons.mpr ⟨(ho_25 th xs L J).mono (by omega), List.forall_mem_cons.mpr ⟨(ho_11 th xs L J).mono (by omega), List.forall_mem_cons.mpr ⟨(ho_10 th xs L J).mono (by omega), fun _ h => absurd h List.not_mem_nil⟩⟩⟩⟩⟩) (by decide +kernel)
set_option maxRecDepth 100000 in
set_option maxHeartbeats 4000000 in
theorem ho_82 (th : List Nat) (xs : Nat → Int32) (L J : Nat) : x_Holds x_tbo th xs L J c_82 83 := x_oko (dm := 82) (cts := [c_80, c_11, c_10]) (D := d_37) (ns := n_82) (f := 53) d_37_ok (List.forall_mem_cons.mpr ⟨(ho_80 th xs L J).mono (by omega), List.forall_mem_cons.mpr ⟨(ho_11 th xs L J).mono (by omega), List.forall_mem_cons.mpr ⟨(ho_10 th xs L J).mono (by omega), fun _ h => absurd h List.not_mem_nil⟩⟩⟩) (by decide +kernel)
set_option maxRecDepth 100000 in
set_option maxHeartbeats 4000000 in
theorem ho_83 (th : List Nat) (xs : Nat → Int32) (L J : Nat) : x_Holds x_tbo th xs L J c_83 84 := x_oko (dm := 83) (cts := [c_80, c_11, c_10]) (D := d_38) (ns := n_83) (f := 53) d_38_ok (List.forall_mem_cons.mpr ⟨(ho_80 th xs L J).mono (by omega), List.forall_mem_cons.mpr ⟨(ho_11 th xs L J).mono (by omega), List.forall_mem_cons.mpr ⟨(ho_10 th xs L J).mono (by omega), fun _ h => absurd h List.not_mem_nil⟩⟩⟩) (by decide +kernel)
set_option maxRecDepth 100000 in
set_option maxHeartbeats 4000000 in
theorem ho_84 (th : List Nat) (xs : Nat → Int32) (L J : Nat) : x_Holds x_tbo th xs L J c_84 85 := x_oko (dm := 84) (cts := [c_83, c_82, c_81, c_79, c_78, c_74, c_73]) (D := d_25) (ns := n_84) (f := 36) d_25_ok (List.forall_mem_cons.mpr ⟨(ho_83 th xs L J).mono (by omega), List.forall_mem_cons.mpr ⟨(ho_82 th xs L J).mono (by omega), List.forall_mem_cons.mpr ⟨(ho_81 th xs L J).mono (by omega), List.forall_mem_cons.mpr ⟨(ho_79 th xs L J).mono (by omega), List.forall_mem_cons.mpr ⟨(ho_78 th xs L J).mono (by omega), List.forall_mem_cons.mpr ⟨(ho_74 th xs L J).mono (by omega), List.forall_mem_cons.mpr ⟨(ho_73 th xs L J).mono (by omega), fun _ h => absurd h List.not_mem_nil⟩⟩⟩⟩⟩⟩⟩) (by decide +kernel)
set_option maxRecDepth 100000 in
set_option maxHeartbeats 4000000 in
theorem ho_85 (th : List Nat) (xs : Nat → Int32) (L J : Nat) : x_Holds x_tbo th xs L J c_85 86 := x_oko (dm := 85) (cts := [c_84, c_43, c_13, c_12]) (D := d_17) (ns := n_85) (f := 28) d_17_ok (List.forall_mem_cons.mpr ⟨(ho_84 th xs L J).mono (by omega), List.forall_mem_cons.mpr ⟨(ho_43 th xs L J).mono (by omega), List.forall_mem_cons.mpr ⟨(ho_13 th xs L J).mono (by omega), List.forall_mem_cons.mpr ⟨(ho_12 th xs L J).mono (by omega), fun _ h => absurd h List.not_mem_nil⟩⟩⟩⟩) (by decide +kernel)
def th2 : List Nat := [9, 7, 28, 2, 19, 20, 51, 52, 53, 54, 55, 56, 57, 58, 12, 60, 59, 59, 59, 59, 59, 59, 59, 59, 5, 5, 5, 5, 61, 61, 61, 61, 0, 1, 14, 15, 16, 17, 18, 11, 12, 13, 8, 8, 8, 8, 8, 8, 8, 8, 5, 5, 5, 5, 4, 4, 4, 4, 29, 6, 24, 25, 26, 27, 6, 24, 25, 26, 27, 30, 31, 32, 3, 21, 22, 23, 33, 8, 34, 51, 52, 53, 54, 55, 56, 57, 58, 12, 60, 59, 59, 59, 59, 59, 59, 59, 59, 5, 5, 5, 5, 61, 61, 61, 61, 51, 52, 53, 54, 55, 56, 57, 58, 12, 60, 59, 59, 59, 59, 59, 59, 59, 59, 5, 5, 5, 5, 61, 61, 61, 61, 51, 52, 53, 54, 55, 56, 57, 58, 12, 60, 59, 59, 59, 59, 59, 59, 59, 59, 5, 5, 5, 5, 61, 61, 61, 61, 51, 52, 53, 54, 55, 56, 57, 58, 12, 60, 59, 59, 59, 59, 59, 59, 59, 59, 5, 5, 5, 5, 61, 61, 61, 61, 51, 52, 53, 54, 55, 56, 57, 58, 12, 60, 59, 59, 59, 59, 59, 59, 59, 59, 5, 5, 5, 5, 61, 61, 61, 61, 51, 52, 53, 54, 55, 56, 57, 58, 12, 60, 59, 59, 59, 59, 59, 59, 59, 59, 5, 5, 5, 5, 61, 61, 61, 61, 51, 52, 53, 54, 55, 56, 57, 58, 12, 60, 59, 59, 59, 59, 59, 59, 59, 59, 5, 5, 5, 5, 61, 61, 61, 61, 51, 52, 53, 54, 55, 56, 57, 58, 12, 60, 59, 59, 59, 59, 59, 59, 59, 59, 5, 5, 5, 5, 61, 61, 61, 61, 51, 52, 53, 54, 55, 56, 57, 58, 12, 60, 59, 59, 59, 59, 59, 59, 59, 59, 5, 5, 5, 5, 61, 61, 61, 61, 6, 24, 25, 26, 27, 51, 52, 53, 54, 55, 56, 57, 58, 12, 60, 59, 59, 59, 59, 59, 59, 59, 59, 5, 5, 5, 5, 61, 61, 61, 61, 6, 24, 25, 26, 27, 10, 35, 36, 37, 38, 39, 40, 41, 42, 43, 44, 45, 46, 47, 48, 49, 50]
def z_os : List Nat := [6, 79, 105, 131, 157, 183, 209, 235, 261, 287, 318]
theorem th2_len : th2.length = 366 ∧ th0.length = 366 := by decide +kernel
def x_kbad (n : Nat) : Bool := n == 10 || n == 11 || n == 14 || n == 18 || n == 21 || n == 23 || (decide (24 ≤ n) && decide (n ≤ 28))
theorem z_os_h : ∀ h ∈ z_os, h ∈ z_hs ∧ h ≠ 32 := by decide
theorem z_os_t : ∀ h ∈ z_os, th2[h]? = some 51 ∧ th2[h + 1]? = some 52 ∧ th2[h + 2]? = some 53 ∧ th2[h + 3]? = some 54 ∧ th2[h + 4]? = some 55 ∧ th2[h + 5]? = some 56 ∧ th2[h + 6]? = some 57 := by decide +kernel
theorem z_os_n : ∀ h ∈ z_os, th2[h + 7]? = some 58 ∧ th2[h + 9]? = some 60 ∧ (∀ i, i < 8 → th2[h + 10 + i]? = some 59) ∧ ∀ i, i < 4 → th2[h + 22 + i]? = some 61 := by decide +kernel
theorem th2_n : th2[39]? = some 11 ∧ th2[41]? = some 13 ∧ (∀ i, i < 8 → th2[42 + i]? = some 8) ∧ (∀ i, i < 4 → th2[54 + i]? = some 4) ∧ th2[77]? = some 8 := by decide +kernel
theorem th2_t : th2[0]? = some 9 ∧ th2[58]? = some 29 ∧ th2[69]? = some 30 ∧ th2[32]? = some 0 ∧ th2[33]? = some 1 ∧ th2[34]? = some 14 ∧ th2[35]? = some 15 ∧ th2[36]? = some 16 ∧ th2[37]? = some 17 ∧ th2[38]? = some 18 ∧ th2[3]? = some 2 ∧ th2[1]? = some 7 := by decide +kernel
set_option maxRecDepth 100000 in
/-- where a cell is typed otherwise -/
theorem th2_c : ∀ k, k < 366 → (th2[k]? = th0[k]? ∧ (th0[k]? = some 0 → k = 32) ∧ (th0[k]? = some 1 → k = 33) ∧ (th0[k]? = some 9 → k = 0) ∧ (th0[k]? = some 29 → k = 58) ∧ (th0[k]? = some 30 → k = 69) ∧ (th0[k]? = some 11 → k = 39) ∧ (th0[k]? = some 13 → k = 41)) ∨ z_os.any (fun h => decide (h ≤ k) && (decide (k ≤ h + 7) || k == h + 9 || (decide (h + 10 ≤ k) && decide (k ≤ h + 17)) || (decide (h + 22 ≤ k) && decide (k ≤ h + 25)))) = true := by decide +kernel
set_option maxRecDepth 100000 in
theorem th2_s : ∀ k, k < 366 → ∀ t, t < 51 → th0[k]? = some t → x_kbad (t + 10) = false → th2[k]? = some t := by decide +kernel
set_option maxRecDepth 100000 in
theorem th0_51 : ∀ k, k < 366 → ∀ t ∈ th0[k]?, t < 51 := by decide +kernel
theorem xf_tr {f : xF} {v : Value} (h : xf_ok th0 f v) (hb : x_kbad f.1 = false) : xf_ok th2 f v := by
  unfold xf_ok at h ⊢
  split at h
  · exact h
  · exact h
  · exact h
  · exact h
  · rename_i t e
    obtain ⟨a, h1, h2⟩ := h
    have ha := (List.getElem?_eq_some_iff.mp h2).1
    rw [th2_len.2] at ha
    exact ⟨a, h1, th2_s a ha t (th0_51 a ha t h2) h2 (by have z := hb; rw [e] at z; exact z)⟩
  · exact h.elim
theorem x_shape_c {t t' : xT} {e : pE} (h1 : t.1 = t'.1) (h2 : t.2.1 = t'.2.1) (h3 : t.2.2.1 = t'.2.2.1) (h : x_shape t e) : x_shape t' e := by
  unfold x_shape at h ⊢
  rw [← h1, ← h2, ← h3]
  exact h
/-- a cell, its slots in order -/
theorem x_re {G : List pE} {k t0 t2 n : Nat} (hI : xI x_tb th0 G) (h0 : th0[k]? = some t0) (hsh : (x_tb t0).1 = (x_tbo t2).1 ∧ (x_tb t0).2.1 = (x_tbo t2).2.1 ∧ (x_tb t0).2.2.1 = (x_tbo t2).2.2.1) (hn : ((x_tbo t2).2.2.2.map (fun q => q.1)).sum ≤ n) (good : Nat → Bool) (hg : ∀ i, i < n → good i = true → x_at (x_tbo t2).2.2.2 i = x_at (x_tb t0).2.2.2 i ∧ ∀ f ∈ x_at (x_tb t0).2.2.2 i, x_kbad f.1 = false) (hb : ∀ i, i < n → good i = false → ∃ a u : Nat, x_sl G k i = some (.ref a) ∧ th2[a]? = some u ∧ x_at (x_tbo t2).2.2.2 i = some (u + 10, 0, 0)) : (∃ e, G[k]? = some e ∧ x_shape (x_tbo t2) e) ∧ ∀ i f, x_at (x_tbo t2).2.2.2 i = some f → ∃ v, x_sl G k i = some v ∧ xf_ok th2 f v := by
  obtain ⟨⟨e, he, hs⟩, hr⟩ := hI.2.2 k t0 h0
  refine ⟨⟨e, he, x_shape_c hsh.1 hsh.2.1 hsh.2.2 hs⟩, fun i f hf => ?_⟩
  have hi : i < n := by
    rcases Nat.lt_or_ge i n with z | z
    · exact z
    · rw [y_at_none _ i (Nat.le_trans hn z)] at hf
      cases hf
  cases hgi : good i with
  | true =>
    obtain ⟨e1, e2⟩ := hg i hi hgi
    rw [e1] at hf
    obtain ⟨v, v1, v2⟩ := hr i f hf
    exact ⟨v, v1, xf_tr v2 (e2 f hf)⟩
  | false =>
    obtain ⟨a, u, a1, a2, a3⟩ := hb i hi hgi
    rw [hf] at a3
    cases a3
    exact ⟨_, a1, a, rfl, a2⟩
theorem x_re_rows : ∀ t, t < 51 → t ≠ 0 → t ≠ 1 → t ≠ 9 → t ≠ 29 → t ≠ 30 → t ≠ 11 → t ≠ 13 → x_tbo t = x_tb t ∧ (x_tb t).2.2.2.all (fun q => !x_kbad q.2.1) = true
  | 0, _, h0, h1, h9, h29, h30, h11, h13 => absurd rfl h0
  | 1, _, h0, h1, h9, h29, h30, h11, h13 => absurd rfl h1
  | 2, _, _, _, _, _, _, _, _ => ⟨rfl, rfl⟩
  | 3, _, _, _, _, _, _, _, _ => ⟨rfl, rfl⟩
  | 4, _, _, _, _, _, _, _, _ => ⟨rfl, rfl⟩
  | 5, _, _, _, _, _, _, _, _ => ⟨rfl, rfl⟩
  | 6, _, _, _, _, _, _, _, _ => ⟨rfl, rfl⟩
  | 7, _, _, _, _, _, _, _, _ => ⟨rfl, rfl⟩
  | 8, _, _, _, _, _, _, _, _ => ⟨rfl, rfl⟩
  | 9, _, h0, h1, h9, h29, h30, h11, h13 => absurd rfl h9
  | 10, _, _, _, _, _, _, _, _ => ⟨rfl, rfl⟩
  | 11, _, h0, h1, h9, h29, h30, h11, h13 => absurd rfl h11
  | 12, _, _, _, _, _, _, _, _ => ⟨rfl, rfl⟩
  | 13, _, h0, h1, h9, h29, h30, h11, h13 => absurd rfl h13
  | 14, _, _, _, _, _, _, _, _ => ⟨rfl, rfl⟩
  | 15, _, _, _, _, _, _, _, _ => ⟨rfl, rfl⟩
  | 16, _, _, _, _, _, _, _, _ => ⟨rfl, rfl⟩
  | 17, _, _, _, _, _, _, _, _ => ⟨rfl, rfl⟩
  | 18, _, _, _, _, _, _, _, _ => ⟨rfl, rfl⟩
  | 19, _, _, _, _, _, _, _, _ => ⟨rfl, rfl⟩
  | 20, _, _, _, _, _, _, _, _ => ⟨rfl, rfl⟩
  | 21, _, _, _, _, _, _, _, _ => ⟨rfl, rfl⟩
  | 22, _, _, _, _, _, _, _, _ => ⟨rfl, rfl⟩
  | 23, _, _, _, _, _, _, _, _ => ⟨rfl, rfl⟩
  | 24, _, _, _, _, _, _, _, _ => ⟨rfl, rfl⟩
  | 25, _, _, _, _, _, _, _, _ => ⟨rfl, rfl⟩
  | 26, _, _, _, _, _, _, _, _ => ⟨rfl, rfl⟩
  | 27, _, _, _, _, _, _, _, _ => ⟨rfl, rfl⟩
  | 28, _, _, _, _, _, _, _, _ => ⟨rfl, rfl⟩
  | 29, _, h0, h1, h9, h29, h30, h11, h13 => absurd rfl h29
  | 30, _, h0, h1, h9, h29, h30, h11, h13 => absurd rfl h30
  | 31, _, _, _, _, _, _, _, _ => ⟨rfl, rfl⟩
  | 32, _, _, _, _, _, _, _, _ => ⟨rfl, rfl⟩
  | 33, _, _, _, _, _, _, _, _ => ⟨rfl, rfl⟩
  | 34, _, _, _, _, _, _, _, _ => ⟨rfl, rfl⟩
  | 35, _, _, _, _, _, _, _, _ => ⟨rfl, rfl⟩
  | 36, _, _, _, _, _, _, _, _ => ⟨rfl, rfl⟩
  | 37, _, _, _, _, _, _, _, _ => ⟨rfl, rfl⟩
  | 38, _, _, _, _, _, _, _, _ => ⟨rfl, rfl⟩
  | 39, _, _, _, _, _, _, _, _ => ⟨rfl, rfl⟩
  | 40, _, _, _, _, _, _, _, _ => ⟨rfl, rfl⟩
  | 41, _, _, _, _, _, _, _, _ => ⟨rfl, rfl⟩
  | 42, _, _, _, _, _, _, _, _ => ⟨rfl, rfl⟩
  | 43, _, _, _, _, _, _, _, _ => ⟨rfl, rfl⟩
  | 44, _, _, _, _, _, _, _, _ => ⟨rfl, rfl⟩
  | 45, _, _, _, _, _, _, _, _ => ⟨rfl, rfl⟩
  | 46, _, _, _, _, _, _, _, _ => ⟨rfl, rfl⟩
  | 47, _, _, _, _, _, _, _, _ => ⟨rfl, rfl⟩
  | 48, _, _, _, _, _, _, _, _ => ⟨rfl, rfl⟩
  | 49, _, _, _, _, _, _, _, _ => ⟨rfl, rfl⟩
  | 50, _, _, _, _, _, _, _, _ => ⟨rfl, rfl⟩
  | n + 51, h, _, _, _, _, _, _, _ => absurd h (by omega)
theorem x_at_all {p : xF → Bool} : ∀ (r : List (Nat × xF)) (i : Nat) (f : xF), r.all (fun q => p q.2) = true → x_at r i = some f → p f = true
  | [], i, f, _, h => by cases h
  | q :: r, i, f, h, hf => by
    rw [List.all_cons, Bool.and_eq_true] at h
    unfold x_at at hf
    split at hf
    · cases hf
      exact h.1
    · exact x_at_all r _ f h.2 hf
theorem z_ps_o : ∀ p ∈ z_ps, p ∈ z_os := by decide
set_option maxHeartbeats 4000000 in
/-- the second typing -/
theorem xI2 {G : List pE} (hI : xI x_tb th0 G) (hp : ZP G) (hk8 : ∀ k, k < 8 → ∃ p ∈ z_ps, x_sl G 58 k = some (.ref p)) : xI x_tbo th2 G := by
  refine ⟨by rw [hI.1, th2_len.2, th2_len.1], by rw [th2_len.1]; decide, fun k t hk => ?_⟩
  have hkl := (List.getElem?_eq_some_iff.mp hk).1
  rw [th2_len.1] at hkl
  have bad3 : ∀ {P : Nat → Prop} (l : List Nat), (∀ j ∈ l, P j) → ∀ i, (l.all (fun j => !(i == j))) = false → P i := fun {P} l hl i hi => by
    rw [List.all_eq_false] at hi
    obtain ⟨j, hj, hij⟩ := hi
    simp only [Bool.not_eq_true', Bool.not_eq_false', beq_iff_eq, Bool.not_eq_true, Bool.not_eq_false] at hij
    rw [hij]
    exact hl j hj
  have hpn := hp.2.2.2.2.2.2.2.1 32 (by decide)
  rcases th2_c k hkl with ⟨e, c0, c1, c9, c29, c30, c11, c13⟩ | hany
  · rw [e] at hk
    have t51 := th0_51 k hkl t hk
    by_cases z0 : t = 0
    · subst z0
      obtain rfl := c0 hk
      refine x_re hI hk ⟨rfl, rfl, rfl⟩ (n := 8) (by decide) (fun i => [0, 1, 3].all (fun j => !(i == j))) (by decide) (fun i _ hi => bad3 (P := fun i => ∃ a u : Nat, x_sl G 32 i = some (.ref a) ∧ th2[a]? = some u ∧ x_at (x_tbo 0).2.2.2 i = some (u + 10, 0, 0)) [0, 1, 3] ?_ i hi)
      intro j hj
      simp only [List.mem_cons, List.not_mem_nil, or_false] at hj
      rcases hj with rfl | rfl | rfl
      · exact ⟨33, 1, (hp.1 32 (by decide)).1, th2_t.2.2.2.2.1, rfl⟩
      · exact ⟨39, 11, hpn.1, th2_n.1, rfl⟩
      · exact ⟨41, 13, hpn.2.2.1, th2_n.2.1, rfl⟩
    by_cases z1 : t = 1
    · subst z1
      obtain rfl := c1 hk
      obtain ⟨-, b1, b2, b3, b4, b5⟩ := hp.1 32 (by decide)
      refine x_re hI hk ⟨rfl, rfl, rfl⟩ (n := 9) (by decide) (fun i => [0, 1, 6, 7, 8].all (fun j => !(i == j))) (by decide) (fun i _ hi => bad3 (P := fun i => ∃ a u : Nat, x_sl G 33 i = some (.ref a) ∧ th2[a]? = some u ∧ x_at (x_tbo 1).2.2.2 i = some (u + 10, 0, 0)) [0, 1, 6, 7, 8] ?_ i hi)
      intro j hj
      simp only [List.mem_cons, List.not_mem_nil, or_false] at hj
      rcases hj with rfl | rfl | rfl | rfl | rfl
      · exact ⟨34, 14, b1, th2_t.2.2.2.2.2.1, rfl⟩
      · exact ⟨35, 15, b2, th2_t.2.2.2.2.2.2.1, rfl⟩
      · exact ⟨36, 16, b3, th2_t.2.2.2.2.2.2.2.1, rfl⟩
      · exact ⟨37, 17, b4, th2_t.2.2.2.2.2.2.2.2.1, rfl⟩
      · exact ⟨38, 18, b5, th2_t.2.2.2.2.2.2.2.2.2.1, rfl⟩
    by_cases z9 : t = 9
    · subst z9
      obtain rfl := c9 hk
      refine x_re hI hk ⟨rfl, rfl, rfl⟩ (n := 18) (by decide) (fun i => [2, 3, 14].all (fun j => !(i == j))) (by decide) (fun i _ hi => bad3 (P := fun i => ∃ a u : Nat, x_sl G 0 i = some (.ref a) ∧ th2[a]? = some u ∧ x_at (x_tbo 9).2.2.2 i = some (u + 10, 0, 0)) [2, 3, 14] ?_ i hi)
      intro j hj
      simp only [List.mem_cons, List.not_mem_nil, or_false] at hj
      rcases hj with rfl | rfl | rfl
      · exact ⟨6, 51, hp.2.1, (z_os_t 6 (by decide)).1, rfl⟩
      · exact ⟨32, 0, hp.2.2.1, th2_t.2.2.2.1, rfl⟩
      · exact ⟨77, 8, hp.2.2.2.2.2.2.2.2, th2_n.2.2.2.2, rfl⟩
    by_cases z29 : t = 29
    · subst z29
      obtain rfl := c29 hk
      refine x_re hI hk ⟨rfl, rfl, rfl⟩ (n := 8) (by decide) (fun _ => false) (fun _ _ z => by cases z) (fun i hi _ => ?_)
      obtain ⟨p, pp, ep⟩ := hk8 i hi
      exact ⟨p, 51, ep, (z_os_t p (z_ps_o p pp)).1, by rw [show (x_tbo 29).2.2.2 = [(8, ((61 : Nat), (0 : Int), (0 : Int)))] from rfl]; exact y_one hi⟩
    by_cases z30 : t = 30
    · subst z30
      obtain rfl := c30 hk
      refine x_re hI hk ⟨rfl, rfl, rfl⟩ (n := 2) (by decide) (fun _ => false) (fun _ _ z => by cases z) (fun i hi _ => ?_)
      rcases (show i = 0 ∨ i = 1 by omega) with rfl | rfl
      · exact ⟨287, 51, hp.2.2.2.2.2.1, (z_os_t 287 (by decide)).1, rfl⟩
      · exact ⟨318, 51, hp.2.2.2.2.2.2.1, (z_os_t 318 (by decide)).1, rfl⟩
    by_cases z11 : t = 11
    · subst z11
      obtain rfl := c11 hk
      refine x_re hI hk ⟨rfl, rfl, rfl⟩ (n := 8) (by decide) (fun _ => false) (fun _ _ z => by cases z) (fun i hi _ => ?_)
      exact ⟨42 + i, 8, hpn.2.2.2.1 i hi, th2_n.2.2.1 i hi, by rw [show (x_tbo 11).2.2.2 = [(8, ((18 : Nat), (0 : Int), (0 : Int)))] from rfl]; exact y_one hi⟩
    by_cases z13 : t = 13
    · subst z13
      obtain rfl := c13 hk
      refine x_re hI hk ⟨rfl, rfl, rfl⟩ (n := 4) (by decide) (fun _ => false) (fun _ _ z => by cases z) (fun i hi _ => ?_)
      exact ⟨54 + i, 4, hpn.2.2.2.2.2 i hi, th2_n.2.2.2.1 i hi, by rw [show (x_tbo 13).2.2.2 = [(4, ((14 : Nat), (0 : Int), (0 : Int)))] from rfl]; exact y_one hi⟩
    obtain ⟨r1, r2⟩ := x_re_rows t t51 z0 z1 z9 z29 z30 z11 z13
    obtain ⟨hs, hr⟩ := hI.2.2 k t hk
    rw [r1]
    refine ⟨hs, fun i f hf => ?_⟩
    obtain ⟨v, v1, v2⟩ := hr i f hf
    refine ⟨v, v1, xf_tr v2 ?_⟩
    have := x_at_all (p := fun f => !x_kbad f.1) _ i f r2 hf
    simpa using this
  · obtain ⟨h, hh, hr⟩ := List.any_eq_true.mp hany
    simp only [Bool.and_eq_true, Bool.or_eq_true, decide_eq_true_eq, beq_iff_eq] at hr
    obtain ⟨on7, on9, onT, onM⟩ := z_os_n h hh
    obtain ⟨an7, -, an9, anT, -, anM⟩ := z_hsN h (z_os_h h hh).1
    obtain ⟨bn1, -, bn3, bnT, -, bnM⟩ := hp.2.2.2.2.2.2.2.1 h (z_os_h h hh).1
    by_cases w7 : k = h + 7
    · subst w7
      rw [on7] at hk
      cases hk
      refine x_re hI an7 ⟨rfl, rfl, rfl⟩ (n := 8) (by decide) (fun _ => false) (fun _ _ z => by cases z) (fun i hi _ => ?_)
      exact ⟨h + 10 + i, 59, bnT i hi, onT i hi, by rw [show (x_tbo 58).2.2.2 = [(8, ((69 : Nat), (0 : Int), (0 : Int)))] from rfl]; exact y_one hi⟩
    by_cases w9 : k = h + 9
    · subst w9
      rw [on9] at hk
      cases hk
      refine x_re hI an9 ⟨rfl, rfl, rfl⟩ (n := 4) (by decide) (fun _ => false) (fun _ _ z => by cases z) (fun i hi _ => ?_)
      exact ⟨h + 22 + i, 61, bnM i hi, onM i hi, by rw [show (x_tbo 60).2.2.2 = [(4, ((71 : Nat), (0 : Int), (0 : Int)))] from rfl]; exact y_one hi⟩
    by_cases wT : h + 10 ≤ k ∧ k ≤ h + 17
    · obtain ⟨i, rfl⟩ : ∃ i, k = h + 10 + i := ⟨k - (h + 10), by omega⟩
      have hi : i < 8 := by omega
      rw [onT i hi] at hk
      cases hk
      exact x_re hI (anT i hi) ⟨rfl, rfl, rfl⟩ (n := 10) (by decide) (fun _ => true) (by decide) (fun _ _ z => by cases z)
    by_cases wM : h + 22 ≤ k
    · obtain ⟨i, rfl⟩ : ∃ i, k = h + 22 + i := ⟨k - (h + 22), by omega⟩
      have hi : i < 4 := by omega
      rw [onM i hi] at hk
      cases hk
      exact x_re hI (anM i hi) ⟨rfl, rfl, rfl⟩ (n := 4) (by decide) (fun _ => true) (by decide) (fun _ _ z => by cases z)
    obtain ⟨c, rfl⟩ : ∃ c, k = h + c := ⟨k - h, by omega⟩
    obtain ⟨o0, o1, o2, o3, o4, o5, o6⟩ := z_os_t h hh
    obtain ⟨a0, a1, a2, a3, a4, a5, a6⟩ := z_hsT h (z_os_h h hh).1
    obtain ⟨b0, b1, b2, b3, b4, b5⟩ := hp.1 h (z_os_h h hh).1
    rcases (show c = 0 ∨ c = 1 ∨ c = 2 ∨ c = 3 ∨ c = 4 ∨ c = 5 ∨ c = 6 by omega) with rfl | rfl | rfl | rfl | rfl | rfl | rfl
    · rw [Nat.add_zero, o0] at hk
      cases hk
      refine x_re hI a0 ⟨rfl, rfl, rfl⟩ (n := 8) (by decide) (fun i => [0, 1, 3].all (fun j => !(i == j))) (by decide) (fun i _ hi => bad3 (P := fun i => ∃ a u : Nat, x_sl G (h + 0) i = some (.ref a) ∧ th2[a]? = some u ∧ x_at (x_tbo 51).2.2.2 i = some (u + 10, 0, 0)) [0, 1, 3] ?_ i hi)
      intro j hj
      simp only [List.mem_cons, List.not_mem_nil, or_false] at hj
      rcases hj with rfl | rfl | rfl
      · exact ⟨h + 1, 52, b0, o1, rfl⟩
      · exact ⟨h + 7, 58, bn1, on7, rfl⟩
      · exact ⟨h + 9, 60, bn3, on9, rfl⟩
    · rw [o1] at hk
      cases hk
      refine x_re hI a1 ⟨rfl, rfl, rfl⟩ (n := 9) (by decide) (fun i => [0, 1, 6, 7, 8].all (fun j => !(i == j))) (by decide) (fun i _ hi => bad3 (P := fun i => ∃ a u : Nat, x_sl G (h + 1) i = some (.ref a) ∧ th2[a]? = some u ∧ x_at (x_tbo 52).2.2.2 i = some (u + 10, 0, 0)) [0, 1, 6, 7, 8] ?_ i hi)
      intro j hj
      simp only [List.mem_cons, List.not_mem_nil, or_false] at hj
      rcases hj with rfl | rfl | rfl | rfl | rfl
      · exact ⟨h + 2, 53, b1, o2, rfl⟩
      · exact ⟨h + 3, 54, b2, o3, rfl⟩
      · exact ⟨h + 4, 55, b3, o4, rfl⟩
      · exact ⟨h + 5, 56, b4, o5, rfl⟩
      · exact ⟨h + 6, 57, b5, o6, rfl⟩
    · rw [o2] at hk
      cases hk
      exact x_re hI a2 ⟨rfl, rfl, rfl⟩ (n := 2) (by decide) (fun _ => true) (by decide) (fun _ _ z => by cases z)
    · rw [o3] at hk
      cases hk
      exact x_re hI a3 ⟨rfl, rfl, rfl⟩ (n := 4) (by decide) (fun _ => true) (by decide) (fun _ _ z => by cases z)
    · rw [o4] at hk
      cases hk
      exact x_re hI a4 ⟨rfl, rfl, rfl⟩ (n := 4) (by decide) (fun _ => true) (by decide) (fun _ _ z => by cases z)
    · rw [o5] at hk
      cases hk
      exact x_re hI a5 ⟨rfl, rfl, rfl⟩ (n := 4) (by decide) (fun _ => true) (by decide) (fun _ _ z => by cases z)
    · rw [o6] at hk
      cases hk
      exact x_re hI a6 ⟨rfl, rfl, rfl⟩ (n := 4) (by decide) (fun _ => true) (by decide) (fun _ _ z => by cases z)

def z_nc (c : Nat) : Prop := c < 7 ∨ (10 ≤ c ∧ c < 18) ∨ (22 ≤ c ∧ c < 26)
theorem th2_ob : ∀ h ∈ z_os, ∀ c, c < 26 → (c < 7 ∨ (10 ≤ c ∧ c < 18) ∨ (22 ≤ c ∧ c < 26)) → (th2[h + c]?).any (fun t => decide (51 ≤ t)) = true := by decide +kernel
theorem th2_o : ∀ h ∈ z_os, ∀ c, z_nc c → ∃ t, th2[h + c]? = some t ∧ 51 ≤ t := fun h hh c hc => by
  have := th2_ob h hh c (by unfold z_nc at hc; omega) hc
  cases e : th2[h + c]? with
  | none => rw [e] at this; cases this
  | some t =>
    rw [e] at this
    exact ⟨t, rfl, of_decide_eq_true this⟩
/-- what a hill holds is told by those cells -/
theorem LV.fc {k : Nat} {w : Nat → Nat → Option Value} {G G' : List pE} (H : LV k w G) (F : ∀ c, z_nc c → ∀ i, x_sl G' (k + c) i = x_sl G (k + c) i) : LV k w G' := by
  refine ⟨fun c i hc => ?_, fun x hx i hi h8 => ?_, fun x hx i hi h4 => ?_⟩
  · have hcb : c < 7 := by
      unfold h_rel at hc
      simp at hc
      omega
    rw [F c (Or.inl hcb) i]
    exact H.1 c i hc
  · rw [Nat.add_assoc, F (10 + i) (Or.inr (Or.inl (by omega))), ← Nat.add_assoc]
    exact H.2.1 x hx i hi h8
  · rw [Nat.add_assoc, F (22 + i) (Or.inr (Or.inr (by omega))), ← Nat.add_assoc]
    exact H.2.2 x hx i hi h4
theorem z_hs_o : ∀ h ∈ z_hs, h ≠ 32 → h ∈ z_os := by decide
theorem y_out51 {E : List (Nat × Nat × Nat)} (h : E.all (fun q => decide (q.1 < 51)) = true) {t : Nat} (ht : 51 ≤ t) (i : Nat) : y_out E t i = true := by
  unfold y_out
  rw [List.all_eq_true] at h ⊢
  intro q hq
  have := of_decide_eq_true (h q hq)
  simp only [Bool.not_eq_true', Bool.and_eq_false_iff, beq_eq_false_iff_ne]
  exact Or.inl (Or.inl (by omega))
set_option maxHeartbeats 2000000 in
/-- reading a LAND leaves the other hills -/
theorem zr_land {xs : Nat → Int32} {L J d : Nat} {G : List pE} (hd : 86 ≤ d) (hI : xI x_tb th0 G) (hp : ZP G) (hk8 : ∀ k, k < 8 → ∃ p ∈ z_ps, x_sl G 58 k = some (.ref p)) : x_Gd xs L J d m_17 (fun r G' => ∀ h ∈ z_hs, h ≠ 32 → ∀ c, z_nc c → ∀ i, x_sl G' (h + c) i = x_sl G (h + c) i) 0 (lv_args 0 [.ref 3, .ref 1, .ref 32]) [] G := by
  have hI2 := xI2 hI hp hk8
  refine ((ho_85 th2 xs L J).gd (G := G) (d := d) m_17_ok hd (v := y_v [((3 : Nat) : Int), ((1 : Nat) : Int), ((32 : Nat) : Int)]) (as := [.ref 3, .ref 1, .ref 32]) (y_v_Bd (List.forall_mem_cons.mpr ⟨(y_cellB hI th0_p.2.2.1), (List.forall_mem_cons.mpr ⟨(y_cellB hI th0_p.1), (List.forall_mem_cons.mpr ⟨(y_cellB hI th0_p.2.2.2.2.2.1), (fun _ h => absurd h List.not_mem_nil)⟩)⟩)⟩)) (fun _ h => absurd h List.not_mem_nil) ⟨⟨3, rfl, (by simp only [xl_ev, xt_ev, y_v, List.getD_cons_succ, List.getD_cons_zero]; omega), th2_t.2.2.2.2.2.2.2.2.2.2.1⟩, ⟨1, rfl, (by simp only [xl_ev, xt_ev, y_v, List.getD_cons_succ, List.getD_cons_zero]; omega), th2_t.2.2.2.2.2.2.2.2.2.2.2⟩, ⟨32, rfl, (by simp only [xl_ev, xt_ev, y_v, List.getD_cons_succ, List.getD_cons_zero]; omega), th2_t.2.2.2.1⟩, trivial⟩ (fun q hq => absurd hq List.not_mem_nil) hI2 (fun z => by cases z)).mono (fun r G' h' => ?_)
  obtain ⟨v', -, -, -, ef, -⟩ := h'
  intro h hh hne c hc i
  obtain ⟨t, tc, t1⟩ := th2_o h (z_hs_o h hh hne) c hc
  exact ef.at tc (y_out51 (by decide +kernel) t1 i)
