section Z8
variable {xs : Nat → Int32} {L J d : Nat} {G : List pE} {w : Nat → Nat → Option Value} {wi : Nat → Nat → Nat → Option Value}
def sg_z127_ns : List xN := [(30, [(5, (0, ([(4, 1)], 0))), (4, (0, ([(5, 1)], 0))), (0, (19, ([(0, 1)], 0))), (1, (0, ([(1, 1)], 0))), (2, (0, ([(2, 1)], 0))), (3, (0, ([(3, 1)], 0)))], [(9, ([(0, 1)], 0), 2, (10, ([(6, 1)], 0)))], [([(2, -1)], 30), ([(2, 1)], -1), ([(1, 1)], 0), ([(1, -1)], 7), ([(4, 1)], 0), ([(4, -1)], 0), ([(5, 1)], 0), ([(5, -1)], 0), ([(4, -1), (5, 1)], 0), ([(1, 1), (4, -1)], 0), ([(2, 1), (4, -1)], -1), ([(2, 1), (4, -1)], 0), ([(4, 1), (5, -1)], 0), ([(1, 1), (5, -1)], 0), ([(2, 1), (5, -1)], -1), ([(2, 1), (5, -1)], 0), ([(4, -1)], 1), ([(4, -1)], 3), ([(4, -1)], 7), ([(4, -1)], 8), ([(4, -1)], 20), ([(4, -1)], 40), ([(4, -1)], 61), ([(4, -1)], 255), ([(4, -1)], 1000), ([(4, -1)], 1001), ([(5, -1)], 1), ([(5, -1)], 3), ([(5, -1)], 7), ([(5, -1)], 8), ([(5, -1)], 20), ([(5, -1)], 40), ([(5, -1)], 61), ([(5, -1)], 255), ([(5, -1)], 1000), ([(5, -1)], 1001), ([(1, -1)], 8), ([(1, -1)], 20), ([(1, -1)], 40), ([(1, -1)], 61), ([(1, -1)], 255), ([(1, -1)], 1000), ([(1, -1)], 1001), ([(2, 1)], 0), ([(2, -1)], 40), ([(2, -1)], 61), ([(2, -1)], 255), ([(2, -1)], 1000), ([(2, -1)], 1001)], 7, [([], 2), ([(4, -1)], 2147483647), ([], 5000000000), ([], 5000000000), ([], 5000000000)])]
def sg_z127_os : List xN := [(36, [(0, (19, ([(0, 1)], 0))), (1, (0, ([(1, 1)], 0))), (2, (0, ([(2, 1)], 0))), (3, (0, ([(3, 1)], 0))), (4, (0, ([(4, 1)], 0))), (5, (0, ([(5, 1)], 0)))], [], [([(1, 1)], 0), ([(1, -1)], 7), ([(2, 1), (5, -1)], -1), ([(2, -1)], 30), ([(5, 1)], 0)], 6, [([], 0), ([], 0), ([], 0), ([], 0), ([], 0)])]
def sg_z127_g : xG := ([], [(0, (19, ([(0, 1)], 0))), (1, (0, ([(1, 1)], 0))), (2, (0, ([(2, 1)], 0))), (3, (0, ([(3, 1)], 0)))], [], [], 4)
def sg_z127_ps : List xP := [(some (0, ([(4, 1)], 0)), [], [])]
set_option maxRecDepth 100000 in
set_option maxHeartbeats 4000000 in
theorem sg_z127_ok : x_seg x_tb [c_45] m_127 d_127 [] 4 sg_z127_ps sg_z127_ns sg_z127_os 25 false 0 sg_z127_g = true := by decide +kernel
set_option maxRecDepth 100000 in
theorem sg_z127_go {th : List Nat} {xs : Nat → Int32} {L J d : Nat} {K : Option Value → List pE → Prop} (hd : 46 ≤ d) {v : Nat → Int} {lv : pL} {ws : List Value} {G0 G : List pE} (hS : x_S x_tb th v sg_z127_g lv ws G) (hE : x_eff th [] G0 G) (hK : ∀ r G', x_Post x_tb th [] sg_z127_ps 4 v G0 r G' → K r G') (hO : ∀ n ∈ sg_z127_os, ∀ (vn : Nat → Int) (lv : pL) (G1 : List pE), x_ag 4 v vn → x_S x_tb th vn (n.2.2.2.1, n.2.1, [], n.2.2.1, n.2.2.2.2.1) lv [] G1 → x_eff th [] G0 G1 → x_Gd xs L J (d + 1) m_127 K n.1 lv [] G1) : x_Gd xs L J (d + 1) m_127 K 0 lv ws G :=
  x_seg_ok (dm := 46) x_tb_wf ⟨rfl, rfl, rfl⟩ e_127 (List.forall_mem_cons.mpr ⟨(h_45 th xs L J).mono (by omega), fun _ h => absurd h List.not_mem_nil⟩) hd sg_z127_ok hS hE (fun z => by cases z) hK hO
def sg_y127_ns : List xN := [(30, [(5, (0, ([(6, 1)], 0))), (0, (19, ([(0, 1)], 0))), (1, (0, ([(1, 1)], 0))), (2, (0, ([(2, 1)], 0))), (3, (0, ([(3, 1)], 0))), (4, (0, ([(7, 1)], 0)))], [(9, ([(0, 1)], 0), 3, (10, ([(8, 1)], 0))), (0, ([(8, 1)], 0), 1, (21, ([(9, 1)], 0)))], [([(1, 1)], 0), ([(1, -1)], 7), ([(2, 1), (5, -1)], -1), ([(2, -1)], 30), ([(5, 1)], 0), ([(5, -1), (6, 1)], -1), ([(5, 1), (6, -1)], 1), ([(2, 1), (6, -1)], 0), ([(6, 1)], -1), ([(6, 1)], 0), ([(6, -1)], 40), ([(6, -1)], 61), ([(6, -1)], 255), ([(6, -1)], 1000), ([(6, -1)], 1001), ([(1, -1)], 8), ([(1, -1)], 20), ([(1, -1)], 40), ([(1, -1)], 61), ([(1, -1)], 255), ([(1, -1)], 1000), ([(1, -1)], 1001), ([(2, 1)], -1), ([(2, 1)], 0), ([(2, -1)], 40), ([(2, -1)], 61), ([(2, -1)], 255), ([(2, -1)], 1000), ([(2, -1)], 1001)], 10, [([], 2), ([(6, -1)], 2147483647), ([], 5000000000), ([], 5000000000), ([], 5000000000)])]
def sg_y127_os : List xN := [(36, [(0, (19, ([(0, 1)], 0))), (1, (0, ([(1, 1)], 0))), (2, (0, ([(2, 1)], 0))), (3, (0, ([(3, 1)], 0))), (4, (0, ([(6, 1)], 0))), (5, (0, ([(7, 1)], 0)))], [], [([(5, -1), (7, 1)], -1), ([(2, 1), (7, -1)], -1), ([(7, 1)], 0)], 8, [([], 0), ([], 0), ([], 0), ([], 0), ([], 0)])]
def sg_y127_g : xG := ([([(1, 1)], 0), ([(1, -1)], 7), ([(2, 1), (5, -1)], -1), ([(2, -1)], 30), ([(5, 1)], 0)], [(0, (19, ([(0, 1)], 0))), (1, (0, ([(1, 1)], 0))), (2, (0, ([(2, 1)], 0))), (3, (0, ([(3, 1)], 0))), (4, (0, ([(4, 1)], 0))), (5, (0, ([(5, 1)], 0)))], [], [], 6)
def sg_y127_ps : List xP := [(some (0, ([(6, 1)], 0)), [], [])]
set_option maxRecDepth 100000 in
set_option maxHeartbeats 4000000 in
theorem sg_y127_ok : x_seg x_tb [c_28, c_63] m_127 d_127 [(0, 7, 7), (5, 3, 3), (8, 3, 9)] 6 sg_y127_ps sg_y127_ns sg_y127_os 28 false 47 sg_y127_g = true := by decide +kernel
set_option maxRecDepth 100000 in
theorem sg_y127_go {th : List Nat} {xs : Nat → Int32} {L J d : Nat} {K : Option Value → List pE → Prop} (hd : 64 ≤ d) {v : Nat → Int} {lv : pL} {ws : List Value} {G0 G : List pE} (hS : x_S x_tb th v sg_y127_g lv ws G) (hE : x_eff th [(0, 7, 7), (5, 3, 3), (8, 3, 9)] G0 G) (hK : ∀ r G', x_Post x_tb th [(0, 7, 7), (5, 3, 3), (8, 3, 9)] sg_y127_ps 6 v G0 r G' → K r G') (hO : ∀ n ∈ sg_y127_os, ∀ (vn : Nat → Int) (lv : pL) (G1 : List pE), x_ag 6 v vn → x_S x_tb th vn (n.2.2.2.1, n.2.1, [], n.2.2.1, n.2.2.2.2.1) lv [] G1 → x_eff th [(0, 7, 7), (5, 3, 3), (8, 3, 9)] G0 G1 → x_Gd xs L J (d + 1) m_127 K n.1 lv [] G1) : x_Gd xs L J (d + 1) m_127 K 47 lv ws G :=
  x_seg_ok (dm := 64) x_tb_wf ⟨rfl, rfl, rfl⟩ e_127 (List.forall_mem_cons.mpr ⟨(h_28 th xs L J).mono (by omega), List.forall_mem_cons.mpr ⟨(h_63 th xs L J).mono (by omega), fun _ h => absurd h List.not_mem_nil⟩⟩) hd sg_y127_ok hS hE (fun z => by cases z) hK hO
set_option maxHeartbeats 2000000 in
set_option maxRecDepth 100000 in
theorem zo_loop {K : Option Value → List pE → Prop} {pc : Int32} {x1 x2 x3 : Int32} (hd : 250 ≤ d) (q0 : 0 ≤ x1.toInt ∧ x1.toInt ≤ 7) (q1 : x2.toInt ≤ 30) (hK : ∀ r G', ZX w wi G' → K r G') : ∀ (m : Nat) (G1 : List pE) (lv1 : pL) (x4 x5 : Int32), (x2.toInt - x5.toInt).toNat ≤ m → 0 ≤ x5.toInt → x5.toInt < x2.toInt → ZL w wi pc G1 → xI x_tb th0 G1 → pm_get lv1 0 = some (.ref 0) → pm_get lv1 1 = some (.int x1) → pm_get lv1 2 = some (.int x2) → pm_get lv1 3 = some (.int x3) → pm_get lv1 4 = some (.int x4) → pm_get lv1 5 = some (.int x5) → x_Gd xs L J (d + 60) m_127 K 36 lv1 [] G1 := by
  intro m
  induction m with
  | zero =>
    intro G1 lv1 x4 x5 hm h0 hl
    omega
  | succ m ih =>
    intro G1 lv1 x4 x5 hm h0 hl H1 hI1 g0 g1 g2 g3 g4 g5
    refine y_aln (e_127 (36, .aload_n 0, 1) (List.mem_of_getElem? (i := 20) rfl)) g0 ?_
    refine y_getf hI1 z_ty.1 (e_127 (37, .getfield 30, 3) (List.mem_of_getElem? (i := 21) rfl)) u_0_30 ⟨rfl, rfl⟩ H1.1.2.2.1 ?_
    refine y_aln (e_127 (40, .aload_n 0, 1) (List.mem_of_getElem? (i := 22) rfl)) g0 ?_
    refine y_getf hI1 z_ty.1 (e_127 (41, .getfield 26, 3) (List.mem_of_getElem? (i := 23) rfl)) u_0_26 ⟨rfl, rfl⟩ H1.1.2.1 ?_
    refine y_c2 (K' := _) (e_127 (44, .invokevirtual 117, 3) (List.mem_of_getElem? (i := 24) rfl)) ⟨rfl, rfl, rfl⟩ t_0_117 ⟨by decide, by decide, by decide, by decide⟩ m_47_ok rfl (by decide) (y_recv hI1 (z_tp 32 (by decide)) ⟨rfl, rfl⟩) (Nat.le_of_ble_eq_true rfl) (Nat.le_of_ble_eq_true rfl) (k_copy2 (by omega) H1.1 hI1 (by decide) (by decide) (by decide)) (fun r1 G2 h1 => ?_)
    obtain ⟨rfl, C, ef2⟩ := h1
    simp only [Option.toList_some, Option.toList_none, List.cons_append, List.nil_append]
    obtain ⟨H2, hw2⟩ := H1.copy (by decide) (by decide) (by decide) (by decide) H1.2.1 C ef2
    refine sg_y127_go (th := th0) (d := d + 59) (by omega) (v := (y_v [((0 : Nat) : Int), (x1).toInt, (x2).toInt, (x3).toInt, (x4).toInt, (x5).toInt])) (G0 := G2) (G := G2) ⟨y_v_Bd (List.forall_mem_cons.mpr ⟨(y_cellB C.1 z_ty.1), (List.forall_mem_cons.mpr ⟨(x_i32 x1), (List.forall_mem_cons.mpr ⟨(x_i32 x2), (List.forall_mem_cons.mpr ⟨(x_i32 x3), (List.forall_mem_cons.mpr ⟨(x_i32 x4), (List.forall_mem_cons.mpr ⟨(x_i32 x5), (fun _ h => absurd h List.not_mem_nil)⟩)⟩)⟩)⟩)⟩)⟩), (List.forall_mem_cons.mpr ⟨(by simp only [xl_ev, xt_ev, y_v, List.getD_cons_succ, List.getD_cons_zero]; omega), (List.forall_mem_cons.mpr ⟨(by simp only [xl_ev, xt_ev, y_v, List.getD_cons_succ, List.getD_cons_zero]; omega), (List.forall_mem_cons.mpr ⟨(by simp only [xl_ev, xt_ev, y_v, List.getD_cons_succ, List.getD_cons_zero]; omega), (List.forall_mem_cons.mpr ⟨(by simp only [xl_ev, xt_ev, y_v, List.getD_cons_succ, List.getD_cons_zero]; omega), (List.forall_mem_cons.mpr ⟨(by simp only [xl_ev, xt_ev, y_v, List.getD_cons_succ, List.getD_cons_zero]; omega), (fun _ h => absurd h List.not_mem_nil)⟩)⟩)⟩)⟩)⟩), (List.forall_mem_cons.mpr ⟨⟨_, g0, 0, rfl, (by simp only [xl_ev, xt_ev, y_v, List.getD_cons_succ, List.getD_cons_zero]; omega), z_ty.1⟩, (List.forall_mem_cons.mpr ⟨⟨_, g1, x1, rfl, (by simp only [xl_ev, xt_ev, y_v, List.getD_cons_succ, List.getD_cons_zero]; omega)⟩, (List.forall_mem_cons.mpr ⟨⟨_, g2, x2, rfl, (by simp only [xl_ev, xt_ev, y_v, List.getD_cons_succ, List.getD_cons_zero]; omega)⟩, (List.forall_mem_cons.mpr ⟨⟨_, g3, x3, rfl, (by simp only [xl_ev, xt_ev, y_v, List.getD_cons_succ, List.getD_cons_zero]; omega)⟩, (List.forall_mem_cons.mpr ⟨⟨_, g4, x4, rfl, (by simp only [xl_ev, xt_ev, y_v, List.getD_cons_succ, List.getD_cons_zero]; omega)⟩, (List.forall_mem_cons.mpr ⟨⟨_, g5, x5, rfl, (by simp only [xl_ev, xt_ev, y_v, List.getD_cons_succ, List.getD_cons_zero]; omega)⟩, (fun _ h => absurd h List.not_mem_nil)⟩)⟩)⟩)⟩)⟩)⟩), trivial, (fun _ h => absurd h List.not_mem_nil), C.1⟩ x_eff.rf (fun r G' hp => ?_) (fun n hn vn lv2 G3 hag hS3 hE3 => ?_)
    · obtain ⟨v', -, -, -, ef3, -⟩ := hp
      exact hK _ _ ⟨pc, H2.eff ef3 (by decide)⟩
    obtain rfl : n = _ := List.mem_singleton.mp hn
    have z0 : vn 0 = ((0 : Nat) : Int) := hag 0 (by decide)
    have z1 : vn 1 = x1.toInt := hag 1 (by decide)
    have z2 : vn 2 = x2.toInt := hag 2 (by decide)
    have z3 : vn 3 = x3.toInt := hag 3 (by decide)
    have z4 : vn 4 = x4.toInt := hag 4 (by decide)
    have z5 : vn 5 = x5.toInt := hag 5 (by decide)
    have a0 := hS3.loCe (i := 0) (t := 9) (l := ([(0, 1)], 0)) (a := 0) (List.mem_of_getElem? (i := 0) rfl) (by simp only [xl_ev, xt_ev]; omega)
    have a1 := hS3.lo0e (i := 1) (l := ([(1, 1)], 0)) (x := x1) (List.mem_of_getElem? (i := 1) rfl) (by simp only [xl_ev, xt_ev]; omega)
    have a2 := hS3.lo0e (i := 2) (l := ([(2, 1)], 0)) (x := x2) (List.mem_of_getElem? (i := 2) rfl) (by simp only [xl_ev, xt_ev]; omega)
    have a3 := hS3.lo0e (i := 3) (l := ([(3, 1)], 0)) (x := x3) (List.mem_of_getElem? (i := 3) rfl) (by simp only [xl_ev, xt_ev]; omega)
    obtain ⟨y4, a4, e4⟩ := hS3.lo0 (i := 4) (l := ([(6, 1)], 0)) (List.mem_of_getElem? (i := 4) rfl)
    obtain ⟨y5, a5, e5⟩ := hS3.lo0 (i := 5) (l := ([(7, 1)], 0)) (List.mem_of_getElem? (i := 5) rfl)
    have b0 := hS3.2.1 ([(5, -1), (7, 1)], -1) (List.mem_of_getElem? (i := 0) rfl)
    have b1 := hS3.2.1 ([(2, 1), (7, -1)], -1) (List.mem_of_getElem? (i := 1) rfl)
    have b2 := hS3.2.1 ([(7, 1)], 0) (List.mem_of_getElem? (i := 2) rfl)
    simp only [xl_ev, xt_ev] at b0 b1 b2 e4 e5
    exact ih G3 lv2 y4 y5 (by omega) (by omega) (by omega) (H2.eff hE3 (by decide)) hS3.2.2.2.2.2 a0 a1 a2 a3 a4 a5
set_option maxHeartbeats 2000000 in
set_option maxRecDepth 100000 in
theorem zb_odds (hd : 318 ≤ d) (H : ZX w wi G) (hI : xI x_tb th0 G) (x1 x2 x3 : Int32) : x_Gd xs L J d m_127 (fun r G' => ZX w wi G') 0 (lv_args 0 [.ref 0, .int x1, .int x2, .int x3]) [] G := by
  obtain ⟨pc, H⟩ := H
  obtain ⟨d, rfl⟩ : ∃ k, d = k + 60 := ⟨d - 60, by omega⟩
  refine sg_z127_go (th := th0) (d := d + 59) (by omega) (v := (y_v [((0 : Nat) : Int), (x1).toInt, (x2).toInt, (x3).toInt])) (G0 := G) (G := G) ⟨y_v_Bd (List.forall_mem_cons.mpr ⟨(y_cellB hI z_ty.1), (List.forall_mem_cons.mpr ⟨(x_i32 x1), (List.forall_mem_cons.mpr ⟨(x_i32 x2), (List.forall_mem_cons.mpr ⟨(x_i32 x3), (fun _ h => absurd h List.not_mem_nil)⟩)⟩)⟩)⟩), (fun _ h => absurd h List.not_mem_nil), (List.forall_mem_cons.mpr ⟨⟨_, rfl, 0, rfl, (by simp only [xl_ev, xt_ev, y_v, List.getD_cons_succ, List.getD_cons_zero]; omega), z_ty.1⟩, (List.forall_mem_cons.mpr ⟨⟨_, rfl, x1, rfl, (by simp only [xl_ev, xt_ev, y_v, List.getD_cons_succ, List.getD_cons_zero]; omega)⟩, (List.forall_mem_cons.mpr ⟨⟨_, rfl, x2, rfl, (by simp only [xl_ev, xt_ev, y_v, List.getD_cons_succ, List.getD_cons_zero]; omega)⟩, (List.forall_mem_cons.mpr ⟨⟨_, rfl, x3, rfl, (by simp only [xl_ev, xt_ev, y_v, List.getD_cons_succ, List.getD_cons_zero]; omega)⟩, (fun _ h => absurd h List.not_mem_nil)⟩)⟩)⟩)⟩), trivial, (fun _ h => absurd h List.not_mem_nil), hI⟩ x_eff.rf (fun r G' hp => ?_) (fun n hn vn lv1 G1 hag hS1 hE1 => ?_)
  · obtain ⟨v', -, -, -, ef, -⟩ := hp
    exact ⟨pc, H.eff ef (by decide)⟩
  obtain rfl : n = _ := List.mem_singleton.mp hn
  have z0 : vn 0 = ((0 : Nat) : Int) := hag 0 (by decide)
  have z1 : vn 1 = x1.toInt := hag 1 (by decide)
  have z2 : vn 2 = x2.toInt := hag 2 (by decide)
  have z3 : vn 3 = x3.toInt := hag 3 (by decide)
  have a0 := hS1.loCe (i := 0) (t := 9) (l := ([(0, 1)], 0)) (a := 0) (List.mem_of_getElem? (i := 0) rfl) (by simp only [xl_ev, xt_ev]; omega)
  have a1 := hS1.lo0e (i := 1) (l := ([(1, 1)], 0)) (x := x1) (List.mem_of_getElem? (i := 1) rfl) (by simp only [xl_ev, xt_ev]; omega)
  have a2 := hS1.lo0e (i := 2) (l := ([(2, 1)], 0)) (x := x2) (List.mem_of_getElem? (i := 2) rfl) (by simp only [xl_ev, xt_ev]; omega)
  have a3 := hS1.lo0e (i := 3) (l := ([(3, 1)], 0)) (x := x3) (List.mem_of_getElem? (i := 3) rfl) (by simp only [xl_ev, xt_ev]; omega)
  obtain ⟨y4, a4, e4⟩ := hS1.lo0 (i := 4) (l := ([(4, 1)], 0)) (List.mem_of_getElem? (i := 4) rfl)
  obtain ⟨y5, a5, e5⟩ := hS1.lo0 (i := 5) (l := ([(5, 1)], 0)) (List.mem_of_getElem? (i := 5) rfl)
  have b0 := hS1.2.1 ([(1, 1)], 0) (List.mem_of_getElem? (i := 0) rfl)
  have b1 := hS1.2.1 ([(1, -1)], 7) (List.mem_of_getElem? (i := 1) rfl)
  have b2 := hS1.2.1 ([(2, 1), (5, -1)], -1) (List.mem_of_getElem? (i := 2) rfl)
  have b3 := hS1.2.1 ([(2, -1)], 30) (List.mem_of_getElem? (i := 3) rfl)
  have b4 := hS1.2.1 ([(5, 1)], 0) (List.mem_of_getElem? (i := 4) rfl)
  simp only [xl_ev, xt_ev] at b0 b1 b2 b3 b4 e4 e5
  exact zo_loop (pc := pc) (by omega) ⟨by omega, by omega⟩ (by omega) (fun _ _ z => z) _ G1 lv1 y4 y5 (Nat.le_refl _) (by omega) (by omega) (H.eff hE1 (by decide)) hS1.2.2.2.2.2 a0 a1 a2 a3 a4 a5
set_option maxHeartbeats 2000000 in
set_option maxRecDepth 100000 in
theorem zb_undo (hd : 318 ≤ d) (H : ZX w wi G) (hI : xI x_tb th0 G)  : x_Gd xs L J d m_103 (fun r G' => ZX w wi G') 0 (lv_args 0 [.ref 0]) [] G := by
  obtain ⟨pc, H⟩ := H
  obtain ⟨d, rfl⟩ : ∃ k, d = k + 60 := ⟨d - 60, by omega⟩
  have rp := y_fie (i := 5) (t := 9) (lo := 0) (hi := 8) hI z_ty.1 rfl H.2.2.1
  refine y_aln (e_103 (0, .aload_n 0, 1) (List.mem_of_getElem? (i := 0) rfl)) rfl ?_
  refine y_getf hI z_ty.1 (e_103 (1, .getfield 37, 3) (List.mem_of_getElem? (i := 1) rfl)) u_0_37 ⟨rfl, rfl⟩ H.2.2.1 ?_
  refine y_st (e_103 (4, .iconst 1, 1) (List.mem_of_getElem? (i := 2) rfl)) ⟨rfl, rfl, rfl, rfl⟩ ?_
  refine y_icm (e_103 (5, .if_icmp .ge 5, 3) (List.mem_of_getElem? (i := 3) rfl)) rfl (fun hc => ?_) (fun _ => ?_)
  rotate_left
  · refine y_st (e_103 (8, .iconst (-1), 1) (List.mem_of_getElem? (i := 4) rfl)) ⟨rfl, rfl, rfl, rfl⟩ ?_
    exact y_ret (e_103 (9, .ireturn, 1) (List.mem_of_getElem? (i := 5) rfl)) ⟨rfl, y_ri⟩ ⟨pc, H⟩
  have h1 := y_hI.2.2.2.2.1 hc
  rw [show (Int32.ofInt 1).toInt = 1 from rfl] at h1
  have es : (pc - Int32.ofInt 1).toInt = pc.toInt - 1 := by
    rw [Int32.toInt_sub, show (Int32.ofInt 1).toInt = 1 from rfl, Jvm.Kit.bmod32 (by omega) (by omega)]
  refine y_aln (e_103 (10, .aload_n 0, 1) (List.mem_of_getElem? (i := 6) rfl)) rfl ?_
  refine y_st (e_103 (11, .dup, 1) (List.mem_of_getElem? (i := 7) rfl)) ⟨rfl, rfl, rfl, rfl⟩ ?_
  refine y_getf hI z_ty.1 (e_103 (12, .getfield 37, 3) (List.mem_of_getElem? (i := 8) rfl)) u_0_37 ⟨rfl, rfl⟩ H.2.2.1 ?_
  refine y_st (e_103 (15, .iconst 1, 1) (List.mem_of_getElem? (i := 9) rfl)) ⟨rfl, rfl, rfl, rfl⟩ ?_
  refine y_st (e_103 (16, .isub, 1) (List.mem_of_getElem? (i := 10) rfl)) ⟨rfl, rfl, rfl, rfl⟩ ?_
  refine y_putf (f := (0, 0, 8)) hI z_ty.1 (e_103 (17, .putfield 37, 3) (List.mem_of_getElem? (i := 11) rfl)) u_0_37 ⟨rfl, rfl, by decide, rfl, rfl⟩ ⟨_, rfl, by dsimp only; omega, by dsimp only; omega⟩ (fun G1 u1 => ?_)
  have ef1 : x_eff th0 [(9, 5, 5)] G G1 := x_eff.upd u1 z_ty.1 (q := (9, 5, 5)) (List.mem_singleton.mpr rfl) rfl (Nat.le_refl _) (Nat.le_refl _)
  have hI1 : xI x_tb th0 G1 := hI.upd u1 z_ty.1 (y_okI (lo := 0) (hi := 8) rfl (by omega) (by omega))
  obtain ⟨hp, h6, h5, hk, i0, i1⟩ := H
  have H1 : ZL w wi (pc - Int32.ofInt 1) G1 := ⟨hp.eff ef1 (by decide), h6.eff5 (by decide) ef1, by rw [u1.2.1, if_pos ⟨rfl, rfl⟩], fun j j8 => by
    obtain ⟨q, qq, eq, hq⟩ := hk j j8
    exact ⟨q, qq, (ef1.at z_ty.2.1 (y_outT5 (by decide) j)).trans eq, fun z => (hq (by omega)).eff5 (z_psH q qq).1 ef1⟩, i0.eff5 (by decide) ef1, i1.eff5 (by decide) ef1⟩
  obtain ⟨p, pp, ep, hl⟩ := hk (pc - Int32.ofInt 1).toInt.toNat (by omega)
  have hl1 := (hl (by omega)).eff5 (z_psH p pp).1 ef1
  have ep1 := (ef1.at z_ty.2.1 (y_outT5 (by decide) _)).trans ep
  have rq := z_psH p pp
  refine y_aln (e_103 (20, .aload_n 0, 1) (List.mem_of_getElem? (i := 12) rfl)) rfl ?_
  refine y_getf hI1 z_ty.1 (e_103 (21, .getfield 26, 3) (List.mem_of_getElem? (i := 13) rfl)) u_0_26 ⟨rfl, rfl⟩ H1.1.2.1 ?_
  refine y_aln (e_103 (24, .aload_n 0, 1) (List.mem_of_getElem? (i := 14) rfl)) rfl ?_
  refine y_getf hI1 z_ty.1 (e_103 (25, .getfield 33, 3) (List.mem_of_getElem? (i := 15) rfl)) u_0_33 ⟨rfl, rfl⟩ H1.1.2.2.2.1 ?_
  refine y_aln (e_103 (28, .aload_n 0, 1) (List.mem_of_getElem? (i := 16) rfl)) rfl ?_
  refine y_getf hI1 z_ty.1 (e_103 (29, .getfield 37, 3) (List.mem_of_getElem? (i := 17) rfl)) u_0_37 ⟨rfl, rfl⟩ H1.2.2.1 ?_
  refine y_aald hI1 z_ty.2.1 (e_103 (32, .aaload, 1) (List.mem_of_getElem? (i := 18) rfl)) ⟨rfl, by decide⟩ ⟨by omega, by show (pc - Int32.ofInt 1).toInt < 8; omega⟩ ep1 ?_
  refine y_c2 (K' := _) (e_103 (33, .invokevirtual 117, 3) (List.mem_of_getElem? (i := 19) rfl)) ⟨rfl, rfl, rfl⟩ t_0_117 ⟨by decide, by decide, by decide, by decide⟩ m_47_ok rfl (by decide) (y_recv hI1 (z_tp 6 (by decide)) ⟨rfl, rfl⟩) (Nat.le_of_ble_eq_true rfl) (Nat.le_of_ble_eq_true rfl) (k_copy2 (by omega) H1.1 hI1 (by decide) rq.1 (by omega)) (fun r1 G2 h2 => ?_)
  obtain ⟨rfl, C, ef2⟩ := h2
  simp only [Option.toList_some, Option.toList_none, List.cons_append, List.nil_append]
  have H2 := H1.into hl1 C ef2 (Or.inr rfl)
  refine y_aln (e_103 (36, .aload_n 0, 1) (List.mem_of_getElem? (i := 20) rfl)) rfl ?_
  refine y_getf C.1 z_ty.1 (e_103 (37, .getfield 37, 3) (List.mem_of_getElem? (i := 21) rfl)) u_0_37 ⟨rfl, rfl⟩ H2.2.2.1 ?_
  exact y_ret (e_103 (40, .ireturn, 1) (List.mem_of_getElem? (i := 22) rfl)) ⟨rfl, y_ri⟩ ⟨_, H2⟩
def sg_z129_ns : List xN := []
def sg_z129_os : List xN := [(64, [(0, (19, ([(0, 1)], 0))), (1, (0, ([(1, 1)], 0))), (2, (0, ([(2, 1)], 0)))], [], [], 3, [([], 0), ([], 0), ([], 0), ([], 0), ([], 0)])]
def sg_z129_g : xG := ([], [(0, (19, ([(0, 1)], 0))), (1, (0, ([(1, 1)], 0)))], [], [], 2)
def sg_z129_ps : List xP := [(some (0, ([(2, 1)], 0)), [], [])]
set_option maxRecDepth 100000 in
set_option maxHeartbeats 4000000 in
theorem sg_z129_ok : x_seg x_tb [c_8, c_88] m_129 d_129 [(3, 3, 3), (7, 1, 9), (9, 17, 17), (21, 0, 39), (22, 0, 39), (23, 0, 39)] 2 sg_z129_ps sg_z129_ns sg_z129_os 40 false 0 sg_z129_g = true := by decide +kernel
set_option maxRecDepth 100000 in
theorem sg_z129_go {th : List Nat} {xs : Nat → Int32} {L J d : Nat} {K : Option Value → List pE → Prop} (hd : 89 ≤ d) {v : Nat → Int} {lv : pL} {ws : List Value} {G0 G : List pE} (hS : x_S x_tb th v sg_z129_g lv ws G) (hE : x_eff th [(3, 3, 3), (7, 1, 9), (9, 17, 17), (21, 0, 39), (22, 0, 39), (23, 0, 39)] G0 G) (hK : ∀ r G', x_Post x_tb th [(3, 3, 3), (7, 1, 9), (9, 17, 17), (21, 0, 39), (22, 0, 39), (23, 0, 39)] sg_z129_ps 2 v G0 r G' → K r G') (hO : ∀ n ∈ sg_z129_os, ∀ (vn : Nat → Int) (lv : pL) (G1 : List pE), x_ag 2 v vn → x_S x_tb th vn (n.2.2.2.1, n.2.1, [], n.2.2.1, n.2.2.2.2.1) lv [] G1 → x_eff th [(3, 3, 3), (7, 1, 9), (9, 17, 17), (21, 0, 39), (22, 0, 39), (23, 0, 39)] G0 G1 → x_Gd xs L J (d + 1) m_129 K n.1 lv [] G1) : x_Gd xs L J (d + 1) m_129 K 0 lv ws G :=
  x_seg_ok (dm := 89) x_tb_wf ⟨rfl, rfl, rfl⟩ e_129 (List.forall_mem_cons.mpr ⟨(h_8 th xs L J).mono (by omega), List.forall_mem_cons.mpr ⟨(h_88 th xs L J).mono (by omega), fun _ h => absurd h List.not_mem_nil⟩⟩) hd sg_z129_ok hS hE (fun z => by cases z) hK hO
def sg_y129_ns : List xN := []
def sg_y129_os : List xN := [(149, [(0, (19, ([(0, 1)], 0))), (1, (0, ([(1, 1)], 0)))], [], [], 2, [([], 0), ([], 0), ([], 0), ([], 0), ([], 0)])]
def sg_y129_g : xG := ([], [(0, (19, ([(0, 1)], 0))), (1, (0, ([(1, 1)], 0)))], [], [], 2)
def sg_y129_ps : List xP := [(some (0, ([(2, 1)], 0)), [], [])]
set_option maxRecDepth 100000 in
set_option maxHeartbeats 4000000 in
theorem sg_y129_ok : x_seg x_tb [c_52, c_90] m_129 d_129 [(0, 7, 7), (3, 4, 5), (4, 2, 3), (5, 3, 3), (8, 3, 9), (9, 13, 13), (33, 0, 3)] 2 sg_y129_ps sg_y129_ns sg_y129_os 57 false 75 sg_y129_g = true := by decide +kernel
set_option maxRecDepth 100000 in
theorem sg_y129_go {th : List Nat} {xs : Nat → Int32} {L J d : Nat} {K : Option Value → List pE → Prop} (hd : 91 ≤ d) {v : Nat → Int} {lv : pL} {ws : List Value} {G0 G : List pE} (hS : x_S x_tb th v sg_y129_g lv ws G) (hE : x_eff th [(0, 7, 7), (3, 4, 5), (4, 2, 3), (5, 3, 3), (8, 3, 9), (9, 13, 13), (33, 0, 3)] G0 G) (hK : ∀ r G', x_Post x_tb th [(0, 7, 7), (3, 4, 5), (4, 2, 3), (5, 3, 3), (8, 3, 9), (9, 13, 13), (33, 0, 3)] sg_y129_ps 2 v G0 r G' → K r G') (hO : ∀ n ∈ sg_y129_os, ∀ (vn : Nat → Int) (lv : pL) (G1 : List pE), x_ag 2 v vn → x_S x_tb th vn (n.2.2.2.1, n.2.1, [], n.2.2.1, n.2.2.2.2.1) lv [] G1 → x_eff th [(0, 7, 7), (3, 4, 5), (4, 2, 3), (5, 3, 3), (8, 3, 9), (9, 13, 13), (33, 0, 3)] G0 G1 → x_Gd xs L J (d + 1) m_129 K n.1 lv [] G1) : x_Gd xs L J (d + 1) m_129 K 75 lv ws G :=
  x_seg_ok (dm := 91) x_tb_wf ⟨rfl, rfl, rfl⟩ e_129 (List.forall_mem_cons.mpr ⟨(h_52 th xs L J).mono (by omega), List.forall_mem_cons.mpr ⟨(h_90 th xs L J).mono (by omega), fun _ h => absurd h List.not_mem_nil⟩⟩) hd sg_y129_ok hS hE (fun z => by cases z) hK hO
def sg_w129_ns : List xN := []
def sg_w129_os : List xN := []
def sg_w129_g : xG := ([], [(0, (19, ([(0, 1)], 0))), (1, (0, ([(1, 1)], 0)))], [], [], 2)
def sg_w129_ps : List xP := [(some (0, ([(2, 1)], 0)), [], [])]
set_option maxRecDepth 100000 in
set_option maxHeartbeats 4000000 in
theorem sg_w129_ok : x_seg x_tb [] m_129 d_129 [] 2 sg_w129_ps sg_w129_ns sg_w129_os 17 false 168 sg_w129_g = true := by decide +kernel
set_option maxRecDepth 100000 in
theorem sg_w129_go {th : List Nat} {xs : Nat → Int32} {L J d : Nat} {K : Option Value → List pE → Prop} (hd : 0 ≤ d) {v : Nat → Int} {lv : pL} {ws : List Value} {G0 G : List pE} (hS : x_S x_tb th v sg_w129_g lv ws G) (hE : x_eff th [] G0 G) (hK : ∀ r G', x_Post x_tb th [] sg_w129_ps 2 v G0 r G' → K r G') (hO : ∀ n ∈ sg_w129_os, ∀ (vn : Nat → Int) (lv : pL) (G1 : List pE), x_ag 2 v vn → x_S x_tb th vn (n.2.2.2.1, n.2.1, [], n.2.2.1, n.2.2.2.2.1) lv [] G1 → x_eff th [] G0 G1 → x_Gd xs L J (d + 1) m_129 K n.1 lv [] G1) : x_Gd xs L J (d + 1) m_129 K 168 lv ws G :=
  x_seg_ok (dm := 0) x_tb_wf ⟨rfl, rfl, rfl⟩ e_129 (fun _ h => absurd h List.not_mem_nil) hd sg_w129_ok hS hE (fun z => by cases z) hK hO
set_option maxHeartbeats 2000000 in
set_option maxRecDepth 100000 in
theorem zb_log (hd : 318 ≤ d) (H : ZX w wi G) (hI : xI x_tb th0 G) (x1 : Int32) : x_Gd xs L J d m_129 (fun r G' => ZX w wi G') 0 (lv_args 0 [.ref 0, .int x1]) [] G := by
  obtain ⟨pc, H⟩ := H
  obtain ⟨d, rfl⟩ : ∃ k, d = k + 60 := ⟨d - 60, by omega⟩
  refine sg_z129_go (th := th0) (d := d + 59) (by omega) (v := (y_v [((0 : Nat) : Int), (x1).toInt])) (G0 := G) (G := G) ⟨y_v_Bd (List.forall_mem_cons.mpr ⟨(y_cellB hI z_ty.1), (List.forall_mem_cons.mpr ⟨(x_i32 x1), (fun _ h => absurd h List.not_mem_nil)⟩)⟩), (fun _ h => absurd h List.not_mem_nil), (List.forall_mem_cons.mpr ⟨⟨_, rfl, 0, rfl, (by simp only [xl_ev, xt_ev, y_v, List.getD_cons_succ, List.getD_cons_zero]; omega), z_ty.1⟩, (List.forall_mem_cons.mpr ⟨⟨_, rfl, x1, rfl, (by simp only [xl_ev, xt_ev, y_v, List.getD_cons_succ, List.getD_cons_zero]; omega)⟩, (fun _ h => absurd h List.not_mem_nil)⟩)⟩), trivial, (fun _ h => absurd h List.not_mem_nil), hI⟩ x_eff.rf (fun r G' hp => ?_) (fun n hn vn lv1 G1 hag hS1 hE1 => ?_)
  · obtain ⟨v', -, -, -, ef, -⟩ := hp
    exact ⟨pc, H.eff ef (by decide)⟩
  obtain rfl : n = _ := List.mem_singleton.mp hn
  have z0 : vn 0 = ((0 : Nat) : Int) := hag 0 (by decide)
  have z1 : vn 1 = x1.toInt := hag 1 (by decide)
  have g0 := hS1.loCe (i := 0) (t := 9) (l := ([(0, 1)], 0)) (a := 0) (List.mem_of_getElem? (i := 0) rfl) (by simp only [xl_ev, xt_ev]; omega)
  have g1 := hS1.lo0e (i := 1) (l := ([(1, 1)], 0)) (x := x1) (List.mem_of_getElem? (i := 1) rfl) (by simp only [xl_ev, xt_ev]; omega)
  have hI1 := hS1.2.2.2.2.2
  have H1 := H.eff hE1 (by decide)
  refine y_aln (e_129 (64, .aload_n 0, 1) (List.mem_of_getElem? (i := 33) rfl)) g0 ?_
  refine y_getf hI1 z_ty.1 (e_129 (65, .getfield 30, 3) (List.mem_of_getElem? (i := 34) rfl)) u_0_30 ⟨rfl, rfl⟩ H1.1.2.2.1 ?_
  refine y_aln (e_129 (68, .aload_n 0, 1) (List.mem_of_getElem? (i := 35) rfl)) g0 ?_
  refine y_getf hI1 z_ty.1 (e_129 (69, .getfield 26, 3) (List.mem_of_getElem? (i := 36) rfl)) u_0_26 ⟨rfl, rfl⟩ H1.1.2.1 ?_
  refine y_c2 (K' := _) (e_129 (72, .invokevirtual 117, 3) (List.mem_of_getElem? (i := 37) rfl)) ⟨rfl, rfl, rfl⟩ t_0_117 ⟨by decide, by decide, by decide, by decide⟩ m_47_ok rfl (by decide) (y_recv hI1 (z_tp 32 (by decide)) ⟨rfl, rfl⟩) (Nat.le_of_ble_eq_true rfl) (Nat.le_of_ble_eq_true rfl) (k_copy2 (by omega) H1.1 hI1 (by decide) (by decide) (by decide)) (fun r1 G2 h1 => ?_)
  obtain ⟨rfl, C, ef2⟩ := h1
  simp only [Option.toList_some, Option.toList_none, List.cons_append, List.nil_append]
  obtain ⟨H2, hw2⟩ := H1.copy (by decide) (by decide) (by decide) (by decide) H1.2.1 C ef2
  refine sg_y129_go (th := th0) (d := d + 59) (by omega) (v := (y_v [((0 : Nat) : Int), (x1).toInt])) (G0 := G2) (G := G2) ⟨y_v_Bd (List.forall_mem_cons.mpr ⟨(y_cellB C.1 z_ty.1), (List.forall_mem_cons.mpr ⟨(x_i32 x1), (fun _ h => absurd h List.not_mem_nil)⟩)⟩), (fun _ h => absurd h List.not_mem_nil), (List.forall_mem_cons.mpr ⟨⟨_, g0, 0, rfl, (by simp only [xl_ev, xt_ev, y_v, List.getD_cons_succ, List.getD_cons_zero]; omega), z_ty.1⟩, (List.forall_mem_cons.mpr ⟨⟨_, g1, x1, rfl, (by simp only [xl_ev, xt_ev, y_v, List.getD_cons_succ, List.getD_cons_zero]; omega)⟩, (fun _ h => absurd h List.not_mem_nil)⟩)⟩), trivial, (fun _ h => absurd h List.not_mem_nil), C.1⟩ x_eff.rf (fun r G' hp => ?_) (fun n hn vn2 lv3 G3 hag3 hS3 hE3 => ?_)
  · obtain ⟨v', -, -, -, ef3, -⟩ := hp
    exact ⟨pc, H2.eff ef3 (by decide)⟩
  obtain rfl : n = _ := List.mem_singleton.mp hn
  have y0 : vn2 0 = ((0 : Nat) : Int) := hag3 0 (by decide)
  have y1 : vn2 1 = x1.toInt := hag3 1 (by decide)
  have a0 := hS3.loCe (i := 0) (t := 9) (l := ([(0, 1)], 0)) (a := 0) (List.mem_of_getElem? (i := 0) rfl) (by simp only [xl_ev, xt_ev]; omega)
  have a1 := hS3.lo0e (i := 1) (l := ([(1, 1)], 0)) (x := x1) (List.mem_of_getElem? (i := 1) rfl) (by simp only [xl_ev, xt_ev]; omega)
  have hI3 := hS3.2.2.2.2.2
  have H3 := H2.eff hE3 (by decide)
  have hw3 := hw2.eff (by decide) hE3 (by decide)
  refine y_aln (e_129 (149, .aload_n 0, 1) (List.mem_of_getElem? (i := 78) rfl)) a0 ?_
  refine y_aln (e_129 (150, .aload_n 0, 1) (List.mem_of_getElem? (i := 79) rfl)) a0 ?_
  refine y_getf hI3 z_ty.1 (e_129 (151, .getfield 26, 3) (List.mem_of_getElem? (i := 80) rfl)) u_0_26 ⟨rfl, rfl⟩ H3.1.2.1 ?_
  refine y_c2 (K' := _) (e_129 (154, .invokevirtual 286, 3) (List.mem_of_getElem? (i := 81) rfl)) ⟨rfl, rfl, rfl⟩ t_0_286 ⟨by decide, by decide, by decide, by decide⟩ m_78_ok rfl (by decide) (y_recv hI3 z_ty.1 ⟨rfl, rfl⟩) (Nat.le_of_ble_eq_true rfl) (Nat.le_of_ble_eq_true rfl) (k_keep (d := d + 57) (by omega) H3 hI3 (Or.inl rfl) H3.2.1) (fun r4 G4 h4 => ?_)
  obtain ⟨rfl, hI4, ⟨pc4, H4⟩, k32⟩ := h4
  simp only [Option.toList_some, Option.toList_none, List.cons_append, List.nil_append]
  have hw4 := k32 w hw3
  refine y_aln (e_129 (157, .aload_n 0, 1) (List.mem_of_getElem? (i := 82) rfl)) a0 ?_
  refine y_getf hI4 z_ty.1 (e_129 (158, .getfield 26, 3) (List.mem_of_getElem? (i := 83) rfl)) u_0_26 ⟨rfl, rfl⟩ H4.1.2.1 ?_
  refine y_aln (e_129 (161, .aload_n 0, 1) (List.mem_of_getElem? (i := 84) rfl)) a0 ?_
  refine y_getf hI4 z_ty.1 (e_129 (162, .getfield 30, 3) (List.mem_of_getElem? (i := 85) rfl)) u_0_30 ⟨rfl, rfl⟩ H4.1.2.2.1 ?_
  refine y_c2 (K' := _) (e_129 (165, .invokevirtual 117, 3) (List.mem_of_getElem? (i := 86) rfl)) ⟨rfl, rfl, rfl⟩ t_0_117 ⟨by decide, by decide, by decide, by decide⟩ m_47_ok rfl (by decide) (y_recv hI4 (z_tp 6 (by decide)) ⟨rfl, rfl⟩) (Nat.le_of_ble_eq_true rfl) (Nat.le_of_ble_eq_true rfl) (k_copy2 (by omega) H4.1 hI4 (by decide) (by decide) (by decide)) (fun r5 G5 h5 => ?_)
  obtain ⟨rfl, C5, ef5⟩ := h5
  simp only [Option.toList_some, Option.toList_none, List.cons_append, List.nil_append]
  have H5 := H4.into hw4 C5 ef5 (Or.inr rfl)
  refine sg_w129_go (th := th0) (d := d + 59) (by omega) (v := (y_v [((0 : Nat) : Int), (x1).toInt])) (G0 := G5) (G := G5) ⟨y_v_Bd (List.forall_mem_cons.mpr ⟨(y_cellB C5.1 z_ty.1), (List.forall_mem_cons.mpr ⟨(x_i32 x1), (fun _ h => absurd h List.not_mem_nil)⟩)⟩), (fun _ h => absurd h List.not_mem_nil), (List.forall_mem_cons.mpr ⟨⟨_, a0, 0, rfl, (by simp only [xl_ev, xt_ev, y_v, List.getD_cons_succ, List.getD_cons_zero]; omega), z_ty.1⟩, (List.forall_mem_cons.mpr ⟨⟨_, a1, x1, rfl, (by simp only [xl_ev, xt_ev, y_v, List.getD_cons_succ, List.getD_cons_zero]; omega)⟩, (fun _ h => absurd h List.not_mem_nil)⟩)⟩), trivial, (fun _ h => absurd h List.not_mem_nil), C5.1⟩ x_eff.rf (fun r G' hp => ?_) (fun n hn => absurd hn List.not_mem_nil)
  obtain ⟨v', -, -, -, ef6, -⟩ := hp
  exact ⟨pc4, H5.eff ef6 (by decide)⟩
theorem z_im {x : Int32} (h0 : 0 ≤ x.toInt) (h1 : x.toInt ≤ 1) (H : ZP G) : ∃ h ∈ z_hs, x_sl G 69 x.toInt.toNat = some (.ref h) ∧ h ≠ 6 ∧ h ≠ 32 ∧ 286 < h ∧ ((x.toInt.toNat = 0 ∧ h = 287) ∨ (x.toInt.toNat = 1 ∧ h = 318)) := by
  rcases (show x.toInt.toNat = 0 ∨ x.toInt.toNat = 1 by omega) with e | e
  · exact ⟨287, by decide, by rw [e]; exact H.2.2.2.2.2.1, by decide, by decide, by decide, Or.inl ⟨e, rfl⟩⟩
  · exact ⟨318, by decide, by rw [e]; exact H.2.2.2.2.2.2.1, by decide, by decide, by decide, Or.inr ⟨e, rfl⟩⟩
/-- an image is made -/
theorem ZL.img {h q : Nat} {pc : Int32} {G' : List pE} (hh : h ∈ z_hs) (n6 : h ≠ 6) (hb : 286 < h) (hq : (q = 0 ∧ h = 287) ∨ (q = 1 ∧ h = 318)) (H : ZL w wi pc G) (C : KC h 6 G G') (he : x_eff th0 z_E47 G G') : ZL w (fun j => if j = q then w else wi j) pc G' := by
  obtain ⟨hp, h6, h5, hk, i0, i1⟩ := H
  refine ⟨hp.eff he (by decide), h6.kc (by decide) hh (Ne.symm n6) C, (he.at z_ty.1 (by decide)).trans h5, fun k k8 => ?_, ?_, ?_⟩
  · obtain ⟨p, pp, e, hl⟩ := hk k k8
    exact ⟨p, pp, (he.at z_ty.2.1 (y_outT5 (by decide) k)).trans e, fun z => (hl z).kc (z_psH p pp).1 hh (by have := (z_psH p pp).2; omega) C⟩
  · rcases hq with ⟨rfl, rfl⟩ | ⟨rfl, rfl⟩
    · exact h6.kd C
    · exact i0.kc (by decide) (by decide) (by decide) C
  · rcases hq with ⟨rfl, rfl⟩ | ⟨rfl, rfl⟩
    · exact i1.kc (by decide) (by decide) (by decide) C
    · exact h6.kd C
def sg_y153_ns : List xN := []
def sg_y153_os : List xN := []
def sg_y153_g : xG := ([([(1, 1)], 0), ([(1, -1)], 1)], [(0, (19, ([(0, 1)], 0))), (1, (0, ([(1, 1)], 0)))], [], [], 2)
def sg_y153_ps : List xP := [(some (0, ([(2, 1)], 0)), [], [])]
set_option maxRecDepth 100000 in
set_option maxHeartbeats 4000000 in
theorem sg_y153_ok : x_seg x_tb [c_93] m_153 d_153 [(6, 4, 5), (24, 0, 39), (25, 0, 39), (26, 0, 39), (32, 0, 1)] 2 sg_y153_ps sg_y153_ns sg_y153_os 23 false 24 sg_y153_g = true := by decide +kernel
set_option maxRecDepth 100000 in
theorem sg_y153_go {th : List Nat} {xs : Nat → Int32} {L J d : Nat} {K : Option Value → List pE → Prop} (hd : 94 ≤ d) {v : Nat → Int} {lv : pL} {ws : List Value} {G0 G : List pE} (hS : x_S x_tb th v sg_y153_g lv ws G) (hE : x_eff th [(6, 4, 5), (24, 0, 39), (25, 0, 39), (26, 0, 39), (32, 0, 1)] G0 G) (hK : ∀ r G', x_Post x_tb th [(6, 4, 5), (24, 0, 39), (25, 0, 39), (26, 0, 39), (32, 0, 1)] sg_y153_ps 2 v G0 r G' → K r G') (hO : ∀ n ∈ sg_y153_os, ∀ (vn : Nat → Int) (lv : pL) (G1 : List pE), x_ag 2 v vn → x_S x_tb th vn (n.2.2.2.1, n.2.1, [], n.2.2.1, n.2.2.2.2.1) lv [] G1 → x_eff th [(6, 4, 5), (24, 0, 39), (25, 0, 39), (26, 0, 39), (32, 0, 1)] G0 G1 → x_Gd xs L J (d + 1) m_153 K n.1 lv [] G1) : x_Gd xs L J (d + 1) m_153 K 24 lv ws G :=
  x_seg_ok (dm := 94) x_tb_wf ⟨rfl, rfl, rfl⟩ e_153 (List.forall_mem_cons.mpr ⟨(h_93 th xs L J).mono (by omega), fun _ h => absurd h List.not_mem_nil⟩) hd sg_y153_ok hS hE (fun z => by cases z) hK hO
set_option maxHeartbeats 2000000 in
set_option maxRecDepth 100000 in
theorem zb_image (hd : 318 ≤ d) (H : ZX w wi G) (hI : xI x_tb th0 G) (x1 : Int32) : x_Gd xs L J d m_153 (fun r G' => ZX w (fun q => if 0 ≤ x1.toInt ∧ x1.toInt ≤ 1 ∧ q = x1.toInt.toNat then w else wi q) G') 0 (lv_args 0 [.ref 0, .int x1]) [] G := by
  obtain ⟨pc, H⟩ := H
  obtain ⟨d, rfl⟩ : ∃ k, d = k + 60 := ⟨d - 60, by omega⟩
  have g0 : pm_get (lv_args 0 [.ref 0, .int x1]) 0 = some (.ref 0) := rfl
  have g1 : pm_get (lv_args 0 [.ref 0, .int x1]) 1 = some (.int x1) := rfl
  generalize lv_args 0 [.ref 0, .int x1] = lv at g0 g1 ⊢
  have out : ¬ (0 ≤ x1.toInt ∧ x1.toInt ≤ 1) → x_Gd xs L J (d + 60) m_153 (fun r G' => ZX w (fun q => if 0 ≤ x1.toInt ∧ x1.toInt ≤ 1 ∧ q = x1.toInt.toNat then w else wi q) G') 9 lv [] G := fun hx => by
    refine y_st (e_153 (9, .iconst 0, 1) (List.mem_of_getElem? (i := 5) rfl)) ⟨rfl, rfl, rfl, rfl⟩ ?_
    refine y_ret (e_153 (10, .ireturn, 1) (List.mem_of_getElem? (i := 6) rfl)) ⟨rfl, y_rb (Or.inl rfl)⟩ ⟨pc, ?_⟩
    rw [show (fun q => if 0 ≤ x1.toInt ∧ x1.toInt ≤ 1 ∧ q = x1.toInt.toNat then w else wi q) = wi from funext (fun q => if_neg (fun z => hx ⟨z.1, z.2.1⟩))]
    exact H
  refine y_iln (e_153 (0, .iload_n 1, 1) (List.mem_of_getElem? (i := 0) rfl)) g1 ?_
  refine y_ifc (e_153 (1, .ifCond .lt 8, 3) (List.mem_of_getElem? (i := 1) rfl)) rfl (fun hc => ?_) (fun hc => ?_)
  · have := y_hI.2.2.2.2.2.2.2.2.1 hc
    rw [show (0 : Int32).toInt = 0 from rfl] at this
    exact out (fun z => by omega)
  have q0 := y_hI.2.2.2.2.2.2.2.2.2.1 hc
  rw [show (0 : Int32).toInt = 0 from rfl] at q0
  refine y_iln (e_153 (4, .iload_n 1, 1) (List.mem_of_getElem? (i := 2) rfl)) g1 ?_
  refine y_st (e_153 (5, .iconst 2, 1) (List.mem_of_getElem? (i := 3) rfl)) ⟨rfl, rfl, rfl, rfl⟩ ?_
  refine y_icm (e_153 (6, .if_icmp .lt 5, 3) (List.mem_of_getElem? (i := 4) rfl)) rfl (fun hc => ?_) (fun hc => ?_)
  rotate_left
  · have := y_hI.2.2.2.2.2.2.2.2.2.1 hc
    rw [show (Int32.ofInt 2).toInt = 2 from rfl] at this
    exact out (fun z => by omega)
  have q1 := y_hI.2.2.2.2.2.2.2.2.1 hc
  rw [show (Int32.ofInt 2).toInt = 2 from rfl] at q1
  obtain ⟨h, hh, eh, n6, n32, hb, hq⟩ := z_im q0 (by omega) H.1
  refine y_aln (e_153 (11, .aload_n 0, 1) (List.mem_of_getElem? (i := 7) rfl)) g0 ?_
  refine y_getf hI z_ty.1 (e_153 (12, .getfield 51, 3) (List.mem_of_getElem? (i := 8) rfl)) u_0_51 ⟨rfl, rfl⟩ H.1.2.2.2.2.1 ?_
  refine y_iln (e_153 (15, .iload_n 1, 1) (List.mem_of_getElem? (i := 9) rfl)) g1 ?_
  refine y_aald hI z_ty.2.2 (e_153 (16, .aaload, 1) (List.mem_of_getElem? (i := 10) rfl)) ⟨rfl, by decide⟩ ⟨q0, by show x1.toInt < 2; omega⟩ eh ?_
  refine y_aln (e_153 (17, .aload_n 0, 1) (List.mem_of_getElem? (i := 11) rfl)) g0 ?_
  refine y_getf hI z_ty.1 (e_153 (18, .getfield 26, 3) (List.mem_of_getElem? (i := 12) rfl)) u_0_26 ⟨rfl, rfl⟩ H.1.2.1 ?_
  refine y_c2 (K' := _) (e_153 (21, .invokevirtual 117, 3) (List.mem_of_getElem? (i := 13) rfl)) ⟨rfl, rfl, rfl⟩ t_0_117 ⟨by decide, by decide, by decide, by decide⟩ m_47_ok rfl (by decide) (y_recv hI (z_tp h hh) ⟨rfl, rfl⟩) (Nat.le_of_ble_eq_true rfl) (Nat.le_of_ble_eq_true rfl) (k_copy2 (by omega) H.1 hI hh (by decide) n6) (fun r1 G2 h2 => ?_)
  obtain ⟨rfl, C, ef2⟩ := h2
  simp only [Option.toList_some, Option.toList_none, List.cons_append, List.nil_append]
  have H2 := H.img hh n6 hb hq C ef2
  refine sg_y153_go (th := th0) (d := d + 59) (by omega) (v := (y_v [((0 : Nat) : Int), (x1).toInt])) (G0 := G2) (G := G2) ⟨y_v_Bd (List.forall_mem_cons.mpr ⟨(y_cellB C.1 z_ty.1), (List.forall_mem_cons.mpr ⟨(x_i32 x1), (fun _ h => absurd h List.not_mem_nil)⟩)⟩), (List.forall_mem_cons.mpr ⟨(by simp only [xl_ev, xt_ev, y_v, List.getD_cons_succ, List.getD_cons_zero]; omega), (List.forall_mem_cons.mpr ⟨(by simp only [xl_ev, xt_ev, y_v, List.getD_cons_succ, List.getD_cons_zero]; omega), (fun _ h => absurd h List.not_mem_nil)⟩)⟩), (List.forall_mem_cons.mpr ⟨⟨_, g0, 0, rfl, (by simp only [xl_ev, xt_ev, y_v, List.getD_cons_succ, List.getD_cons_zero]; omega), z_ty.1⟩, (List.forall_mem_cons.mpr ⟨⟨_, g1, x1, rfl, (by simp only [xl_ev, xt_ev, y_v, List.getD_cons_succ, List.getD_cons_zero]; omega)⟩, (fun _ h => absurd h List.not_mem_nil)⟩)⟩), trivial, (fun _ h => absurd h List.not_mem_nil), C.1⟩ x_eff.rf (fun r G' hp => ?_) (fun n hn => absurd hn List.not_mem_nil)
  obtain ⟨v', -, -, -, ef3, -⟩ := hp
  refine ⟨pc, ?_⟩
  rw [show (fun q => if 0 ≤ x1.toInt ∧ x1.toInt ≤ 1 ∧ q = x1.toInt.toNat then w else wi q) = (fun j => if j = x1.toInt.toNat then w else wi j) from funext (fun q => by
    by_cases e : q = x1.toInt.toNat
    · rw [if_pos ⟨q0, by omega, e⟩, if_pos e]
    · rw [if_neg (fun z => e z.2.2), if_neg e])]
  exact H2.eff ef3 (by decide)
def sg_y154_ns : List xN := []
def sg_y154_os : List xN := [(46, [(0, (19, ([(0, 1)], 0))), (1, (0, ([(1, 1)], 0)))], [], [], 2, [([], 0), ([], 0), ([], 0), ([], 0), ([], 0)])]
def sg_y154_g : xG := ([([(1, 1)], 0), ([(1, -1)], 1)], [(0, (19, ([(0, 1)], 0))), (1, (0, ([(1, 1)], 0)))], [], [], 2)
def sg_y154_ps : List xP := []
set_option maxRecDepth 100000 in
set_option maxHeartbeats 4000000 in
theorem sg_y154_ok : x_seg x_tb [c_93] m_154 d_154 [(6, 4, 5), (24, 0, 39), (25, 0, 39), (26, 0, 39)] 2 sg_y154_ps sg_y154_ns sg_y154_os 17 false 33 sg_y154_g = true := by decide +kernel
set_option maxRecDepth 100000 in
theorem sg_y154_go {th : List Nat} {xs : Nat → Int32} {L J d : Nat} {K : Option Value → List pE → Prop} (hd : 94 ≤ d) {v : Nat → Int} {lv : pL} {ws : List Value} {G0 G : List pE} (hS : x_S x_tb th v sg_y154_g lv ws G) (hE : x_eff th [(6, 4, 5), (24, 0, 39), (25, 0, 39), (26, 0, 39)] G0 G) (hK : ∀ r G', x_Post x_tb th [(6, 4, 5), (24, 0, 39), (25, 0, 39), (26, 0, 39)] sg_y154_ps 2 v G0 r G' → K r G') (hO : ∀ n ∈ sg_y154_os, ∀ (vn : Nat → Int) (lv : pL) (G1 : List pE), x_ag 2 v vn → x_S x_tb th vn (n.2.2.2.1, n.2.1, [], n.2.2.1, n.2.2.2.2.1) lv [] G1 → x_eff th [(6, 4, 5), (24, 0, 39), (25, 0, 39), (26, 0, 39)] G0 G1 → x_Gd xs L J (d + 1) m_154 K n.1 lv [] G1) : x_Gd xs L J (d + 1) m_154 K 33 lv ws G :=
  x_seg_ok (dm := 94) x_tb_wf ⟨rfl, rfl, rfl⟩ e_154 (List.forall_mem_cons.mpr ⟨(h_93 th xs L J).mono (by omega), fun _ h => absurd h List.not_mem_nil⟩) hd sg_y154_ok hS hE (fun z => by cases z) hK hO
/-- an image is kept there -/
def z_fl (G : List pE) (q : Nat) : Prop := ∃ ab : Nat, x_sl G 0 10 = some (.ref ab) ∧ ∃ x : Int32, x_sl G ab q = some (.int x) ∧ x ≠ 0
set_option maxHeartbeats 2000000 in
set_option maxRecDepth 100000 in
theorem zb_restore (hd : 318 ≤ d) (H : ZX w wi G) (hI : xI x_tb th0 G) (x1 : Int32) : x_Gd xs L J d m_154 (fun r G' => (0 ≤ x1.toInt ∧ x1.toInt ≤ 1 ∧ z_fl G x1.toInt.toNat ∧ ZX (wi x1.toInt.toNat) wi G') ∨ (¬ (0 ≤ x1.toInt ∧ x1.toInt ≤ 1 ∧ z_fl G x1.toInt.toNat) ∧ ZX w wi G')) 0 (lv_args 0 [.ref 0, .int x1]) [] G := by
  obtain ⟨pc, H⟩ := H
  obtain ⟨d, rfl⟩ : ∃ k, d = k + 60 := ⟨d - 60, by omega⟩
  have g0 : pm_get (lv_args 0 [.ref 0, .int x1]) 0 = some (.ref 0) := rfl
  have g1 : pm_get (lv_args 0 [.ref 0, .int x1]) 1 = some (.int x1) := rfl
  generalize lv_args 0 [.ref 0, .int x1] = lv at g0 g1 ⊢
  have out : ¬ (0 ≤ x1.toInt ∧ x1.toInt ≤ 1 ∧ z_fl G x1.toInt.toNat) → x_Gd xs L J (d + 60) m_154 (fun r G' => (0 ≤ x1.toInt ∧ x1.toInt ≤ 1 ∧ z_fl G x1.toInt.toNat ∧ ZX (wi x1.toInt.toNat) wi G') ∨ (¬ (0 ≤ x1.toInt ∧ x1.toInt ≤ 1 ∧ z_fl G x1.toInt.toNat) ∧ ZX w wi G')) 18 lv [] G := fun hx => by
    refine y_st (e_154 (18, .iconst 0, 1) (List.mem_of_getElem? (i := 10) rfl)) ⟨rfl, rfl, rfl, rfl⟩ ?_
    exact y_ret (e_154 (19, .ireturn, 1) (List.mem_of_getElem? (i := 11) rfl)) ⟨rfl, y_rb (Or.inl rfl)⟩ (Or.inr ⟨hx, pc, H⟩)
  obtain ⟨ik, e10, tik⟩ := y_fref (i := 10) (u := 32) hI z_ty.1 rfl
  obtain ⟨f, hf⟩ := y_iarr (t := 32) (n := 2) hI tik rfl rfl
  refine y_iln (e_154 (0, .iload_n 1, 1) (List.mem_of_getElem? (i := 0) rfl)) g1 ?_
  refine y_ifc (e_154 (1, .ifCond .lt 17, 3) (List.mem_of_getElem? (i := 1) rfl)) rfl (fun hc => ?_) (fun hc => ?_)
  · have := y_hI.2.2.2.2.2.2.2.2.1 hc
    rw [show (0 : Int32).toInt = 0 from rfl] at this
    exact out (fun z => by omega)
  have q0 := y_hI.2.2.2.2.2.2.2.2.2.1 hc
  rw [show (0 : Int32).toInt = 0 from rfl] at q0
  refine y_iln (e_154 (4, .iload_n 1, 1) (List.mem_of_getElem? (i := 2) rfl)) g1 ?_
  refine y_st (e_154 (5, .iconst 2, 1) (List.mem_of_getElem? (i := 3) rfl)) ⟨rfl, rfl, rfl, rfl⟩ ?_
  refine y_icm (e_154 (6, .if_icmp .ge 12, 3) (List.mem_of_getElem? (i := 4) rfl)) rfl (fun hc => ?_) (fun hc => ?_)
  · have := y_hI.2.2.2.2.1 hc
    rw [show (Int32.ofInt 2).toInt = 2 from rfl] at this
    exact out (fun z => by omega)
  have q1 := y_hI.2.2.2.2.2.1 hc
  rw [show (Int32.ofInt 2).toInt = 2 from rfl] at q1
  have hx := hf x1.toInt.toNat (by omega)
  refine y_aln (e_154 (9, .aload_n 0, 1) (List.mem_of_getElem? (i := 5) rfl)) g0 ?_
  refine y_getf hI z_ty.1 (e_154 (10, .getfield 58, 3) (List.mem_of_getElem? (i := 6) rfl)) u_0_58 ⟨rfl, rfl⟩ e10 ?_
  refine y_iln (e_154 (13, .iload_n 1, 1) (List.mem_of_getElem? (i := 7) rfl)) g1 ?_
  refine y_bald hI tik (e_154 (14, .baload, 1) (List.mem_of_getElem? (i := 8) rfl)) ⟨rfl, Or.inr rfl⟩ q0 hx ?_
  refine y_ifc (e_154 (15, .ifCond .ne 5, 3) (List.mem_of_getElem? (i := 9) rfl)) rfl (fun hc => ?_) (fun hc => ?_)
  rotate_left
  · have h0 : f x1.toInt.toNat = 0 := y_hI.2.2.2.1 hc
    refine out (fun z => ?_)
    obtain ⟨-, -, b, b1, x, b2, b3⟩ := z
    rw [e10] at b1
    cases b1
    rw [hx] at b2
    cases b2
    exact b3 h0
  have hne : f x1.toInt.toNat ≠ 0 := y_hI.2.2.1 hc
  obtain ⟨h, hh, eh, n6, n32, hb, hq⟩ := z_im q0 (by omega) H.1
  refine y_aln (e_154 (20, .aload_n 0, 1) (List.mem_of_getElem? (i := 12) rfl)) g0 ?_
  refine y_getf hI z_ty.1 (e_154 (21, .getfield 26, 3) (List.mem_of_getElem? (i := 13) rfl)) u_0_26 ⟨rfl, rfl⟩ H.1.2.1 ?_
  refine y_aln (e_154 (24, .aload_n 0, 1) (List.mem_of_getElem? (i := 14) rfl)) g0 ?_
  refine y_getf hI z_ty.1 (e_154 (25, .getfield 51, 3) (List.mem_of_getElem? (i := 15) rfl)) u_0_51 ⟨rfl, rfl⟩ H.1.2.2.2.2.1 ?_
  refine y_iln (e_154 (28, .iload_n 1, 1) (List.mem_of_getElem? (i := 16) rfl)) g1 ?_
  refine y_aald hI z_ty.2.2 (e_154 (29, .aaload, 1) (List.mem_of_getElem? (i := 17) rfl)) ⟨rfl, by decide⟩ ⟨q0, by show x1.toInt < 2; omega⟩ eh ?_
  refine y_c2 (K' := _) (e_154 (30, .invokevirtual 117, 3) (List.mem_of_getElem? (i := 18) rfl)) ⟨rfl, rfl, rfl⟩ t_0_117 ⟨by decide, by decide, by decide, by decide⟩ m_47_ok rfl (by decide) (y_recv hI (z_tp 6 (by decide)) ⟨rfl, rfl⟩) (Nat.le_of_ble_eq_true rfl) (Nat.le_of_ble_eq_true rfl) (k_copy2 (by omega) H.1 hI (by decide) hh (Ne.symm n6)) (fun r1 G2 h2 => ?_)
  obtain ⟨rfl, C, ef2⟩ := h2
  simp only [Option.toList_some, Option.toList_none, List.cons_append, List.nil_append]
  have hw : LV h (wi x1.toInt.toNat) G := by
    rcases hq with ⟨e, rfl⟩ | ⟨e, rfl⟩
    · rw [e]
      exact H.2.2.2.2.1
    · rw [e]
      exact H.2.2.2.2.2
  have h6 := hw.kd C
  refine sg_y154_go (th := th0) (d := d + 59) (by omega) (v := (y_v [((0 : Nat) : Int), (x1).toInt])) (G0 := G2) (G := G2) ⟨y_v_Bd (List.forall_mem_cons.mpr ⟨(y_cellB C.1 z_ty.1), (List.forall_mem_cons.mpr ⟨(x_i32 x1), (fun _ h => absurd h List.not_mem_nil)⟩)⟩), (List.forall_mem_cons.mpr ⟨(by simp only [xl_ev, xt_ev, y_v, List.getD_cons_succ, List.getD_cons_zero]; omega), (List.forall_mem_cons.mpr ⟨(by simp only [xl_ev, xt_ev, y_v, List.getD_cons_succ, List.getD_cons_zero]; omega), (fun _ h => absurd h List.not_mem_nil)⟩)⟩), (List.forall_mem_cons.mpr ⟨⟨_, g0, 0, rfl, (by simp only [xl_ev, xt_ev, y_v, List.getD_cons_succ, List.getD_cons_zero]; omega), z_ty.1⟩, (List.forall_mem_cons.mpr ⟨⟨_, g1, x1, rfl, (by simp only [xl_ev, xt_ev, y_v, List.getD_cons_succ, List.getD_cons_zero]; omega)⟩, (fun _ h => absurd h List.not_mem_nil)⟩)⟩), trivial, (fun _ h => absurd h List.not_mem_nil), C.1⟩ x_eff.rf (fun r G' hp => ?_) (fun n hn vn lv3 G3 hag3 hS3 hE3 => ?_)
  · obtain ⟨v', -, -, -, -, p, hp, -⟩ := hp
    exact absurd hp List.not_mem_nil
  obtain rfl : n = _ := List.mem_singleton.mp hn
  have z0 : vn 0 = ((0 : Nat) : Int) := hag3 0 (by decide)
  have a0 := hS3.loCe (i := 0) (t := 9) (l := ([(0, 1)], 0)) (a := 0) (List.mem_of_getElem? (i := 0) rfl) (by simp only [xl_ev, xt_ev]; omega)
  have hI3 := hS3.2.2.2.2.2
  refine y_aln (e_154 (46, .aload_n 0, 1) (List.mem_of_getElem? (i := 26) rfl)) a0 ?_
  refine y_st (e_154 (47, .iconst 0, 1) (List.mem_of_getElem? (i := 27) rfl)) ⟨rfl, rfl, rfl, rfl⟩ ?_
  refine y_putf (f := (0, 0, 8)) hI3 z_ty.1 (e_154 (48, .putfield 37, 3) (List.mem_of_getElem? (i := 28) rfl)) u_0_37 ⟨rfl, rfl, by decide, rfl, rfl⟩ ⟨_, rfl, by decide, by decide⟩ (fun G4 u4 => ?_)
  refine y_st (e_154 (51, .iconst 1, 1) (List.mem_of_getElem? (i := 29) rfl)) ⟨rfl, rfl, rfl, rfl⟩ ?_
  refine y_ret (e_154 (52, .ireturn, 1) (List.mem_of_getElem? (i := 30) rfl)) ⟨rfl, y_rb (Or.inr rfl)⟩ (Or.inl ⟨q0, by omega, ⟨ik, e10, _, hx, hne⟩, Int32.ofInt 0, ?_⟩)
  have ef4 : x_eff th0 [(9, 5, 5)] G3 G4 := x_eff.upd u4 z_ty.1 (q := (9, 5, 5)) (List.mem_singleton.mpr rfl) rfl (Nat.le_refl _) (Nat.le_refl _)
  obtain ⟨hp, -, h5, hk, i0, i1⟩ := H
  have E3 := fun {k : Nat} {w' : Nat → Nat → Option Value} (hk : k ∈ z_hs) (H : LV k w' G2) => (H.eff hk hE3 (by decide)).eff5 hk ef4
  refine ⟨((hp.eff ef2 (by decide)).eff hE3 (by decide)).eff ef4 (by decide), E3 (by decide) h6, by rw [u4.2.1, if_pos ⟨rfl, rfl⟩], fun j j8 => ?_, E3 (by decide) (i0.kc (by decide) (by decide) (by decide) C), E3 (by decide) (i1.kc (by decide) (by decide) (by decide) C)⟩
  obtain ⟨p, pp, e, -⟩ := hk j j8
  exact ⟨p, pp, (ef4.at z_ty.2.1 (y_outT5 (by decide) j)).trans ((hE3.at z_ty.2.1 (y_outT5 (by decide) j)).trans ((ef2.at z_ty.2.1 (y_outT5 (by decide) j)).trans e)), fun z => absurd z (by show ¬ (j : Int) < 0; omega)⟩
end Z8
