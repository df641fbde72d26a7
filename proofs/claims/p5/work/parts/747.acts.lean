theorem u_0_134 : pm_ftab.find? (fun r => r.1 == 0 && r.2.1 == 134) = some (0, 134, 0, 1, 1, 362) := by decide +kernel
theorem t_0_265 : pm_ctab.find? (fun r => r.1 == 0 && r.2.1 == 265) = some (0, 265, 1, 77, 813) := by decide +kernel
theorem t_0_280 : pm_ctab.find? (fun r => r.1 == 0 && r.2.1 == 280) = some (0, 280, 1, 97, 915) := by decide +kernel
theorem t_0_259 : pm_ctab.find? (fun r => r.1 == 0 && r.2.1 == 259) = some (0, 259, 1, 75, 805) := by decide +kernel
theorem t_0_262 : pm_ctab.find? (fun r => r.1 == 0 && r.2.1 == 262) = some (0, 262, 1, 76, 809) := by decide +kernel
theorem t_0_271 : pm_ctab.find? (fun r => r.1 == 0 && r.2.1 == 271) = some (0, 271, 1, 81, 831) := by decide +kernel
theorem t_0_274 : pm_ctab.find? (fun r => r.1 == 0 && r.2.1 == 274) = some (0, 274, 1, 94, 901) := by decide +kernel
theorem t_0_277 : pm_ctab.find? (fun r => r.1 == 0 && r.2.1 == 277) = some (0, 277, 1, 96, 911) := by decide +kernel
theorem t_0_283 : pm_ctab.find? (fun r => r.1 == 0 && r.2.1 == 283) = some (0, 283, 1, 99, 923) := by decide +kernel
def m_75 : pM := (⟨"BreathingHill$Thing", "beTied", "()I"⟩, 808, 1, some (FieldType.int), 6, 0, false, 8, 98, 806, 807)
set_option maxRecDepth 100000 in
theorem m_75_ok : pm_tab[75]? = some m_75 := rfl
theorem e_75 : ∀ q ∈ d_75, decode m_75.code q.1 = .ok (q.2.1, q.2.2) := y_dec d_75_ok m_75_ok
def m_76 : pM := (⟨"BreathingHill$Thing", "beLoosed", "()I"⟩, 812, 1, some (FieldType.int), 6, 0, false, 8, 98, 810, 811)
set_option maxRecDepth 100000 in
theorem m_76_ok : pm_tab[76]? = some m_76 := rfl
theorem e_76 : ∀ q ∈ d_76, decode m_76.code q.1 = .ok (q.2.1, q.2.2) := y_dec d_76_ok m_76_ok
def m_81 : pM := (⟨"BreathingHill$Hill", "walkMan", "(II)I"⟩, 834, 6, some (FieldType.int), 4, 2, false, 0, 96, 832, 833)
set_option maxRecDepth 100000 in
theorem m_81_ok : pm_tab[81]? = some m_81 := rfl
theorem e_81 : ∀ q ∈ d_81, decode m_81.code q.1 = .ok (q.2.1, q.2.2) := y_dec d_81_ok m_81_ok
def m_94 : pM := (⟨"BreathingHill$Hill", "coughOut", "()I"⟩, 904, 3, some (FieldType.int), 4, 0, false, 0, 96, 902, 903)
set_option maxRecDepth 100000 in
theorem m_94_ok : pm_tab[94]? = some m_94 := rfl
theorem e_94 : ∀ q ∈ d_94, decode m_94.code q.1 = .ok (q.2.1, q.2.2) := y_dec d_94_ok m_94_ok
def m_96 : pM := (⟨"BreathingHill$Hill", "passHours", "(I)I"⟩, 914, 3, some (FieldType.int), 4, 1, false, 0, 96, 912, 913)
set_option maxRecDepth 100000 in
theorem m_96_ok : pm_tab[96]? = some m_96 := rfl
theorem e_96 : ∀ q ∈ d_96, decode m_96.code q.1 = .ok (q.2.1, q.2.2) := y_dec d_96_ok m_96_ok
def m_99 : pM := (⟨"BreathingHill$Hill", "passDrawnHours", "(II)I"⟩, 926, 5, some (FieldType.int), 4, 2, false, 0, 96, 924, 925)
set_option maxRecDepth 100000 in
theorem m_99_ok : pm_tab[99]? = some m_99 := rfl
theorem e_99 : ∀ q ∈ d_99, decode m_99.code q.1 = .ok (q.2.1, q.2.2) := y_dec d_99_ok m_99_ok
section Z7
variable {xs : Nat → Int32} {L J d : Nat} {G : List pE} {w : Nat → Nat → Option Value} {wi : Nat → Nat → Nat → Option Value}
theorem z_elT {G : List pE} {a t u n i : Nat} (hI : xI x_tb th0 G) (ta : th0[a]? = some t) (e : (x_tb t).2.2.2 = [(n, (u + 10, 0, 0))]) (hi : i < n) : ∃ b : Nat, x_sl G a i = some (.ref b) ∧ th0[b]? = some u := y_fref hI ta (by rw [e]; exact y_one hi)
def sg_z79_ns : List xN := []
def sg_z79_os : List xN := [(14, [(0, (19, ([(0, 1)], 0))), (1, (0, ([(1, 1)], 0))), (2, (0, ([(2, 1)], 0)))], [], [], 3, [([], 0), ([], 0), ([], 0), ([], 0), ([], 0)])]
def sg_z79_g : xG := ([], [(0, (19, ([(0, 1)], 0))), (1, (0, ([(1, 1)], 0))), (2, (0, ([(2, 1)], 0)))], [], [], 3)
def sg_z79_ps : List xP := [(some (0, ([(3, 1)], 0)), [], [])]
set_option maxRecDepth 100000 in
set_option maxHeartbeats 4000000 in
theorem sg_z79_ok : x_seg x_tb [c_48] m_79 d_79 [] 3 sg_z79_ps sg_z79_ns sg_z79_os 17 false 0 sg_z79_g = true := by decide +kernel
set_option maxRecDepth 100000 in
theorem sg_z79_go {th : List Nat} {xs : Nat → Int32} {L J d : Nat} {K : Option Value → List pE → Prop} (hd : 49 ≤ d) {v : Nat → Int} {lv : pL} {ws : List Value} {G0 G : List pE} (hS : x_S x_tb th v sg_z79_g lv ws G) (hE : x_eff th [] G0 G) (hK : ∀ r G', x_Post x_tb th [] sg_z79_ps 3 v G0 r G' → K r G') (hO : ∀ n ∈ sg_z79_os, ∀ (vn : Nat → Int) (lv : pL) (G1 : List pE), x_ag 3 v vn → x_S x_tb th vn (n.2.2.2.1, n.2.1, [], n.2.2.1, n.2.2.2.2.1) lv [] G1 → x_eff th [] G0 G1 → x_Gd xs L J (d + 1) m_79 K n.1 lv [] G1) : x_Gd xs L J (d + 1) m_79 K 0 lv ws G :=
  x_seg_ok (dm := 49) x_tb_wf ⟨rfl, rfl, rfl⟩ e_79 (List.forall_mem_cons.mpr ⟨(h_48 th xs L J).mono (by omega), fun _ h => absurd h List.not_mem_nil⟩) hd sg_z79_ok hS hE (fun z => by cases z) hK hO
set_option maxHeartbeats 2000000 in
set_option maxRecDepth 100000 in
theorem zb_walk (hd : 318 ≤ d) (H : ZX w wi G) (hI : xI x_tb th0 G) (x1 x2 : Int32) : x_Gd xs L J d m_79 (fun r G' => ZX w wi G') 0 (lv_args 0 [.ref 0, .int x1, .int x2]) [] G := by
  obtain ⟨pc, H⟩ := H
  obtain ⟨d, rfl⟩ : ∃ k, d = k + 60 := ⟨d - 60, by omega⟩
  refine sg_z79_go (th := th0) (d := d + 59) (by omega) (v := (y_v [((0 : Nat) : Int), (x1).toInt, (x2).toInt])) (G0 := G) (G := G) ⟨y_v_Bd (List.forall_mem_cons.mpr ⟨(y_cellB hI z_ty.1), (List.forall_mem_cons.mpr ⟨(x_i32 x1), (List.forall_mem_cons.mpr ⟨(x_i32 x2), (fun _ h => absurd h List.not_mem_nil)⟩)⟩)⟩), (fun _ h => absurd h List.not_mem_nil), (List.forall_mem_cons.mpr ⟨⟨_, rfl, 0, rfl, (by simp only [xl_ev, xt_ev, y_v, List.getD_cons_succ, List.getD_cons_zero]; omega), z_ty.1⟩, (List.forall_mem_cons.mpr ⟨⟨_, rfl, x1, rfl, (by simp only [xl_ev, xt_ev, y_v, List.getD_cons_succ, List.getD_cons_zero]; omega)⟩, (List.forall_mem_cons.mpr ⟨⟨_, rfl, x2, rfl, (by simp only [xl_ev, xt_ev, y_v, List.getD_cons_succ, List.getD_cons_zero]; omega)⟩, (fun _ h => absurd h List.not_mem_nil)⟩)⟩)⟩), trivial, (fun _ h => absurd h List.not_mem_nil), hI⟩ x_eff.rf (fun r G' hp => ?_) (fun n hn vn lv1 G1 hag hS1 hE1 => ?_)
  · obtain ⟨v', -, -, -, ef, -⟩ := hp
    exact ⟨pc, H.eff ef (by decide)⟩
  obtain rfl : n = _ := List.mem_singleton.mp hn
  have z0 : vn 0 = ((0 : Nat) : Int) := hag 0 (by decide)
  have z1 : vn 1 = x1.toInt := hag 1 (by decide)
  have z2 : vn 2 = x2.toInt := hag 2 (by decide)
  have g0 := hS1.loCe (i := 0) (t := 9) (l := ([(0, 1)], 0)) (a := 0) (List.mem_of_getElem? (i := 0) rfl) (by simp only [xl_ev, xt_ev]; omega)
  have g1 := hS1.lo0e (i := 1) (l := ([(1, 1)], 0)) (x := x1) (List.mem_of_getElem? (i := 1) rfl) (by simp only [xl_ev, xt_ev]; omega)
  have g2 := hS1.lo0e (i := 2) (l := ([(2, 1)], 0)) (x := x2) (List.mem_of_getElem? (i := 2) rfl) (by simp only [xl_ev, xt_ev]; omega)
  have hI1 := hS1.2.2.2.2.2
  have H1 := H.eff hE1 (by decide)
  refine y_aln (e_79 (14, .aload_n 0, 1) (List.mem_of_getElem? (i := 8) rfl)) g0 ?_
  refine y_getf hI1 z_ty.1 (e_79 (15, .getfield 30, 3) (List.mem_of_getElem? (i := 9) rfl)) u_0_30 ⟨rfl, rfl⟩ H1.1.2.2.1 ?_
  refine y_aln (e_79 (18, .aload_n 0, 1) (List.mem_of_getElem? (i := 10) rfl)) g0 ?_
  refine y_getf hI1 z_ty.1 (e_79 (19, .getfield 26, 3) (List.mem_of_getElem? (i := 11) rfl)) u_0_26 ⟨rfl, rfl⟩ H1.1.2.1 ?_
  refine y_c2 (K' := _) (e_79 (22, .invokevirtual 117, 3) (List.mem_of_getElem? (i := 12) rfl)) ⟨rfl, rfl, rfl⟩ t_0_117 ⟨by decide, by decide, by decide, by decide⟩ m_47_ok rfl (by decide) (y_recv hI1 (z_tp 32 (by decide)) ⟨rfl, rfl⟩) (Nat.le_of_ble_eq_true rfl) (Nat.le_of_ble_eq_true rfl) (k_copy2 (by omega) H1.1 hI1 (by decide) (by decide) (by decide)) (fun r1 G2 h1 => ?_)
  obtain ⟨rfl, C, ef2⟩ := h1
  simp only [Option.toList_some, Option.toList_none, List.cons_append, List.nil_append]
  obtain ⟨H2, hw2⟩ := H1.copy (by decide) (by decide) (by decide) (by decide) H1.2.1 C ef2
  refine y_aln (e_79 (25, .aload_n 0, 1) (List.mem_of_getElem? (i := 13) rfl)) g0 ?_
  refine y_aln (e_79 (26, .aload_n 0, 1) (List.mem_of_getElem? (i := 14) rfl)) g0 ?_
  refine y_getf C.1 z_ty.1 (e_79 (27, .getfield 26, 3) (List.mem_of_getElem? (i := 15) rfl)) u_0_26 ⟨rfl, rfl⟩ H2.1.2.1 ?_
  refine y_iln (e_79 (30, .iload_n 1, 1) (List.mem_of_getElem? (i := 16) rfl)) g1 ?_
  refine y_iln (e_79 (31, .iload_n 2, 1) (List.mem_of_getElem? (i := 17) rfl)) g2 ?_
  refine y_c3 (K' := _) (e_79 (32, .invokevirtual 271, 3) (List.mem_of_getElem? (i := 18) rfl)) ⟨rfl, rfl, rfl⟩ t_0_271 ⟨by decide, by decide, by decide, by decide⟩ m_81_ok rfl (by decide) (y_recv C.1 (z_tp 6 (by decide)) ⟨rfl, rfl⟩) (Nat.le_of_ble_eq_true rfl) (Nat.le_of_ble_eq_true rfl) ((h_58 th0 xs L J).gd (d := d + 59) m_81_ok (by omega) (v := (y_v [((6 : Nat) : Int), (x1).toInt, (x2).toInt])) (as := [.ref 6, .int x1, .int x2]) (y_v_Bd (List.forall_mem_cons.mpr ⟨(y_cellB C.1 (z_tp 6 (by decide))), (List.forall_mem_cons.mpr ⟨(x_i32 x1), (List.forall_mem_cons.mpr ⟨(x_i32 x2), (fun _ h => absurd h List.not_mem_nil)⟩)⟩)⟩)) (fun _ h => absurd h List.not_mem_nil) ⟨⟨6, rfl, (by simp only [xl_ev, xt_ev, y_v, List.getD_cons_succ, List.getD_cons_zero]; omega), (z_tp 6 (by decide))⟩, ⟨x1, rfl, (by simp only [xl_ev, xt_ev, y_v, List.getD_cons_succ, List.getD_cons_zero]; omega)⟩, ⟨x2, rfl, (by simp only [xl_ev, xt_ev, y_v, List.getD_cons_succ, List.getD_cons_zero]; omega)⟩, trivial⟩ (fun q hq => absurd hq List.not_mem_nil) C.1 (fun z => by cases z)) (fun rG3 G3 h3 => ?_)
  obtain ⟨v', -, -, hI3, ef3, p3, hp3, -, -, pa⟩ := h3
  obtain rfl : p3 = _ := List.mem_singleton.mp hp3
  obtain ⟨y3, rfl, -⟩ := y_pI pa
  simp only [Option.toList_some, Option.toList_none, List.cons_append, List.nil_append]
  have H3 := H2.eff ef3 (by decide)
  have hw3 := hw2.eff (by decide) ef3 (by decide)
  refine y_c2 (K' := _) (e_79 (35, .invokevirtual 265, 3) (List.mem_of_getElem? (i := 19) rfl)) ⟨rfl, rfl, rfl⟩ t_0_265 ⟨by decide, by decide, by decide, by decide⟩ m_77_ok rfl (by decide) (y_recv hI3 z_ty.1 ⟨rfl, rfl⟩) (Nat.le_of_ble_eq_true rfl) (Nat.le_of_ble_eq_true rfl) (k_done (d := d + 56) (by omega) H3 hI3 hw3) (fun r9 G9 h9 => ?_)
  obtain ⟨⟨y9, rfl⟩, hI9, H9⟩ := h9
  simp only [Option.toList_some, Option.toList_none, List.cons_append, List.nil_append]
  exact y_ret (e_79 (38, .ireturn, 1) (List.mem_of_getElem? (i := 20) rfl)) ⟨rfl, y_ri⟩ H9
set_option maxHeartbeats 2000000 in
set_option maxRecDepth 100000 in
theorem zb_cough (hd : 318 ≤ d) (H : ZX w wi G) (hI : xI x_tb th0 G)  : x_Gd xs L J d m_93 (fun r G' => ZX w wi G') 0 (lv_args 0 [.ref 0]) [] G := by
  obtain ⟨pc, H1⟩ := H
  obtain ⟨d, rfl⟩ : ∃ k, d = k + 60 := ⟨d - 60, by omega⟩
  have hI1 := hI
  have g0 : pm_get (lv_args 0 [.ref 0]) 0 = some (.ref 0) := rfl
  generalize lv_args 0 [.ref 0] = lv1 at g0  ⊢
  refine y_aln (e_93 (0, .aload_n 0, 1) (List.mem_of_getElem? (i := 0) rfl)) g0 ?_
  refine y_getf hI1 z_ty.1 (e_93 (1, .getfield 30, 3) (List.mem_of_getElem? (i := 1) rfl)) u_0_30 ⟨rfl, rfl⟩ H1.1.2.2.1 ?_
  refine y_aln (e_93 (4, .aload_n 0, 1) (List.mem_of_getElem? (i := 2) rfl)) g0 ?_
  refine y_getf hI1 z_ty.1 (e_93 (5, .getfield 26, 3) (List.mem_of_getElem? (i := 3) rfl)) u_0_26 ⟨rfl, rfl⟩ H1.1.2.1 ?_
  refine y_c2 (K' := _) (e_93 (8, .invokevirtual 117, 3) (List.mem_of_getElem? (i := 4) rfl)) ⟨rfl, rfl, rfl⟩ t_0_117 ⟨by decide, by decide, by decide, by decide⟩ m_47_ok rfl (by decide) (y_recv hI1 (z_tp 32 (by decide)) ⟨rfl, rfl⟩) (Nat.le_of_ble_eq_true rfl) (Nat.le_of_ble_eq_true rfl) (k_copy2 (by omega) H1.1 hI1 (by decide) (by decide) (by decide)) (fun r1 G2 h1 => ?_)
  obtain ⟨rfl, C, ef2⟩ := h1
  simp only [Option.toList_some, Option.toList_none, List.cons_append, List.nil_append]
  obtain ⟨H2, hw2⟩ := H1.copy (by decide) (by decide) (by decide) (by decide) H1.2.1 C ef2
  refine y_aln (e_93 (11, .aload_n 0, 1) (List.mem_of_getElem? (i := 5) rfl)) g0 ?_
  refine y_aln (e_93 (12, .aload_n 0, 1) (List.mem_of_getElem? (i := 6) rfl)) g0 ?_
  refine y_getf C.1 z_ty.1 (e_93 (13, .getfield 26, 3) (List.mem_of_getElem? (i := 7) rfl)) u_0_26 ⟨rfl, rfl⟩ H2.1.2.1 ?_
  refine y_c1 (K' := _) (e_93 (16, .invokevirtual 274, 3) (List.mem_of_getElem? (i := 8) rfl)) ⟨rfl, rfl, rfl⟩ t_0_274 ⟨by decide, by decide, by decide, by decide⟩ m_94_ok rfl (by decide) (y_recv C.1 (z_tp 6 (by decide)) ⟨rfl, rfl⟩) (Nat.le_of_ble_eq_true rfl) (Nat.le_of_ble_eq_true rfl) ((h_59 th0 xs L J).gd (d := d + 59) m_94_ok (by omega) (v := (y_v [((6 : Nat) : Int)])) (as := [.ref 6]) (y_v_Bd (List.forall_mem_cons.mpr ⟨(y_cellB C.1 (z_tp 6 (by decide))), (fun _ h => absurd h List.not_mem_nil)⟩)) (fun _ h => absurd h List.not_mem_nil) ⟨⟨6, rfl, (by simp only [xl_ev, xt_ev, y_v, List.getD_cons_succ, List.getD_cons_zero]; omega), (z_tp 6 (by decide))⟩, trivial⟩ (fun q hq => absurd hq List.not_mem_nil) C.1 (fun z => by cases z)) (fun rG3 G3 h3 => ?_)
  obtain ⟨v', -, -, hI3, ef3, p3, hp3, -, -, pa⟩ := h3
  obtain rfl : p3 = _ := List.mem_singleton.mp hp3
  obtain ⟨y3, rfl, -⟩ := y_pI pa
  simp only [Option.toList_some, Option.toList_none, List.cons_append, List.nil_append]
  have H3 := H2.eff ef3 (by decide)
  have hw3 := hw2.eff (by decide) ef3 (by decide)
  refine y_c2 (K' := _) (e_93 (19, .invokevirtual 265, 3) (List.mem_of_getElem? (i := 9) rfl)) ⟨rfl, rfl, rfl⟩ t_0_265 ⟨by decide, by decide, by decide, by decide⟩ m_77_ok rfl (by decide) (y_recv hI3 z_ty.1 ⟨rfl, rfl⟩) (Nat.le_of_ble_eq_true rfl) (Nat.le_of_ble_eq_true rfl) (k_done (d := d + 56) (by omega) H3 hI3 hw3) (fun r9 G9 h9 => ?_)
  obtain ⟨⟨y9, rfl⟩, hI9, H9⟩ := h9
  simp only [Option.toList_some, Option.toList_none, List.cons_append, List.nil_append]
  exact y_ret (e_93 (22, .ireturn, 1) (List.mem_of_getElem? (i := 10) rfl)) ⟨rfl, y_ri⟩ H9
def sg_z95_ns : List xN := []
def sg_z95_os : List xN := [(13, [(0, (19, ([(0, 1)], 0))), (1, (0, ([(1, 1)], 0)))], [], [], 2, [([], 0), ([], 0), ([], 0), ([], 0), ([], 0)])]
def sg_z95_g : xG := ([], [(0, (19, ([(0, 1)], 0))), (1, (0, ([(1, 1)], 0)))], [], [], 2)
def sg_z95_ps : List xP := [(some (0, ([(2, 1)], 0)), [], [])]
set_option maxRecDepth 100000 in
set_option maxHeartbeats 4000000 in
theorem sg_z95_ok : x_seg x_tb [] m_95 d_95 [] 2 sg_z95_ps sg_z95_ns sg_z95_os 17 false 0 sg_z95_g = true := by decide +kernel
set_option maxRecDepth 100000 in
theorem sg_z95_go {th : List Nat} {xs : Nat → Int32} {L J d : Nat} {K : Option Value → List pE → Prop} (hd : 0 ≤ d) {v : Nat → Int} {lv : pL} {ws : List Value} {G0 G : List pE} (hS : x_S x_tb th v sg_z95_g lv ws G) (hE : x_eff th [] G0 G) (hK : ∀ r G', x_Post x_tb th [] sg_z95_ps 2 v G0 r G' → K r G') (hO : ∀ n ∈ sg_z95_os, ∀ (vn : Nat → Int) (lv : pL) (G1 : List pE), x_ag 2 v vn → x_S x_tb th vn (n.2.2.2.1, n.2.1, [], n.2.2.1, n.2.2.2.2.1) lv [] G1 → x_eff th [] G0 G1 → x_Gd xs L J (d + 1) m_95 K n.1 lv [] G1) : x_Gd xs L J (d + 1) m_95 K 0 lv ws G :=
  x_seg_ok (dm := 0) x_tb_wf ⟨rfl, rfl, rfl⟩ e_95 (fun _ h => absurd h List.not_mem_nil) hd sg_z95_ok hS hE (fun z => by cases z) hK hO
set_option maxHeartbeats 2000000 in
set_option maxRecDepth 100000 in
theorem zb_hours (hd : 318 ≤ d) (H : ZX w wi G) (hI : xI x_tb th0 G) (x1 : Int32) : x_Gd xs L J d m_95 (fun r G' => ZX w wi G') 0 (lv_args 0 [.ref 0, .int x1]) [] G := by
  obtain ⟨pc, H⟩ := H
  obtain ⟨d, rfl⟩ : ∃ k, d = k + 60 := ⟨d - 60, by omega⟩
  refine sg_z95_go (th := th0) (d := d + 59) (by omega) (v := (y_v [((0 : Nat) : Int), (x1).toInt])) (G0 := G) (G := G) ⟨y_v_Bd (List.forall_mem_cons.mpr ⟨(y_cellB hI z_ty.1), (List.forall_mem_cons.mpr ⟨(x_i32 x1), (fun _ h => absurd h List.not_mem_nil)⟩)⟩), (fun _ h => absurd h List.not_mem_nil), (List.forall_mem_cons.mpr ⟨⟨_, rfl, 0, rfl, (by simp only [xl_ev, xt_ev, y_v, List.getD_cons_succ, List.getD_cons_zero]; omega), z_ty.1⟩, (List.forall_mem_cons.mpr ⟨⟨_, rfl, x1, rfl, (by simp only [xl_ev, xt_ev, y_v, List.getD_cons_succ, List.getD_cons_zero]; omega)⟩, (fun _ h => absurd h List.not_mem_nil)⟩)⟩), trivial, (fun _ h => absurd h List.not_mem_nil), hI⟩ x_eff.rf (fun r G' hp => ?_) (fun n hn vn lv1 G1 hag hS1 hE1 => ?_)
  · obtain ⟨v', -, -, -, ef, -⟩ := hp
    exact ⟨pc, H.eff ef (by decide)⟩
  obtain rfl : n = _ := List.mem_singleton.mp hn
  have z0 : vn 0 = ((0 : Nat) : Int) := hag 0 (by decide)
  have z1 : vn 1 = x1.toInt := hag 1 (by decide)
  have g0 := hS1.loCe (i := 0) (t := 9) (l := ([(0, 1)], 0)) (a := 0) (List.mem_of_getElem? (i := 0) rfl) (by simp only [xl_ev, xt_ev]; omega)
  have g1 := hS1.lo0e (i := 1) (l := ([(1, 1)], 0)) (x := x1) (List.mem_of_getElem? (i := 1) rfl) (by simp only [xl_ev, xt_ev]; omega)
  have hI1 := hS1.2.2.2.2.2
  have H1 := H.eff hE1 (by decide)
  refine y_aln (e_95 (13, .aload_n 0, 1) (List.mem_of_getElem? (i := 8) rfl)) g0 ?_
  refine y_getf hI1 z_ty.1 (e_95 (14, .getfield 30, 3) (List.mem_of_getElem? (i := 9) rfl)) u_0_30 ⟨rfl, rfl⟩ H1.1.2.2.1 ?_
  refine y_aln (e_95 (17, .aload_n 0, 1) (List.mem_of_getElem? (i := 10) rfl)) g0 ?_
  refine y_getf hI1 z_ty.1 (e_95 (18, .getfield 26, 3) (List.mem_of_getElem? (i := 11) rfl)) u_0_26 ⟨rfl, rfl⟩ H1.1.2.1 ?_
  refine y_c2 (K' := _) (e_95 (21, .invokevirtual 117, 3) (List.mem_of_getElem? (i := 12) rfl)) ⟨rfl, rfl, rfl⟩ t_0_117 ⟨by decide, by decide, by decide, by decide⟩ m_47_ok rfl (by decide) (y_recv hI1 (z_tp 32 (by decide)) ⟨rfl, rfl⟩) (Nat.le_of_ble_eq_true rfl) (Nat.le_of_ble_eq_true rfl) (k_copy2 (by omega) H1.1 hI1 (by decide) (by decide) (by decide)) (fun r1 G2 h1 => ?_)
  obtain ⟨rfl, C, ef2⟩ := h1
  simp only [Option.toList_some, Option.toList_none, List.cons_append, List.nil_append]
  obtain ⟨H2, hw2⟩ := H1.copy (by decide) (by decide) (by decide) (by decide) H1.2.1 C ef2
  refine y_aln (e_95 (24, .aload_n 0, 1) (List.mem_of_getElem? (i := 13) rfl)) g0 ?_
  refine y_aln (e_95 (25, .aload_n 0, 1) (List.mem_of_getElem? (i := 14) rfl)) g0 ?_
  refine y_getf C.1 z_ty.1 (e_95 (26, .getfield 26, 3) (List.mem_of_getElem? (i := 15) rfl)) u_0_26 ⟨rfl, rfl⟩ H2.1.2.1 ?_
  refine y_iln (e_95 (29, .iload_n 1, 1) (List.mem_of_getElem? (i := 16) rfl)) g1 ?_
  refine y_c2 (K' := _) (e_95 (30, .invokevirtual 277, 3) (List.mem_of_getElem? (i := 17) rfl)) ⟨rfl, rfl, rfl⟩ t_0_277 ⟨by decide, by decide, by decide, by decide⟩ m_96_ok rfl (by decide) (y_recv C.1 (z_tp 6 (by decide)) ⟨rfl, rfl⟩) (Nat.le_of_ble_eq_true rfl) (Nat.le_of_ble_eq_true rfl) ((h_57 th0 xs L J).gd (d := d + 59) m_96_ok (by omega) (v := (y_v [((6 : Nat) : Int), (x1).toInt])) (as := [.ref 6, .int x1]) (y_v_Bd (List.forall_mem_cons.mpr ⟨(y_cellB C.1 (z_tp 6 (by decide))), (List.forall_mem_cons.mpr ⟨(x_i32 x1), (fun _ h => absurd h List.not_mem_nil)⟩)⟩)) (fun _ h => absurd h List.not_mem_nil) ⟨⟨6, rfl, (by simp only [xl_ev, xt_ev, y_v, List.getD_cons_succ, List.getD_cons_zero]; omega), (z_tp 6 (by decide))⟩, ⟨x1, rfl, (by simp only [xl_ev, xt_ev, y_v, List.getD_cons_succ, List.getD_cons_zero]; omega)⟩, trivial⟩ (fun q hq => absurd hq List.not_mem_nil) C.1 (fun z => by cases z)) (fun rG3 G3 h3 => ?_)
  obtain ⟨v', -, -, hI3, ef3, p3, hp3, -, -, pa⟩ := h3
  obtain rfl : p3 = _ := List.mem_singleton.mp hp3
  obtain ⟨y3, rfl, -⟩ := y_pI pa
  simp only [Option.toList_some, Option.toList_none, List.cons_append, List.nil_append]
  have H3 := H2.eff ef3 (by decide)
  have hw3 := hw2.eff (by decide) ef3 (by decide)
  refine y_c2 (K' := _) (e_95 (33, .invokevirtual 280, 3) (List.mem_of_getElem? (i := 18) rfl)) ⟨rfl, rfl, rfl⟩ t_0_280 ⟨by decide, by decide, by decide, by decide⟩ m_97_ok rfl (by decide) (y_recv hI3 z_ty.1 ⟨rfl, rfl⟩) (Nat.le_of_ble_eq_true rfl) (Nat.le_of_ble_eq_true rfl) (k_gone (d := d + 56) (by omega) H3 hI3 hw3) (fun r9 G9 h9 => ?_)
  obtain ⟨⟨y9, rfl⟩, hI9, H9⟩ := h9
  simp only [Option.toList_some, Option.toList_none, List.cons_append, List.nil_append]
  exact y_ret (e_95 (36, .ireturn, 1) (List.mem_of_getElem? (i := 19) rfl)) ⟨rfl, y_ri⟩ H9
def sg_z98_ns : List xN := []
def sg_z98_os : List xN := [(23, [(0, (19, ([(0, 1)], 0))), (1, (0, ([(1, 1)], 0))), (2, (0, ([(2, 1)], 0)))], [], [], 3, [([], 0), ([], 0), ([], 0), ([], 0), ([], 0)])]
def sg_z98_g : xG := ([], [(0, (19, ([(0, 1)], 0))), (1, (0, ([(1, 1)], 0))), (2, (0, ([(2, 1)], 0)))], [], [], 3)
def sg_z98_ps : List xP := [(some (0, ([(3, 1)], 0)), [], [])]
set_option maxRecDepth 100000 in
set_option maxHeartbeats 4000000 in
theorem sg_z98_ok : x_seg x_tb [] m_98 d_98 [] 3 sg_z98_ps sg_z98_ns sg_z98_os 21 false 0 sg_z98_g = true := by decide +kernel
set_option maxRecDepth 100000 in
theorem sg_z98_go {th : List Nat} {xs : Nat → Int32} {L J d : Nat} {K : Option Value → List pE → Prop} (hd : 0 ≤ d) {v : Nat → Int} {lv : pL} {ws : List Value} {G0 G : List pE} (hS : x_S x_tb th v sg_z98_g lv ws G) (hE : x_eff th [] G0 G) (hK : ∀ r G', x_Post x_tb th [] sg_z98_ps 3 v G0 r G' → K r G') (hO : ∀ n ∈ sg_z98_os, ∀ (vn : Nat → Int) (lv : pL) (G1 : List pE), x_ag 3 v vn → x_S x_tb th vn (n.2.2.2.1, n.2.1, [], n.2.2.1, n.2.2.2.2.1) lv [] G1 → x_eff th [] G0 G1 → x_Gd xs L J (d + 1) m_98 K n.1 lv [] G1) : x_Gd xs L J (d + 1) m_98 K 0 lv ws G :=
  x_seg_ok (dm := 0) x_tb_wf ⟨rfl, rfl, rfl⟩ e_98 (fun _ h => absurd h List.not_mem_nil) hd sg_z98_ok hS hE (fun z => by cases z) hK hO
set_option maxHeartbeats 2000000 in
set_option maxRecDepth 100000 in
theorem zb_drawn (hd : 318 ≤ d) (H : ZX w wi G) (hI : xI x_tb th0 G) (x1 x2 : Int32) : x_Gd xs L J d m_98 (fun r G' => ZX w wi G') 0 (lv_args 0 [.ref 0, .int x1, .int x2]) [] G := by
  obtain ⟨pc, H⟩ := H
  obtain ⟨d, rfl⟩ : ∃ k, d = k + 60 := ⟨d - 60, by omega⟩
  refine sg_z98_go (th := th0) (d := d + 59) (by omega) (v := (y_v [((0 : Nat) : Int), (x1).toInt, (x2).toInt])) (G0 := G) (G := G) ⟨y_v_Bd (List.forall_mem_cons.mpr ⟨(y_cellB hI z_ty.1), (List.forall_mem_cons.mpr ⟨(x_i32 x1), (List.forall_mem_cons.mpr ⟨(x_i32 x2), (fun _ h => absurd h List.not_mem_nil)⟩)⟩)⟩), (fun _ h => absurd h List.not_mem_nil), (List.forall_mem_cons.mpr ⟨⟨_, rfl, 0, rfl, (by simp only [xl_ev, xt_ev, y_v, List.getD_cons_succ, List.getD_cons_zero]; omega), z_ty.1⟩, (List.forall_mem_cons.mpr ⟨⟨_, rfl, x1, rfl, (by simp only [xl_ev, xt_ev, y_v, List.getD_cons_succ, List.getD_cons_zero]; omega)⟩, (List.forall_mem_cons.mpr ⟨⟨_, rfl, x2, rfl, (by simp only [xl_ev, xt_ev, y_v, List.getD_cons_succ, List.getD_cons_zero]; omega)⟩, (fun _ h => absurd h List.not_mem_nil)⟩)⟩)⟩), trivial, (fun _ h => absurd h List.not_mem_nil), hI⟩ x_eff.rf (fun r G' hp => ?_) (fun n hn vn lv1 G1 hag hS1 hE1 => ?_)
  · obtain ⟨v', -, -, -, ef, -⟩ := hp
    exact ⟨pc, H.eff ef (by decide)⟩
  obtain rfl : n = _ := List.mem_singleton.mp hn
  have z0 : vn 0 = ((0 : Nat) : Int) := hag 0 (by decide)
  have z1 : vn 1 = x1.toInt := hag 1 (by decide)
  have z2 : vn 2 = x2.toInt := hag 2 (by decide)
  have g0 := hS1.loCe (i := 0) (t := 9) (l := ([(0, 1)], 0)) (a := 0) (List.mem_of_getElem? (i := 0) rfl) (by simp only [xl_ev, xt_ev]; omega)
  have g1 := hS1.lo0e (i := 1) (l := ([(1, 1)], 0)) (x := x1) (List.mem_of_getElem? (i := 1) rfl) (by simp only [xl_ev, xt_ev]; omega)
  have g2 := hS1.lo0e (i := 2) (l := ([(2, 1)], 0)) (x := x2) (List.mem_of_getElem? (i := 2) rfl) (by simp only [xl_ev, xt_ev]; omega)
  have hI1 := hS1.2.2.2.2.2
  have H1 := H.eff hE1 (by decide)
  refine y_aln (e_98 (23, .aload_n 0, 1) (List.mem_of_getElem? (i := 12) rfl)) g0 ?_
  refine y_getf hI1 z_ty.1 (e_98 (24, .getfield 30, 3) (List.mem_of_getElem? (i := 13) rfl)) u_0_30 ⟨rfl, rfl⟩ H1.1.2.2.1 ?_
  refine y_aln (e_98 (27, .aload_n 0, 1) (List.mem_of_getElem? (i := 14) rfl)) g0 ?_
  refine y_getf hI1 z_ty.1 (e_98 (28, .getfield 26, 3) (List.mem_of_getElem? (i := 15) rfl)) u_0_26 ⟨rfl, rfl⟩ H1.1.2.1 ?_
  refine y_c2 (K' := _) (e_98 (31, .invokevirtual 117, 3) (List.mem_of_getElem? (i := 16) rfl)) ⟨rfl, rfl, rfl⟩ t_0_117 ⟨by decide, by decide, by decide, by decide⟩ m_47_ok rfl (by decide) (y_recv hI1 (z_tp 32 (by decide)) ⟨rfl, rfl⟩) (Nat.le_of_ble_eq_true rfl) (Nat.le_of_ble_eq_true rfl) (k_copy2 (by omega) H1.1 hI1 (by decide) (by decide) (by decide)) (fun r1 G2 h1 => ?_)
  obtain ⟨rfl, C, ef2⟩ := h1
  simp only [Option.toList_some, Option.toList_none, List.cons_append, List.nil_append]
  obtain ⟨H2, hw2⟩ := H1.copy (by decide) (by decide) (by decide) (by decide) H1.2.1 C ef2
  refine y_aln (e_98 (34, .aload_n 0, 1) (List.mem_of_getElem? (i := 17) rfl)) g0 ?_
  refine y_aln (e_98 (35, .aload_n 0, 1) (List.mem_of_getElem? (i := 18) rfl)) g0 ?_
  refine y_getf C.1 z_ty.1 (e_98 (36, .getfield 26, 3) (List.mem_of_getElem? (i := 19) rfl)) u_0_26 ⟨rfl, rfl⟩ H2.1.2.1 ?_
  refine y_iln (e_98 (39, .iload_n 1, 1) (List.mem_of_getElem? (i := 20) rfl)) g1 ?_
  refine y_iln (e_98 (40, .iload_n 2, 1) (List.mem_of_getElem? (i := 21) rfl)) g2 ?_
  refine y_c3 (K' := _) (e_98 (41, .invokevirtual 283, 3) (List.mem_of_getElem? (i := 22) rfl)) ⟨rfl, rfl, rfl⟩ t_0_283 ⟨by decide, by decide, by decide, by decide⟩ m_99_ok rfl (by decide) (y_recv C.1 (z_tp 6 (by decide)) ⟨rfl, rfl⟩) (Nat.le_of_ble_eq_true rfl) (Nat.le_of_ble_eq_true rfl) ((h_63 th0 xs L J).gd (d := d + 59) m_99_ok (by omega) (v := (y_v [((6 : Nat) : Int), (x1).toInt, (x2).toInt])) (as := [.ref 6, .int x1, .int x2]) (y_v_Bd (List.forall_mem_cons.mpr ⟨(y_cellB C.1 (z_tp 6 (by decide))), (List.forall_mem_cons.mpr ⟨(x_i32 x1), (List.forall_mem_cons.mpr ⟨(x_i32 x2), (fun _ h => absurd h List.not_mem_nil)⟩)⟩)⟩)) (fun _ h => absurd h List.not_mem_nil) ⟨⟨6, rfl, (by simp only [xl_ev, xt_ev, y_v, List.getD_cons_succ, List.getD_cons_zero]; omega), (z_tp 6 (by decide))⟩, ⟨x1, rfl, (by simp only [xl_ev, xt_ev, y_v, List.getD_cons_succ, List.getD_cons_zero]; omega)⟩, ⟨x2, rfl, (by simp only [xl_ev, xt_ev, y_v, List.getD_cons_succ, List.getD_cons_zero]; omega)⟩, trivial⟩ (fun q hq => absurd hq List.not_mem_nil) C.1 (fun z => by cases z)) (fun rG3 G3 h3 => ?_)
  obtain ⟨v', -, -, hI3, ef3, p3, hp3, -, -, pa⟩ := h3
  obtain rfl : p3 = _ := List.mem_singleton.mp hp3
  obtain ⟨y3, rfl, -⟩ := y_pI pa
  simp only [Option.toList_some, Option.toList_none, List.cons_append, List.nil_append]
  have H3 := H2.eff ef3 (by decide)
  have hw3 := hw2.eff (by decide) ef3 (by decide)
  refine y_c2 (K' := _) (e_98 (44, .invokevirtual 280, 3) (List.mem_of_getElem? (i := 23) rfl)) ⟨rfl, rfl, rfl⟩ t_0_280 ⟨by decide, by decide, by decide, by decide⟩ m_97_ok rfl (by decide) (y_recv hI3 z_ty.1 ⟨rfl, rfl⟩) (Nat.le_of_ble_eq_true rfl) (Nat.le_of_ble_eq_true rfl) (k_gone (d := d + 56) (by omega) H3 hI3 hw3) (fun r9 G9 h9 => ?_)
  obtain ⟨⟨y9, rfl⟩, hI9, H9⟩ := h9
  simp only [Option.toList_some, Option.toList_none, List.cons_append, List.nil_append]
  exact y_ret (e_98 (47, .ireturn, 1) (List.mem_of_getElem? (i := 24) rfl)) ⟨rfl, y_ri⟩ H9
def sg_z73_ns : List xN := []
def sg_z73_os : List xN := [(22, [(0, (19, ([(0, 1)], 0))), (1, (0, ([(1, 1)], 0))), (2, (0, ([(2, 1)], 0)))], [], [([(1, 1)], 0), ([(1, -1)], 7)], 3, [([], 0), ([], 0), ([], 0), ([], 0), ([], 0)])]
def sg_z73_g : xG := ([], [(0, (19, ([(0, 1)], 0))), (1, (0, ([(1, 1)], 0))), (2, (0, ([(2, 1)], 0)))], [], [], 3)
def sg_z73_ps : List xP := [(some (0, ([(3, 1)], 0)), [], [])]
set_option maxRecDepth 100000 in
set_option maxHeartbeats 4000000 in
theorem sg_z73_ok : x_seg x_tb [c_45] m_73 d_73 [] 3 sg_z73_ps sg_z73_ns sg_z73_os 21 false 0 sg_z73_g = true := by decide +kernel
set_option maxRecDepth 100000 in
theorem sg_z73_go {th : List Nat} {xs : Nat → Int32} {L J d : Nat} {K : Option Value → List pE → Prop} (hd : 46 ≤ d) {v : Nat → Int} {lv : pL} {ws : List Value} {G0 G : List pE} (hS : x_S x_tb th v sg_z73_g lv ws G) (hE : x_eff th [] G0 G) (hK : ∀ r G', x_Post x_tb th [] sg_z73_ps 3 v G0 r G' → K r G') (hO : ∀ n ∈ sg_z73_os, ∀ (vn : Nat → Int) (lv : pL) (G1 : List pE), x_ag 3 v vn → x_S x_tb th vn (n.2.2.2.1, n.2.1, [], n.2.2.1, n.2.2.2.2.1) lv [] G1 → x_eff th [] G0 G1 → x_Gd xs L J (d + 1) m_73 K n.1 lv [] G1) : x_Gd xs L J (d + 1) m_73 K 0 lv ws G :=
  x_seg_ok (dm := 46) x_tb_wf ⟨rfl, rfl, rfl⟩ e_73 (List.forall_mem_cons.mpr ⟨(h_45 th xs L J).mono (by omega), fun _ h => absurd h List.not_mem_nil⟩) hd sg_z73_ok hS hE (fun z => by cases z) hK hO
set_option maxHeartbeats 2000000 in
set_option maxRecDepth 100000 in
theorem zb_tie (hd : 318 ≤ d) (H : ZX w wi G) (hI : xI x_tb th0 G) (x1 x2 : Int32) : x_Gd xs L J d m_73 (fun r G' => ZX w wi G') 0 (lv_args 0 [.ref 0, .int x1, .int x2]) [] G := by
  obtain ⟨pc, H⟩ := H
  obtain ⟨d, rfl⟩ : ∃ k, d = k + 60 := ⟨d - 60, by omega⟩
  refine sg_z73_go (th := th0) (d := d + 59) (by omega) (v := (y_v [((0 : Nat) : Int), (x1).toInt, (x2).toInt])) (G0 := G) (G := G) ⟨y_v_Bd (List.forall_mem_cons.mpr ⟨(y_cellB hI z_ty.1), (List.forall_mem_cons.mpr ⟨(x_i32 x1), (List.forall_mem_cons.mpr ⟨(x_i32 x2), (fun _ h => absurd h List.not_mem_nil)⟩)⟩)⟩), (fun _ h => absurd h List.not_mem_nil), (List.forall_mem_cons.mpr ⟨⟨_, rfl, 0, rfl, (by simp only [xl_ev, xt_ev, y_v, List.getD_cons_succ, List.getD_cons_zero]; omega), z_ty.1⟩, (List.forall_mem_cons.mpr ⟨⟨_, rfl, x1, rfl, (by simp only [xl_ev, xt_ev, y_v, List.getD_cons_succ, List.getD_cons_zero]; omega)⟩, (List.forall_mem_cons.mpr ⟨⟨_, rfl, x2, rfl, (by simp only [xl_ev, xt_ev, y_v, List.getD_cons_succ, List.getD_cons_zero]; omega)⟩, (fun _ h => absurd h List.not_mem_nil)⟩)⟩)⟩), trivial, (fun _ h => absurd h List.not_mem_nil), hI⟩ x_eff.rf (fun r G' hp => ?_) (fun n hn vn lv1 G1 hag hS1 hE1 => ?_)
  · obtain ⟨v', -, -, -, ef, -⟩ := hp
    exact ⟨pc, H.eff ef (by decide)⟩
  obtain rfl : n = _ := List.mem_singleton.mp hn
  have z0 : vn 0 = ((0 : Nat) : Int) := hag 0 (by decide)
  have z1 : vn 1 = x1.toInt := hag 1 (by decide)
  have z2 : vn 2 = x2.toInt := hag 2 (by decide)
  have g0 := hS1.loCe (i := 0) (t := 9) (l := ([(0, 1)], 0)) (a := 0) (List.mem_of_getElem? (i := 0) rfl) (by simp only [xl_ev, xt_ev]; omega)
  have g1 := hS1.lo0e (i := 1) (l := ([(1, 1)], 0)) (x := x1) (List.mem_of_getElem? (i := 1) rfl) (by simp only [xl_ev, xt_ev]; omega)
  have g2 := hS1.lo0e (i := 2) (l := ([(2, 1)], 0)) (x := x2) (List.mem_of_getElem? (i := 2) rfl) (by simp only [xl_ev, xt_ev]; omega)
  have q0 := hS1.2.1 ([(1, 1)], 0) (List.mem_of_getElem? (i := 0) rfl)
  have q1 := hS1.2.1 ([(1, -1)], 7) (List.mem_of_getElem? (i := 1) rfl)
  simp only [xl_ev, xt_ev] at q0 q1
  rw [z1] at q0 q1
  have hI1 := hS1.2.2.2.2.2
  have H1 := H.eff hE1 (by decide)
  refine y_aln (e_73 (22, .aload_n 0, 1) (List.mem_of_getElem? (i := 12) rfl)) g0 ?_
  refine y_getf hI1 z_ty.1 (e_73 (23, .getfield 30, 3) (List.mem_of_getElem? (i := 13) rfl)) u_0_30 ⟨rfl, rfl⟩ H1.1.2.2.1 ?_
  refine y_aln (e_73 (26, .aload_n 0, 1) (List.mem_of_getElem? (i := 14) rfl)) g0 ?_
  refine y_getf hI1 z_ty.1 (e_73 (27, .getfield 26, 3) (List.mem_of_getElem? (i := 15) rfl)) u_0_26 ⟨rfl, rfl⟩ H1.1.2.1 ?_
  refine y_c2 (K' := _) (e_73 (30, .invokevirtual 117, 3) (List.mem_of_getElem? (i := 16) rfl)) ⟨rfl, rfl, rfl⟩ t_0_117 ⟨by decide, by decide, by decide, by decide⟩ m_47_ok rfl (by decide) (y_recv hI1 (z_tp 32 (by decide)) ⟨rfl, rfl⟩) (Nat.le_of_ble_eq_true rfl) (Nat.le_of_ble_eq_true rfl) (k_copy2 (by omega) H1.1 hI1 (by decide) (by decide) (by decide)) (fun r1 G2 h1 => ?_)
  obtain ⟨rfl, C, ef2⟩ := h1
  simp only [Option.toList_some, Option.toList_none, List.cons_append, List.nil_append]
  obtain ⟨H2, hw2⟩ := H1.copy (by decide) (by decide) (by decide) (by decide) H1.2.1 C ef2
  obtain ⟨tb, e1, ttb⟩ := y_fref (i := 1) (u := 11) C.1 (z_tp 6 (by decide)) rfl
  obtain ⟨t8, e8, tt8⟩ := z_elT (u := 8) (n := 8) (i := x1.toInt.toNat) C.1 ttb rfl (by omega)
  refine y_aln (e_73 (33, .aload_n 0, 1) (List.mem_of_getElem? (i := 17) rfl)) g0 ?_
  refine y_iln (e_73 (34, .iload_n 2, 1) (List.mem_of_getElem? (i := 18) rfl)) g2 ?_
  refine y_st (e_73 (35, .iconst 1, 1) (List.mem_of_getElem? (i := 19) rfl)) ⟨rfl, rfl, rfl, rfl⟩ ?_
  refine y_icm (e_73 (36, .if_icmp .ne 18, 3) (List.mem_of_getElem? (i := 20) rfl)) rfl (fun _ => ?_) (fun _ => ?_)
  · refine y_aln (e_73 (54, .aload_n 0, 1) (List.mem_of_getElem? (i := 28) rfl)) g0 ?_
    refine y_getf C.1 z_ty.1 (e_73 (55, .getfield 26, 3) (List.mem_of_getElem? (i := 29) rfl)) u_0_26 ⟨rfl, rfl⟩ H2.1.2.1 ?_
    refine y_getf C.1 (z_tp 6 (by decide)) (e_73 (58, .getfield 134, 3) (List.mem_of_getElem? (i := 30) rfl)) u_0_134 ⟨rfl, rfl⟩ e1 ?_
    refine y_iln (e_73 (61, .iload_n 1, 1) (List.mem_of_getElem? (i := 31) rfl)) g1 ?_
    refine y_aald C.1 ttb (e_73 (62, .aaload, 1) (List.mem_of_getElem? (i := 32) rfl)) ⟨rfl, by decide⟩ ⟨by omega, by show x1.toInt < 8; omega⟩ e8 ?_
    refine y_c1 (K' := _) (e_73 (63, .invokevirtual 262, 3) (List.mem_of_getElem? (i := 33) rfl)) ⟨rfl, rfl, rfl⟩ t_0_262 ⟨by decide, by decide, by decide, by decide⟩ m_76_ok rfl (by decide) (y_recv C.1 tt8 ⟨rfl, rfl⟩) (Nat.le_of_ble_eq_true rfl) (Nat.le_of_ble_eq_true rfl) ((h_31 th0 xs L J).gd (d := d + 59) m_76_ok (by omega) (v := (y_v [((t8 : Nat) : Int)])) (as := [.ref t8]) (y_v_Bd (List.forall_mem_cons.mpr ⟨(y_cellB C.1 tt8), (fun _ h => absurd h List.not_mem_nil)⟩)) (fun _ h => absurd h List.not_mem_nil) ⟨⟨t8, rfl, (by simp only [xl_ev, xt_ev, y_v, List.getD_cons_succ, List.getD_cons_zero]; omega), tt8⟩, trivial⟩ (fun q hq => absurd hq List.not_mem_nil) C.1 (fun z => by cases z)) (fun rG3 G3 h3 => ?_)
    obtain ⟨v', -, -, hI3, ef3, p3, hp3, -, -, pa⟩ := h3
    obtain rfl : p3 = _ := List.mem_singleton.mp hp3
    obtain ⟨y3, rfl, -⟩ := y_pI pa
    simp only [Option.toList_some, Option.toList_none, List.cons_append, List.nil_append]
    have H3 := H2.eff ef3 (by decide)
    have hw3 := hw2.eff (by decide) ef3 (by decide)
    refine y_c2 (K' := _) (e_73 (66, .invokevirtual 265, 3) (List.mem_of_getElem? (i := 34) rfl)) ⟨rfl, rfl, rfl⟩ t_0_265 ⟨by decide, by decide, by decide, by decide⟩ m_77_ok rfl (by decide) (y_recv hI3 z_ty.1 ⟨rfl, rfl⟩) (Nat.le_of_ble_eq_true rfl) (Nat.le_of_ble_eq_true rfl) (k_done (d := d + 56) (by omega) H3 hI3 hw3) (fun r9 G9 h9 => ?_)
    obtain ⟨⟨y9, rfl⟩, hI9, H9⟩ := h9
    simp only [Option.toList_some, Option.toList_none, List.cons_append, List.nil_append]
    exact y_ret (e_73 (69, .ireturn, 1) (List.mem_of_getElem? (i := 35) rfl)) ⟨rfl, y_ri⟩ H9
  · refine y_aln (e_73 (39, .aload_n 0, 1) (List.mem_of_getElem? (i := 21) rfl)) g0 ?_
    refine y_getf C.1 z_ty.1 (e_73 (40, .getfield 26, 3) (List.mem_of_getElem? (i := 22) rfl)) u_0_26 ⟨rfl, rfl⟩ H2.1.2.1 ?_
    refine y_getf C.1 (z_tp 6 (by decide)) (e_73 (43, .getfield 134, 3) (List.mem_of_getElem? (i := 23) rfl)) u_0_134 ⟨rfl, rfl⟩ e1 ?_
    refine y_iln (e_73 (46, .iload_n 1, 1) (List.mem_of_getElem? (i := 24) rfl)) g1 ?_
    refine y_aald C.1 ttb (e_73 (47, .aaload, 1) (List.mem_of_getElem? (i := 25) rfl)) ⟨rfl, by decide⟩ ⟨by omega, by show x1.toInt < 8; omega⟩ e8 ?_
    refine y_c1 (K' := _) (e_73 (48, .invokevirtual 259, 3) (List.mem_of_getElem? (i := 26) rfl)) ⟨rfl, rfl, rfl⟩ t_0_259 ⟨by decide, by decide, by decide, by decide⟩ m_75_ok rfl (by decide) (y_recv C.1 tt8 ⟨rfl, rfl⟩) (Nat.le_of_ble_eq_true rfl) (Nat.le_of_ble_eq_true rfl) ((h_30 th0 xs L J).gd (d := d + 59) m_75_ok (by omega) (v := (y_v [((t8 : Nat) : Int)])) (as := [.ref t8]) (y_v_Bd (List.forall_mem_cons.mpr ⟨(y_cellB C.1 tt8), (fun _ h => absurd h List.not_mem_nil)⟩)) (fun _ h => absurd h List.not_mem_nil) ⟨⟨t8, rfl, (by simp only [xl_ev, xt_ev, y_v, List.getD_cons_succ, List.getD_cons_zero]; omega), tt8⟩, trivial⟩ (fun q hq => absurd hq List.not_mem_nil) C.1 (fun z => by cases z)) (fun rG3 G3 h3 => ?_)
    obtain ⟨v', -, -, hI3, ef3, p3, hp3, -, -, pa⟩ := h3
    obtain rfl : p3 = _ := List.mem_singleton.mp hp3
    obtain ⟨y3, rfl, -⟩ := y_pI pa
    simp only [Option.toList_some, Option.toList_none, List.cons_append, List.nil_append]
    have H3 := H2.eff ef3 (by decide)
    have hw3 := hw2.eff (by decide) ef3 (by decide)
    refine y_st (e_73 (51, .goto 15, 3) (List.mem_of_getElem? (i := 27) rfl)) ⟨rfl, rfl, rfl, rfl⟩ ?_
    refine y_c2 (K' := _) (e_73 (66, .invokevirtual 265, 3) (List.mem_of_getElem? (i := 34) rfl)) ⟨rfl, rfl, rfl⟩ t_0_265 ⟨by decide, by decide, by decide, by decide⟩ m_77_ok rfl (by decide) (y_recv hI3 z_ty.1 ⟨rfl, rfl⟩) (Nat.le_of_ble_eq_true rfl) (Nat.le_of_ble_eq_true rfl) (k_done (d := d + 56) (by omega) H3 hI3 hw3) (fun r9 G9 h9 => ?_)
    obtain ⟨⟨y9, rfl⟩, hI9, H9⟩ := h9
    simp only [Option.toList_some, Option.toList_none, List.cons_append, List.nil_append]
    exact y_ret (e_73 (69, .ireturn, 1) (List.mem_of_getElem? (i := 35) rfl)) ⟨rfl, y_ri⟩ H9
def sg_y115_ns : List xN := [(58, [(5, (0, ([(3, 1)], 0))), (4, (0, ([(4, 1)], 0))), (3, (0, ([(5, 1)], 0))), (0, (19, ([(0, 1)], 0))), (1, (0, ([(1, 1)], 0))), (2, (0, ([(2, 1)], 0)))], [(9, ([(0, 1)], 0), 2, (10, ([(6, 1)], 0)))], [([(3, 1)], 0)], 7, [([], 1), ([(3, -1)], 2147483647), ([], 5000000000), ([], 5000000000), ([], 5000000000)])]
def sg_y115_os : List xN := []
def sg_y115_g : xG := ([], [(0, (19, ([(0, 1)], 0))), (1, (0, ([(1, 1)], 0))), (2, (0, ([(2, 1)], 0)))], [], [], 3)
def sg_y115_ps : List xP := [(some (0, ([(3, 1)], 0)), [], [])]
set_option maxRecDepth 100000 in
set_option maxHeartbeats 4000000 in
theorem sg_y115_ok : x_seg x_tb [c_52, c_54, c_57] m_115 d_115 [(0, 7, 7), (5, 3, 3), (8, 3, 7), (8, 9, 9)] 3 sg_y115_ps sg_y115_ns sg_y115_os 32 false 42 sg_y115_g = true := by decide +kernel
set_option maxRecDepth 100000 in
theorem sg_y115_go {th : List Nat} {xs : Nat → Int32} {L J d : Nat} {K : Option Value → List pE → Prop} (hd : 58 ≤ d) {v : Nat → Int} {lv : pL} {ws : List Value} {G0 G : List pE} (hS : x_S x_tb th v sg_y115_g lv ws G) (hE : x_eff th [(0, 7, 7), (5, 3, 3), (8, 3, 7), (8, 9, 9)] G0 G) (hK : ∀ r G', x_Post x_tb th [(0, 7, 7), (5, 3, 3), (8, 3, 7), (8, 9, 9)] sg_y115_ps 3 v G0 r G' → K r G') (hO : ∀ n ∈ sg_y115_os, ∀ (vn : Nat → Int) (lv : pL) (G1 : List pE), x_ag 3 v vn → x_S x_tb th vn (n.2.2.2.1, n.2.1, [], n.2.2.1, n.2.2.2.2.1) lv [] G1 → x_eff th [(0, 7, 7), (5, 3, 3), (8, 3, 7), (8, 9, 9)] G0 G1 → x_Gd xs L J (d + 1) m_115 K n.1 lv [] G1) : x_Gd xs L J (d + 1) m_115 K 42 lv ws G :=
  x_seg_ok (dm := 58) x_tb_wf ⟨rfl, rfl, rfl⟩ e_115 (List.forall_mem_cons.mpr ⟨(h_52 th xs L J).mono (by omega), List.forall_mem_cons.mpr ⟨(h_54 th xs L J).mono (by omega), List.forall_mem_cons.mpr ⟨(h_57 th xs L J).mono (by omega), fun _ h => absurd h List.not_mem_nil⟩⟩⟩) hd sg_y115_ok hS hE (fun z => by cases z) hK hO
def sg_z115_ns : List xN := []
def sg_z115_os : List xN := [(31, [(0, (19, ([(0, 1)], 0))), (1, (0, ([(1, 1)], 0))), (2, (0, ([(2, 1)], 0)))], [], [], 3, [([], 0), ([], 0), ([], 0), ([], 0), ([], 0)])]
def sg_z115_g : xG := ([], [(0, (19, ([(0, 1)], 0))), (1, (0, ([(1, 1)], 0))), (2, (0, ([(2, 1)], 0)))], [], [], 3)
def sg_z115_ps : List xP := [(some (0, ([(3, 1)], 0)), [], [])]
set_option maxRecDepth 100000 in
set_option maxHeartbeats 4000000 in
theorem sg_z115_ok : x_seg x_tb [] m_115 d_115 [] 3 sg_z115_ps sg_z115_ns sg_z115_os 26 false 0 sg_z115_g = true := by decide +kernel
set_option maxRecDepth 100000 in
theorem sg_z115_go {th : List Nat} {xs : Nat → Int32} {L J d : Nat} {K : Option Value → List pE → Prop} (hd : 0 ≤ d) {v : Nat → Int} {lv : pL} {ws : List Value} {G0 G : List pE} (hS : x_S x_tb th v sg_z115_g lv ws G) (hE : x_eff th [] G0 G) (hK : ∀ r G', x_Post x_tb th [] sg_z115_ps 3 v G0 r G' → K r G') (hO : ∀ n ∈ sg_z115_os, ∀ (vn : Nat → Int) (lv : pL) (G1 : List pE), x_ag 3 v vn → x_S x_tb th vn (n.2.2.2.1, n.2.1, [], n.2.2.1, n.2.2.2.2.1) lv [] G1 → x_eff th [] G0 G1 → x_Gd xs L J (d + 1) m_115 K n.1 lv [] G1) : x_Gd xs L J (d + 1) m_115 K 0 lv ws G :=
  x_seg_ok (dm := 0) x_tb_wf ⟨rfl, rfl, rfl⟩ e_115 (fun _ h => absurd h List.not_mem_nil) hd sg_z115_ok hS hE (fun z => by cases z) hK hO
set_option maxHeartbeats 2000000 in
set_option maxRecDepth 100000 in
theorem zb_ties (hd : 318 ≤ d) (H : ZX w wi G) (hI : xI x_tb th0 G) (x1 x2 : Int32) : x_Gd xs L J d m_115 (fun r G' => ZX w wi G') 0 (lv_args 0 [.ref 0, .int x1, .int x2]) [] G := by
  obtain ⟨pc, H⟩ := H
  obtain ⟨d, rfl⟩ : ∃ k, d = k + 60 := ⟨d - 60, by omega⟩
  refine sg_z115_go (th := th0) (d := d + 59) (by omega) (v := (y_v [((0 : Nat) : Int), (x1).toInt, (x2).toInt])) (G0 := G) (G := G) ⟨y_v_Bd (List.forall_mem_cons.mpr ⟨(y_cellB hI z_ty.1), (List.forall_mem_cons.mpr ⟨(x_i32 x1), (List.forall_mem_cons.mpr ⟨(x_i32 x2), (fun _ h => absurd h List.not_mem_nil)⟩)⟩)⟩), (fun _ h => absurd h List.not_mem_nil), (List.forall_mem_cons.mpr ⟨⟨_, rfl, 0, rfl, (by simp only [xl_ev, xt_ev, y_v, List.getD_cons_succ, List.getD_cons_zero]; omega), z_ty.1⟩, (List.forall_mem_cons.mpr ⟨⟨_, rfl, x1, rfl, (by simp only [xl_ev, xt_ev, y_v, List.getD_cons_succ, List.getD_cons_zero]; omega)⟩, (List.forall_mem_cons.mpr ⟨⟨_, rfl, x2, rfl, (by simp only [xl_ev, xt_ev, y_v, List.getD_cons_succ, List.getD_cons_zero]; omega)⟩, (fun _ h => absurd h List.not_mem_nil)⟩)⟩)⟩), trivial, (fun _ h => absurd h List.not_mem_nil), hI⟩ x_eff.rf (fun r G' hp => ?_) (fun n hn vn lv1 G1 hag hS1 hE1 => ?_)
  · obtain ⟨v', -, -, -, ef, -⟩ := hp
    exact ⟨pc, H.eff ef (by decide)⟩
  obtain rfl : n = _ := List.mem_singleton.mp hn
  have z0 : vn 0 = ((0 : Nat) : Int) := hag 0 (by decide)
  have z1 : vn 1 = x1.toInt := hag 1 (by decide)
  have z2 : vn 2 = x2.toInt := hag 2 (by decide)
  have g0 := hS1.loCe (i := 0) (t := 9) (l := ([(0, 1)], 0)) (a := 0) (List.mem_of_getElem? (i := 0) rfl) (by simp only [xl_ev, xt_ev]; omega)
  have g1 := hS1.lo0e (i := 1) (l := ([(1, 1)], 0)) (x := x1) (List.mem_of_getElem? (i := 1) rfl) (by simp only [xl_ev, xt_ev]; omega)
  have g2 := hS1.lo0e (i := 2) (l := ([(2, 1)], 0)) (x := x2) (List.mem_of_getElem? (i := 2) rfl) (by simp only [xl_ev, xt_ev]; omega)
  have hI1 := hS1.2.2.2.2.2
  have H1 := H.eff hE1 (by decide)
  refine y_aln (e_115 (31, .aload_n 0, 1) (List.mem_of_getElem? (i := 17) rfl)) g0 ?_
  refine y_getf hI1 z_ty.1 (e_115 (32, .getfield 30, 3) (List.mem_of_getElem? (i := 18) rfl)) u_0_30 ⟨rfl, rfl⟩ H1.1.2.2.1 ?_
  refine y_aln (e_115 (35, .aload_n 0, 1) (List.mem_of_getElem? (i := 19) rfl)) g0 ?_
  refine y_getf hI1 z_ty.1 (e_115 (36, .getfield 26, 3) (List.mem_of_getElem? (i := 20) rfl)) u_0_26 ⟨rfl, rfl⟩ H1.1.2.1 ?_
  refine y_c2 (K' := _) (e_115 (39, .invokevirtual 117, 3) (List.mem_of_getElem? (i := 21) rfl)) ⟨rfl, rfl, rfl⟩ t_0_117 ⟨by decide, by decide, by decide, by decide⟩ m_47_ok rfl (by decide) (y_recv hI1 (z_tp 32 (by decide)) ⟨rfl, rfl⟩) (Nat.le_of_ble_eq_true rfl) (Nat.le_of_ble_eq_true rfl) (k_copy2 (by omega) H1.1 hI1 (by decide) (by decide) (by decide)) (fun r1 G2 h1 => ?_)
  obtain ⟨rfl, C, ef2⟩ := h1
  simp only [Option.toList_some, Option.toList_none, List.cons_append, List.nil_append]
  obtain ⟨H2, hw2⟩ := H1.copy (by decide) (by decide) (by decide) (by decide) H1.2.1 C ef2
  refine sg_y115_go (th := th0) (d := d + 59) (by omega) (v := (y_v [((0 : Nat) : Int), (x1).toInt, (x2).toInt])) (G0 := G2) (G := G2) ⟨y_v_Bd (List.forall_mem_cons.mpr ⟨(y_cellB C.1 z_ty.1), (List.forall_mem_cons.mpr ⟨(x_i32 x1), (List.forall_mem_cons.mpr ⟨(x_i32 x2), (fun _ h => absurd h List.not_mem_nil)⟩)⟩)⟩), (fun _ h => absurd h List.not_mem_nil), (List.forall_mem_cons.mpr ⟨⟨_, g0, 0, rfl, (by simp only [xl_ev, xt_ev, y_v, List.getD_cons_succ, List.getD_cons_zero]; omega), z_ty.1⟩, (List.forall_mem_cons.mpr ⟨⟨_, g1, x1, rfl, (by simp only [xl_ev, xt_ev, y_v, List.getD_cons_succ, List.getD_cons_zero]; omega)⟩, (List.forall_mem_cons.mpr ⟨⟨_, g2, x2, rfl, (by simp only [xl_ev, xt_ev, y_v, List.getD_cons_succ, List.getD_cons_zero]; omega)⟩, (fun _ h => absurd h List.not_mem_nil)⟩)⟩)⟩), trivial, (fun _ h => absurd h List.not_mem_nil), C.1⟩ x_eff.rf (fun r G' hp => ?_) (fun n hn => absurd hn List.not_mem_nil)
  obtain ⟨v', -, -, -, ef3, -⟩ := hp
  exact ⟨pc, H2.eff ef3 (by decide)⟩
def sg_y121_ns : List xN := [(34, [(1, (0, ([(1, 1)], 0))), (0, (19, ([(0, 1)], 0)))], [(9, ([(0, 1)], 0), 16, (0, ([], 1))), (9, ([(0, 1)], 0), 15, (44, ([(2, 1)], 0))), (34, ([(2, 1)], 0), 1, (0, ([(3, 1)], 0))), (34, ([(2, 1)], 0), 0, (0, ([(4, 1)], 0)))], [([(1, 1)], -1), ([(3, 1)], 2147483648), ([(3, -1)], 2147483647), ([(4, 1)], 2147483648), ([(4, -1)], 2147483647), ([(1, 1)], 0), ([(1, -1)], 61), ([(1, -1)], 255), ([(1, -1)], 1000), ([(1, -1)], 1001)], 5, [([], 1), ([(1, -1)], 2147483647), ([], 5000000000), ([], 5000000000), ([], 5000000000)])]
def sg_y121_os : List xN := []
def sg_y121_g : xG := ([], [(0, (19, ([(0, 1)], 0)))], [], [], 1)
def sg_y121_ps : List xP := [(some (0, ([(1, 1)], 0)), [], [])]
set_option maxRecDepth 100000 in
set_option maxHeartbeats 4000000 in
theorem sg_y121_ok : x_seg x_tb [c_2, c_52, c_57] m_121 d_121 [(0, 7, 7), (5, 3, 3), (8, 3, 7), (8, 9, 9), (9, 16, 16), (34, 0, 1)] 1 sg_y121_ps sg_y121_ns sg_y121_os 56 false 11 sg_y121_g = true := by decide +kernel
set_option maxRecDepth 100000 in
theorem sg_y121_go {th : List Nat} {xs : Nat → Int32} {L J d : Nat} {K : Option Value → List pE → Prop} (hd : 58 ≤ d) {v : Nat → Int} {lv : pL} {ws : List Value} {G0 G : List pE} (hS : x_S x_tb th v sg_y121_g lv ws G) (hE : x_eff th [(0, 7, 7), (5, 3, 3), (8, 3, 7), (8, 9, 9), (9, 16, 16), (34, 0, 1)] G0 G) (hK : ∀ r G', x_Post x_tb th [(0, 7, 7), (5, 3, 3), (8, 3, 7), (8, 9, 9), (9, 16, 16), (34, 0, 1)] sg_y121_ps 1 v G0 r G' → K r G') (hO : ∀ n ∈ sg_y121_os, ∀ (vn : Nat → Int) (lv : pL) (G1 : List pE), x_ag 1 v vn → x_S x_tb th vn (n.2.2.2.1, n.2.1, [], n.2.2.1, n.2.2.2.2.1) lv [] G1 → x_eff th [(0, 7, 7), (5, 3, 3), (8, 3, 7), (8, 9, 9), (9, 16, 16), (34, 0, 1)] G0 G1 → x_Gd xs L J (d + 1) m_121 K n.1 lv [] G1) : x_Gd xs L J (d + 1) m_121 K 11 lv ws G :=
  x_seg_ok (dm := 58) x_tb_wf ⟨rfl, rfl, rfl⟩ e_121 (List.forall_mem_cons.mpr ⟨(h_2 th xs L J).mono (by omega), List.forall_mem_cons.mpr ⟨(h_52 th xs L J).mono (by omega), List.forall_mem_cons.mpr ⟨(h_57 th xs L J).mono (by omega), fun _ h => absurd h List.not_mem_nil⟩⟩⟩) hd sg_y121_ok hS hE (fun z => by cases z) hK hO
set_option maxHeartbeats 2000000 in
set_option maxRecDepth 100000 in
theorem zb_prices (hd : 318 ≤ d) (H : ZX w wi G) (hI : xI x_tb th0 G)  : x_Gd xs L J d m_121 (fun r G' => ZX w wi G') 0 (lv_args 0 [.ref 0]) [] G := by
  obtain ⟨pc, H1⟩ := H
  obtain ⟨d, rfl⟩ : ∃ k, d = k + 60 := ⟨d - 60, by omega⟩
  have hI1 := hI
  have g0 : pm_get (lv_args 0 [.ref 0]) 0 = some (.ref 0) := rfl
  generalize lv_args 0 [.ref 0] = lv1 at g0  ⊢
  refine y_aln (e_121 (0, .aload_n 0, 1) (List.mem_of_getElem? (i := 0) rfl)) g0 ?_
  refine y_getf hI1 z_ty.1 (e_121 (1, .getfield 30, 3) (List.mem_of_getElem? (i := 1) rfl)) u_0_30 ⟨rfl, rfl⟩ H1.1.2.2.1 ?_
  refine y_aln (e_121 (4, .aload_n 0, 1) (List.mem_of_getElem? (i := 2) rfl)) g0 ?_
  refine y_getf hI1 z_ty.1 (e_121 (5, .getfield 26, 3) (List.mem_of_getElem? (i := 3) rfl)) u_0_26 ⟨rfl, rfl⟩ H1.1.2.1 ?_
  refine y_c2 (K' := _) (e_121 (8, .invokevirtual 117, 3) (List.mem_of_getElem? (i := 4) rfl)) ⟨rfl, rfl, rfl⟩ t_0_117 ⟨by decide, by decide, by decide, by decide⟩ m_47_ok rfl (by decide) (y_recv hI1 (z_tp 32 (by decide)) ⟨rfl, rfl⟩) (Nat.le_of_ble_eq_true rfl) (Nat.le_of_ble_eq_true rfl) (k_copy2 (by omega) H1.1 hI1 (by decide) (by decide) (by decide)) (fun r1 G2 h1 => ?_)
  obtain ⟨rfl, C, ef2⟩ := h1
  simp only [Option.toList_some, Option.toList_none, List.cons_append, List.nil_append]
  obtain ⟨H2, hw2⟩ := H1.copy (by decide) (by decide) (by decide) (by decide) H1.2.1 C ef2
  refine sg_y121_go (th := th0) (d := d + 59) (by omega) (v := (y_v [((0 : Nat) : Int)])) (G0 := G2) (G := G2) ⟨y_v_Bd (List.forall_mem_cons.mpr ⟨(y_cellB C.1 z_ty.1), (fun _ h => absurd h List.not_mem_nil)⟩), (fun _ h => absurd h List.not_mem_nil), (List.forall_mem_cons.mpr ⟨⟨_, g0, 0, rfl, (by simp only [xl_ev, xt_ev, y_v, List.getD_cons_succ, List.getD_cons_zero]; omega), z_ty.1⟩, (fun _ h => absurd h List.not_mem_nil)⟩), trivial, (fun _ h => absurd h List.not_mem_nil), C.1⟩ x_eff.rf (fun r G' hp => ?_) (fun n hn => absurd hn List.not_mem_nil)
  obtain ⟨v', -, -, -, ef3, -⟩ := hp
  exact ⟨pc, H2.eff ef3 (by decide)⟩
def sg_y124_ns : List xN := []
def sg_y124_os : List xN := []
def sg_y124_g : xG := ([([(1, 1)], 0), ([(1, -1)], 7)], [(0, (19, ([(0, 1)], 0))), (1, (0, ([(1, 1)], 0))), (2, (0, ([(2, 1)], 0)))], [], [], 3)
def sg_y124_ps : List xP := [(some (0, ([(3, 1)], 0)), [], [])]
set_option maxRecDepth 100000 in
set_option maxHeartbeats 4000000 in
theorem sg_y124_ok : x_seg x_tb [c_57] m_124 d_124 [(0, 7, 7), (5, 3, 3), (8, 3, 7), (8, 9, 9)] 3 sg_y124_ps sg_y124_ns sg_y124_os 32 false 35 sg_y124_g = true := by decide +kernel
set_option maxRecDepth 100000 in
theorem sg_y124_go {th : List Nat} {xs : Nat → Int32} {L J d : Nat} {K : Option Value → List pE → Prop} (hd : 58 ≤ d) {v : Nat → Int} {lv : pL} {ws : List Value} {G0 G : List pE} (hS : x_S x_tb th v sg_y124_g lv ws G) (hE : x_eff th [(0, 7, 7), (5, 3, 3), (8, 3, 7), (8, 9, 9)] G0 G) (hK : ∀ r G', x_Post x_tb th [(0, 7, 7), (5, 3, 3), (8, 3, 7), (8, 9, 9)] sg_y124_ps 3 v G0 r G' → K r G') (hO : ∀ n ∈ sg_y124_os, ∀ (vn : Nat → Int) (lv : pL) (G1 : List pE), x_ag 3 v vn → x_S x_tb th vn (n.2.2.2.1, n.2.1, [], n.2.2.1, n.2.2.2.2.1) lv [] G1 → x_eff th [(0, 7, 7), (5, 3, 3), (8, 3, 7), (8, 9, 9)] G0 G1 → x_Gd xs L J (d + 1) m_124 K n.1 lv [] G1) : x_Gd xs L J (d + 1) m_124 K 35 lv ws G :=
  x_seg_ok (dm := 58) x_tb_wf ⟨rfl, rfl, rfl⟩ e_124 (List.forall_mem_cons.mpr ⟨(h_57 th xs L J).mono (by omega), fun _ h => absurd h List.not_mem_nil⟩) hd sg_y124_ok hS hE (fun z => by cases z) hK hO
def sg_z124_ns : List xN := []
def sg_z124_os : List xN := [(24, [(0, (19, ([(0, 1)], 0))), (1, (0, ([(1, 1)], 0))), (2, (0, ([(2, 1)], 0)))], [], [([(1, 1)], 0), ([(1, -1)], 7)], 3, [([], 0), ([], 0), ([], 0), ([], 0), ([], 0)])]
def sg_z124_g : xG := ([], [(0, (19, ([(0, 1)], 0))), (1, (0, ([(1, 1)], 0))), (2, (0, ([(2, 1)], 0)))], [], [], 3)
def sg_z124_ps : List xP := [(some (0, ([(3, 1)], 0)), [], [])]
set_option maxRecDepth 100000 in
set_option maxHeartbeats 4000000 in
theorem sg_z124_ok : x_seg x_tb [c_45] m_124 d_124 [] 3 sg_z124_ps sg_z124_ns sg_z124_os 21 false 0 sg_z124_g = true := by decide +kernel
set_option maxRecDepth 100000 in
theorem sg_z124_go {th : List Nat} {xs : Nat → Int32} {L J d : Nat} {K : Option Value → List pE → Prop} (hd : 46 ≤ d) {v : Nat → Int} {lv : pL} {ws : List Value} {G0 G : List pE} (hS : x_S x_tb th v sg_z124_g lv ws G) (hE : x_eff th [] G0 G) (hK : ∀ r G', x_Post x_tb th [] sg_z124_ps 3 v G0 r G' → K r G') (hO : ∀ n ∈ sg_z124_os, ∀ (vn : Nat → Int) (lv : pL) (G1 : List pE), x_ag 3 v vn → x_S x_tb th vn (n.2.2.2.1, n.2.1, [], n.2.2.1, n.2.2.2.2.1) lv [] G1 → x_eff th [] G0 G1 → x_Gd xs L J (d + 1) m_124 K n.1 lv [] G1) : x_Gd xs L J (d + 1) m_124 K 0 lv ws G :=
  x_seg_ok (dm := 46) x_tb_wf ⟨rfl, rfl, rfl⟩ e_124 (List.forall_mem_cons.mpr ⟨(h_45 th xs L J).mono (by omega), fun _ h => absurd h List.not_mem_nil⟩) hd sg_z124_ok hS hE (fun z => by cases z) hK hO
set_option maxHeartbeats 2000000 in
set_option maxRecDepth 100000 in
theorem zb_later (hd : 318 ≤ d) (H : ZX w wi G) (hI : xI x_tb th0 G) (x1 x2 : Int32) : x_Gd xs L J d m_124 (fun r G' => ZX w wi G') 0 (lv_args 0 [.ref 0, .int x1, .int x2]) [] G := by
  obtain ⟨pc, H⟩ := H
  obtain ⟨d, rfl⟩ : ∃ k, d = k + 60 := ⟨d - 60, by omega⟩
  refine sg_z124_go (th := th0) (d := d + 59) (by omega) (v := (y_v [((0 : Nat) : Int), (x1).toInt, (x2).toInt])) (G0 := G) (G := G) ⟨y_v_Bd (List.forall_mem_cons.mpr ⟨(y_cellB hI z_ty.1), (List.forall_mem_cons.mpr ⟨(x_i32 x1), (List.forall_mem_cons.mpr ⟨(x_i32 x2), (fun _ h => absurd h List.not_mem_nil)⟩)⟩)⟩), (fun _ h => absurd h List.not_mem_nil), (List.forall_mem_cons.mpr ⟨⟨_, rfl, 0, rfl, (by simp only [xl_ev, xt_ev, y_v, List.getD_cons_succ, List.getD_cons_zero]; omega), z_ty.1⟩, (List.forall_mem_cons.mpr ⟨⟨_, rfl, x1, rfl, (by simp only [xl_ev, xt_ev, y_v, List.getD_cons_succ, List.getD_cons_zero]; omega)⟩, (List.forall_mem_cons.mpr ⟨⟨_, rfl, x2, rfl, (by simp only [xl_ev, xt_ev, y_v, List.getD_cons_succ, List.getD_cons_zero]; omega)⟩, (fun _ h => absurd h List.not_mem_nil)⟩)⟩)⟩), trivial, (fun _ h => absurd h List.not_mem_nil), hI⟩ x_eff.rf (fun r G' hp => ?_) (fun n hn vn lv1 G1 hag hS1 hE1 => ?_)
  · obtain ⟨v', -, -, -, ef, -⟩ := hp
    exact ⟨pc, H.eff ef (by decide)⟩
  obtain rfl : n = _ := List.mem_singleton.mp hn
  have z0 : vn 0 = ((0 : Nat) : Int) := hag 0 (by decide)
  have z1 : vn 1 = x1.toInt := hag 1 (by decide)
  have z2 : vn 2 = x2.toInt := hag 2 (by decide)
  have g0 := hS1.loCe (i := 0) (t := 9) (l := ([(0, 1)], 0)) (a := 0) (List.mem_of_getElem? (i := 0) rfl) (by simp only [xl_ev, xt_ev]; omega)
  have g1 := hS1.lo0e (i := 1) (l := ([(1, 1)], 0)) (x := x1) (List.mem_of_getElem? (i := 1) rfl) (by simp only [xl_ev, xt_ev]; omega)
  have g2 := hS1.lo0e (i := 2) (l := ([(2, 1)], 0)) (x := x2) (List.mem_of_getElem? (i := 2) rfl) (by simp only [xl_ev, xt_ev]; omega)
  have q0 := hS1.2.1 ([(1, 1)], 0) (List.mem_of_getElem? (i := 0) rfl)
  have q1 := hS1.2.1 ([(1, -1)], 7) (List.mem_of_getElem? (i := 1) rfl)
  simp only [xl_ev, xt_ev] at q0 q1
  rw [z1] at q0 q1
  have hI1 := hS1.2.2.2.2.2
  have H1 := H.eff hE1 (by decide)
  refine y_aln (e_124 (24, .aload_n 0, 1) (List.mem_of_getElem? (i := 12) rfl)) g0 ?_
  refine y_getf hI1 z_ty.1 (e_124 (25, .getfield 30, 3) (List.mem_of_getElem? (i := 13) rfl)) u_0_30 ⟨rfl, rfl⟩ H1.1.2.2.1 ?_
  refine y_aln (e_124 (28, .aload_n 0, 1) (List.mem_of_getElem? (i := 14) rfl)) g0 ?_
  refine y_getf hI1 z_ty.1 (e_124 (29, .getfield 26, 3) (List.mem_of_getElem? (i := 15) rfl)) u_0_26 ⟨rfl, rfl⟩ H1.1.2.1 ?_
  refine y_c2 (K' := _) (e_124 (32, .invokevirtual 117, 3) (List.mem_of_getElem? (i := 16) rfl)) ⟨rfl, rfl, rfl⟩ t_0_117 ⟨by decide, by decide, by decide, by decide⟩ m_47_ok rfl (by decide) (y_recv hI1 (z_tp 32 (by decide)) ⟨rfl, rfl⟩) (Nat.le_of_ble_eq_true rfl) (Nat.le_of_ble_eq_true rfl) (k_copy2 (by omega) H1.1 hI1 (by decide) (by decide) (by decide)) (fun r1 G2 h1 => ?_)
  obtain ⟨rfl, C, ef2⟩ := h1
  simp only [Option.toList_some, Option.toList_none, List.cons_append, List.nil_append]
  obtain ⟨H2, hw2⟩ := H1.copy (by decide) (by decide) (by decide) (by decide) H1.2.1 C ef2
  refine sg_y124_go (th := th0) (d := d + 59) (by omega) (v := (y_v [((0 : Nat) : Int), (x1).toInt, (x2).toInt])) (G0 := G2) (G := G2) ⟨y_v_Bd (List.forall_mem_cons.mpr ⟨(y_cellB C.1 z_ty.1), (List.forall_mem_cons.mpr ⟨(x_i32 x1), (List.forall_mem_cons.mpr ⟨(x_i32 x2), (fun _ h => absurd h List.not_mem_nil)⟩)⟩)⟩), (List.forall_mem_cons.mpr ⟨(by simp only [xl_ev, xt_ev, y_v, List.getD_cons_succ, List.getD_cons_zero]; omega), (List.forall_mem_cons.mpr ⟨(by simp only [xl_ev, xt_ev, y_v, List.getD_cons_succ, List.getD_cons_zero]; omega), (fun _ h => absurd h List.not_mem_nil)⟩)⟩), (List.forall_mem_cons.mpr ⟨⟨_, g0, 0, rfl, (by simp only [xl_ev, xt_ev, y_v, List.getD_cons_succ, List.getD_cons_zero]; omega), z_ty.1⟩, (List.forall_mem_cons.mpr ⟨⟨_, g1, x1, rfl, (by simp only [xl_ev, xt_ev, y_v, List.getD_cons_succ, List.getD_cons_zero]; omega)⟩, (List.forall_mem_cons.mpr ⟨⟨_, g2, x2, rfl, (by simp only [xl_ev, xt_ev, y_v, List.getD_cons_succ, List.getD_cons_zero]; omega)⟩, (fun _ h => absurd h List.not_mem_nil)⟩)⟩)⟩), trivial, (fun _ h => absurd h List.not_mem_nil), C.1⟩ x_eff.rf (fun r G' hp => ?_) (fun n hn => absurd hn List.not_mem_nil)
  obtain ⟨v', -, -, -, ef3, -⟩ := hp
  exact ⟨pc, H2.eff ef3 (by decide)⟩
def sg_y125_ns : List xN := [(43, [(3, (0, ([(3, 1)], 0))), (0, (19, ([(0, 1)], 0))), (1, (0, ([(1, 1)], 0))), (2, (0, ([(2, 1)], 0)))], [], [([(1, 1)], 0), ([(1, -1)], 7), ([(2, 1)], 0), ([(2, -1)], 7), ([(3, 1)], 0), ([(3, -1)], 255), ([(3, -1)], 1000), ([(3, -1)], 1001), ([(1, -1)], 8), ([(1, -1)], 20), ([(1, -1)], 40), ([(1, -1)], 61), ([(1, -1)], 255), ([(1, -1)], 1000), ([(1, -1)], 1001), ([(2, -1)], 8), ([(2, -1)], 20), ([(2, -1)], 40), ([(2, -1)], 61), ([(2, -1)], 255), ([(2, -1)], 1000), ([(2, -1)], 1001)], 4, [([], 1), ([(3, -1)], 2147483647), ([], 5000000000), ([], 5000000000), ([], 5000000000)])]
def sg_y125_os : List xN := []
def sg_y125_g : xG := ([([(1, 1)], 0), ([(1, -1)], 7), ([(2, 1)], 0), ([(2, -1)], 7)], [(0, (19, ([(0, 1)], 0))), (1, (0, ([(1, 1)], 0))), (2, (0, ([(2, 1)], 0)))], [], [], 3)
def sg_y125_ps : List xP := [(some (0, ([(3, 1)], 0)), [], [])]
set_option maxRecDepth 100000 in
set_option maxHeartbeats 4000000 in
theorem sg_y125_ok : x_seg x_tb [c_29, c_57] m_125 d_125 [(0, 7, 7), (5, 3, 3), (8, 3, 7), (8, 9, 9)] 3 sg_y125_ps sg_y125_ns sg_y125_os 32 false 41 sg_y125_g = true := by decide +kernel
set_option maxRecDepth 100000 in
theorem sg_y125_go {th : List Nat} {xs : Nat → Int32} {L J d : Nat} {K : Option Value → List pE → Prop} (hd : 58 ≤ d) {v : Nat → Int} {lv : pL} {ws : List Value} {G0 G : List pE} (hS : x_S x_tb th v sg_y125_g lv ws G) (hE : x_eff th [(0, 7, 7), (5, 3, 3), (8, 3, 7), (8, 9, 9)] G0 G) (hK : ∀ r G', x_Post x_tb th [(0, 7, 7), (5, 3, 3), (8, 3, 7), (8, 9, 9)] sg_y125_ps 3 v G0 r G' → K r G') (hO : ∀ n ∈ sg_y125_os, ∀ (vn : Nat → Int) (lv : pL) (G1 : List pE), x_ag 3 v vn → x_S x_tb th vn (n.2.2.2.1, n.2.1, [], n.2.2.1, n.2.2.2.2.1) lv [] G1 → x_eff th [(0, 7, 7), (5, 3, 3), (8, 3, 7), (8, 9, 9)] G0 G1 → x_Gd xs L J (d + 1) m_125 K n.1 lv [] G1) : x_Gd xs L J (d + 1) m_125 K 41 lv ws G :=
  x_seg_ok (dm := 58) x_tb_wf ⟨rfl, rfl, rfl⟩ e_125 (List.forall_mem_cons.mpr ⟨(h_29 th xs L J).mono (by omega), List.forall_mem_cons.mpr ⟨(h_57 th xs L J).mono (by omega), fun _ h => absurd h List.not_mem_nil⟩⟩) hd sg_y125_ok hS hE (fun z => by cases z) hK hO
def sg_z125_ns : List xN := []
def sg_z125_os : List xN := [(30, [(0, (19, ([(0, 1)], 0))), (1, (0, ([(1, 1)], 0))), (2, (0, ([(2, 1)], 0)))], [], [([(1, 1)], 0), ([(1, -1)], 7), ([(2, 1)], 0), ([(2, -1)], 7)], 3, [([], 0), ([], 0), ([], 0), ([], 0), ([], 0)])]
def sg_z125_g : xG := ([], [(0, (19, ([(0, 1)], 0))), (1, (0, ([(1, 1)], 0))), (2, (0, ([(2, 1)], 0)))], [], [], 3)
def sg_z125_ps : List xP := [(some (0, ([(3, 1)], 0)), [], [])]
set_option maxRecDepth 100000 in
set_option maxHeartbeats 4000000 in
theorem sg_z125_ok : x_seg x_tb [c_45] m_125 d_125 [] 3 sg_z125_ps sg_z125_ns sg_z125_os 24 false 0 sg_z125_g = true := by decide +kernel
set_option maxRecDepth 100000 in
theorem sg_z125_go {th : List Nat} {xs : Nat → Int32} {L J d : Nat} {K : Option Value → List pE → Prop} (hd : 46 ≤ d) {v : Nat → Int} {lv : pL} {ws : List Value} {G0 G : List pE} (hS : x_S x_tb th v sg_z125_g lv ws G) (hE : x_eff th [] G0 G) (hK : ∀ r G', x_Post x_tb th [] sg_z125_ps 3 v G0 r G' → K r G') (hO : ∀ n ∈ sg_z125_os, ∀ (vn : Nat → Int) (lv : pL) (G1 : List pE), x_ag 3 v vn → x_S x_tb th vn (n.2.2.2.1, n.2.1, [], n.2.2.1, n.2.2.2.2.1) lv [] G1 → x_eff th [] G0 G1 → x_Gd xs L J (d + 1) m_125 K n.1 lv [] G1) : x_Gd xs L J (d + 1) m_125 K 0 lv ws G :=
  x_seg_ok (dm := 46) x_tb_wf ⟨rfl, rfl, rfl⟩ e_125 (List.forall_mem_cons.mpr ⟨(h_45 th xs L J).mono (by omega), fun _ h => absurd h List.not_mem_nil⟩) hd sg_z125_ok hS hE (fun z => by cases z) hK hO
set_option maxHeartbeats 2000000 in
set_option maxRecDepth 100000 in
theorem zb_meet (hd : 318 ≤ d) (H : ZX w wi G) (hI : xI x_tb th0 G) (x1 x2 : Int32) : x_Gd xs L J d m_125 (fun r G' => ZX w wi G') 0 (lv_args 0 [.ref 0, .int x1, .int x2]) [] G := by
  obtain ⟨pc, H⟩ := H
  obtain ⟨d, rfl⟩ : ∃ k, d = k + 60 := ⟨d - 60, by omega⟩
  refine sg_z125_go (th := th0) (d := d + 59) (by omega) (v := (y_v [((0 : Nat) : Int), (x1).toInt, (x2).toInt])) (G0 := G) (G := G) ⟨y_v_Bd (List.forall_mem_cons.mpr ⟨(y_cellB hI z_ty.1), (List.forall_mem_cons.mpr ⟨(x_i32 x1), (List.forall_mem_cons.mpr ⟨(x_i32 x2), (fun _ h => absurd h List.not_mem_nil)⟩)⟩)⟩), (fun _ h => absurd h List.not_mem_nil), (List.forall_mem_cons.mpr ⟨⟨_, rfl, 0, rfl, (by simp only [xl_ev, xt_ev, y_v, List.getD_cons_succ, List.getD_cons_zero]; omega), z_ty.1⟩, (List.forall_mem_cons.mpr ⟨⟨_, rfl, x1, rfl, (by simp only [xl_ev, xt_ev, y_v, List.getD_cons_succ, List.getD_cons_zero]; omega)⟩, (List.forall_mem_cons.mpr ⟨⟨_, rfl, x2, rfl, (by simp only [xl_ev, xt_ev, y_v, List.getD_cons_succ, List.getD_cons_zero]; omega)⟩, (fun _ h => absurd h List.not_mem_nil)⟩)⟩)⟩), trivial, (fun _ h => absurd h List.not_mem_nil), hI⟩ x_eff.rf (fun r G' hp => ?_) (fun n hn vn lv1 G1 hag hS1 hE1 => ?_)
  · obtain ⟨v', -, -, -, ef, -⟩ := hp
    exact ⟨pc, H.eff ef (by decide)⟩
  obtain rfl : n = _ := List.mem_singleton.mp hn
  have z0 : vn 0 = ((0 : Nat) : Int) := hag 0 (by decide)
  have z1 : vn 1 = x1.toInt := hag 1 (by decide)
  have z2 : vn 2 = x2.toInt := hag 2 (by decide)
  have g0 := hS1.loCe (i := 0) (t := 9) (l := ([(0, 1)], 0)) (a := 0) (List.mem_of_getElem? (i := 0) rfl) (by simp only [xl_ev, xt_ev]; omega)
  have g1 := hS1.lo0e (i := 1) (l := ([(1, 1)], 0)) (x := x1) (List.mem_of_getElem? (i := 1) rfl) (by simp only [xl_ev, xt_ev]; omega)
  have g2 := hS1.lo0e (i := 2) (l := ([(2, 1)], 0)) (x := x2) (List.mem_of_getElem? (i := 2) rfl) (by simp only [xl_ev, xt_ev]; omega)
  have q0 := hS1.2.1 ([(1, 1)], 0) (List.mem_of_getElem? (i := 0) rfl)
  have q1 := hS1.2.1 ([(1, -1)], 7) (List.mem_of_getElem? (i := 1) rfl)
  have q2 := hS1.2.1 ([(2, 1)], 0) (List.mem_of_getElem? (i := 2) rfl)
  have q3 := hS1.2.1 ([(2, -1)], 7) (List.mem_of_getElem? (i := 3) rfl)
  simp only [xl_ev, xt_ev] at q0 q1 q2 q3
  rw [z1] at q0 q1
  rw [z2] at q2 q3
  have hI1 := hS1.2.2.2.2.2
  have H1 := H.eff hE1 (by decide)
  refine y_aln (e_125 (30, .aload_n 0, 1) (List.mem_of_getElem? (i := 15) rfl)) g0 ?_
  refine y_getf hI1 z_ty.1 (e_125 (31, .getfield 30, 3) (List.mem_of_getElem? (i := 16) rfl)) u_0_30 ⟨rfl, rfl⟩ H1.1.2.2.1 ?_
  refine y_aln (e_125 (34, .aload_n 0, 1) (List.mem_of_getElem? (i := 17) rfl)) g0 ?_
  refine y_getf hI1 z_ty.1 (e_125 (35, .getfield 26, 3) (List.mem_of_getElem? (i := 18) rfl)) u_0_26 ⟨rfl, rfl⟩ H1.1.2.1 ?_
  refine y_c2 (K' := _) (e_125 (38, .invokevirtual 117, 3) (List.mem_of_getElem? (i := 19) rfl)) ⟨rfl, rfl, rfl⟩ t_0_117 ⟨by decide, by decide, by decide, by decide⟩ m_47_ok rfl (by decide) (y_recv hI1 (z_tp 32 (by decide)) ⟨rfl, rfl⟩) (Nat.le_of_ble_eq_true rfl) (Nat.le_of_ble_eq_true rfl) (k_copy2 (by omega) H1.1 hI1 (by decide) (by decide) (by decide)) (fun r1 G2 h1 => ?_)
  obtain ⟨rfl, C, ef2⟩ := h1
  simp only [Option.toList_some, Option.toList_none, List.cons_append, List.nil_append]
  obtain ⟨H2, hw2⟩ := H1.copy (by decide) (by decide) (by decide) (by decide) H1.2.1 C ef2
  refine sg_y125_go (th := th0) (d := d + 59) (by omega) (v := (y_v [((0 : Nat) : Int), (x1).toInt, (x2).toInt])) (G0 := G2) (G := G2) ⟨y_v_Bd (List.forall_mem_cons.mpr ⟨(y_cellB C.1 z_ty.1), (List.forall_mem_cons.mpr ⟨(x_i32 x1), (List.forall_mem_cons.mpr ⟨(x_i32 x2), (fun _ h => absurd h List.not_mem_nil)⟩)⟩)⟩), (List.forall_mem_cons.mpr ⟨(by simp only [xl_ev, xt_ev, y_v, List.getD_cons_succ, List.getD_cons_zero]; omega), (List.forall_mem_cons.mpr ⟨(by simp only [xl_ev, xt_ev, y_v, List.getD_cons_succ, List.getD_cons_zero]; omega), (List.forall_mem_cons.mpr ⟨(by simp only [xl_ev, xt_ev, y_v, List.getD_cons_succ, List.getD_cons_zero]; omega), (List.forall_mem_cons.mpr ⟨(by simp only [xl_ev, xt_ev, y_v, List.getD_cons_succ, List.getD_cons_zero]; omega), (fun _ h => absurd h List.not_mem_nil)⟩)⟩)⟩)⟩), (List.forall_mem_cons.mpr ⟨⟨_, g0, 0, rfl, (by simp only [xl_ev, xt_ev, y_v, List.getD_cons_succ, List.getD_cons_zero]; omega), z_ty.1⟩, (List.forall_mem_cons.mpr ⟨⟨_, g1, x1, rfl, (by simp only [xl_ev, xt_ev, y_v, List.getD_cons_succ, List.getD_cons_zero]; omega)⟩, (List.forall_mem_cons.mpr ⟨⟨_, g2, x2, rfl, (by simp only [xl_ev, xt_ev, y_v, List.getD_cons_succ, List.getD_cons_zero]; omega)⟩, (fun _ h => absurd h List.not_mem_nil)⟩)⟩)⟩), trivial, (fun _ h => absurd h List.not_mem_nil), C.1⟩ x_eff.rf (fun r G' hp => ?_) (fun n hn => absurd hn List.not_mem_nil)
  obtain ⟨v', -, -, -, ef3, -⟩ := hp
  exact ⟨pc, H2.eff ef3 (by decide)⟩
end Z7
